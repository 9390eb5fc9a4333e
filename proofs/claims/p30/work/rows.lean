section
/-! Of the library's laws of floats this proof takes some (the first use of one, so that a round is read over the whole library from here on). -/
theorem cr_fl_b32 : Jvm.FP.Core.Good Jvm.FP.Core.b32 := Jvm.FP.Core.good_b32
theorem cr_fl_b64 : Jvm.FP.Core.Good Jvm.FP.Core.b64 := Jvm.FP.Core.good_b64
end
section
-- ===== PART A: goes FIRST, ahead of the names: the tables' words, and 'selects' of the private methods out of them =====
/-- a private method of a class that the tables say can be made, by its rows of tables_1 -/
def lw_okq (q : MethodName × Nat) : Prop := (q.1.cls ≠ "java/lang/invoke/MethodHandle" ∧ q.1.cls ≠ "java/lang/invoke/VarHandle") ∧ Cond.instantiable q.1.cls q.2 ∈ tables_1 ∧ Cond.privateMethod q.1 ∈ tables_1 ∧ Cond.instanceMethod q.1 ∈ tables_1
theorem lw_p0 : lw_okq (⟨"java/lang/Throwable", "fillInStackTrace", "(I)Ljava/lang/Throwable;"⟩, 6) := ⟨⟨by decide +kernel, by decide +kernel⟩, List.mem_of_getElem? (i := 294) (by decide +kernel), List.mem_of_getElem? (i := 292) (by decide +kernel), List.mem_of_getElem? (i := 293) (by decide +kernel)⟩
theorem lw_p1 : lw_okq (⟨"CraneCampaign", "numberOf", "(I)I"⟩, 6) := ⟨⟨by decide +kernel, by decide +kernel⟩, List.mem_of_getElem? (i := 19) (by decide +kernel), List.mem_of_getElem? (i := 324) (by decide +kernel), List.mem_of_getElem? (i := 325) (by decide +kernel)⟩
theorem lw_p2 : lw_okq (⟨"CraneCampaign$Farm", "dropFaultless", "()V"⟩, 10) := ⟨⟨by decide +kernel, by decide +kernel⟩, List.mem_of_getElem? (i := 27) (by decide +kernel), List.mem_of_getElem? (i := 419) (by decide +kernel), List.mem_of_getElem? (i := 420) (by decide +kernel)⟩
theorem lw_p3 : lw_okq (⟨"CraneCampaign$Farm", "serve", "(I)I"⟩, 10) := ⟨⟨by decide +kernel, by decide +kernel⟩, List.mem_of_getElem? (i := 27) (by decide +kernel), List.mem_of_getElem? (i := 433) (by decide +kernel), List.mem_of_getElem? (i := 434) (by decide +kernel)⟩
theorem lw_p4 : lw_okq (⟨"CraneCampaign$Farm", "sharePower", "(II)I"⟩, 10) := ⟨⟨by decide +kernel, by decide +kernel⟩, List.mem_of_getElem? (i := 27) (by decide +kernel), List.mem_of_getElem? (i := 474) (by decide +kernel), List.mem_of_getElem? (i := 475) (by decide +kernel)⟩
theorem lw_p5 : lw_okq (⟨"CraneCampaign$Farm", "finishIfDone", "(I)V"⟩, 10) := ⟨⟨by decide +kernel, by decide +kernel⟩, List.mem_of_getElem? (i := 27) (by decide +kernel), List.mem_of_getElem? (i := 483) (by decide +kernel), List.mem_of_getElem? (i := 484) (by decide +kernel)⟩
theorem lw_p6 : lw_okq (⟨"CraneCampaign$Harbour", "removeAt", "(I)V"⟩, 3) := ⟨⟨by decide +kernel, by decide +kernel⟩, List.mem_of_getElem? (i := 55) (by decide +kernel), List.mem_of_getElem? (i := 491) (by decide +kernel), List.mem_of_getElem? (i := 492) (by decide +kernel)⟩
theorem lw_p7 : lw_okq (⟨"CraneCampaign$Farm", "worsen", "(I)V"⟩, 10) := ⟨⟨by decide +kernel, by decide +kernel⟩, List.mem_of_getElem? (i := 27) (by decide +kernel), List.mem_of_getElem? (i := 496) (by decide +kernel), List.mem_of_getElem? (i := 497) (by decide +kernel)⟩
theorem lw_p8 : lw_okq (⟨"CraneCampaign", "requireTurbine", "(I)V"⟩, 6) := ⟨⟨by decide +kernel, by decide +kernel⟩, List.mem_of_getElem? (i := 19) (by decide +kernel), List.mem_of_getElem? (i := 526) (by decide +kernel), List.mem_of_getElem? (i := 527) (by decide +kernel)⟩
theorem lw_p9 : lw_okq (⟨"CraneCampaign$WindText", "timesFrom", "(I)I"⟩, 2) := ⟨⟨by decide +kernel, by decide +kernel⟩, List.mem_of_getElem? (i := 216) (by decide +kernel), List.mem_of_getElem? (i := 726) (by decide +kernel), List.mem_of_getElem? (i := 727) (by decide +kernel)⟩
theorem lw_p10 : lw_okq (⟨"CraneCampaign$WindText", "valueFrom", "(I)I"⟩, 2) := ⟨⟨by decide +kernel, by decide +kernel⟩, List.mem_of_getElem? (i := 216) (by decide +kernel), List.mem_of_getElem? (i := 730) (by decide +kernel), List.mem_of_getElem? (i := 731) (by decide +kernel)⟩
theorem lw_p11 : lw_okq (⟨"CraneCampaign", "saveState", "()V"⟩, 6) := ⟨⟨by decide +kernel, by decide +kernel⟩, List.mem_of_getElem? (i := 19) (by decide +kernel), List.mem_of_getElem? (i := 735) (by decide +kernel), List.mem_of_getElem? (i := 736) (by decide +kernel)⟩
theorem lw_p12 : lw_okq (⟨"CraneCampaign$Bogs", "removeAt", "(I)V"⟩, 3) := ⟨⟨by decide +kernel, by decide +kernel⟩, List.mem_of_getElem? (i := 35) (by decide +kernel), List.mem_of_getElem? (i := 769) (by decide +kernel), List.mem_of_getElem? (i := 770) (by decide +kernel)⟩
theorem lw_p13 : lw_okq (⟨"CraneCampaign$Bogs", "insert", "(II)V"⟩, 3) := ⟨⟨by decide +kernel, by decide +kernel⟩, List.mem_of_getElem? (i := 35) (by decide +kernel), List.mem_of_getElem? (i := 773) (by decide +kernel), List.mem_of_getElem? (i := 774) (by decide +kernel)⟩
def lw_privs_1 : List (MethodName × Nat) := [(⟨"java/lang/Throwable", "fillInStackTrace", "(I)Ljava/lang/Throwable;"⟩, 6), (⟨"CraneCampaign", "numberOf", "(I)I"⟩, 6), (⟨"CraneCampaign$Farm", "dropFaultless", "()V"⟩, 10), (⟨"CraneCampaign$Farm", "serve", "(I)I"⟩, 10), (⟨"CraneCampaign$Farm", "sharePower", "(II)I"⟩, 10), (⟨"CraneCampaign$Farm", "finishIfDone", "(I)V"⟩, 10), (⟨"CraneCampaign$Harbour", "removeAt", "(I)V"⟩, 3), (⟨"CraneCampaign$Farm", "worsen", "(I)V"⟩, 10), (⟨"CraneCampaign", "requireTurbine", "(I)V"⟩, 6), (⟨"CraneCampaign$WindText", "timesFrom", "(I)I"⟩, 2), (⟨"CraneCampaign$WindText", "valueFrom", "(I)I"⟩, 2), (⟨"CraneCampaign", "saveState", "()V"⟩, 6), (⟨"CraneCampaign$Bogs", "removeAt", "(I)V"⟩, 3), (⟨"CraneCampaign$Bogs", "insert", "(II)V"⟩, 3)]
theorem lw_r1 : ∀ q ∈ lw_privs_1, lw_okq q := List.forall_mem_cons.mpr ⟨lw_p0, List.forall_mem_cons.mpr ⟨lw_p1, List.forall_mem_cons.mpr ⟨lw_p2, List.forall_mem_cons.mpr ⟨lw_p3, List.forall_mem_cons.mpr ⟨lw_p4, List.forall_mem_cons.mpr ⟨lw_p5, List.forall_mem_cons.mpr ⟨lw_p6, List.forall_mem_cons.mpr ⟨lw_p7, List.forall_mem_cons.mpr ⟨lw_p8, List.forall_mem_cons.mpr ⟨lw_p9, List.forall_mem_cons.mpr ⟨lw_p10, List.forall_mem_cons.mpr ⟨lw_p11, List.forall_mem_cons.mpr ⟨lw_p12, List.forall_mem_cons.mpr ⟨lw_p13, fun _ h => absurd h List.not_mem_nil⟩⟩⟩⟩⟩⟩⟩⟩⟩⟩⟩⟩⟩⟩
def lw_privs : List (MethodName × Nat) := lw_privs_1
def lw_tbl : List Cond := k2_sels lw_privs ++ tables_1
theorem lw_privs_ok : ∀ q ∈ lw_privs, lw_okq q := lw_r1
/-- the streams that the claim lets the run draw from -/
abbrev lw_cs : List Choice := [Jvm.Choice.named "NaN.bits"]
theorem lw_bits : nanBits ∈ lw_cs := by first | decide | exact List.mem_cons_self | simp [lw_cs, nanBits]
end
section
/-! ===== BEGIN words of one list among another's, by their places ===== -/
theorem goodIn_r {big : List Cond} (ws : List Cond) (ps : List Nat) (hp : ws = ps.filterMap (fun i => big[i]?)) (h : ws.all goodWord = true) : GoodIn big ws := by
  intro w hw
  have h1 := List.all_eq_true.mp h w hw
  rw [hp] at hw
  obtain ⟨i, -, hi⟩ := List.mem_filterMap.mp hw
  have hm : w ∈ big := by first | exact List.mem_of_getElem? hi | exact List.getElem?_mem hi
  exact ⟨hm, good_of_word h1⟩
theorem goodIn_app {big a b : List Cond} (ha : GoodIn big a) (hb : GoodIn big b) : GoodIn big (a ++ b) := fun w h => (List.mem_append.mp h).elim (ha w) (hb w)
theorem goodIn_ca {big a b : List Cond} {c : Cond} (ha : GoodIn big (c :: a)) (hb : GoodIn big b) : GoodIn big (c :: (a ++ b)) := fun w h => (List.mem_cons.mp h).elim (fun e => ha w (List.mem_cons.mpr (Or.inl e))) (fun h => (List.mem_append.mp h).elim (fun h => ha w (List.mem_cons.mpr (Or.inr h))) (hb w))
theorem goodIn_sub {big ws : List Cond} (hm : ∀ w ∈ ws, w ∈ big) (h : ws.all goodWord = true) : GoodIn big ws := fun w hw => ⟨hm w hw, good_of_word (List.all_eq_true.mp h w hw)⟩
/-! ===== END ===== -/
end
section
/-! ===== BEGIN printed: names, fields, word lists, decode rows ===== -/
def RX0 : String := "CraneCampaign$Bogs"
def TX0 : u_T := fun k => match k with
  | 0 => ("CraneCampaign$Bogs", "place", "[I", true)
  | 1 => ("CraneCampaign$Bogs", "need", "[I", true)
  | _ => ("CraneCampaign$Bogs", "count", "I", false)
def tyX0 : Nat → FieldType := fun k => match k with
  | 0 => .array .int
  | 1 => .array .int
  | _ => .int
abbrev wsX00 : List Cond := u_ws RX0 TX0 3
theorem nmX0 : ∀ a, a < 3 → ∀ b, b < 3 → a ≠ b → (TX0 a).2.1 ≠ (TX0 b).2.1 := by decide +kernel
theorem tyX0_ok : ∀ k, k < 3 → parseFieldDescriptor (TX0 k).2.2.1 = some (tyX0 k) := by decide +kernel
abbrev cX0_init : ByteArray := prog_2_method_1_code
def yX0_init : MethodName := ⟨RX0, "<init>", "()V"⟩
abbrev cX0_copyFrom : ByteArray := prog_2_method_2_code
def yX0_copyFrom : MethodName := ⟨RX0, "copyFrom", "(LCraneCampaign$Bogs;)V"⟩
abbrev cX0_isFull : ByteArray := prog_2_method_3_code
def yX0_isFull : MethodName := ⟨RX0, "isFull", "()Z"⟩
abbrev cX0_indexAt : ByteArray := prog_2_method_4_code
def yX0_indexAt : MethodName := ⟨RX0, "indexAt", "(I)I"⟩
abbrev cX0_put : ByteArray := prog_2_method_5_code
def yX0_put : MethodName := ⟨RX0, "put", "(II)V"⟩
abbrev cX0_removeAt : ByteArray := prog_2_method_6_code
def yX0_removeAt : MethodName := ⟨RX0, "removeAt", "(I)V"⟩
abbrev cX0_insert : ByteArray := prog_2_method_7_code
def yX0_insert : MethodName := ⟨RX0, "insert", "(II)V"⟩
abbrev cX0_countBetween : ByteArray := prog_2_method_8_code
def yX0_countBetween : MethodName := ⟨RX0, "countBetween", "(III)I"⟩
def RX1 : String := "CraneCampaign$Crane"
def TX1 : u_T := fun k => match k with
  | 0 => ("CraneCampaign$Crane", "place", "I", false)
  | 1 => ("CraneCampaign$Crane", "hoursLeft", "I", false)
  | 2 => ("CraneCampaign$Crane", "goal", "I", false)
  | 3 => ("CraneCampaign$Crane", "workDone", "I", false)
  | _ => ("CraneCampaign$Crane", "workedOn", "I", false)
def tyX1 : Nat → FieldType := fun k => match k with
  | 0 => .int
  | 1 => .int
  | 2 => .int
  | 3 => .int
  | _ => .int
abbrev wsX10 : List Cond := u_ws RX1 TX1 5
theorem nmX1 : ∀ a, a < 5 → ∀ b, b < 5 → a ≠ b → (TX1 a).2.1 ≠ (TX1 b).2.1 := by decide +kernel
theorem tyX1_ok : ∀ k, k < 5 → parseFieldDescriptor (TX1 k).2.2.1 = some (tyX1 k) := by decide +kernel
abbrev cX1_init : ByteArray := prog_3_method_1_code
def yX1_init : MethodName := ⟨RX1, "<init>", "()V"⟩
abbrev cX1_copyFrom : ByteArray := prog_3_method_2_code
def yX1_copyFrom : MethodName := ⟨RX1, "copyFrom", "(LCraneCampaign$Crane;)V"⟩
abbrev cX1_isOnWay : ByteArray := prog_3_method_3_code
def yX1_isOnWay : MethodName := ⟨RX1, "isOnWay", "()Z"⟩
abbrev cX1_driveTo : ByteArray := prog_3_method_4_code
def yX1_driveTo : MethodName := ⟨RX1, "driveTo", "(III)V"⟩
abbrev cX1_workAnHourOn : ByteArray := prog_3_method_5_code
def yX1_workAnHourOn : MethodName := ⟨RX1, "workAnHourOn", "(I)V"⟩
abbrev cX1_forgetWork : ByteArray := prog_3_method_6_code
def yX1_forgetWork : MethodName := ⟨RX1, "forgetWork", "()V"⟩
abbrev cX1_workOn : ByteArray := prog_3_method_7_code
def yX1_workOn : MethodName := ⟨RX1, "workOn", "(I)I"⟩
def RX2 : String := "CraneCampaign$Farm"
def TX2 : u_T := fun k => match k with
  | 0 => ("CraneCampaign$Farm", "turbines", "[LCraneCampaign$Turbine;", true)
  | 1 => ("CraneCampaign$Farm", "turbineCount", "I", false)
  | 2 => ("CraneCampaign$Farm", "bogs", "LCraneCampaign$Bogs;", true)
  | 3 => ("CraneCampaign$Farm", "harbour", "LCraneCampaign$Harbour;", true)
  | 4 => ("CraneCampaign$Farm", "plan", "LCraneCampaign$Plan;", true)
  | 5 => ("CraneCampaign$Farm", "crane", "LCraneCampaign$Crane;", true)
  | 6 => ("CraneCampaign$Farm", "winds", "LCraneCampaign$Winds;", true)
  | 7 => ("CraneCampaign$Farm", "settings", "[I", true)
  | 8 => ("CraneCampaign$Farm", "lostBy", "[I", true)
  | _ => ("CraneCampaign$Farm", "hour", "I", false)
def tyX2 : Nat → FieldType := fun k => match k with
  | 0 => .array (.object "CraneCampaign$Turbine")
  | 1 => .int
  | 2 => .object "CraneCampaign$Bogs"
  | 3 => .object "CraneCampaign$Harbour"
  | 4 => .object "CraneCampaign$Plan"
  | 5 => .object "CraneCampaign$Crane"
  | 6 => .object "CraneCampaign$Winds"
  | 7 => .array .int
  | 8 => .array .int
  | _ => .int
abbrev wsX20 : List Cond := u_ws RX2 TX2 10
theorem nmX2 : ∀ a, a < 10 → ∀ b, b < 10 → a ≠ b → (TX2 a).2.1 ≠ (TX2 b).2.1 := by decide +kernel
theorem tyX2_ok : ∀ k, k < 10 → parseFieldDescriptor (TX2 k).2.2.1 = some (tyX2 k) := by decide +kernel
abbrev cX2_init : ByteArray := prog_4_method_1_code
def yX2_init : MethodName := ⟨RX2, "<init>", "()V"⟩
abbrev cX2_copyFrom : ByteArray := prog_4_method_2_code
def yX2_copyFrom : MethodName := ⟨RX2, "copyFrom", "(LCraneCampaign$Farm;)V"⟩
abbrev cX2_hasTurbine : ByteArray := prog_4_method_3_code
def yX2_hasTurbine : MethodName := ⟨RX2, "hasTurbine", "(I)Z"⟩
abbrev cX2_hasTurbineAt : ByteArray := prog_4_method_4_code
def yX2_hasTurbineAt : MethodName := ⟨RX2, "hasTurbineAt", "(I)Z"⟩
abbrev cX2_buildTurbine : ByteArray := prog_4_method_5_code
def yX2_buildTurbine : MethodName := ⟨RX2, "buildTurbine", "(III)I"⟩
abbrev cX2_faultCount : ByteArray := prog_4_method_6_code
def yX2_faultCount : MethodName := ⟨RX2, "faultCount", "()I"⟩
abbrev cX2_lostPower : ByteArray := prog_4_method_7_code
def yX2_lostPower : MethodName := ⟨RX2, "lostPower", "()I"⟩
abbrev cX2_wonPower : ByteArray := prog_4_method_8_code
def yX2_wonPower : MethodName := ⟨RX2, "wonPower", "()I"⟩
abbrev cX2_windNow : ByteArray := prog_4_method_9_code
def yX2_windNow : MethodName := ⟨RX2, "windNow", "()I"⟩
abbrev cX2_turbineProperty : ByteArray := prog_4_method_10_code
def yX2_turbineProperty : MethodName := ⟨RX2, "turbineProperty", "(II)I"⟩
abbrev cX2_outcome : ByteArray := prog_4_method_11_code
def yX2_outcome : MethodName := ⟨RX2, "outcome", "(I)I"⟩
abbrev cX2_hoursBetween : ByteArray := prog_4_method_12_code
def yX2_hoursBetween : MethodName := ⟨RX2, "hoursBetween", "(II)I"⟩
abbrev cX2_hoursUntilCalm : ByteArray := prog_4_method_13_code
def yX2_hoursUntilCalm : MethodName := ⟨RX2, "hoursUntilCalm", "(II)I"⟩
abbrev cX2_runHours : ByteArray := prog_4_method_14_code
def yX2_runHours : MethodName := ⟨RX2, "runHours", "(I)I"⟩
abbrev cX2_runHour : ByteArray := prog_4_method_15_code
def yX2_runHour : MethodName := ⟨RX2, "runHour", "()I"⟩
abbrev cX2_dropFaultless : ByteArray := prog_4_method_16_code
def yX2_dropFaultless : MethodName := ⟨RX2, "dropFaultless", "()V"⟩
abbrev cX2_serve : ByteArray := prog_4_method_17_code
def yX2_serve : MethodName := ⟨RX2, "serve", "(I)I"⟩
abbrev cX2_sharePower : ByteArray := prog_4_method_18_code
def yX2_sharePower : MethodName := ⟨RX2, "sharePower", "(II)I"⟩
abbrev cX2_finishIfDone : ByteArray := prog_4_method_19_code
def yX2_finishIfDone : MethodName := ⟨RX2, "finishIfDone", "(I)V"⟩
abbrev cX2_worsen : ByteArray := prog_4_method_20_code
def yX2_worsen : MethodName := ⟨RX2, "worsen", "(I)V"⟩
def RX3 : String := "CraneCampaign$Harbour"
def TX3 : u_T := fun k => match k with
  | 0 => ("CraneCampaign$Harbour", "turbine", "[I", true)
  | 1 => ("CraneCampaign$Harbour", "weight", "[I", true)
  | _ => ("CraneCampaign$Harbour", "count", "I", false)
def tyX3 : Nat → FieldType := fun k => match k with
  | 0 => .array .int
  | 1 => .array .int
  | _ => .int
abbrev wsX30 : List Cond := u_ws RX3 TX3 3
theorem nmX3 : ∀ a, a < 3 → ∀ b, b < 3 → a ≠ b → (TX3 a).2.1 ≠ (TX3 b).2.1 := by decide +kernel
theorem tyX3_ok : ∀ k, k < 3 → parseFieldDescriptor (TX3 k).2.2.1 = some (tyX3 k) := by decide +kernel
abbrev cX3_init : ByteArray := prog_5_method_1_code
def yX3_init : MethodName := ⟨RX3, "<init>", "()V"⟩
abbrev cX3_copyFrom : ByteArray := prog_5_method_2_code
def yX3_copyFrom : MethodName := ⟨RX3, "copyFrom", "(LCraneCampaign$Harbour;)V"⟩
abbrev cX3_isFull : ByteArray := prog_5_method_3_code
def yX3_isFull : MethodName := ⟨RX3, "isFull", "()Z"⟩
abbrev cX3_take : ByteArray := prog_5_method_4_code
def yX3_take : MethodName := ⟨RX3, "take", "(II)V"⟩
abbrev cX3_unload : ByteArray := prog_5_method_5_code
def yX3_unload : MethodName := ⟨RX3, "unload", "(I)V"⟩
abbrev cX3_unloadedFor : ByteArray := prog_5_method_6_code
def yX3_unloadedFor : MethodName := ⟨RX3, "unloadedFor", "(I)I"⟩
abbrev cX3_useBladeFor : ByteArray := prog_5_method_7_code
def yX3_useBladeFor : MethodName := ⟨RX3, "useBladeFor", "(I)V"⟩
abbrev cX3_removeAt : ByteArray := prog_5_method_8_code
def yX3_removeAt : MethodName := ⟨RX3, "removeAt", "(I)V"⟩
def RX4 : String := "CraneCampaign$Plan"
def TX4 : u_T := fun k => match k with
  | 0 => ("CraneCampaign$Plan", "row", "[I", true)
  | _ => ("CraneCampaign$Plan", "count", "I", false)
def tyX4 : Nat → FieldType := fun k => match k with
  | 0 => .array .int
  | _ => .int
abbrev wsX40 : List Cond := u_ws RX4 TX4 2
theorem nmX4 : ∀ a, a < 2 → ∀ b, b < 2 → a ≠ b → (TX4 a).2.1 ≠ (TX4 b).2.1 := by decide +kernel
theorem tyX4_ok : ∀ k, k < 2 → parseFieldDescriptor (TX4 k).2.2.1 = some (tyX4 k) := by decide +kernel
abbrev cX4_init : ByteArray := prog_6_method_1_code
def yX4_init : MethodName := ⟨RX4, "<init>", "()V"⟩
abbrev cX4_copyFrom : ByteArray := prog_6_method_2_code
def yX4_copyFrom : MethodName := ⟨RX4, "copyFrom", "(LCraneCampaign$Plan;)V"⟩
abbrev cX4_first : ByteArray := prog_6_method_3_code
def yX4_first : MethodName := ⟨RX4, "first", "()I"⟩
abbrev cX4_placeOf : ByteArray := prog_6_method_4_code
def yX4_placeOf : MethodName := ⟨RX4, "placeOf", "(I)I"⟩
abbrev cX4_countWithout : ByteArray := prog_6_method_5_code
def yX4_countWithout : MethodName := ⟨RX4, "countWithout", "(I)I"⟩
abbrev cX4_moveTo : ByteArray := prog_6_method_6_code
def yX4_moveTo : MethodName := ⟨RX4, "moveTo", "(II)V"⟩
abbrev cX4_removeAt : ByteArray := prog_6_method_7_code
def yX4_removeAt : MethodName := ⟨RX4, "removeAt", "(I)V"⟩
def RX5 : String := "CraneCampaign$Turbine"
def TX5 : u_T := fun k => match k with
  | 0 => ("CraneCampaign$Turbine", "place", "I", false)
  | 1 => ("CraneCampaign$Turbine", "height", "I", false)
  | 2 => ("CraneCampaign$Turbine", "rate", "I", false)
  | 3 => ("CraneCampaign$Turbine", "fault", "I", false)
  | 4 => ("CraneCampaign$Turbine", "age", "I", false)
  | 5 => ("CraneCampaign$Turbine", "lost", "I", false)
  | _ => ("CraneCampaign$Turbine", "won", "I", false)
def tyX5 : Nat → FieldType := fun k => match k with
  | 0 => .int
  | 1 => .int
  | 2 => .int
  | 3 => .int
  | 4 => .int
  | 5 => .int
  | _ => .int
abbrev wsX50 : List Cond := u_ws RX5 TX5 7
theorem nmX5 : ∀ a, a < 7 → ∀ b, b < 7 → a ≠ b → (TX5 a).2.1 ≠ (TX5 b).2.1 := by decide +kernel
theorem tyX5_ok : ∀ k, k < 7 → parseFieldDescriptor (TX5 k).2.2.1 = some (tyX5 k) := by decide +kernel
abbrev cX5_init : ByteArray := prog_7_method_1_code
def yX5_init : MethodName := ⟨RX5, "<init>", "()V"⟩
abbrev cX5_begin : ByteArray := prog_7_method_2_code
def yX5_begin : MethodName := ⟨RX5, "begin", "(III)V"⟩
abbrev cX5_copyFrom : ByteArray := prog_7_method_3_code
def yX5_copyFrom : MethodName := ⟨RX5, "copyFrom", "(LCraneCampaign$Turbine;)V"⟩
abbrev cX5_limit : ByteArray := prog_7_method_4_code
def yX5_limit : MethodName := ⟨RX5, "limit", "(I)I"⟩
abbrev cX5_bladeWeight : ByteArray := prog_7_method_5_code
def yX5_bladeWeight : MethodName := ⟨RX5, "bladeWeight", "()I"⟩
abbrev cX5_fullPower : ByteArray := prog_7_method_6_code
def yX5_fullPower : MethodName := ⟨RX5, "fullPower", "(I)I"⟩
abbrev cX5_growOlder : ByteArray := prog_7_method_7_code
def yX5_growOlder : MethodName := ⟨RX5, "growOlder", "(I)V"⟩
def RX6 : String := "CraneCampaign$WindText"
def TX6 : u_T := fun k => match k with
  | 0 => ("CraneCampaign$WindText", "letters", "[I", true)
  | _ => ("CraneCampaign$WindText", "length", "I", false)
def tyX6 : Nat → FieldType := fun k => match k with
  | 0 => .array .int
  | _ => .int
abbrev wsX60 : List Cond := u_ws RX6 TX6 2
theorem nmX6 : ∀ a, a < 2 → ∀ b, b < 2 → a ≠ b → (TX6 a).2.1 ≠ (TX6 b).2.1 := by decide +kernel
theorem tyX6_ok : ∀ k, k < 2 → parseFieldDescriptor (TX6 k).2.2.1 = some (tyX6 k) := by decide +kernel
abbrev cX6_init : ByteArray := prog_8_method_1_code
def yX6_init : MethodName := ⟨RX6, "<init>", "()V"⟩
abbrev cX6_isFull : ByteArray := prog_8_method_2_code
def yX6_isFull : MethodName := ⟨RX6, "isFull", "()Z"⟩
abbrev cX6_add : ByteArray := prog_8_method_3_code
def yX6_add : MethodName := ⟨RX6, "add", "(I)V"⟩
abbrev cX6_isComplete : ByteArray := prog_8_method_5_code
def yX6_isComplete : MethodName := ⟨RX6, "isComplete", "()Z"⟩
abbrev cX6_isEndOfPart : ByteArray := prog_8_method_6_code
def yX6_isEndOfPart : MethodName := ⟨RX6, "isEndOfPart", "(I)Z"⟩
abbrev cX6_isNumber : ByteArray := prog_8_method_7_code
def yX6_isNumber : MethodName := ⟨RX6, "isNumber", "(I)Z"⟩
abbrev cX6_after : ByteArray := prog_8_method_8_code
def yX6_after : MethodName := ⟨RX6, "after", "(II)I"⟩
abbrev cX6_afterDigit : ByteArray := prog_8_method_9_code
def yX6_afterDigit : MethodName := ⟨RX6, "afterDigit", "(II)I"⟩
abbrev cX6_afterFirstOfNumber : ByteArray := prog_8_method_10_code
def yX6_afterFirstOfNumber : MethodName := ⟨RX6, "afterFirstOfNumber", "(I)I"⟩
abbrev cX6_afterFirstOfTimes : ByteArray := prog_8_method_11_code
def yX6_afterFirstOfTimes : MethodName := ⟨RX6, "afterFirstOfTimes", "(I)I"⟩
abbrev cX6_numberCount : ByteArray := prog_8_method_12_code
def yX6_numberCount : MethodName := ⟨RX6, "numberCount", "()I"⟩
abbrev cX6_writeTo : ByteArray := prog_8_method_13_code
def yX6_writeTo : MethodName := ⟨RX6, "writeTo", "(LCraneCampaign$Winds;)V"⟩
abbrev cX6_timesFrom : ByteArray := prog_8_method_14_code
def yX6_timesFrom : MethodName := ⟨RX6, "timesFrom", "(I)I"⟩
abbrev cX6_valueFrom : ByteArray := prog_8_method_15_code
def yX6_valueFrom : MethodName := ⟨RX6, "valueFrom", "(I)I"⟩
def RX7 : String := "CraneCampaign$Winds"
def TX7 : u_T := fun k => match k with
  | 0 => ("CraneCampaign$Winds", "row", "[I", true)
  | _ => ("CraneCampaign$Winds", "count", "I", false)
def tyX7 : Nat → FieldType := fun k => match k with
  | 0 => .array .int
  | _ => .int
abbrev wsX70 : List Cond := u_ws RX7 TX7 2
theorem nmX7 : ∀ a, a < 2 → ∀ b, b < 2 → a ≠ b → (TX7 a).2.1 ≠ (TX7 b).2.1 := by decide +kernel
theorem tyX7_ok : ∀ k, k < 2 → parseFieldDescriptor (TX7 k).2.2.1 = some (tyX7 k) := by decide +kernel
abbrev cX7_init : ByteArray := prog_9_method_1_code
def yX7_init : MethodName := ⟨RX7, "<init>", "()V"⟩
abbrev cX7_copyFrom : ByteArray := prog_9_method_2_code
def yX7_copyFrom : MethodName := ⟨RX7, "copyFrom", "(LCraneCampaign$Winds;)V"⟩
abbrev cX7_add : ByteArray := prog_9_method_3_code
def yX7_add : MethodName := ⟨RX7, "add", "(I)V"⟩
abbrev cX7_at : ByteArray := prog_9_method_4_code
def yX7_at : MethodName := ⟨RX7, "at", "(I)I"⟩
abbrev cX7_sum : ByteArray := prog_9_method_5_code
def yX7_sum : MethodName := ⟨RX7, "sum", "()I"⟩
def RX8 : String := "CraneCampaign"
def TX8 : u_T := fun k => match k with
  | 0 => ("CraneCampaign", "farm", "LCraneCampaign$Farm;", true)
  | 1 => ("CraneCampaign", "trial", "LCraneCampaign$Farm;", true)
  | 2 => ("CraneCampaign", "saved", "[LCraneCampaign$Farm;", true)
  | 3 => ("CraneCampaign", "oldestSaved", "I", false)
  | 4 => ("CraneCampaign", "savedCount", "I", false)
  | _ => ("CraneCampaign", "buffer", "LCraneCampaign$WindText;", true)
def tyX8 : Nat → FieldType := fun k => match k with
  | 0 => .object "CraneCampaign$Farm"
  | 1 => .object "CraneCampaign$Farm"
  | 2 => .array (.object "CraneCampaign$Farm")
  | 3 => .int
  | 4 => .int
  | _ => .object "CraneCampaign$WindText"
abbrev wsX80 : List Cond := u_ws RX8 TX8 6
theorem nmX8 : ∀ a, a < 6 → ∀ b, b < 6 → a ≠ b → (TX8 a).2.1 ≠ (TX8 b).2.1 := by decide +kernel
theorem tyX8_ok : ∀ k, k < 6 → parseFieldDescriptor (TX8 k).2.2.1 = some (tyX8 k) := by decide +kernel
abbrev cX8_init : ByteArray := prog_1_method_1_code
def yX8_init : MethodName := ⟨RX8, "<init>", "()V"⟩
abbrev cX8_addTurbine : ByteArray := prog_1_method_2_code
def yX8_addTurbine : MethodName := ⟨RX8, "addTurbine", "(III)I"⟩
abbrev cX8_setFault : ByteArray := prog_1_method_3_code
def yX8_setFault : MethodName := ⟨RX8, "setFault", "(II)I"⟩
abbrev cX8_setBog : ByteArray := prog_1_method_4_code
def yX8_setBog : MethodName := ⟨RX8, "setBog", "(II)I"⟩
abbrev cX8_set : ByteArray := prog_1_method_5_code
def yX8_set : MethodName := ⟨RX8, "set", "(II)I"⟩
abbrev cX8_plan : ByteArray := prog_1_method_6_code
def yX8_plan : MethodName := ⟨RX8, "plan", "(II)I"⟩
abbrev cX8_unplan : ByteArray := prog_1_method_7_code
def yX8_unplan : MethodName := ⟨RX8, "unplan", "(I)I"⟩
abbrev cX8_orderBlade : ByteArray := prog_1_method_8_code
def yX8_orderBlade : MethodName := ⟨RX8, "orderBlade", "(I)I"⟩
abbrev cX8_pass : ByteArray := prog_1_method_9_code
def yX8_pass : MethodName := ⟨RX8, "pass", "(I)I"⟩
abbrev cX8_append : ByteArray := prog_1_method_10_code
def yX8_append : MethodName := ⟨RX8, "append", "(I)I"⟩
abbrev cX8_load : ByteArray := prog_1_method_13_code
def yX8_load : MethodName := ⟨RX8, "load", "()I"⟩
abbrev cX8_turbine : ByteArray := prog_1_method_15_code
def yX8_turbine : MethodName := ⟨RX8, "turbine", "(II)I"⟩
abbrev cX8_blade : ByteArray := prog_1_method_16_code
def yX8_blade : MethodName := ⟨RX8, "blade", "(II)I"⟩
abbrev cX8_bog : ByteArray := prog_1_method_17_code
def yX8_bog : MethodName := ⟨RX8, "bog", "(II)I"⟩
abbrev cX8_claims : ByteArray := prog_1_method_18_code
def yX8_claims : MethodName := ⟨RX8, "claims", "(I)I"⟩
abbrev cX8_count : ByteArray := prog_1_method_19_code
def yX8_count : MethodName := ⟨RX8, "count", "(I)I"⟩
abbrev cX8_setting : ByteArray := prog_1_method_20_code
def yX8_setting : MethodName := ⟨RX8, "setting", "(I)I"⟩
abbrev cX8_way : ByteArray := prog_1_method_21_code
def yX8_way : MethodName := ⟨RX8, "way", "(II)I"⟩
abbrev cX8_ifPassed : ByteArray := prog_1_method_22_code
def yX8_ifPassed : MethodName := ⟨RX8, "ifPassed", "(II)I"⟩
abbrev cX8_bestFirst : ByteArray := prog_1_method_23_code
def yX8_bestFirst : MethodName := ⟨RX8, "bestFirst", "()I"⟩
abbrev cX8_window : ByteArray := prog_1_method_24_code
def yX8_window : MethodName := ⟨RX8, "window", "(II)I"⟩
abbrev cX8_doneIn : ByteArray := prog_1_method_25_code
def yX8_doneIn : MethodName := ⟨RX8, "doneIn", "()I"⟩
abbrev cX8_meanWind : ByteArray := prog_1_method_26_code
def yX8_meanWind : MethodName := ⟨RX8, "meanWind", "()F"⟩
abbrev cX8_lostShare : ByteArray := prog_1_method_27_code
def yX8_lostShare : MethodName := ⟨RX8, "lostShare", "()D"⟩
abbrev cX8_isWithin : ByteArray := prog_1_method_29_code
def yX8_isWithin : MethodName := ⟨RX8, "isWithin", "(III)Z"⟩
abbrev cX8_requireTurbine : ByteArray := prog_1_method_30_code
def yX8_requireTurbine : MethodName := ⟨RX8, "requireTurbine", "(I)V"⟩
abbrev cX8_requireSetting : ByteArray := prog_1_method_31_code
def yX8_requireSetting : MethodName := ⟨RX8, "requireSetting", "(I)V"⟩
abbrev cX8_saveState : ByteArray := prog_1_method_32_code
def yX8_saveState : MethodName := ⟨RX8, "saveState", "()V"⟩
abbrev cX8_numberOf : ByteArray := prog_1_method_33_code
def yX8_numberOf : MethodName := ⟨RX8, "numberOf", "(I)I"⟩
def RX9 : String := "CraneCampaignModel"
def TX9 : u_T := fun k => match k with
  | _ => ("", "", "", false)
def tyX9 : Nat → FieldType := fun k => match k with
  | _ => .int
abbrev wsX90 : List Cond := u_ws RX9 TX9 0
theorem nmX9 : ∀ a, a < 0 → ∀ b, b < 0 → a ≠ b → (TX9 a).2.1 ≠ (TX9 b).2.1 := by decide +kernel
theorem tyX9_ok : ∀ k, k < 0 → parseFieldDescriptor (TX9 k).2.2.1 = some (tyX9 k) := by decide +kernel
def RJ9 : String := "java/lang/Math"
def TJ9 : u_T := fun k => match k with
  | _ => ("", "", "", false)
def tyJ9 : Nat → FieldType := fun k => match k with
  | _ => .int
abbrev wsJ90 : List Cond := u_ws RJ9 TJ9 0
theorem nmJ9 : ∀ a, a < 0 → ∀ b, b < 0 → a ≠ b → (TJ9 a).2.1 ≠ (TJ9 b).2.1 := by decide +kernel
theorem tyJ9_ok : ∀ k, k < 0 → parseFieldDescriptor (TJ9 k).2.2.1 = some (tyJ9 k) := by decide +kernel
abbrev cJ9_abs_0f7a4 : ByteArray := prog_16_method_59_code
def yJ9_abs_0f7a4 : MethodName := ⟨RJ9, "abs", "(I)I"⟩
abbrev cJ9_max_7cf53 : ByteArray := prog_16_method_65_code
def yJ9_max_7cf53 : MethodName := ⟨RJ9, "max", "(II)I"⟩
abbrev cJ9_min_7cf53 : ByteArray := prog_16_method_69_code
def yJ9_min_7cf53 : MethodName := ⟨RJ9, "min", "(II)I"⟩
def RJ0 : String := "java/lang/String"
def TJ0 : u_T := fun k => match k with
  | _ => ("", "", "", false)
def tyJ0 : Nat → FieldType := fun k => match k with
  | _ => .int
abbrev wsJ00 : List Cond := u_ws RJ0 TJ0 0
theorem nmJ0 : ∀ a, a < 0 → ∀ b, b < 0 → a ≠ b → (TJ0 a).2.1 ≠ (TJ0 b).2.1 := by decide +kernel
theorem tyJ0_ok : ∀ k, k < 0 → parseFieldDescriptor (TJ0 k).2.2.1 = some (tyJ0 k) := by decide +kernel
def RJ10 : String := "java/lang/System"
def TJ10 : u_T := fun k => match k with
  | _ => ("", "", "", false)
def tyJ10 : Nat → FieldType := fun k => match k with
  | _ => .int
abbrev wsJ100 : List Cond := u_ws RJ10 TJ10 0
theorem nmJ10 : ∀ a, a < 0 → ∀ b, b < 0 → a ≠ b → (TJ10 a).2.1 ≠ (TJ10 b).2.1 := by decide +kernel
theorem tyJ10_ok : ∀ k, k < 0 → parseFieldDescriptor (TJ10 k).2.2.1 = some (tyJ10 k) := by decide +kernel
def RL : String := "CraneCampaignLaw"
abbrev cL_cell : ByteArray := method_2_code
def yL_cell : MethodName := ⟨RL, "cell", "([II)I"⟩
abbrev cL_at : ByteArray := method_3_code
def yL_at : MethodName := ⟨RL, "at", "(II)I"⟩
abbrev cL_abs : ByteArray := method_4_code
def yL_abs : MethodName := ⟨RL, "abs", "(I)I"⟩
abbrev cL_way : ByteArray := method_5_code
def yL_way : MethodName := ⟨RL, "way", "(II[I[I[I)I"⟩
abbrev cL_wind : ByteArray := method_6_code
def yL_wind : MethodName := ⟨RL, "wind", "(I[I)I"⟩
abbrev cL_power : ByteArray := method_7_code
def yL_power : MethodName := ⟨RL, "power", "(II[I)I"⟩
abbrev cL_off : ByteArray := method_8_code
def yL_off : MethodName := ⟨RL, "off", "(I[I)V"⟩
abbrev cL_ready : ByteArray := method_9_code
def yL_ready : MethodName := ⟨RL, "ready", "(I[I[I)I"⟩
abbrev cL_serve : ByteArray := method_10_code
def yL_serve : MethodName := ⟨RL, "serve", "(II[I[I[I[I[I)I"⟩
abbrev cL_hour : ByteArray := method_11_code
def yL_hour : MethodName := ⟨RL, "hour", "([I[I[I[I[I[I[I)I"⟩
abbrev cL_spot : ByteArray := method_12_code
def yL_spot : MethodName := ⟨RL, "spot", "(I[I)I"⟩
abbrev cL_sum : ByteArray := method_13_code
def yL_sum : MethodName := ⟨RL, "sum", "(I[I[I)I"⟩
abbrev cL_turbines : ByteArray := method_14_code
def yL_turbines : MethodName := ⟨RL, "turbines", "(LCraneCampaign;[I[I[I[I[I[I)Z"⟩
abbrev cL_told : ByteArray := method_15_code
def yL_told : MethodName := ⟨RL, "told", "(LCraneCampaign;I[I[I[I[I[I[I[I)Z"⟩
abbrev cL_window : ByteArray := method_16_code
def yL_window : MethodName := ⟨RL, "window", "(II[I[I[I[I)I"⟩
abbrev cL_same : ByteArray := method_17_code
def yL_same : MethodName := ⟨RL, "same", "([I[I)V"⟩
abbrev cL_ahead : ByteArray := method_18_code
def yL_ahead : MethodName := ⟨RL, "ahead", "(LCraneCampaign;I[I[I[I[I[I[I[I)Z"⟩
abbrev cL_number : ByteArray := method_19_code
def yL_number : MethodName := ⟨RL, "number", "(LCraneCampaign;I)Z"⟩
abbrev cL_winds : ByteArray := method_20_code
def yL_winds : MethodName := ⟨RL, "winds", "(LCraneCampaign;II[I)Z"⟩
abbrev cL_bog : ByteArray := method_21_code
def yL_bog : MethodName := ⟨RL, "bog", "(LCraneCampaign;II[I[I)Z"⟩
abbrev cL_act : ByteArray := method_22_code
def yL_act : MethodName := ⟨RL, "act", "(LCraneCampaign;III[I[I[I[I[I[I[I)Z"⟩
abbrev cL_law : ByteArray := code
def yL_law : MethodName := ⟨RL, "law", "([I)Z"⟩
def wsX0_init : List Cond := .code yX0_init cX0_init 1 none :: ([.methodLink RX0 3 objectInit, .instanceMethod objectInit, .code objectInit ⟨#[0xb1]⟩ 1 none, .arrayClass .int, .fieldLink RX0 9 "CraneCampaign$Bogs" "place" "[I", .fieldLink RX0 15 "CraneCampaign$Bogs" "need" "[I", .fieldLink RX0 18 "CraneCampaign$Bogs" "count" "I"] ++ wsX00)
def wsX0_copyFrom : List Cond := .code yX0_copyFrom cX0_copyFrom 2 none :: ([.fieldLink RX0 9 "CraneCampaign$Bogs" "place" "[I", .methodLink RX0 22 arraycopyName, .native arraycopyName, .static arraycopyName, .initialized "java/lang/System", .fieldLink RX0 15 "CraneCampaign$Bogs" "need" "[I", .fieldLink RX0 18 "CraneCampaign$Bogs" "count" "I"] ++ wsX00)
def wsX0_isFull : List Cond := .code yX0_isFull cX0_isFull 1 (some .boolean) :: ([.fieldLink RX0 18 "CraneCampaign$Bogs" "count" "I"] ++ wsX00)
def wsX0_indexAt : List Cond := .code yX0_indexAt cX0_indexAt 3 (some .int) :: ([.fieldLink RX0 18 "CraneCampaign$Bogs" "count" "I", .fieldLink RX0 9 "CraneCampaign$Bogs" "place" "[I"] ++ wsX00)
def wsX0_removeAt : List Cond := .code yX0_removeAt cX0_removeAt 3 none :: ([.fieldLink RX0 18 "CraneCampaign$Bogs" "count" "I", .fieldLink RX0 9 "CraneCampaign$Bogs" "place" "[I", .fieldLink RX0 15 "CraneCampaign$Bogs" "need" "[I"] ++ wsX00)
def wsX0_insert : List Cond := .code yX0_insert cX0_insert 5 none :: ([.fieldLink RX0 18 "CraneCampaign$Bogs" "count" "I", .fieldLink RX0 9 "CraneCampaign$Bogs" "place" "[I", .fieldLink RX0 15 "CraneCampaign$Bogs" "need" "[I", .methodLink RX0 40 yX0_isFull, .instanceMethod yX0_isFull, .selects RX0 yX0_isFull yX0_isFull, .initialized RX0, .code yX0_isFull cX0_isFull 1 (some .boolean)] ++ wsX00)
def wsX0_put : List Cond := .code yX0_put cX0_put 4 none :: ([.fieldLink RX0 15 "CraneCampaign$Bogs" "need" "[I", .methodLink RX0 28 yX0_indexAt, .instanceMethod yX0_indexAt, .selects RX0 yX0_indexAt yX0_indexAt, .initialized RX0, .code yX0_indexAt cX0_indexAt 3 (some .int), .fieldLink RX0 18 "CraneCampaign$Bogs" "count" "I", .fieldLink RX0 9 "CraneCampaign$Bogs" "place" "[I", .methodLink RX0 32 yX0_removeAt, .instanceMethod yX0_removeAt, .selects RX0 yX0_removeAt yX0_removeAt, .code yX0_removeAt cX0_removeAt 3 none, .methodLink RX0 36 yX0_insert, .instanceMethod yX0_insert, .selects RX0 yX0_insert yX0_insert, .code yX0_insert cX0_insert 5 none, .methodLink RX0 40 yX0_isFull, .instanceMethod yX0_isFull, .selects RX0 yX0_isFull yX0_isFull, .code yX0_isFull cX0_isFull 1 (some .boolean)] ++ wsX00)
def wsX0_countBetween : List Cond := .code yX0_countBetween cX0_countBetween 6 (some .int) :: ([.fieldLink RX0 18 "CraneCampaign$Bogs" "count" "I", .fieldLink RX0 9 "CraneCampaign$Bogs" "place" "[I", .fieldLink RX0 15 "CraneCampaign$Bogs" "need" "[I"] ++ wsX00)
def wsX1_init : List Cond := .code yX1_init cX1_init 1 none :: ([.methodLink RX1 3 objectInit, .instanceMethod objectInit, .code objectInit ⟨#[0xb1]⟩ 1 none, .fieldLink RX1 9 "CraneCampaign$Crane" "place" "I", .fieldLink RX1 15 "CraneCampaign$Crane" "hoursLeft" "I", .fieldLink RX1 18 "CraneCampaign$Crane" "goal" "I", .fieldLink RX1 21 "CraneCampaign$Crane" "workDone" "I", .fieldLink RX1 24 "CraneCampaign$Crane" "workedOn" "I"] ++ wsX10)
def wsX1_copyFrom : List Cond := .code yX1_copyFrom cX1_copyFrom 2 none :: ([.fieldLink RX1 9 "CraneCampaign$Crane" "place" "I", .fieldLink RX1 15 "CraneCampaign$Crane" "hoursLeft" "I", .fieldLink RX1 18 "CraneCampaign$Crane" "goal" "I", .fieldLink RX1 21 "CraneCampaign$Crane" "workDone" "I", .fieldLink RX1 24 "CraneCampaign$Crane" "workedOn" "I"] ++ wsX10)
def wsX1_isOnWay : List Cond := .code yX1_isOnWay cX1_isOnWay 1 (some .boolean) :: ([.fieldLink RX1 18 "CraneCampaign$Crane" "goal" "I"] ++ wsX10)
def wsX1_driveTo : List Cond := .code yX1_driveTo cX1_driveTo 4 none :: ([.fieldLink RX1 18 "CraneCampaign$Crane" "goal" "I", .fieldLink RX1 15 "CraneCampaign$Crane" "hoursLeft" "I", .methodLink RX1 27 Lib.Math.max.name, .static Lib.Math.max.name, .initialized "java/lang/Math", .code Lib.Math.max.name Lib.Math.max.code 2 (some .int), .fieldLink RX1 9 "CraneCampaign$Crane" "place" "I"] ++ wsX10)
def wsX1_workAnHourOn : List Cond := .code yX1_workAnHourOn cX1_workAnHourOn 2 none :: ([.fieldLink RX1 24 "CraneCampaign$Crane" "workedOn" "I", .fieldLink RX1 21 "CraneCampaign$Crane" "workDone" "I"] ++ wsX10)
def wsX1_forgetWork : List Cond := .code yX1_forgetWork cX1_forgetWork 1 none :: ([.fieldLink RX1 24 "CraneCampaign$Crane" "workedOn" "I", .fieldLink RX1 21 "CraneCampaign$Crane" "workDone" "I"] ++ wsX10)
def wsX1_workOn : List Cond := .code yX1_workOn cX1_workOn 2 (some .int) :: ([.fieldLink RX1 24 "CraneCampaign$Crane" "workedOn" "I", .fieldLink RX1 21 "CraneCampaign$Crane" "workDone" "I"] ++ wsX10)
def wsX3_init : List Cond := .code yX3_init cX3_init 1 none :: ([.methodLink RX3 3 objectInit, .instanceMethod objectInit, .code objectInit ⟨#[0xb1]⟩ 1 none, .arrayClass .int, .fieldLink RX3 9 "CraneCampaign$Harbour" "turbine" "[I", .fieldLink RX3 15 "CraneCampaign$Harbour" "weight" "[I", .fieldLink RX3 18 "CraneCampaign$Harbour" "count" "I"] ++ wsX30)
def wsX4_init : List Cond := .code yX4_init cX4_init 1 none :: ([.methodLink RX4 3 objectInit, .instanceMethod objectInit, .code objectInit ⟨#[0xb1]⟩ 1 none, .arrayClass .int, .fieldLink RX4 9 "CraneCampaign$Plan" "row" "[I", .fieldLink RX4 15 "CraneCampaign$Plan" "count" "I"] ++ wsX40)
def wsX7_init : List Cond := .code yX7_init cX7_init 1 none :: ([.methodLink RX7 3 objectInit, .instanceMethod objectInit, .code objectInit ⟨#[0xb1]⟩ 1 none, .arrayClass .int, .fieldLink RX7 9 "CraneCampaign$Winds" "row" "[I", .fieldLink RX7 15 "CraneCampaign$Winds" "count" "I"] ++ wsX70)
def wsX5_init : List Cond := .code yX5_init cX5_init 1 none :: ([.methodLink RX5 3 objectInit, .instanceMethod objectInit, .code objectInit ⟨#[0xb1]⟩ 1 none])
def wsX2_init_r1 : List Cond := [Cond.methodLink RX2 3 objectInit, Cond.instanceMethod objectInit, Cond.code objectInit ⟨#[0xb1]⟩ 1 none, Cond.classLink RX2 9 RX5, Cond.fieldLink RX2 11 "CraneCampaign$Farm" "turbines" "[LCraneCampaign$Turbine;", Cond.fieldLink RX2 17 "CraneCampaign$Farm" "turbineCount" "I", Cond.classLink RX2 21 RX0, Cond.instantiable RX0 3, Cond.initialized RX0, Cond.fieldLink RX2 24 "CraneCampaign$Farm" "bogs" "LCraneCampaign$Bogs;", Cond.classLink RX2 28 RX3, Cond.instantiable RX3 3, Cond.initialized RX3, Cond.fieldLink RX2 31 "CraneCampaign$Farm" "harbour" "LCraneCampaign$Harbour;", Cond.classLink RX2 35 RX4, Cond.instantiable RX4 2, Cond.initialized RX4, Cond.fieldLink RX2 38 "CraneCampaign$Farm" "plan" "LCraneCampaign$Plan;", Cond.classLink RX2 42 RX1, Cond.instantiable RX1 5, Cond.initialized RX1, Cond.fieldLink RX2 45 "CraneCampaign$Farm" "crane" "LCraneCampaign$Crane;", Cond.classLink RX2 49 RX7, Cond.instantiable RX7 2]
def wsX2_init_r2 : List Cond := [Cond.initialized RX7, Cond.fieldLink RX2 52 "CraneCampaign$Farm" "winds" "LCraneCampaign$Winds;", Cond.arrayClass .int, Cond.fieldLink RX2 56 "CraneCampaign$Farm" "settings" "[I", Cond.fieldLink RX2 60 "CraneCampaign$Farm" "lostBy" "[I", Cond.fieldLink RX2 63 "CraneCampaign$Farm" "hour" "I", Cond.instantiable RX5 7, Cond.initialized RX5, Cond.methodLink RX2 70 arraycopyName, Cond.native arraycopyName, Cond.static arraycopyName, Cond.initialized "java/lang/System", Cond.instanceMethod yX0_init, Cond.code yX0_init cX0_init 1 none, Cond.methodLink RX0 3 objectInit, Cond.fieldLink RX0 9 "CraneCampaign$Bogs" "place" "[I", Cond.fieldLink RX0 15 "CraneCampaign$Bogs" "need" "[I", Cond.fieldLink RX0 18 "CraneCampaign$Bogs" "count" "I", Cond.instanceMethod yX3_init, Cond.code yX3_init cX3_init 1 none, Cond.methodLink RX3 3 objectInit, Cond.fieldLink RX3 9 "CraneCampaign$Harbour" "turbine" "[I", Cond.fieldLink RX3 15 "CraneCampaign$Harbour" "weight" "[I", Cond.fieldLink RX3 18 "CraneCampaign$Harbour" "count" "I"]
def wsX2_init_r3 : List Cond := [Cond.instanceMethod yX4_init, Cond.code yX4_init cX4_init 1 none, Cond.methodLink RX4 3 objectInit, Cond.fieldLink RX4 9 "CraneCampaign$Plan" "row" "[I", Cond.fieldLink RX4 15 "CraneCampaign$Plan" "count" "I", Cond.instanceMethod yX1_init, Cond.code yX1_init cX1_init 1 none, Cond.methodLink RX1 3 objectInit, Cond.fieldLink RX1 9 "CraneCampaign$Crane" "place" "I", Cond.fieldLink RX1 15 "CraneCampaign$Crane" "hoursLeft" "I", Cond.fieldLink RX1 18 "CraneCampaign$Crane" "goal" "I", Cond.fieldLink RX1 21 "CraneCampaign$Crane" "workDone" "I", Cond.fieldLink RX1 24 "CraneCampaign$Crane" "workedOn" "I", Cond.instanceMethod yX7_init, Cond.code yX7_init cX7_init 1 none, Cond.methodLink RX7 3 objectInit, Cond.fieldLink RX7 9 "CraneCampaign$Winds" "row" "[I", Cond.fieldLink RX7 15 "CraneCampaign$Winds" "count" "I", Cond.instanceMethod yX5_init, Cond.code yX5_init cX5_init 1 none, Cond.methodLink RX5 3 objectInit]
def wsX2_init : List Cond := .code yX2_init cX2_init 2 none :: ((wsX2_init_r1 ++ (wsX2_init_r2 ++ wsX2_init_r3)) ++ wsX20 ++ wsX00 ++ wsX30 ++ wsX40 ++ wsX10 ++ wsX70 ++ wsX50)
def wsX5_copyFrom : List Cond := .code yX5_copyFrom cX5_copyFrom 2 none :: ([.fieldLink RX5 9 "CraneCampaign$Turbine" "place" "I", .fieldLink RX5 15 "CraneCampaign$Turbine" "height" "I", .fieldLink RX5 18 "CraneCampaign$Turbine" "rate" "I", .fieldLink RX5 21 "CraneCampaign$Turbine" "fault" "I", .fieldLink RX5 24 "CraneCampaign$Turbine" "age" "I", .fieldLink RX5 27 "CraneCampaign$Turbine" "lost" "I", .fieldLink RX5 30 "CraneCampaign$Turbine" "won" "I"] ++ wsX50)
def wsX3_copyFrom : List Cond := .code yX3_copyFrom cX3_copyFrom 2 none :: ([.fieldLink RX3 9 "CraneCampaign$Harbour" "turbine" "[I", .methodLink RX3 22 arraycopyName, .native arraycopyName, .static arraycopyName, .initialized "java/lang/System", .fieldLink RX3 15 "CraneCampaign$Harbour" "weight" "[I", .fieldLink RX3 18 "CraneCampaign$Harbour" "count" "I"] ++ wsX30)
def wsX4_copyFrom : List Cond := .code yX4_copyFrom cX4_copyFrom 2 none :: ([.fieldLink RX4 9 "CraneCampaign$Plan" "row" "[I", .methodLink RX4 19 arraycopyName, .native arraycopyName, .static arraycopyName, .initialized "java/lang/System", .fieldLink RX4 15 "CraneCampaign$Plan" "count" "I"] ++ wsX40)
def wsX7_copyFrom : List Cond := .code yX7_copyFrom cX7_copyFrom 2 none :: ([.fieldLink RX7 9 "CraneCampaign$Winds" "row" "[I", .methodLink RX7 19 arraycopyName, .native arraycopyName, .static arraycopyName, .initialized "java/lang/System", .fieldLink RX7 15 "CraneCampaign$Winds" "count" "I"] ++ wsX70)
def wsX2_copyFrom_r1 : List Cond := [Cond.fieldLink RX2 17 "CraneCampaign$Farm" "turbineCount" "I", Cond.fieldLink RX2 11 "CraneCampaign$Farm" "turbines" "[LCraneCampaign$Turbine;", Cond.fieldLink RX2 24 "CraneCampaign$Farm" "bogs" "LCraneCampaign$Bogs;", Cond.fieldLink RX2 31 "CraneCampaign$Farm" "harbour" "LCraneCampaign$Harbour;", Cond.fieldLink RX2 38 "CraneCampaign$Farm" "plan" "LCraneCampaign$Plan;", Cond.fieldLink RX2 45 "CraneCampaign$Farm" "crane" "LCraneCampaign$Crane;", Cond.fieldLink RX2 52 "CraneCampaign$Farm" "winds" "LCraneCampaign$Winds;", Cond.fieldLink RX2 56 "CraneCampaign$Farm" "settings" "[I", Cond.methodLink RX2 70 arraycopyName, Cond.native arraycopyName, Cond.static arraycopyName, Cond.initialized "java/lang/System", Cond.fieldLink RX2 60 "CraneCampaign$Farm" "lostBy" "[I", Cond.fieldLink RX2 63 "CraneCampaign$Farm" "hour" "I", Cond.methodLink RX2 76 yX5_copyFrom, Cond.instanceMethod yX5_copyFrom, Cond.selects RX5 yX5_copyFrom yX5_copyFrom, Cond.initialized RX5, Cond.code yX5_copyFrom cX5_copyFrom 2 none, Cond.fieldLink RX5 9 "CraneCampaign$Turbine" "place" "I", Cond.fieldLink RX5 15 "CraneCampaign$Turbine" "height" "I", Cond.fieldLink RX5 18 "CraneCampaign$Turbine" "rate" "I", Cond.fieldLink RX5 21 "CraneCampaign$Turbine" "fault" "I", Cond.fieldLink RX5 24 "CraneCampaign$Turbine" "age" "I"]
def wsX2_copyFrom_r2 : List Cond := [Cond.fieldLink RX5 27 "CraneCampaign$Turbine" "lost" "I", Cond.fieldLink RX5 30 "CraneCampaign$Turbine" "won" "I", Cond.methodLink RX2 80 yX0_copyFrom, Cond.instanceMethod yX0_copyFrom, Cond.selects RX0 yX0_copyFrom yX0_copyFrom, Cond.initialized RX0, Cond.code yX0_copyFrom cX0_copyFrom 2 none, Cond.fieldLink RX0 9 "CraneCampaign$Bogs" "place" "[I", Cond.methodLink RX0 22 arraycopyName, Cond.fieldLink RX0 15 "CraneCampaign$Bogs" "need" "[I", Cond.fieldLink RX0 18 "CraneCampaign$Bogs" "count" "I", Cond.methodLink RX2 83 yX3_copyFrom, Cond.instanceMethod yX3_copyFrom, Cond.selects RX3 yX3_copyFrom yX3_copyFrom, Cond.initialized RX3, Cond.code yX3_copyFrom cX3_copyFrom 2 none, Cond.fieldLink RX3 9 "CraneCampaign$Harbour" "turbine" "[I", Cond.methodLink RX3 22 arraycopyName, Cond.fieldLink RX3 15 "CraneCampaign$Harbour" "weight" "[I", Cond.fieldLink RX3 18 "CraneCampaign$Harbour" "count" "I", Cond.methodLink RX2 86 yX4_copyFrom, Cond.instanceMethod yX4_copyFrom, Cond.selects RX4 yX4_copyFrom yX4_copyFrom, Cond.initialized RX4]
def wsX2_copyFrom_r3 : List Cond := [Cond.code yX4_copyFrom cX4_copyFrom 2 none, Cond.fieldLink RX4 9 "CraneCampaign$Plan" "row" "[I", Cond.methodLink RX4 19 arraycopyName, Cond.fieldLink RX4 15 "CraneCampaign$Plan" "count" "I", Cond.methodLink RX2 89 yX1_copyFrom, Cond.instanceMethod yX1_copyFrom, Cond.selects RX1 yX1_copyFrom yX1_copyFrom, Cond.initialized RX1, Cond.code yX1_copyFrom cX1_copyFrom 2 none, Cond.fieldLink RX1 9 "CraneCampaign$Crane" "place" "I", Cond.fieldLink RX1 15 "CraneCampaign$Crane" "hoursLeft" "I", Cond.fieldLink RX1 18 "CraneCampaign$Crane" "goal" "I", Cond.fieldLink RX1 21 "CraneCampaign$Crane" "workDone" "I", Cond.fieldLink RX1 24 "CraneCampaign$Crane" "workedOn" "I", Cond.methodLink RX2 92 yX7_copyFrom, Cond.instanceMethod yX7_copyFrom, Cond.selects RX7 yX7_copyFrom yX7_copyFrom, Cond.initialized RX7, Cond.code yX7_copyFrom cX7_copyFrom 2 none, Cond.fieldLink RX7 9 "CraneCampaign$Winds" "row" "[I", Cond.methodLink RX7 19 arraycopyName, Cond.fieldLink RX7 15 "CraneCampaign$Winds" "count" "I"]
def wsX2_copyFrom : List Cond := .code yX2_copyFrom cX2_copyFrom 3 none :: ((wsX2_copyFrom_r1 ++ (wsX2_copyFrom_r2 ++ wsX2_copyFrom_r3)) ++ wsX20 ++ wsX50 ++ wsX00 ++ wsX30 ++ wsX40 ++ wsX10 ++ wsX70)
def wsX2_hasTurbine : List Cond := .code yX2_hasTurbine cX2_hasTurbine 2 (some .boolean) :: ([.fieldLink RX2 17 "CraneCampaign$Farm" "turbineCount" "I"] ++ wsX20)
def wsX2_hasTurbineAt : List Cond := .code yX2_hasTurbineAt cX2_hasTurbineAt 3 (some .boolean) :: ([.fieldLink RX2 17 "CraneCampaign$Farm" "turbineCount" "I", .fieldLink RX2 11 "CraneCampaign$Farm" "turbines" "[LCraneCampaign$Turbine;", .fieldLink RX2 95 "CraneCampaign$Turbine" "place" "I"] ++ wsX20 ++ wsX50)
def wsX5_begin : List Cond := .code yX5_begin cX5_begin 4 none :: ([.fieldLink RX5 9 "CraneCampaign$Turbine" "place" "I", .fieldLink RX5 15 "CraneCampaign$Turbine" "height" "I", .fieldLink RX5 18 "CraneCampaign$Turbine" "rate" "I", .fieldLink RX5 21 "CraneCampaign$Turbine" "fault" "I", .fieldLink RX5 24 "CraneCampaign$Turbine" "age" "I", .fieldLink RX5 27 "CraneCampaign$Turbine" "lost" "I", .fieldLink RX5 30 "CraneCampaign$Turbine" "won" "I"] ++ wsX50)
def wsX2_buildTurbine : List Cond := .code yX2_buildTurbine cX2_buildTurbine 4 (some .int) :: ([.fieldLink RX2 17 "CraneCampaign$Farm" "turbineCount" "I", .fieldLink RX2 11 "CraneCampaign$Farm" "turbines" "[LCraneCampaign$Turbine;", .methodLink RX2 98 yX5_begin, .instanceMethod yX5_begin, .selects RX5 yX5_begin yX5_begin, .initialized RX5, .code yX5_begin cX5_begin 4 none, .fieldLink RX5 9 "CraneCampaign$Turbine" "place" "I", .fieldLink RX5 15 "CraneCampaign$Turbine" "height" "I", .fieldLink RX5 18 "CraneCampaign$Turbine" "rate" "I", .fieldLink RX5 21 "CraneCampaign$Turbine" "fault" "I", .fieldLink RX5 24 "CraneCampaign$Turbine" "age" "I", .fieldLink RX5 27 "CraneCampaign$Turbine" "lost" "I", .fieldLink RX5 30 "CraneCampaign$Turbine" "won" "I"] ++ wsX20 ++ wsX50)
def wsX2_faultCount : List Cond := .code yX2_faultCount cX2_faultCount 3 (some .int) :: ([.fieldLink RX2 17 "CraneCampaign$Farm" "turbineCount" "I", .fieldLink RX2 11 "CraneCampaign$Farm" "turbines" "[LCraneCampaign$Turbine;", .fieldLink RX2 102 "CraneCampaign$Turbine" "fault" "I"] ++ wsX20 ++ wsX50)
def wsX2_lostPower : List Cond := .code yX2_lostPower cX2_lostPower 3 (some .int) :: ([.fieldLink RX2 60 "CraneCampaign$Farm" "lostBy" "[I"] ++ wsX20)
def wsX2_wonPower : List Cond := .code yX2_wonPower cX2_wonPower 3 (some .int) :: ([.fieldLink RX2 17 "CraneCampaign$Farm" "turbineCount" "I", .fieldLink RX2 11 "CraneCampaign$Farm" "turbines" "[LCraneCampaign$Turbine;", .fieldLink RX2 105 "CraneCampaign$Turbine" "won" "I"] ++ wsX20 ++ wsX50)
def wsX7_at : List Cond := .code yX7_at cX7_at 2 (some .int) :: ([.fieldLink RX7 15 "CraneCampaign$Winds" "count" "I", .fieldLink RX7 9 "CraneCampaign$Winds" "row" "[I"] ++ wsX70)
def wsX2_windNow : List Cond := .code yX2_windNow cX2_windNow 1 (some .int) :: ([.fieldLink RX2 52 "CraneCampaign$Farm" "winds" "LCraneCampaign$Winds;", .fieldLink RX2 63 "CraneCampaign$Farm" "hour" "I", .methodLink RX2 108 yX7_at, .instanceMethod yX7_at, .selects RX7 yX7_at yX7_at, .initialized RX7, .code yX7_at cX7_at 2 (some .int), .fieldLink RX7 15 "CraneCampaign$Winds" "count" "I", .fieldLink RX7 9 "CraneCampaign$Winds" "row" "[I"] ++ wsX20 ++ wsX70)
def wsX5_limit : List Cond := .code yX5_limit cX5_limit 2 (some .int) :: ([.fieldLink RX5 15 "CraneCampaign$Turbine" "height" "I"] ++ wsX50)
def wsX4_placeOf : List Cond := .code yX4_placeOf cX4_placeOf 3 (some .int) :: ([.fieldLink RX4 15 "CraneCampaign$Plan" "count" "I", .fieldLink RX4 9 "CraneCampaign$Plan" "row" "[I"] ++ wsX40)
def wsX3_unloadedFor : List Cond := .code yX3_unloadedFor cX3_unloadedFor 4 (some .int) :: ([.fieldLink RX3 18 "CraneCampaign$Harbour" "count" "I", .fieldLink RX3 9 "CraneCampaign$Harbour" "turbine" "[I", .fieldLink RX3 15 "CraneCampaign$Harbour" "weight" "[I"] ++ wsX30)
def wsX5_fullPower : List Cond := .code yX5_fullPower cX5_fullPower 2 (some .int) :: ([.fieldLink RX5 18 "CraneCampaign$Turbine" "rate" "I", .methodLink RX5 33 Lib.Math.min.name, .static Lib.Math.min.name, .initialized "java/lang/Math", .code Lib.Math.min.name Lib.Math.min.code 2 (some .int)] ++ wsX50)
def wsX2_turbineProperty_r1 : List Cond := [Cond.fieldLink RX2 11 "CraneCampaign$Farm" "turbines" "[LCraneCampaign$Turbine;", Cond.fieldLink RX2 95 "CraneCampaign$Turbine" "place" "I", Cond.fieldLink RX2 116 "CraneCampaign$Turbine" "height" "I", Cond.fieldLink RX2 119 "CraneCampaign$Turbine" "rate" "I", Cond.fieldLink RX2 102 "CraneCampaign$Turbine" "fault" "I", Cond.fieldLink RX2 122 "CraneCampaign$Turbine" "age" "I", Cond.fieldLink RX2 56 "CraneCampaign$Farm" "settings" "[I", Cond.fieldLink RX2 38 "CraneCampaign$Farm" "plan" "LCraneCampaign$Plan;", Cond.fieldLink RX2 31 "CraneCampaign$Farm" "harbour" "LCraneCampaign$Harbour;", Cond.fieldLink RX2 134 "CraneCampaign$Turbine" "lost" "I", Cond.fieldLink RX2 105 "CraneCampaign$Turbine" "won" "I", Cond.methodLink RX2 112 yX2_hasTurbine, Cond.instanceMethod yX2_hasTurbine, Cond.selects RX2 yX2_hasTurbine yX2_hasTurbine, Cond.initialized RX2, Cond.code yX2_hasTurbine cX2_hasTurbine 2 (some .boolean), Cond.fieldLink RX2 17 "CraneCampaign$Farm" "turbineCount" "I", Cond.methodLink RX2 125 yX5_limit, Cond.instanceMethod yX5_limit, Cond.selects RX5 yX5_limit yX5_limit, Cond.initialized RX5, Cond.code yX5_limit cX5_limit 2 (some .int), Cond.fieldLink RX5 15 "CraneCampaign$Turbine" "height" "I", Cond.methodLink RX2 128 yX4_placeOf]
def wsX2_turbineProperty_r2 : List Cond := [Cond.instanceMethod yX4_placeOf, Cond.selects RX4 yX4_placeOf yX4_placeOf, Cond.initialized RX4, Cond.code yX4_placeOf cX4_placeOf 3 (some .int), Cond.fieldLink RX4 15 "CraneCampaign$Plan" "count" "I", Cond.fieldLink RX4 9 "CraneCampaign$Plan" "row" "[I", Cond.methodLink RX2 131 yX3_unloadedFor, Cond.instanceMethod yX3_unloadedFor, Cond.selects RX3 yX3_unloadedFor yX3_unloadedFor, Cond.initialized RX3, Cond.code yX3_unloadedFor cX3_unloadedFor 4 (some .int), Cond.fieldLink RX3 18 "CraneCampaign$Harbour" "count" "I", Cond.fieldLink RX3 9 "CraneCampaign$Harbour" "turbine" "[I", Cond.fieldLink RX3 15 "CraneCampaign$Harbour" "weight" "[I", Cond.methodLink RX2 137 yX2_windNow, Cond.instanceMethod yX2_windNow, Cond.selects RX2 yX2_windNow yX2_windNow, Cond.code yX2_windNow cX2_windNow 1 (some .int), Cond.fieldLink RX2 52 "CraneCampaign$Farm" "winds" "LCraneCampaign$Winds;", Cond.fieldLink RX2 63 "CraneCampaign$Farm" "hour" "I", Cond.methodLink RX2 108 yX7_at, Cond.instanceMethod yX7_at, Cond.selects RX7 yX7_at yX7_at, Cond.initialized RX7]
def wsX2_turbineProperty_r3 : List Cond := [Cond.code yX7_at cX7_at 2 (some .int), Cond.fieldLink RX7 15 "CraneCampaign$Winds" "count" "I", Cond.fieldLink RX7 9 "CraneCampaign$Winds" "row" "[I", Cond.methodLink RX2 141 yX5_fullPower, Cond.instanceMethod yX5_fullPower, Cond.selects RX5 yX5_fullPower yX5_fullPower, Cond.code yX5_fullPower cX5_fullPower 2 (some .int), Cond.fieldLink RX5 18 "CraneCampaign$Turbine" "rate" "I", Cond.methodLink RX5 33 Lib.Math.min.name, Cond.static Lib.Math.min.name, Cond.initialized "java/lang/Math", Cond.code Lib.Math.min.name Lib.Math.min.code 2 (some .int)]
def wsX2_turbineProperty : List Cond := .code yX2_turbineProperty cX2_turbineProperty 4 (some .int) :: ((wsX2_turbineProperty_r1 ++ (wsX2_turbineProperty_r2 ++ wsX2_turbineProperty_r3)) ++ wsX20 ++ wsX50 ++ wsX40 ++ wsX30 ++ wsX70)
def wsX2_outcome : List Cond := .code yX2_outcome cX2_outcome 2 (some .int) :: ([.fieldLink RX2 38 "CraneCampaign$Farm" "plan" "LCraneCampaign$Plan;", .fieldLink RX2 153 "CraneCampaign$Plan" "count" "I", .fieldLink RX2 60 "CraneCampaign$Farm" "lostBy" "[I", .methodLink RX2 144 yX2_lostPower, .instanceMethod yX2_lostPower, .selects RX2 yX2_lostPower yX2_lostPower, .initialized RX2, .code yX2_lostPower cX2_lostPower 3 (some .int), .methodLink RX2 147 yX2_wonPower, .instanceMethod yX2_wonPower, .selects RX2 yX2_wonPower yX2_wonPower, .code yX2_wonPower cX2_wonPower 3 (some .int), .fieldLink RX2 17 "CraneCampaign$Farm" "turbineCount" "I", .fieldLink RX2 11 "CraneCampaign$Farm" "turbines" "[LCraneCampaign$Turbine;", .fieldLink RX2 105 "CraneCampaign$Turbine" "won" "I", .methodLink RX2 150 yX2_faultCount, .instanceMethod yX2_faultCount, .selects RX2 yX2_faultCount yX2_faultCount, .code yX2_faultCount cX2_faultCount 3 (some .int), .fieldLink RX2 102 "CraneCampaign$Turbine" "fault" "I"] ++ wsX20 ++ wsX40 ++ wsX50)
def wsX2_hoursBetween : List Cond := .code yX2_hoursBetween cX2_hoursBetween 6 (some .int) :: ([.fieldLink RX2 56 "CraneCampaign$Farm" "settings" "[I", .methodLink RX2 156 Lib.Math.max.name, .static Lib.Math.max.name, .initialized "java/lang/Math", .code Lib.Math.max.name Lib.Math.max.code 2 (some .int), .methodLink RX2 162 Lib.Math.abs.name, .static Lib.Math.abs.name, .code Lib.Math.abs.name Lib.Math.abs.code 1 (some .int), .fieldLink RX2 24 "CraneCampaign$Farm" "bogs" "LCraneCampaign$Bogs;", .methodLink RX2 165 Lib.Math.min.name, .static Lib.Math.min.name, .code Lib.Math.min.name Lib.Math.min.code 2 (some .int), .methodLink RX2 168 yX0_countBetween, .instanceMethod yX0_countBetween, .selects RX0 yX0_countBetween yX0_countBetween, .initialized RX0, .code yX0_countBetween cX0_countBetween 6 (some .int), .fieldLink RX0 18 "CraneCampaign$Bogs" "count" "I", .fieldLink RX0 9 "CraneCampaign$Bogs" "place" "[I", .fieldLink RX0 15 "CraneCampaign$Bogs" "need" "[I"] ++ wsX20 ++ wsX00)
def wsX2_hoursUntilCalm : List Cond := .code yX2_hoursUntilCalm cX2_hoursUntilCalm 6 (some .int) :: ([.fieldLink RX2 11 "CraneCampaign$Farm" "turbines" "[LCraneCampaign$Turbine;", .fieldLink RX2 56 "CraneCampaign$Farm" "settings" "[I", .fieldLink RX2 52 "CraneCampaign$Farm" "winds" "LCraneCampaign$Winds;", .fieldLink RX2 63 "CraneCampaign$Farm" "hour" "I", .methodLink RX2 112 yX2_hasTurbine, .instanceMethod yX2_hasTurbine, .selects RX2 yX2_hasTurbine yX2_hasTurbine, .initialized RX2, .code yX2_hasTurbine cX2_hasTurbine 2 (some .boolean), .fieldLink RX2 17 "CraneCampaign$Farm" "turbineCount" "I", .methodLink RX2 125 yX5_limit, .instanceMethod yX5_limit, .selects RX5 yX5_limit yX5_limit, .initialized RX5, .code yX5_limit cX5_limit 2 (some .int), .fieldLink RX5 15 "CraneCampaign$Turbine" "height" "I", .methodLink RX2 108 yX7_at, .instanceMethod yX7_at, .selects RX7 yX7_at yX7_at, .initialized RX7, .code yX7_at cX7_at 2 (some .int), .fieldLink RX7 15 "CraneCampaign$Winds" "count" "I", .fieldLink RX7 9 "CraneCampaign$Winds" "row" "[I"] ++ wsX20 ++ wsX50 ++ wsX70)
def wsX3_unload : List Cond := .code yX3_unload cX3_unload 5 none :: ([.fieldLink RX3 18 "CraneCampaign$Harbour" "count" "I", .fieldLink RX3 15 "CraneCampaign$Harbour" "weight" "[I", .methodLink RX3 32 Lib.Math.min.name, .static Lib.Math.min.name, .initialized "java/lang/Math", .code Lib.Math.min.name Lib.Math.min.code 2 (some .int)] ++ wsX30)
def wsX4_first : List Cond := .code yX4_first cX4_first 1 (some .int) :: ([.fieldLink RX4 15 "CraneCampaign$Plan" "count" "I", .fieldLink RX4 9 "CraneCampaign$Plan" "row" "[I"] ++ wsX40)
def wsX4_removeAt : List Cond := .code yX4_removeAt cX4_removeAt 3 none :: ([.fieldLink RX4 15 "CraneCampaign$Plan" "count" "I", .fieldLink RX4 9 "CraneCampaign$Plan" "row" "[I"] ++ wsX40)
def wsX2_dropFaultless_r1 : List Cond := [Cond.fieldLink RX2 38 "CraneCampaign$Farm" "plan" "LCraneCampaign$Plan;", Cond.fieldLink RX2 153 "CraneCampaign$Plan" "count" "I", Cond.fieldLink RX2 45 "CraneCampaign$Farm" "crane" "LCraneCampaign$Crane;", Cond.fieldLink RX2 197 "CraneCampaign$Crane" "workedOn" "I", Cond.fieldLink RX2 11 "CraneCampaign$Farm" "turbines" "[LCraneCampaign$Turbine;", Cond.fieldLink RX2 102 "CraneCampaign$Turbine" "fault" "I", Cond.methodLink RX2 182 yX4_first, Cond.instanceMethod yX4_first, Cond.selects RX4 yX4_first yX4_first, Cond.initialized RX4, Cond.code yX4_first cX4_first 1 (some .int), Cond.fieldLink RX4 15 "CraneCampaign$Plan" "count" "I", Cond.fieldLink RX4 9 "CraneCampaign$Plan" "row" "[I", Cond.methodLink RX2 200 yX1_forgetWork, Cond.instanceMethod yX1_forgetWork, Cond.selects RX1 yX1_forgetWork yX1_forgetWork, Cond.initialized RX1, Cond.code yX1_forgetWork cX1_forgetWork 1 none, Cond.fieldLink RX1 24 "CraneCampaign$Crane" "workedOn" "I", Cond.fieldLink RX1 21 "CraneCampaign$Crane" "workDone" "I", Cond.methodLink RX2 112 yX2_hasTurbine, Cond.instanceMethod yX2_hasTurbine, Cond.selects RX2 yX2_hasTurbine yX2_hasTurbine, Cond.initialized RX2]
def wsX2_dropFaultless_r2 : List Cond := [Cond.code yX2_hasTurbine cX2_hasTurbine 2 (some .boolean), Cond.fieldLink RX2 17 "CraneCampaign$Farm" "turbineCount" "I", Cond.methodLink RX2 203 yX4_removeAt, Cond.instanceMethod yX4_removeAt, Cond.selects RX4 yX4_removeAt yX4_removeAt, Cond.code yX4_removeAt cX4_removeAt 3 none]
def wsX2_dropFaultless : List Cond := .code yX2_dropFaultless cX2_dropFaultless 3 none :: ((wsX2_dropFaultless_r1 ++ wsX2_dropFaultless_r2) ++ wsX20 ++ wsX40 ++ wsX10 ++ wsX50)
def wsX2_serve_r1 : List Cond := [Cond.fieldLink RX2 11 "CraneCampaign$Farm" "turbines" "[LCraneCampaign$Turbine;", Cond.fieldLink RX2 45 "CraneCampaign$Farm" "crane" "LCraneCampaign$Crane;", Cond.fieldLink RX2 210 "CraneCampaign$Crane" "place" "I", Cond.fieldLink RX2 95 "CraneCampaign$Turbine" "place" "I", Cond.fieldLink RX2 31 "CraneCampaign$Farm" "harbour" "LCraneCampaign$Harbour;", Cond.fieldLink RX2 56 "CraneCampaign$Farm" "settings" "[I", Cond.methodLink RX2 112 yX2_hasTurbine, Cond.instanceMethod yX2_hasTurbine, Cond.selects RX2 yX2_hasTurbine yX2_hasTurbine, Cond.initialized RX2, Cond.code yX2_hasTurbine cX2_hasTurbine 2 (some .boolean), Cond.fieldLink RX2 17 "CraneCampaign$Farm" "turbineCount" "I", Cond.methodLink RX2 206 yX1_isOnWay, Cond.instanceMethod yX1_isOnWay, Cond.selects RX1 yX1_isOnWay yX1_isOnWay, Cond.initialized RX1, Cond.code yX1_isOnWay cX1_isOnWay 1 (some .boolean), Cond.fieldLink RX1 18 "CraneCampaign$Crane" "goal" "I", Cond.methodLink RX2 211 yX2_hoursBetween, Cond.instanceMethod yX2_hoursBetween, Cond.selects RX2 yX2_hoursBetween yX2_hoursBetween, Cond.code yX2_hoursBetween cX2_hoursBetween 6 (some .int), Cond.methodLink RX2 156 Lib.Math.max.name, Cond.static Lib.Math.max.name]
def wsX2_serve_r2 : List Cond := [Cond.initialized "java/lang/Math", Cond.code Lib.Math.max.name Lib.Math.max.code 2 (some .int), Cond.methodLink RX2 162 Lib.Math.abs.name, Cond.static Lib.Math.abs.name, Cond.code Lib.Math.abs.name Lib.Math.abs.code 1 (some .int), Cond.fieldLink RX2 24 "CraneCampaign$Farm" "bogs" "LCraneCampaign$Bogs;", Cond.methodLink RX2 165 Lib.Math.min.name, Cond.static Lib.Math.min.name, Cond.code Lib.Math.min.name Lib.Math.min.code 2 (some .int), Cond.methodLink RX2 168 yX0_countBetween, Cond.instanceMethod yX0_countBetween, Cond.selects RX0 yX0_countBetween yX0_countBetween, Cond.initialized RX0, Cond.code yX0_countBetween cX0_countBetween 6 (some .int), Cond.fieldLink RX0 18 "CraneCampaign$Bogs" "count" "I", Cond.fieldLink RX0 9 "CraneCampaign$Bogs" "place" "[I", Cond.fieldLink RX0 15 "CraneCampaign$Bogs" "need" "[I", Cond.methodLink RX2 214 yX1_driveTo, Cond.instanceMethod yX1_driveTo, Cond.selects RX1 yX1_driveTo yX1_driveTo, Cond.code yX1_driveTo cX1_driveTo 4 none, Cond.fieldLink RX1 15 "CraneCampaign$Crane" "hoursLeft" "I", Cond.methodLink RX1 27 Lib.Math.max.name, Cond.fieldLink RX1 9 "CraneCampaign$Crane" "place" "I"]
def wsX2_serve_r3 : List Cond := [Cond.methodLink RX2 131 yX3_unloadedFor, Cond.instanceMethod yX3_unloadedFor, Cond.selects RX3 yX3_unloadedFor yX3_unloadedFor, Cond.initialized RX3, Cond.code yX3_unloadedFor cX3_unloadedFor 4 (some .int), Cond.fieldLink RX3 18 "CraneCampaign$Harbour" "count" "I", Cond.fieldLink RX3 9 "CraneCampaign$Harbour" "turbine" "[I", Cond.fieldLink RX3 15 "CraneCampaign$Harbour" "weight" "[I", Cond.methodLink RX2 137 yX2_windNow, Cond.instanceMethod yX2_windNow, Cond.selects RX2 yX2_windNow yX2_windNow, Cond.code yX2_windNow cX2_windNow 1 (some .int), Cond.fieldLink RX2 52 "CraneCampaign$Farm" "winds" "LCraneCampaign$Winds;", Cond.fieldLink RX2 63 "CraneCampaign$Farm" "hour" "I", Cond.methodLink RX2 108 yX7_at, Cond.instanceMethod yX7_at, Cond.selects RX7 yX7_at yX7_at, Cond.initialized RX7, Cond.code yX7_at cX7_at 2 (some .int), Cond.fieldLink RX7 15 "CraneCampaign$Winds" "count" "I", Cond.fieldLink RX7 9 "CraneCampaign$Winds" "row" "[I", Cond.methodLink RX2 125 yX5_limit, Cond.instanceMethod yX5_limit, Cond.selects RX5 yX5_limit yX5_limit]
def wsX2_serve_r4 : List Cond := [Cond.initialized RX5, Cond.code yX5_limit cX5_limit 2 (some .int), Cond.fieldLink RX5 15 "CraneCampaign$Turbine" "height" "I", Cond.methodLink RX2 217 yX1_workAnHourOn, Cond.instanceMethod yX1_workAnHourOn, Cond.selects RX1 yX1_workAnHourOn yX1_workAnHourOn, Cond.code yX1_workAnHourOn cX1_workAnHourOn 2 none, Cond.fieldLink RX1 24 "CraneCampaign$Crane" "workedOn" "I", Cond.fieldLink RX1 21 "CraneCampaign$Crane" "workDone" "I"]
def wsX2_serve : List Cond := .code yX2_serve cX2_serve 3 (some .int) :: ((wsX2_serve_r1 ++ (wsX2_serve_r2 ++ (wsX2_serve_r3 ++ wsX2_serve_r4))) ++ wsX20 ++ wsX10 ++ wsX50 ++ wsX00 ++ wsX30 ++ wsX70)
def wsX2_sharePower_r1 : List Cond := [Cond.fieldLink RX2 17 "CraneCampaign$Farm" "turbineCount" "I", Cond.fieldLink RX2 11 "CraneCampaign$Farm" "turbines" "[LCraneCampaign$Turbine;", Cond.fieldLink RX2 102 "CraneCampaign$Turbine" "fault" "I", Cond.fieldLink RX2 134 "CraneCampaign$Turbine" "lost" "I", Cond.fieldLink RX2 105 "CraneCampaign$Turbine" "won" "I", Cond.fieldLink RX2 60 "CraneCampaign$Farm" "lostBy" "[I", Cond.methodLink RX2 137 yX2_windNow, Cond.instanceMethod yX2_windNow, Cond.selects RX2 yX2_windNow yX2_windNow, Cond.initialized RX2, Cond.code yX2_windNow cX2_windNow 1 (some .int), Cond.fieldLink RX2 52 "CraneCampaign$Farm" "winds" "LCraneCampaign$Winds;", Cond.fieldLink RX2 63 "CraneCampaign$Farm" "hour" "I", Cond.methodLink RX2 108 yX7_at, Cond.instanceMethod yX7_at, Cond.selects RX7 yX7_at yX7_at, Cond.initialized RX7, Cond.code yX7_at cX7_at 2 (some .int), Cond.fieldLink RX7 15 "CraneCampaign$Winds" "count" "I", Cond.fieldLink RX7 9 "CraneCampaign$Winds" "row" "[I", Cond.methodLink RX2 141 yX5_fullPower, Cond.instanceMethod yX5_fullPower, Cond.selects RX5 yX5_fullPower yX5_fullPower, Cond.initialized RX5]
def wsX2_sharePower_r2 : List Cond := [Cond.code yX5_fullPower cX5_fullPower 2 (some .int), Cond.fieldLink RX5 18 "CraneCampaign$Turbine" "rate" "I", Cond.methodLink RX5 33 Lib.Math.min.name, Cond.static Lib.Math.min.name, Cond.initialized "java/lang/Math", Cond.code Lib.Math.min.name Lib.Math.min.code 2 (some .int)]
def wsX2_sharePower : List Cond := .code yX2_sharePower cX2_sharePower 9 (some .int) :: ((wsX2_sharePower_r1 ++ wsX2_sharePower_r2) ++ wsX20 ++ wsX50 ++ wsX70)
def wsX3_removeAt : List Cond := .code yX3_removeAt cX3_removeAt 3 none :: ([.fieldLink RX3 18 "CraneCampaign$Harbour" "count" "I", .fieldLink RX3 9 "CraneCampaign$Harbour" "turbine" "[I", .fieldLink RX3 15 "CraneCampaign$Harbour" "weight" "[I"] ++ wsX30)
def wsX3_useBladeFor : List Cond := .code yX3_useBladeFor cX3_useBladeFor 3 none :: ([.fieldLink RX3 18 "CraneCampaign$Harbour" "count" "I", .fieldLink RX3 9 "CraneCampaign$Harbour" "turbine" "[I", .fieldLink RX3 15 "CraneCampaign$Harbour" "weight" "[I", .methodLink RX3 38 yX3_removeAt, .instanceMethod yX3_removeAt, .selects RX3 yX3_removeAt yX3_removeAt, .initialized RX3, .code yX3_removeAt cX3_removeAt 3 none] ++ wsX30)
def wsX2_finishIfDone_r1 : List Cond := [Cond.fieldLink RX2 45 "CraneCampaign$Farm" "crane" "LCraneCampaign$Crane;", Cond.fieldLink RX2 220 "CraneCampaign$Crane" "workDone" "I", Cond.fieldLink RX2 56 "CraneCampaign$Farm" "settings" "[I", Cond.fieldLink RX2 11 "CraneCampaign$Farm" "turbines" "[LCraneCampaign$Turbine;", Cond.fieldLink RX2 102 "CraneCampaign$Turbine" "fault" "I", Cond.fieldLink RX2 122 "CraneCampaign$Turbine" "age" "I", Cond.fieldLink RX2 31 "CraneCampaign$Farm" "harbour" "LCraneCampaign$Harbour;", Cond.fieldLink RX2 38 "CraneCampaign$Farm" "plan" "LCraneCampaign$Plan;", Cond.methodLink RX2 112 yX2_hasTurbine, Cond.instanceMethod yX2_hasTurbine, Cond.selects RX2 yX2_hasTurbine yX2_hasTurbine, Cond.initialized RX2, Cond.code yX2_hasTurbine cX2_hasTurbine 2 (some .boolean), Cond.fieldLink RX2 17 "CraneCampaign$Farm" "turbineCount" "I", Cond.methodLink RX2 223 yX3_useBladeFor, Cond.instanceMethod yX3_useBladeFor, Cond.selects RX3 yX3_useBladeFor yX3_useBladeFor, Cond.initialized RX3, Cond.code yX3_useBladeFor cX3_useBladeFor 3 none, Cond.fieldLink RX3 18 "CraneCampaign$Harbour" "count" "I", Cond.fieldLink RX3 9 "CraneCampaign$Harbour" "turbine" "[I", Cond.fieldLink RX3 15 "CraneCampaign$Harbour" "weight" "[I", Cond.methodLink RX3 38 yX3_removeAt, Cond.instanceMethod yX3_removeAt]
def wsX2_finishIfDone_r2 : List Cond := [Cond.selects RX3 yX3_removeAt yX3_removeAt, Cond.code yX3_removeAt cX3_removeAt 3 none, Cond.methodLink RX2 200 yX1_forgetWork, Cond.instanceMethod yX1_forgetWork, Cond.selects RX1 yX1_forgetWork yX1_forgetWork, Cond.initialized RX1, Cond.code yX1_forgetWork cX1_forgetWork 1 none, Cond.fieldLink RX1 24 "CraneCampaign$Crane" "workedOn" "I", Cond.fieldLink RX1 21 "CraneCampaign$Crane" "workDone" "I", Cond.methodLink RX2 128 yX4_placeOf, Cond.instanceMethod yX4_placeOf, Cond.selects RX4 yX4_placeOf yX4_placeOf, Cond.initialized RX4, Cond.code yX4_placeOf cX4_placeOf 3 (some .int), Cond.fieldLink RX4 15 "CraneCampaign$Plan" "count" "I", Cond.fieldLink RX4 9 "CraneCampaign$Plan" "row" "[I", Cond.methodLink RX2 203 yX4_removeAt, Cond.instanceMethod yX4_removeAt, Cond.selects RX4 yX4_removeAt yX4_removeAt, Cond.code yX4_removeAt cX4_removeAt 3 none]
def wsX2_finishIfDone : List Cond := .code yX2_finishIfDone cX2_finishIfDone 2 none :: ((wsX2_finishIfDone_r1 ++ wsX2_finishIfDone_r2) ++ wsX20 ++ wsX10 ++ wsX50 ++ wsX30 ++ wsX40)
def wsX5_growOlder : List Cond := .code yX5_growOlder cX5_growOlder 2 none :: ([.fieldLink RX5 21 "CraneCampaign$Turbine" "fault" "I", .fieldLink RX5 24 "CraneCampaign$Turbine" "age" "I"] ++ wsX50)
def wsX2_worsen : List Cond := .code yX2_worsen cX2_worsen 3 none :: ([.fieldLink RX2 17 "CraneCampaign$Farm" "turbineCount" "I", .fieldLink RX2 11 "CraneCampaign$Farm" "turbines" "[LCraneCampaign$Turbine;", .fieldLink RX2 56 "CraneCampaign$Farm" "settings" "[I", .methodLink RX2 226 yX5_growOlder, .instanceMethod yX5_growOlder, .selects RX5 yX5_growOlder yX5_growOlder, .initialized RX5, .code yX5_growOlder cX5_growOlder 2 none, .fieldLink RX5 21 "CraneCampaign$Turbine" "fault" "I", .fieldLink RX5 24 "CraneCampaign$Turbine" "age" "I"] ++ wsX20 ++ wsX50)
def wsX2_runHour_r1 : List Cond := [Cond.fieldLink RX2 31 "CraneCampaign$Farm" "harbour" "LCraneCampaign$Harbour;", Cond.fieldLink RX2 56 "CraneCampaign$Farm" "settings" "[I", Cond.fieldLink RX2 38 "CraneCampaign$Farm" "plan" "LCraneCampaign$Plan;", Cond.fieldLink RX2 63 "CraneCampaign$Farm" "hour" "I", Cond.methodLink RX2 175 yX3_unload, Cond.instanceMethod yX3_unload, Cond.selects RX3 yX3_unload yX3_unload, Cond.initialized RX3, Cond.code yX3_unload cX3_unload 5 none, Cond.fieldLink RX3 18 "CraneCampaign$Harbour" "count" "I", Cond.fieldLink RX3 15 "CraneCampaign$Harbour" "weight" "[I", Cond.methodLink RX3 32 Lib.Math.min.name, Cond.static Lib.Math.min.name, Cond.initialized "java/lang/Math", Cond.code Lib.Math.min.name Lib.Math.min.code 2 (some .int), Cond.methodLink RX2 179 yX2_dropFaultless, Cond.instanceMethod yX2_dropFaultless, Cond.selects RX2 yX2_dropFaultless yX2_dropFaultless, Cond.initialized RX2, Cond.code yX2_dropFaultless cX2_dropFaultless 3 none, Cond.fieldLink RX2 153 "CraneCampaign$Plan" "count" "I", Cond.fieldLink RX2 45 "CraneCampaign$Farm" "crane" "LCraneCampaign$Crane;", Cond.fieldLink RX2 197 "CraneCampaign$Crane" "workedOn" "I", Cond.fieldLink RX2 11 "CraneCampaign$Farm" "turbines" "[LCraneCampaign$Turbine;"]
def wsX2_runHour_r2 : List Cond := [Cond.fieldLink RX2 102 "CraneCampaign$Turbine" "fault" "I", Cond.methodLink RX2 182 yX4_first, Cond.instanceMethod yX4_first, Cond.selects RX4 yX4_first yX4_first, Cond.initialized RX4, Cond.code yX4_first cX4_first 1 (some .int), Cond.fieldLink RX4 15 "CraneCampaign$Plan" "count" "I", Cond.fieldLink RX4 9 "CraneCampaign$Plan" "row" "[I", Cond.methodLink RX2 200 yX1_forgetWork, Cond.instanceMethod yX1_forgetWork, Cond.selects RX1 yX1_forgetWork yX1_forgetWork, Cond.initialized RX1, Cond.code yX1_forgetWork cX1_forgetWork 1 none, Cond.fieldLink RX1 24 "CraneCampaign$Crane" "workedOn" "I", Cond.fieldLink RX1 21 "CraneCampaign$Crane" "workDone" "I", Cond.methodLink RX2 112 yX2_hasTurbine, Cond.instanceMethod yX2_hasTurbine, Cond.selects RX2 yX2_hasTurbine yX2_hasTurbine, Cond.code yX2_hasTurbine cX2_hasTurbine 2 (some .boolean), Cond.fieldLink RX2 17 "CraneCampaign$Farm" "turbineCount" "I", Cond.methodLink RX2 203 yX4_removeAt, Cond.instanceMethod yX4_removeAt, Cond.selects RX4 yX4_removeAt yX4_removeAt, Cond.code yX4_removeAt cX4_removeAt 3 none]
def wsX2_runHour_r3 : List Cond := [Cond.methodLink RX2 185 yX2_serve, Cond.instanceMethod yX2_serve, Cond.selects RX2 yX2_serve yX2_serve, Cond.code yX2_serve cX2_serve 3 (some .int), Cond.fieldLink RX2 210 "CraneCampaign$Crane" "place" "I", Cond.fieldLink RX2 95 "CraneCampaign$Turbine" "place" "I", Cond.methodLink RX2 206 yX1_isOnWay, Cond.instanceMethod yX1_isOnWay, Cond.selects RX1 yX1_isOnWay yX1_isOnWay, Cond.code yX1_isOnWay cX1_isOnWay 1 (some .boolean), Cond.fieldLink RX1 18 "CraneCampaign$Crane" "goal" "I", Cond.methodLink RX2 211 yX2_hoursBetween, Cond.instanceMethod yX2_hoursBetween, Cond.selects RX2 yX2_hoursBetween yX2_hoursBetween, Cond.code yX2_hoursBetween cX2_hoursBetween 6 (some .int), Cond.methodLink RX2 156 Lib.Math.max.name, Cond.static Lib.Math.max.name, Cond.code Lib.Math.max.name Lib.Math.max.code 2 (some .int), Cond.methodLink RX2 162 Lib.Math.abs.name, Cond.static Lib.Math.abs.name, Cond.code Lib.Math.abs.name Lib.Math.abs.code 1 (some .int), Cond.fieldLink RX2 24 "CraneCampaign$Farm" "bogs" "LCraneCampaign$Bogs;", Cond.methodLink RX2 165 Lib.Math.min.name, Cond.methodLink RX2 168 yX0_countBetween]
def wsX2_runHour_r4 : List Cond := [Cond.instanceMethod yX0_countBetween, Cond.selects RX0 yX0_countBetween yX0_countBetween, Cond.initialized RX0, Cond.code yX0_countBetween cX0_countBetween 6 (some .int), Cond.fieldLink RX0 18 "CraneCampaign$Bogs" "count" "I", Cond.fieldLink RX0 9 "CraneCampaign$Bogs" "place" "[I", Cond.fieldLink RX0 15 "CraneCampaign$Bogs" "need" "[I", Cond.methodLink RX2 214 yX1_driveTo, Cond.instanceMethod yX1_driveTo, Cond.selects RX1 yX1_driveTo yX1_driveTo, Cond.code yX1_driveTo cX1_driveTo 4 none, Cond.fieldLink RX1 15 "CraneCampaign$Crane" "hoursLeft" "I", Cond.methodLink RX1 27 Lib.Math.max.name, Cond.fieldLink RX1 9 "CraneCampaign$Crane" "place" "I", Cond.methodLink RX2 131 yX3_unloadedFor, Cond.instanceMethod yX3_unloadedFor, Cond.selects RX3 yX3_unloadedFor yX3_unloadedFor, Cond.code yX3_unloadedFor cX3_unloadedFor 4 (some .int), Cond.fieldLink RX3 9 "CraneCampaign$Harbour" "turbine" "[I", Cond.methodLink RX2 137 yX2_windNow, Cond.instanceMethod yX2_windNow, Cond.selects RX2 yX2_windNow yX2_windNow, Cond.code yX2_windNow cX2_windNow 1 (some .int), Cond.fieldLink RX2 52 "CraneCampaign$Farm" "winds" "LCraneCampaign$Winds;"]
def wsX2_runHour_r5 : List Cond := [Cond.methodLink RX2 108 yX7_at, Cond.instanceMethod yX7_at, Cond.selects RX7 yX7_at yX7_at, Cond.initialized RX7, Cond.code yX7_at cX7_at 2 (some .int), Cond.fieldLink RX7 15 "CraneCampaign$Winds" "count" "I", Cond.fieldLink RX7 9 "CraneCampaign$Winds" "row" "[I", Cond.methodLink RX2 125 yX5_limit, Cond.instanceMethod yX5_limit, Cond.selects RX5 yX5_limit yX5_limit, Cond.initialized RX5, Cond.code yX5_limit cX5_limit 2 (some .int), Cond.fieldLink RX5 15 "CraneCampaign$Turbine" "height" "I", Cond.methodLink RX2 217 yX1_workAnHourOn, Cond.instanceMethod yX1_workAnHourOn, Cond.selects RX1 yX1_workAnHourOn yX1_workAnHourOn, Cond.code yX1_workAnHourOn cX1_workAnHourOn 2 none, Cond.methodLink RX2 188 yX2_sharePower, Cond.instanceMethod yX2_sharePower, Cond.selects RX2 yX2_sharePower yX2_sharePower, Cond.code yX2_sharePower cX2_sharePower 9 (some .int), Cond.fieldLink RX2 134 "CraneCampaign$Turbine" "lost" "I", Cond.fieldLink RX2 105 "CraneCampaign$Turbine" "won" "I", Cond.fieldLink RX2 60 "CraneCampaign$Farm" "lostBy" "[I"]
def wsX2_runHour_r6 : List Cond := [Cond.methodLink RX2 141 yX5_fullPower, Cond.instanceMethod yX5_fullPower, Cond.selects RX5 yX5_fullPower yX5_fullPower, Cond.code yX5_fullPower cX5_fullPower 2 (some .int), Cond.fieldLink RX5 18 "CraneCampaign$Turbine" "rate" "I", Cond.methodLink RX5 33 Lib.Math.min.name, Cond.methodLink RX2 191 yX2_finishIfDone, Cond.instanceMethod yX2_finishIfDone, Cond.selects RX2 yX2_finishIfDone yX2_finishIfDone, Cond.code yX2_finishIfDone cX2_finishIfDone 2 none, Cond.fieldLink RX2 220 "CraneCampaign$Crane" "workDone" "I", Cond.fieldLink RX2 122 "CraneCampaign$Turbine" "age" "I", Cond.methodLink RX2 223 yX3_useBladeFor, Cond.instanceMethod yX3_useBladeFor, Cond.selects RX3 yX3_useBladeFor yX3_useBladeFor, Cond.code yX3_useBladeFor cX3_useBladeFor 3 none, Cond.methodLink RX3 38 yX3_removeAt, Cond.instanceMethod yX3_removeAt, Cond.selects RX3 yX3_removeAt yX3_removeAt, Cond.code yX3_removeAt cX3_removeAt 3 none, Cond.methodLink RX2 128 yX4_placeOf, Cond.instanceMethod yX4_placeOf, Cond.selects RX4 yX4_placeOf yX4_placeOf, Cond.code yX4_placeOf cX4_placeOf 3 (some .int)]
def wsX2_runHour_r7 : List Cond := [Cond.methodLink RX2 194 yX2_worsen, Cond.instanceMethod yX2_worsen, Cond.selects RX2 yX2_worsen yX2_worsen, Cond.code yX2_worsen cX2_worsen 3 none, Cond.methodLink RX2 226 yX5_growOlder, Cond.instanceMethod yX5_growOlder, Cond.selects RX5 yX5_growOlder yX5_growOlder, Cond.code yX5_growOlder cX5_growOlder 2 none, Cond.fieldLink RX5 21 "CraneCampaign$Turbine" "fault" "I", Cond.fieldLink RX5 24 "CraneCampaign$Turbine" "age" "I"]
def wsX2_runHour : List Cond := .code yX2_runHour cX2_runHour 4 (some .int) :: ((wsX2_runHour_r1 ++ (wsX2_runHour_r2 ++ (wsX2_runHour_r3 ++ (wsX2_runHour_r4 ++ (wsX2_runHour_r5 ++ (wsX2_runHour_r6 ++ wsX2_runHour_r7)))))) ++ wsX20 ++ wsX30 ++ wsX40 ++ wsX10 ++ wsX50 ++ wsX00 ++ wsX70)
def wsX2_runHours_r1 : List Cond := [Cond.methodLink RX2 172 yX2_runHour, Cond.instanceMethod yX2_runHour, Cond.selects RX2 yX2_runHour yX2_runHour, Cond.initialized RX2, Cond.code yX2_runHour cX2_runHour 4 (some .int), Cond.fieldLink RX2 31 "CraneCampaign$Farm" "harbour" "LCraneCampaign$Harbour;", Cond.fieldLink RX2 56 "CraneCampaign$Farm" "settings" "[I", Cond.fieldLink RX2 38 "CraneCampaign$Farm" "plan" "LCraneCampaign$Plan;", Cond.fieldLink RX2 63 "CraneCampaign$Farm" "hour" "I", Cond.methodLink RX2 175 yX3_unload, Cond.instanceMethod yX3_unload, Cond.selects RX3 yX3_unload yX3_unload, Cond.initialized RX3, Cond.code yX3_unload cX3_unload 5 none, Cond.fieldLink RX3 18 "CraneCampaign$Harbour" "count" "I", Cond.fieldLink RX3 15 "CraneCampaign$Harbour" "weight" "[I", Cond.methodLink RX3 32 Lib.Math.min.name, Cond.static Lib.Math.min.name, Cond.initialized "java/lang/Math", Cond.code Lib.Math.min.name Lib.Math.min.code 2 (some .int), Cond.methodLink RX2 179 yX2_dropFaultless, Cond.instanceMethod yX2_dropFaultless, Cond.selects RX2 yX2_dropFaultless yX2_dropFaultless, Cond.code yX2_dropFaultless cX2_dropFaultless 3 none]
def wsX2_runHours_r2 : List Cond := [Cond.fieldLink RX2 153 "CraneCampaign$Plan" "count" "I", Cond.fieldLink RX2 45 "CraneCampaign$Farm" "crane" "LCraneCampaign$Crane;", Cond.fieldLink RX2 197 "CraneCampaign$Crane" "workedOn" "I", Cond.fieldLink RX2 11 "CraneCampaign$Farm" "turbines" "[LCraneCampaign$Turbine;", Cond.fieldLink RX2 102 "CraneCampaign$Turbine" "fault" "I", Cond.methodLink RX2 182 yX4_first, Cond.instanceMethod yX4_first, Cond.selects RX4 yX4_first yX4_first, Cond.initialized RX4, Cond.code yX4_first cX4_first 1 (some .int), Cond.fieldLink RX4 15 "CraneCampaign$Plan" "count" "I", Cond.fieldLink RX4 9 "CraneCampaign$Plan" "row" "[I", Cond.methodLink RX2 200 yX1_forgetWork, Cond.instanceMethod yX1_forgetWork, Cond.selects RX1 yX1_forgetWork yX1_forgetWork, Cond.initialized RX1, Cond.code yX1_forgetWork cX1_forgetWork 1 none, Cond.fieldLink RX1 24 "CraneCampaign$Crane" "workedOn" "I", Cond.fieldLink RX1 21 "CraneCampaign$Crane" "workDone" "I", Cond.methodLink RX2 112 yX2_hasTurbine, Cond.instanceMethod yX2_hasTurbine, Cond.selects RX2 yX2_hasTurbine yX2_hasTurbine, Cond.code yX2_hasTurbine cX2_hasTurbine 2 (some .boolean), Cond.fieldLink RX2 17 "CraneCampaign$Farm" "turbineCount" "I"]
def wsX2_runHours_r3 : List Cond := [Cond.methodLink RX2 203 yX4_removeAt, Cond.instanceMethod yX4_removeAt, Cond.selects RX4 yX4_removeAt yX4_removeAt, Cond.code yX4_removeAt cX4_removeAt 3 none, Cond.methodLink RX2 185 yX2_serve, Cond.instanceMethod yX2_serve, Cond.selects RX2 yX2_serve yX2_serve, Cond.code yX2_serve cX2_serve 3 (some .int), Cond.fieldLink RX2 210 "CraneCampaign$Crane" "place" "I", Cond.fieldLink RX2 95 "CraneCampaign$Turbine" "place" "I", Cond.methodLink RX2 206 yX1_isOnWay, Cond.instanceMethod yX1_isOnWay, Cond.selects RX1 yX1_isOnWay yX1_isOnWay, Cond.code yX1_isOnWay cX1_isOnWay 1 (some .boolean), Cond.fieldLink RX1 18 "CraneCampaign$Crane" "goal" "I", Cond.methodLink RX2 211 yX2_hoursBetween, Cond.instanceMethod yX2_hoursBetween, Cond.selects RX2 yX2_hoursBetween yX2_hoursBetween, Cond.code yX2_hoursBetween cX2_hoursBetween 6 (some .int), Cond.methodLink RX2 156 Lib.Math.max.name, Cond.static Lib.Math.max.name, Cond.code Lib.Math.max.name Lib.Math.max.code 2 (some .int), Cond.methodLink RX2 162 Lib.Math.abs.name, Cond.static Lib.Math.abs.name]
def wsX2_runHours_r4 : List Cond := [Cond.code Lib.Math.abs.name Lib.Math.abs.code 1 (some .int), Cond.fieldLink RX2 24 "CraneCampaign$Farm" "bogs" "LCraneCampaign$Bogs;", Cond.methodLink RX2 165 Lib.Math.min.name, Cond.methodLink RX2 168 yX0_countBetween, Cond.instanceMethod yX0_countBetween, Cond.selects RX0 yX0_countBetween yX0_countBetween, Cond.initialized RX0, Cond.code yX0_countBetween cX0_countBetween 6 (some .int), Cond.fieldLink RX0 18 "CraneCampaign$Bogs" "count" "I", Cond.fieldLink RX0 9 "CraneCampaign$Bogs" "place" "[I", Cond.fieldLink RX0 15 "CraneCampaign$Bogs" "need" "[I", Cond.methodLink RX2 214 yX1_driveTo, Cond.instanceMethod yX1_driveTo, Cond.selects RX1 yX1_driveTo yX1_driveTo, Cond.code yX1_driveTo cX1_driveTo 4 none, Cond.fieldLink RX1 15 "CraneCampaign$Crane" "hoursLeft" "I", Cond.methodLink RX1 27 Lib.Math.max.name, Cond.fieldLink RX1 9 "CraneCampaign$Crane" "place" "I", Cond.methodLink RX2 131 yX3_unloadedFor, Cond.instanceMethod yX3_unloadedFor, Cond.selects RX3 yX3_unloadedFor yX3_unloadedFor, Cond.code yX3_unloadedFor cX3_unloadedFor 4 (some .int), Cond.fieldLink RX3 9 "CraneCampaign$Harbour" "turbine" "[I", Cond.methodLink RX2 137 yX2_windNow]
def wsX2_runHours_r5 : List Cond := [Cond.instanceMethod yX2_windNow, Cond.selects RX2 yX2_windNow yX2_windNow, Cond.code yX2_windNow cX2_windNow 1 (some .int), Cond.fieldLink RX2 52 "CraneCampaign$Farm" "winds" "LCraneCampaign$Winds;", Cond.methodLink RX2 108 yX7_at, Cond.instanceMethod yX7_at, Cond.selects RX7 yX7_at yX7_at, Cond.initialized RX7, Cond.code yX7_at cX7_at 2 (some .int), Cond.fieldLink RX7 15 "CraneCampaign$Winds" "count" "I", Cond.fieldLink RX7 9 "CraneCampaign$Winds" "row" "[I", Cond.methodLink RX2 125 yX5_limit, Cond.instanceMethod yX5_limit, Cond.selects RX5 yX5_limit yX5_limit, Cond.initialized RX5, Cond.code yX5_limit cX5_limit 2 (some .int), Cond.fieldLink RX5 15 "CraneCampaign$Turbine" "height" "I", Cond.methodLink RX2 217 yX1_workAnHourOn, Cond.instanceMethod yX1_workAnHourOn, Cond.selects RX1 yX1_workAnHourOn yX1_workAnHourOn, Cond.code yX1_workAnHourOn cX1_workAnHourOn 2 none, Cond.methodLink RX2 188 yX2_sharePower, Cond.instanceMethod yX2_sharePower, Cond.selects RX2 yX2_sharePower yX2_sharePower]
def wsX2_runHours_r6 : List Cond := [Cond.code yX2_sharePower cX2_sharePower 9 (some .int), Cond.fieldLink RX2 134 "CraneCampaign$Turbine" "lost" "I", Cond.fieldLink RX2 105 "CraneCampaign$Turbine" "won" "I", Cond.fieldLink RX2 60 "CraneCampaign$Farm" "lostBy" "[I", Cond.methodLink RX2 141 yX5_fullPower, Cond.instanceMethod yX5_fullPower, Cond.selects RX5 yX5_fullPower yX5_fullPower, Cond.code yX5_fullPower cX5_fullPower 2 (some .int), Cond.fieldLink RX5 18 "CraneCampaign$Turbine" "rate" "I", Cond.methodLink RX5 33 Lib.Math.min.name, Cond.methodLink RX2 191 yX2_finishIfDone, Cond.instanceMethod yX2_finishIfDone, Cond.selects RX2 yX2_finishIfDone yX2_finishIfDone, Cond.code yX2_finishIfDone cX2_finishIfDone 2 none, Cond.fieldLink RX2 220 "CraneCampaign$Crane" "workDone" "I", Cond.fieldLink RX2 122 "CraneCampaign$Turbine" "age" "I", Cond.methodLink RX2 223 yX3_useBladeFor, Cond.instanceMethod yX3_useBladeFor, Cond.selects RX3 yX3_useBladeFor yX3_useBladeFor, Cond.code yX3_useBladeFor cX3_useBladeFor 3 none, Cond.methodLink RX3 38 yX3_removeAt, Cond.instanceMethod yX3_removeAt, Cond.selects RX3 yX3_removeAt yX3_removeAt, Cond.code yX3_removeAt cX3_removeAt 3 none]
def wsX2_runHours_r7 : List Cond := [Cond.methodLink RX2 128 yX4_placeOf, Cond.instanceMethod yX4_placeOf, Cond.selects RX4 yX4_placeOf yX4_placeOf, Cond.code yX4_placeOf cX4_placeOf 3 (some .int), Cond.methodLink RX2 194 yX2_worsen, Cond.instanceMethod yX2_worsen, Cond.selects RX2 yX2_worsen yX2_worsen, Cond.code yX2_worsen cX2_worsen 3 none, Cond.methodLink RX2 226 yX5_growOlder, Cond.instanceMethod yX5_growOlder, Cond.selects RX5 yX5_growOlder yX5_growOlder, Cond.code yX5_growOlder cX5_growOlder 2 none, Cond.fieldLink RX5 21 "CraneCampaign$Turbine" "fault" "I", Cond.fieldLink RX5 24 "CraneCampaign$Turbine" "age" "I"]
def wsX2_runHours : List Cond := .code yX2_runHours cX2_runHours 4 (some .int) :: ((wsX2_runHours_r1 ++ (wsX2_runHours_r2 ++ (wsX2_runHours_r3 ++ (wsX2_runHours_r4 ++ (wsX2_runHours_r5 ++ (wsX2_runHours_r6 ++ wsX2_runHours_r7)))))) ++ wsX20 ++ wsX30 ++ wsX40 ++ wsX10 ++ wsX50 ++ wsX00 ++ wsX70)
def wsX3_isFull : List Cond := .code yX3_isFull cX3_isFull 1 (some .boolean) :: ([.fieldLink RX3 18 "CraneCampaign$Harbour" "count" "I"] ++ wsX30)
def wsX3_take : List Cond := .code yX3_take cX3_take 3 none :: ([.fieldLink RX3 9 "CraneCampaign$Harbour" "turbine" "[I", .fieldLink RX3 18 "CraneCampaign$Harbour" "count" "I", .fieldLink RX3 15 "CraneCampaign$Harbour" "weight" "[I", .methodLink RX3 28 yX3_isFull, .instanceMethod yX3_isFull, .selects RX3 yX3_isFull yX3_isFull, .initialized RX3, .code yX3_isFull cX3_isFull 1 (some .boolean)] ++ wsX30)
def wsX4_countWithout : List Cond := .code yX4_countWithout cX4_countWithout 2 (some .int) :: ([.fieldLink RX4 15 "CraneCampaign$Plan" "count" "I", .methodLink RX4 25 yX4_placeOf, .instanceMethod yX4_placeOf, .selects RX4 yX4_placeOf yX4_placeOf, .initialized RX4, .code yX4_placeOf cX4_placeOf 3 (some .int), .fieldLink RX4 9 "CraneCampaign$Plan" "row" "[I"] ++ wsX40)
def wsX4_moveTo : List Cond := .code yX4_moveTo cX4_moveTo 4 none :: ([.fieldLink RX4 15 "CraneCampaign$Plan" "count" "I", .fieldLink RX4 9 "CraneCampaign$Plan" "row" "[I", .methodLink RX4 25 yX4_placeOf, .instanceMethod yX4_placeOf, .selects RX4 yX4_placeOf yX4_placeOf, .initialized RX4, .code yX4_placeOf cX4_placeOf 3 (some .int), .methodLink RX4 29 yX4_removeAt, .instanceMethod yX4_removeAt, .selects RX4 yX4_removeAt yX4_removeAt, .code yX4_removeAt cX4_removeAt 3 none] ++ wsX40)
def wsX5_bladeWeight : List Cond := .code yX5_bladeWeight cX5_bladeWeight 1 (some .int) :: ([.fieldLink RX5 15 "CraneCampaign$Turbine" "height" "I"] ++ wsX50)
def wsX6_init : List Cond := .code yX6_init cX6_init 1 none :: ([.methodLink RX6 3 objectInit, .instanceMethod objectInit, .code objectInit ⟨#[0xb1]⟩ 1 none, .arrayClass .int, .fieldLink RX6 9 "CraneCampaign$WindText" "letters" "[I", .fieldLink RX6 15 "CraneCampaign$WindText" "length" "I"] ++ wsX60)
def wsX6_isFull : List Cond := .code yX6_isFull cX6_isFull 1 (some .boolean) :: ([.fieldLink RX6 15 "CraneCampaign$WindText" "length" "I"] ++ wsX60)
def wsX6_add : List Cond := .code yX6_add cX6_add 2 none :: ([.fieldLink RX6 9 "CraneCampaign$WindText" "letters" "[I", .fieldLink RX6 15 "CraneCampaign$WindText" "length" "I", .methodLink RX6 19 yX6_isFull, .instanceMethod yX6_isFull, .selects RX6 yX6_isFull yX6_isFull, .initialized RX6, .code yX6_isFull cX6_isFull 1 (some .boolean)] ++ wsX60)
def wsX6_isNumber : List Cond := .code yX6_isNumber cX6_isNumber 1 (some .boolean) :: ([])
def wsX6_isEndOfPart : List Cond := .code yX6_isEndOfPart cX6_isEndOfPart 1 (some .boolean) :: ([.methodLink RX6 31 yX6_isNumber, .static yX6_isNumber, .initialized RX6, .code yX6_isNumber cX6_isNumber 1 (some .boolean)])
def wsX6_afterFirstOfNumber : List Cond := .code yX6_afterFirstOfNumber cX6_afterFirstOfNumber 1 (some .int) :: ([])
def wsX6_afterFirstOfTimes : List Cond := .code yX6_afterFirstOfTimes cX6_afterFirstOfTimes 1 (some .int) :: ([])
def wsX6_afterDigit : List Cond := .code yX6_afterDigit cX6_afterDigit 2 (some .int) :: ([.methodLink RX6 37 yX6_afterFirstOfNumber, .static yX6_afterFirstOfNumber, .initialized RX6, .code yX6_afterFirstOfNumber cX6_afterFirstOfNumber 1 (some .int), .methodLink RX6 41 yX6_afterFirstOfTimes, .static yX6_afterFirstOfTimes, .code yX6_afterFirstOfTimes cX6_afterFirstOfTimes 1 (some .int)])
def wsX6_after : List Cond := .code yX6_after cX6_after 2 (some .int) :: ([.methodLink RX6 27 yX6_isEndOfPart, .static yX6_isEndOfPart, .initialized RX6, .code yX6_isEndOfPart cX6_isEndOfPart 1 (some .boolean), .methodLink RX6 31 yX6_isNumber, .static yX6_isNumber, .code yX6_isNumber cX6_isNumber 1 (some .boolean), .methodLink RX6 34 yX6_afterDigit, .static yX6_afterDigit, .code yX6_afterDigit cX6_afterDigit 2 (some .int), .methodLink RX6 37 yX6_afterFirstOfNumber, .static yX6_afterFirstOfNumber, .code yX6_afterFirstOfNumber cX6_afterFirstOfNumber 1 (some .int), .methodLink RX6 41 yX6_afterFirstOfTimes, .static yX6_afterFirstOfTimes, .code yX6_afterFirstOfTimes cX6_afterFirstOfTimes 1 (some .int)])
def wsX6_isComplete : List Cond := .code yX6_isComplete cX6_isComplete 3 (some .boolean) :: ([.fieldLink RX6 15 "CraneCampaign$WindText" "length" "I", .fieldLink RX6 9 "CraneCampaign$WindText" "letters" "[I", .methodLink RX6 23 yX6_after, .static yX6_after, .initialized RX6, .code yX6_after cX6_after 2 (some .int), .methodLink RX6 27 yX6_isEndOfPart, .static yX6_isEndOfPart, .code yX6_isEndOfPart cX6_isEndOfPart 1 (some .boolean), .methodLink RX6 31 yX6_isNumber, .static yX6_isNumber, .code yX6_isNumber cX6_isNumber 1 (some .boolean), .methodLink RX6 34 yX6_afterDigit, .static yX6_afterDigit, .code yX6_afterDigit cX6_afterDigit 2 (some .int), .methodLink RX6 37 yX6_afterFirstOfNumber, .static yX6_afterFirstOfNumber, .code yX6_afterFirstOfNumber cX6_afterFirstOfNumber 1 (some .int), .methodLink RX6 41 yX6_afterFirstOfTimes, .static yX6_afterFirstOfTimes, .code yX6_afterFirstOfTimes cX6_afterFirstOfTimes 1 (some .int)] ++ wsX60)
def wsX6_valueFrom : List Cond := .code yX6_valueFrom cX6_valueFrom 4 (some .int) :: ([.fieldLink RX6 15 "CraneCampaign$WindText" "length" "I", .fieldLink RX6 9 "CraneCampaign$WindText" "letters" "[I"] ++ wsX60)
def wsX6_timesFrom : List Cond := .code yX6_timesFrom cX6_timesFrom 3 (some .int) :: ([.fieldLink RX6 15 "CraneCampaign$WindText" "length" "I", .fieldLink RX6 9 "CraneCampaign$WindText" "letters" "[I", .methodLink RX6 52 yX6_valueFrom, .instanceMethod yX6_valueFrom, .selects RX6 yX6_valueFrom yX6_valueFrom, .initialized RX6, .code yX6_valueFrom cX6_valueFrom 4 (some .int)] ++ wsX60)
def wsX6_numberCount : List Cond := .code yX6_numberCount cX6_numberCount 3 (some .int) :: ([.fieldLink RX6 15 "CraneCampaign$WindText" "length" "I", .fieldLink RX6 9 "CraneCampaign$WindText" "letters" "[I", .methodLink RX6 44 yX6_timesFrom, .instanceMethod yX6_timesFrom, .selects RX6 yX6_timesFrom yX6_timesFrom, .initialized RX6, .code yX6_timesFrom cX6_timesFrom 3 (some .int), .methodLink RX6 52 yX6_valueFrom, .instanceMethod yX6_valueFrom, .selects RX6 yX6_valueFrom yX6_valueFrom, .code yX6_valueFrom cX6_valueFrom 4 (some .int)] ++ wsX60)
def wsX7_add : List Cond := .code yX7_add cX7_add 2 none :: ([.fieldLink RX7 15 "CraneCampaign$Winds" "count" "I", .fieldLink RX7 9 "CraneCampaign$Winds" "row" "[I"] ++ wsX70)
def wsX6_writeTo : List Cond := .code yX6_writeTo cX6_writeTo 6 none :: ([.fieldLink RX6 47 "CraneCampaign$Winds" "count" "I", .fieldLink RX6 15 "CraneCampaign$WindText" "length" "I", .fieldLink RX6 9 "CraneCampaign$WindText" "letters" "[I", .methodLink RX6 52 yX6_valueFrom, .instanceMethod yX6_valueFrom, .selects RX6 yX6_valueFrom yX6_valueFrom, .initialized RX6, .code yX6_valueFrom cX6_valueFrom 4 (some .int), .methodLink RX6 44 yX6_timesFrom, .instanceMethod yX6_timesFrom, .selects RX6 yX6_timesFrom yX6_timesFrom, .code yX6_timesFrom cX6_timesFrom 3 (some .int), .methodLink RX6 55 yX7_add, .instanceMethod yX7_add, .selects RX7 yX7_add yX7_add, .initialized RX7, .code yX7_add cX7_add 2 none, .fieldLink RX7 15 "CraneCampaign$Winds" "count" "I", .fieldLink RX7 9 "CraneCampaign$Winds" "row" "[I"] ++ wsX70 ++ wsX60)
def wsX7_sum : List Cond := .code yX7_sum cX7_sum 3 (some .int) :: ([.fieldLink RX7 15 "CraneCampaign$Winds" "count" "I", .fieldLink RX7 9 "CraneCampaign$Winds" "row" "[I"] ++ wsX70)
def wsX8_init_r1 : List Cond := [Cond.methodLink RX8 1 objectInit, Cond.instanceMethod objectInit, Cond.code objectInit ⟨#[0xb1]⟩ 1 none, Cond.classLink RX8 7 RX2, Cond.instantiable RX2 10, Cond.initialized RX2, Cond.fieldLink RX8 10 "CraneCampaign" "farm" "LCraneCampaign$Farm;", Cond.fieldLink RX8 16 "CraneCampaign" "trial" "LCraneCampaign$Farm;", Cond.fieldLink RX8 19 "CraneCampaign" "saved" "[LCraneCampaign$Farm;", Cond.fieldLink RX8 23 "CraneCampaign" "oldestSaved" "I", Cond.fieldLink RX8 27 "CraneCampaign" "savedCount" "I", Cond.classLink RX8 30 RX6, Cond.instantiable RX6 2, Cond.initialized RX6, Cond.fieldLink RX8 33 "CraneCampaign" "buffer" "LCraneCampaign$WindText;", Cond.methodLink RX8 9 yX2_init, Cond.instanceMethod yX2_init, Cond.code yX2_init cX2_init 2 none, Cond.methodLink RX2 3 objectInit, Cond.classLink RX2 9 RX5, Cond.fieldLink RX2 11 "CraneCampaign$Farm" "turbines" "[LCraneCampaign$Turbine;", Cond.fieldLink RX2 17 "CraneCampaign$Farm" "turbineCount" "I", Cond.classLink RX2 21 RX0, Cond.instantiable RX0 3]
def wsX8_init_r2 : List Cond := [Cond.initialized RX0, Cond.fieldLink RX2 24 "CraneCampaign$Farm" "bogs" "LCraneCampaign$Bogs;", Cond.classLink RX2 28 RX3, Cond.instantiable RX3 3, Cond.initialized RX3, Cond.fieldLink RX2 31 "CraneCampaign$Farm" "harbour" "LCraneCampaign$Harbour;", Cond.classLink RX2 35 RX4, Cond.instantiable RX4 2, Cond.initialized RX4, Cond.fieldLink RX2 38 "CraneCampaign$Farm" "plan" "LCraneCampaign$Plan;", Cond.classLink RX2 42 RX1, Cond.instantiable RX1 5, Cond.initialized RX1, Cond.fieldLink RX2 45 "CraneCampaign$Farm" "crane" "LCraneCampaign$Crane;", Cond.classLink RX2 49 RX7, Cond.instantiable RX7 2, Cond.initialized RX7, Cond.fieldLink RX2 52 "CraneCampaign$Farm" "winds" "LCraneCampaign$Winds;", Cond.arrayClass .int, Cond.fieldLink RX2 56 "CraneCampaign$Farm" "settings" "[I", Cond.fieldLink RX2 60 "CraneCampaign$Farm" "lostBy" "[I", Cond.fieldLink RX2 63 "CraneCampaign$Farm" "hour" "I", Cond.instantiable RX5 7, Cond.initialized RX5]
def wsX8_init_r3 : List Cond := [Cond.methodLink RX2 70 arraycopyName, Cond.native arraycopyName, Cond.static arraycopyName, Cond.initialized "java/lang/System", Cond.instanceMethod yX0_init, Cond.code yX0_init cX0_init 1 none, Cond.methodLink RX0 3 objectInit, Cond.fieldLink RX0 9 "CraneCampaign$Bogs" "place" "[I", Cond.fieldLink RX0 15 "CraneCampaign$Bogs" "need" "[I", Cond.fieldLink RX0 18 "CraneCampaign$Bogs" "count" "I", Cond.instanceMethod yX3_init, Cond.code yX3_init cX3_init 1 none, Cond.methodLink RX3 3 objectInit, Cond.fieldLink RX3 9 "CraneCampaign$Harbour" "turbine" "[I", Cond.fieldLink RX3 15 "CraneCampaign$Harbour" "weight" "[I", Cond.fieldLink RX3 18 "CraneCampaign$Harbour" "count" "I", Cond.instanceMethod yX4_init, Cond.code yX4_init cX4_init 1 none, Cond.methodLink RX4 3 objectInit, Cond.fieldLink RX4 9 "CraneCampaign$Plan" "row" "[I", Cond.fieldLink RX4 15 "CraneCampaign$Plan" "count" "I", Cond.instanceMethod yX1_init, Cond.code yX1_init cX1_init 1 none, Cond.methodLink RX1 3 objectInit]
def wsX8_init_r4 : List Cond := [Cond.fieldLink RX1 9 "CraneCampaign$Crane" "place" "I", Cond.fieldLink RX1 15 "CraneCampaign$Crane" "hoursLeft" "I", Cond.fieldLink RX1 18 "CraneCampaign$Crane" "goal" "I", Cond.fieldLink RX1 21 "CraneCampaign$Crane" "workDone" "I", Cond.fieldLink RX1 24 "CraneCampaign$Crane" "workedOn" "I", Cond.instanceMethod yX7_init, Cond.code yX7_init cX7_init 1 none, Cond.methodLink RX7 3 objectInit, Cond.fieldLink RX7 9 "CraneCampaign$Winds" "row" "[I", Cond.fieldLink RX7 15 "CraneCampaign$Winds" "count" "I", Cond.instanceMethod yX5_init, Cond.code yX5_init cX5_init 1 none, Cond.methodLink RX5 3 objectInit, Cond.instanceMethod yX6_init, Cond.code yX6_init cX6_init 1 none, Cond.methodLink RX6 3 objectInit, Cond.fieldLink RX6 9 "CraneCampaign$WindText" "letters" "[I", Cond.fieldLink RX6 15 "CraneCampaign$WindText" "length" "I"]
def wsX8_init : List Cond := .code yX8_init cX8_init 2 none :: ((wsX8_init_r1 ++ (wsX8_init_r2 ++ (wsX8_init_r3 ++ wsX8_init_r4))) ++ wsX20 ++ wsX80 ++ wsX60 ++ wsX00 ++ wsX30 ++ wsX40 ++ wsX10 ++ wsX70 ++ wsX50)
def wsX8_isWithin : List Cond := .code yX8_isWithin cX8_isWithin 3 (some .boolean) :: ([])
def wsX8_saveState_r1 : List Cond := [Cond.fieldLink RX8 19 "CraneCampaign" "saved" "[LCraneCampaign$Farm;", Cond.fieldLink RX8 23 "CraneCampaign" "oldestSaved" "I", Cond.fieldLink RX8 27 "CraneCampaign" "savedCount" "I", Cond.fieldLink RX8 10 "CraneCampaign" "farm" "LCraneCampaign$Farm;", Cond.methodLink RX8 215 yX2_copyFrom, Cond.instanceMethod yX2_copyFrom, Cond.selects RX2 yX2_copyFrom yX2_copyFrom, Cond.initialized RX2, Cond.code yX2_copyFrom cX2_copyFrom 3 none, Cond.fieldLink RX2 17 "CraneCampaign$Farm" "turbineCount" "I", Cond.fieldLink RX2 11 "CraneCampaign$Farm" "turbines" "[LCraneCampaign$Turbine;", Cond.fieldLink RX2 24 "CraneCampaign$Farm" "bogs" "LCraneCampaign$Bogs;", Cond.fieldLink RX2 31 "CraneCampaign$Farm" "harbour" "LCraneCampaign$Harbour;", Cond.fieldLink RX2 38 "CraneCampaign$Farm" "plan" "LCraneCampaign$Plan;", Cond.fieldLink RX2 45 "CraneCampaign$Farm" "crane" "LCraneCampaign$Crane;", Cond.fieldLink RX2 52 "CraneCampaign$Farm" "winds" "LCraneCampaign$Winds;", Cond.fieldLink RX2 56 "CraneCampaign$Farm" "settings" "[I", Cond.methodLink RX2 70 arraycopyName, Cond.native arraycopyName, Cond.static arraycopyName, Cond.initialized "java/lang/System", Cond.fieldLink RX2 60 "CraneCampaign$Farm" "lostBy" "[I", Cond.fieldLink RX2 63 "CraneCampaign$Farm" "hour" "I", Cond.methodLink RX2 76 yX5_copyFrom]
def wsX8_saveState_r2 : List Cond := [Cond.instanceMethod yX5_copyFrom, Cond.selects RX5 yX5_copyFrom yX5_copyFrom, Cond.initialized RX5, Cond.code yX5_copyFrom cX5_copyFrom 2 none, Cond.fieldLink RX5 9 "CraneCampaign$Turbine" "place" "I", Cond.fieldLink RX5 15 "CraneCampaign$Turbine" "height" "I", Cond.fieldLink RX5 18 "CraneCampaign$Turbine" "rate" "I", Cond.fieldLink RX5 21 "CraneCampaign$Turbine" "fault" "I", Cond.fieldLink RX5 24 "CraneCampaign$Turbine" "age" "I", Cond.fieldLink RX5 27 "CraneCampaign$Turbine" "lost" "I", Cond.fieldLink RX5 30 "CraneCampaign$Turbine" "won" "I", Cond.methodLink RX2 80 yX0_copyFrom, Cond.instanceMethod yX0_copyFrom, Cond.selects RX0 yX0_copyFrom yX0_copyFrom, Cond.initialized RX0, Cond.code yX0_copyFrom cX0_copyFrom 2 none, Cond.fieldLink RX0 9 "CraneCampaign$Bogs" "place" "[I", Cond.methodLink RX0 22 arraycopyName, Cond.fieldLink RX0 15 "CraneCampaign$Bogs" "need" "[I", Cond.fieldLink RX0 18 "CraneCampaign$Bogs" "count" "I", Cond.methodLink RX2 83 yX3_copyFrom, Cond.instanceMethod yX3_copyFrom, Cond.selects RX3 yX3_copyFrom yX3_copyFrom, Cond.initialized RX3]
def wsX8_saveState_r3 : List Cond := [Cond.code yX3_copyFrom cX3_copyFrom 2 none, Cond.fieldLink RX3 9 "CraneCampaign$Harbour" "turbine" "[I", Cond.methodLink RX3 22 arraycopyName, Cond.fieldLink RX3 15 "CraneCampaign$Harbour" "weight" "[I", Cond.fieldLink RX3 18 "CraneCampaign$Harbour" "count" "I", Cond.methodLink RX2 86 yX4_copyFrom, Cond.instanceMethod yX4_copyFrom, Cond.selects RX4 yX4_copyFrom yX4_copyFrom, Cond.initialized RX4, Cond.code yX4_copyFrom cX4_copyFrom 2 none, Cond.fieldLink RX4 9 "CraneCampaign$Plan" "row" "[I", Cond.methodLink RX4 19 arraycopyName, Cond.fieldLink RX4 15 "CraneCampaign$Plan" "count" "I", Cond.methodLink RX2 89 yX1_copyFrom, Cond.instanceMethod yX1_copyFrom, Cond.selects RX1 yX1_copyFrom yX1_copyFrom, Cond.initialized RX1, Cond.code yX1_copyFrom cX1_copyFrom 2 none, Cond.fieldLink RX1 9 "CraneCampaign$Crane" "place" "I", Cond.fieldLink RX1 15 "CraneCampaign$Crane" "hoursLeft" "I", Cond.fieldLink RX1 18 "CraneCampaign$Crane" "goal" "I", Cond.fieldLink RX1 21 "CraneCampaign$Crane" "workDone" "I", Cond.fieldLink RX1 24 "CraneCampaign$Crane" "workedOn" "I", Cond.methodLink RX2 92 yX7_copyFrom]
def wsX8_saveState_r4 : List Cond := [Cond.instanceMethod yX7_copyFrom, Cond.selects RX7 yX7_copyFrom yX7_copyFrom, Cond.initialized RX7, Cond.code yX7_copyFrom cX7_copyFrom 2 none, Cond.fieldLink RX7 9 "CraneCampaign$Winds" "row" "[I", Cond.methodLink RX7 19 arraycopyName, Cond.fieldLink RX7 15 "CraneCampaign$Winds" "count" "I"]
def wsX8_saveState : List Cond := .code yX8_saveState cX8_saveState 1 none :: ((wsX8_saveState_r1 ++ (wsX8_saveState_r2 ++ (wsX8_saveState_r3 ++ wsX8_saveState_r4))) ++ wsX80 ++ wsX20 ++ wsX50 ++ wsX00 ++ wsX30 ++ wsX40 ++ wsX10 ++ wsX70)
def wsX8_addTurbine_r1 : List Cond := [Cond.classLink RX8 41 "java/lang/IllegalArgumentException", Cond.initialized "java/lang/IllegalArgumentException", Cond.classLink RX8 55 "java/lang/IllegalStateException", Cond.initialized "java/lang/IllegalStateException", Cond.fieldLink RX8 10 "CraneCampaign" "farm" "LCraneCampaign$Farm;", Cond.fieldLink RX8 48 "CraneCampaign$Farm" "turbineCount" "I", Cond.methodLink RX8 37 yX8_isWithin, Cond.static yX8_isWithin, Cond.initialized RX8, Cond.code yX8_isWithin cX8_isWithin 3 (some .boolean), Cond.methodLink RX8 51 yX2_hasTurbineAt, Cond.instanceMethod yX2_hasTurbineAt, Cond.selects RX2 yX2_hasTurbineAt yX2_hasTurbineAt, Cond.initialized RX2, Cond.code yX2_hasTurbineAt cX2_hasTurbineAt 3 (some .boolean), Cond.fieldLink RX2 17 "CraneCampaign$Farm" "turbineCount" "I", Cond.fieldLink RX2 11 "CraneCampaign$Farm" "turbines" "[LCraneCampaign$Turbine;", Cond.fieldLink RX2 95 "CraneCampaign$Turbine" "place" "I", Cond.methodLink RX8 60 yX8_saveState, Cond.instanceMethod yX8_saveState, Cond.selects RX8 yX8_saveState yX8_saveState, Cond.code yX8_saveState cX8_saveState 1 none, Cond.fieldLink RX8 19 "CraneCampaign" "saved" "[LCraneCampaign$Farm;", Cond.fieldLink RX8 23 "CraneCampaign" "oldestSaved" "I"]
def wsX8_addTurbine_r2 : List Cond := [Cond.fieldLink RX8 27 "CraneCampaign" "savedCount" "I", Cond.methodLink RX8 215 yX2_copyFrom, Cond.instanceMethod yX2_copyFrom, Cond.selects RX2 yX2_copyFrom yX2_copyFrom, Cond.code yX2_copyFrom cX2_copyFrom 3 none, Cond.fieldLink RX2 24 "CraneCampaign$Farm" "bogs" "LCraneCampaign$Bogs;", Cond.fieldLink RX2 31 "CraneCampaign$Farm" "harbour" "LCraneCampaign$Harbour;", Cond.fieldLink RX2 38 "CraneCampaign$Farm" "plan" "LCraneCampaign$Plan;", Cond.fieldLink RX2 45 "CraneCampaign$Farm" "crane" "LCraneCampaign$Crane;", Cond.fieldLink RX2 52 "CraneCampaign$Farm" "winds" "LCraneCampaign$Winds;", Cond.fieldLink RX2 56 "CraneCampaign$Farm" "settings" "[I", Cond.methodLink RX2 70 arraycopyName, Cond.native arraycopyName, Cond.static arraycopyName, Cond.initialized "java/lang/System", Cond.fieldLink RX2 60 "CraneCampaign$Farm" "lostBy" "[I", Cond.fieldLink RX2 63 "CraneCampaign$Farm" "hour" "I", Cond.methodLink RX2 76 yX5_copyFrom, Cond.instanceMethod yX5_copyFrom, Cond.selects RX5 yX5_copyFrom yX5_copyFrom, Cond.initialized RX5, Cond.code yX5_copyFrom cX5_copyFrom 2 none, Cond.fieldLink RX5 9 "CraneCampaign$Turbine" "place" "I", Cond.fieldLink RX5 15 "CraneCampaign$Turbine" "height" "I"]
def wsX8_addTurbine_r3 : List Cond := [Cond.fieldLink RX5 18 "CraneCampaign$Turbine" "rate" "I", Cond.fieldLink RX5 21 "CraneCampaign$Turbine" "fault" "I", Cond.fieldLink RX5 24 "CraneCampaign$Turbine" "age" "I", Cond.fieldLink RX5 27 "CraneCampaign$Turbine" "lost" "I", Cond.fieldLink RX5 30 "CraneCampaign$Turbine" "won" "I", Cond.methodLink RX2 80 yX0_copyFrom, Cond.instanceMethod yX0_copyFrom, Cond.selects RX0 yX0_copyFrom yX0_copyFrom, Cond.initialized RX0, Cond.code yX0_copyFrom cX0_copyFrom 2 none, Cond.fieldLink RX0 9 "CraneCampaign$Bogs" "place" "[I", Cond.methodLink RX0 22 arraycopyName, Cond.fieldLink RX0 15 "CraneCampaign$Bogs" "need" "[I", Cond.fieldLink RX0 18 "CraneCampaign$Bogs" "count" "I", Cond.methodLink RX2 83 yX3_copyFrom, Cond.instanceMethod yX3_copyFrom, Cond.selects RX3 yX3_copyFrom yX3_copyFrom, Cond.initialized RX3, Cond.code yX3_copyFrom cX3_copyFrom 2 none, Cond.fieldLink RX3 9 "CraneCampaign$Harbour" "turbine" "[I", Cond.methodLink RX3 22 arraycopyName, Cond.fieldLink RX3 15 "CraneCampaign$Harbour" "weight" "[I", Cond.fieldLink RX3 18 "CraneCampaign$Harbour" "count" "I", Cond.methodLink RX2 86 yX4_copyFrom]
def wsX8_addTurbine_r4 : List Cond := [Cond.instanceMethod yX4_copyFrom, Cond.selects RX4 yX4_copyFrom yX4_copyFrom, Cond.initialized RX4, Cond.code yX4_copyFrom cX4_copyFrom 2 none, Cond.fieldLink RX4 9 "CraneCampaign$Plan" "row" "[I", Cond.methodLink RX4 19 arraycopyName, Cond.fieldLink RX4 15 "CraneCampaign$Plan" "count" "I", Cond.methodLink RX2 89 yX1_copyFrom, Cond.instanceMethod yX1_copyFrom, Cond.selects RX1 yX1_copyFrom yX1_copyFrom, Cond.initialized RX1, Cond.code yX1_copyFrom cX1_copyFrom 2 none, Cond.fieldLink RX1 9 "CraneCampaign$Crane" "place" "I", Cond.fieldLink RX1 15 "CraneCampaign$Crane" "hoursLeft" "I", Cond.fieldLink RX1 18 "CraneCampaign$Crane" "goal" "I", Cond.fieldLink RX1 21 "CraneCampaign$Crane" "workDone" "I", Cond.fieldLink RX1 24 "CraneCampaign$Crane" "workedOn" "I", Cond.methodLink RX2 92 yX7_copyFrom, Cond.instanceMethod yX7_copyFrom, Cond.selects RX7 yX7_copyFrom yX7_copyFrom, Cond.initialized RX7, Cond.code yX7_copyFrom cX7_copyFrom 2 none, Cond.fieldLink RX7 9 "CraneCampaign$Winds" "row" "[I", Cond.methodLink RX7 19 arraycopyName]
def wsX8_addTurbine_r5 : List Cond := [Cond.fieldLink RX7 15 "CraneCampaign$Winds" "count" "I", Cond.methodLink RX8 63 yX2_buildTurbine, Cond.instanceMethod yX2_buildTurbine, Cond.selects RX2 yX2_buildTurbine yX2_buildTurbine, Cond.code yX2_buildTurbine cX2_buildTurbine 4 (some .int), Cond.methodLink RX2 98 yX5_begin, Cond.instanceMethod yX5_begin, Cond.selects RX5 yX5_begin yX5_begin, Cond.code yX5_begin cX5_begin 4 none]
def wsX8_addTurbine : List Cond := .code yX8_addTurbine cX8_addTurbine 4 (some .int) :: ((wsX8_addTurbine_r1 ++ (wsX8_addTurbine_r2 ++ (wsX8_addTurbine_r3 ++ (wsX8_addTurbine_r4 ++ wsX8_addTurbine_r5)))) ++ wsX80 ++ wsX20 ++ wsX50 ++ wsX00 ++ wsX30 ++ wsX40 ++ wsX10 ++ wsX70)
def wsX8_requireTurbine : List Cond := .code yX8_requireTurbine cX8_requireTurbine 2 none :: ([.classLink RX8 134 "java/lang/IndexOutOfBoundsException", .initialized "java/lang/IndexOutOfBoundsException", .fieldLink RX8 10 "CraneCampaign" "farm" "LCraneCampaign$Farm;", .methodLink RX8 319 yX2_hasTurbine, .instanceMethod yX2_hasTurbine, .selects RX2 yX2_hasTurbine yX2_hasTurbine, .initialized RX2, .code yX2_hasTurbine cX2_hasTurbine 2 (some .boolean), .fieldLink RX2 17 "CraneCampaign$Farm" "turbineCount" "I"] ++ wsX80 ++ wsX20)
def wsX8_setFault_r1 : List Cond := [Cond.classLink RX8 41 "java/lang/IllegalArgumentException", Cond.initialized "java/lang/IllegalArgumentException", Cond.fieldLink RX8 10 "CraneCampaign" "farm" "LCraneCampaign$Farm;", Cond.fieldLink RX8 73 "CraneCampaign$Farm" "turbines" "[LCraneCampaign$Turbine;", Cond.fieldLink RX8 77 "CraneCampaign$Turbine" "fault" "I", Cond.fieldLink RX8 82 "CraneCampaign$Turbine" "age" "I", Cond.methodLink RX8 67 yX8_requireTurbine, Cond.instanceMethod yX8_requireTurbine, Cond.selects RX8 yX8_requireTurbine yX8_requireTurbine, Cond.initialized RX8, Cond.code yX8_requireTurbine cX8_requireTurbine 2 none, Cond.classLink RX8 134 "java/lang/IndexOutOfBoundsException", Cond.initialized "java/lang/IndexOutOfBoundsException", Cond.methodLink RX8 319 yX2_hasTurbine, Cond.instanceMethod yX2_hasTurbine, Cond.selects RX2 yX2_hasTurbine yX2_hasTurbine, Cond.initialized RX2, Cond.code yX2_hasTurbine cX2_hasTurbine 2 (some .boolean), Cond.fieldLink RX2 17 "CraneCampaign$Farm" "turbineCount" "I", Cond.methodLink RX8 37 yX8_isWithin, Cond.static yX8_isWithin, Cond.code yX8_isWithin cX8_isWithin 3 (some .boolean), Cond.methodLink RX8 60 yX8_saveState, Cond.instanceMethod yX8_saveState]
def wsX8_setFault_r2 : List Cond := [Cond.selects RX8 yX8_saveState yX8_saveState, Cond.code yX8_saveState cX8_saveState 1 none, Cond.fieldLink RX8 19 "CraneCampaign" "saved" "[LCraneCampaign$Farm;", Cond.fieldLink RX8 23 "CraneCampaign" "oldestSaved" "I", Cond.fieldLink RX8 27 "CraneCampaign" "savedCount" "I", Cond.methodLink RX8 215 yX2_copyFrom, Cond.instanceMethod yX2_copyFrom, Cond.selects RX2 yX2_copyFrom yX2_copyFrom, Cond.code yX2_copyFrom cX2_copyFrom 3 none, Cond.fieldLink RX2 11 "CraneCampaign$Farm" "turbines" "[LCraneCampaign$Turbine;", Cond.fieldLink RX2 24 "CraneCampaign$Farm" "bogs" "LCraneCampaign$Bogs;", Cond.fieldLink RX2 31 "CraneCampaign$Farm" "harbour" "LCraneCampaign$Harbour;", Cond.fieldLink RX2 38 "CraneCampaign$Farm" "plan" "LCraneCampaign$Plan;", Cond.fieldLink RX2 45 "CraneCampaign$Farm" "crane" "LCraneCampaign$Crane;", Cond.fieldLink RX2 52 "CraneCampaign$Farm" "winds" "LCraneCampaign$Winds;", Cond.fieldLink RX2 56 "CraneCampaign$Farm" "settings" "[I", Cond.methodLink RX2 70 arraycopyName, Cond.native arraycopyName, Cond.static arraycopyName, Cond.initialized "java/lang/System", Cond.fieldLink RX2 60 "CraneCampaign$Farm" "lostBy" "[I", Cond.fieldLink RX2 63 "CraneCampaign$Farm" "hour" "I", Cond.methodLink RX2 76 yX5_copyFrom, Cond.instanceMethod yX5_copyFrom]
def wsX8_setFault_r3 : List Cond := [Cond.selects RX5 yX5_copyFrom yX5_copyFrom, Cond.initialized RX5, Cond.code yX5_copyFrom cX5_copyFrom 2 none, Cond.fieldLink RX5 9 "CraneCampaign$Turbine" "place" "I", Cond.fieldLink RX5 15 "CraneCampaign$Turbine" "height" "I", Cond.fieldLink RX5 18 "CraneCampaign$Turbine" "rate" "I", Cond.fieldLink RX5 21 "CraneCampaign$Turbine" "fault" "I", Cond.fieldLink RX5 24 "CraneCampaign$Turbine" "age" "I", Cond.fieldLink RX5 27 "CraneCampaign$Turbine" "lost" "I", Cond.fieldLink RX5 30 "CraneCampaign$Turbine" "won" "I", Cond.methodLink RX2 80 yX0_copyFrom, Cond.instanceMethod yX0_copyFrom, Cond.selects RX0 yX0_copyFrom yX0_copyFrom, Cond.initialized RX0, Cond.code yX0_copyFrom cX0_copyFrom 2 none, Cond.fieldLink RX0 9 "CraneCampaign$Bogs" "place" "[I", Cond.methodLink RX0 22 arraycopyName, Cond.fieldLink RX0 15 "CraneCampaign$Bogs" "need" "[I", Cond.fieldLink RX0 18 "CraneCampaign$Bogs" "count" "I", Cond.methodLink RX2 83 yX3_copyFrom, Cond.instanceMethod yX3_copyFrom, Cond.selects RX3 yX3_copyFrom yX3_copyFrom, Cond.initialized RX3, Cond.code yX3_copyFrom cX3_copyFrom 2 none]
def wsX8_setFault_r4 : List Cond := [Cond.fieldLink RX3 9 "CraneCampaign$Harbour" "turbine" "[I", Cond.methodLink RX3 22 arraycopyName, Cond.fieldLink RX3 15 "CraneCampaign$Harbour" "weight" "[I", Cond.fieldLink RX3 18 "CraneCampaign$Harbour" "count" "I", Cond.methodLink RX2 86 yX4_copyFrom, Cond.instanceMethod yX4_copyFrom, Cond.selects RX4 yX4_copyFrom yX4_copyFrom, Cond.initialized RX4, Cond.code yX4_copyFrom cX4_copyFrom 2 none, Cond.fieldLink RX4 9 "CraneCampaign$Plan" "row" "[I", Cond.methodLink RX4 19 arraycopyName, Cond.fieldLink RX4 15 "CraneCampaign$Plan" "count" "I", Cond.methodLink RX2 89 yX1_copyFrom, Cond.instanceMethod yX1_copyFrom, Cond.selects RX1 yX1_copyFrom yX1_copyFrom, Cond.initialized RX1, Cond.code yX1_copyFrom cX1_copyFrom 2 none, Cond.fieldLink RX1 9 "CraneCampaign$Crane" "place" "I", Cond.fieldLink RX1 15 "CraneCampaign$Crane" "hoursLeft" "I", Cond.fieldLink RX1 18 "CraneCampaign$Crane" "goal" "I", Cond.fieldLink RX1 21 "CraneCampaign$Crane" "workDone" "I", Cond.fieldLink RX1 24 "CraneCampaign$Crane" "workedOn" "I", Cond.methodLink RX2 92 yX7_copyFrom, Cond.instanceMethod yX7_copyFrom]
def wsX8_setFault_r5 : List Cond := [Cond.selects RX7 yX7_copyFrom yX7_copyFrom, Cond.initialized RX7, Cond.code yX7_copyFrom cX7_copyFrom 2 none, Cond.fieldLink RX7 9 "CraneCampaign$Winds" "row" "[I", Cond.methodLink RX7 19 arraycopyName, Cond.fieldLink RX7 15 "CraneCampaign$Winds" "count" "I"]
def wsX8_setFault : List Cond := .code yX8_setFault cX8_setFault 5 (some .int) :: ((wsX8_setFault_r1 ++ (wsX8_setFault_r2 ++ (wsX8_setFault_r3 ++ (wsX8_setFault_r4 ++ wsX8_setFault_r5)))) ++ wsX80 ++ wsX20 ++ wsX50 ++ wsX00 ++ wsX30 ++ wsX40 ++ wsX10 ++ wsX70)
def wsX8_setBog_r1 : List Cond := [Cond.classLink RX8 41 "java/lang/IllegalArgumentException", Cond.initialized "java/lang/IllegalArgumentException", Cond.classLink RX8 55 "java/lang/IllegalStateException", Cond.initialized "java/lang/IllegalStateException", Cond.fieldLink RX8 10 "CraneCampaign" "farm" "LCraneCampaign$Farm;", Cond.fieldLink RX8 87 "CraneCampaign$Farm" "bogs" "LCraneCampaign$Bogs;", Cond.fieldLink RX8 107 "CraneCampaign$Bogs" "count" "I", Cond.methodLink RX8 37 yX8_isWithin, Cond.static yX8_isWithin, Cond.initialized RX8, Cond.code yX8_isWithin cX8_isWithin 3 (some .boolean), Cond.methodLink RX8 91 yX0_isFull, Cond.instanceMethod yX0_isFull, Cond.selects RX0 yX0_isFull yX0_isFull, Cond.initialized RX0, Cond.code yX0_isFull cX0_isFull 1 (some .boolean), Cond.fieldLink RX0 18 "CraneCampaign$Bogs" "count" "I", Cond.methodLink RX8 97 yX0_indexAt, Cond.instanceMethod yX0_indexAt, Cond.selects RX0 yX0_indexAt yX0_indexAt, Cond.code yX0_indexAt cX0_indexAt 3 (some .int), Cond.fieldLink RX0 9 "CraneCampaign$Bogs" "place" "[I", Cond.methodLink RX8 60 yX8_saveState, Cond.instanceMethod yX8_saveState]
def wsX8_setBog_r2 : List Cond := [Cond.selects RX8 yX8_saveState yX8_saveState, Cond.code yX8_saveState cX8_saveState 1 none, Cond.fieldLink RX8 19 "CraneCampaign" "saved" "[LCraneCampaign$Farm;", Cond.fieldLink RX8 23 "CraneCampaign" "oldestSaved" "I", Cond.fieldLink RX8 27 "CraneCampaign" "savedCount" "I", Cond.methodLink RX8 215 yX2_copyFrom, Cond.instanceMethod yX2_copyFrom, Cond.selects RX2 yX2_copyFrom yX2_copyFrom, Cond.initialized RX2, Cond.code yX2_copyFrom cX2_copyFrom 3 none, Cond.fieldLink RX2 17 "CraneCampaign$Farm" "turbineCount" "I", Cond.fieldLink RX2 11 "CraneCampaign$Farm" "turbines" "[LCraneCampaign$Turbine;", Cond.fieldLink RX2 24 "CraneCampaign$Farm" "bogs" "LCraneCampaign$Bogs;", Cond.fieldLink RX2 31 "CraneCampaign$Farm" "harbour" "LCraneCampaign$Harbour;", Cond.fieldLink RX2 38 "CraneCampaign$Farm" "plan" "LCraneCampaign$Plan;", Cond.fieldLink RX2 45 "CraneCampaign$Farm" "crane" "LCraneCampaign$Crane;", Cond.fieldLink RX2 52 "CraneCampaign$Farm" "winds" "LCraneCampaign$Winds;", Cond.fieldLink RX2 56 "CraneCampaign$Farm" "settings" "[I", Cond.methodLink RX2 70 arraycopyName, Cond.native arraycopyName, Cond.static arraycopyName, Cond.initialized "java/lang/System", Cond.fieldLink RX2 60 "CraneCampaign$Farm" "lostBy" "[I", Cond.fieldLink RX2 63 "CraneCampaign$Farm" "hour" "I"]
def wsX8_setBog_r3 : List Cond := [Cond.methodLink RX2 76 yX5_copyFrom, Cond.instanceMethod yX5_copyFrom, Cond.selects RX5 yX5_copyFrom yX5_copyFrom, Cond.initialized RX5, Cond.code yX5_copyFrom cX5_copyFrom 2 none, Cond.fieldLink RX5 9 "CraneCampaign$Turbine" "place" "I", Cond.fieldLink RX5 15 "CraneCampaign$Turbine" "height" "I", Cond.fieldLink RX5 18 "CraneCampaign$Turbine" "rate" "I", Cond.fieldLink RX5 21 "CraneCampaign$Turbine" "fault" "I", Cond.fieldLink RX5 24 "CraneCampaign$Turbine" "age" "I", Cond.fieldLink RX5 27 "CraneCampaign$Turbine" "lost" "I", Cond.fieldLink RX5 30 "CraneCampaign$Turbine" "won" "I", Cond.methodLink RX2 80 yX0_copyFrom, Cond.instanceMethod yX0_copyFrom, Cond.selects RX0 yX0_copyFrom yX0_copyFrom, Cond.code yX0_copyFrom cX0_copyFrom 2 none, Cond.methodLink RX0 22 arraycopyName, Cond.fieldLink RX0 15 "CraneCampaign$Bogs" "need" "[I", Cond.methodLink RX2 83 yX3_copyFrom, Cond.instanceMethod yX3_copyFrom, Cond.selects RX3 yX3_copyFrom yX3_copyFrom, Cond.initialized RX3, Cond.code yX3_copyFrom cX3_copyFrom 2 none, Cond.fieldLink RX3 9 "CraneCampaign$Harbour" "turbine" "[I"]
def wsX8_setBog_r4 : List Cond := [Cond.methodLink RX3 22 arraycopyName, Cond.fieldLink RX3 15 "CraneCampaign$Harbour" "weight" "[I", Cond.fieldLink RX3 18 "CraneCampaign$Harbour" "count" "I", Cond.methodLink RX2 86 yX4_copyFrom, Cond.instanceMethod yX4_copyFrom, Cond.selects RX4 yX4_copyFrom yX4_copyFrom, Cond.initialized RX4, Cond.code yX4_copyFrom cX4_copyFrom 2 none, Cond.fieldLink RX4 9 "CraneCampaign$Plan" "row" "[I", Cond.methodLink RX4 19 arraycopyName, Cond.fieldLink RX4 15 "CraneCampaign$Plan" "count" "I", Cond.methodLink RX2 89 yX1_copyFrom, Cond.instanceMethod yX1_copyFrom, Cond.selects RX1 yX1_copyFrom yX1_copyFrom, Cond.initialized RX1, Cond.code yX1_copyFrom cX1_copyFrom 2 none, Cond.fieldLink RX1 9 "CraneCampaign$Crane" "place" "I", Cond.fieldLink RX1 15 "CraneCampaign$Crane" "hoursLeft" "I", Cond.fieldLink RX1 18 "CraneCampaign$Crane" "goal" "I", Cond.fieldLink RX1 21 "CraneCampaign$Crane" "workDone" "I", Cond.fieldLink RX1 24 "CraneCampaign$Crane" "workedOn" "I", Cond.methodLink RX2 92 yX7_copyFrom, Cond.instanceMethod yX7_copyFrom, Cond.selects RX7 yX7_copyFrom yX7_copyFrom]
def wsX8_setBog_r5 : List Cond := [Cond.initialized RX7, Cond.code yX7_copyFrom cX7_copyFrom 2 none, Cond.fieldLink RX7 9 "CraneCampaign$Winds" "row" "[I", Cond.methodLink RX7 19 arraycopyName, Cond.fieldLink RX7 15 "CraneCampaign$Winds" "count" "I", Cond.methodLink RX8 103 yX0_put, Cond.instanceMethod yX0_put, Cond.selects RX0 yX0_put yX0_put, Cond.code yX0_put cX0_put 4 none, Cond.methodLink RX0 28 yX0_indexAt, Cond.methodLink RX0 32 yX0_removeAt, Cond.instanceMethod yX0_removeAt, Cond.selects RX0 yX0_removeAt yX0_removeAt, Cond.code yX0_removeAt cX0_removeAt 3 none, Cond.methodLink RX0 36 yX0_insert, Cond.instanceMethod yX0_insert, Cond.selects RX0 yX0_insert yX0_insert, Cond.code yX0_insert cX0_insert 5 none, Cond.methodLink RX0 40 yX0_isFull]
def wsX8_setBog : List Cond := .code yX8_setBog cX8_setBog 3 (some .int) :: ((wsX8_setBog_r1 ++ (wsX8_setBog_r2 ++ (wsX8_setBog_r3 ++ (wsX8_setBog_r4 ++ wsX8_setBog_r5)))) ++ wsX80 ++ wsX20 ++ wsX00 ++ wsX50 ++ wsX30 ++ wsX40 ++ wsX10 ++ wsX70)
def wsX8_requireSetting : List Cond := .code yX8_requireSetting cX8_requireSetting 1 none :: ([.classLink RX8 134 "java/lang/IndexOutOfBoundsException", .initialized "java/lang/IndexOutOfBoundsException", .methodLink RX8 37 yX8_isWithin, .static yX8_isWithin, .initialized RX8, .code yX8_isWithin cX8_isWithin 3 (some .boolean)])
def wsX8_set_r1 : List Cond := [Cond.classLink RX8 41 "java/lang/IllegalArgumentException", Cond.initialized "java/lang/IllegalArgumentException", Cond.fieldLink RX8 113 "CraneCampaign" "SETTING_LOWEST" "[I", Cond.fieldLink RX8 117 "CraneCampaign" "SETTING_HIGHEST" "[I", Cond.fieldLink RX8 10 "CraneCampaign" "farm" "LCraneCampaign$Farm;", Cond.fieldLink RX8 122 "CraneCampaign$Farm" "settings" "[I", Cond.methodLink RX8 110 yX8_requireSetting, Cond.static yX8_requireSetting, Cond.initialized RX8, Cond.code yX8_requireSetting cX8_requireSetting 1 none, Cond.classLink RX8 134 "java/lang/IndexOutOfBoundsException", Cond.initialized "java/lang/IndexOutOfBoundsException", Cond.methodLink RX8 37 yX8_isWithin, Cond.static yX8_isWithin, Cond.code yX8_isWithin cX8_isWithin 3 (some .boolean), Cond.methodLink RX8 60 yX8_saveState, Cond.instanceMethod yX8_saveState, Cond.selects RX8 yX8_saveState yX8_saveState, Cond.code yX8_saveState cX8_saveState 1 none, Cond.fieldLink RX8 19 "CraneCampaign" "saved" "[LCraneCampaign$Farm;", Cond.fieldLink RX8 23 "CraneCampaign" "oldestSaved" "I", Cond.fieldLink RX8 27 "CraneCampaign" "savedCount" "I", Cond.methodLink RX8 215 yX2_copyFrom, Cond.instanceMethod yX2_copyFrom]
def wsX8_set_r2 : List Cond := [Cond.selects RX2 yX2_copyFrom yX2_copyFrom, Cond.initialized RX2, Cond.code yX2_copyFrom cX2_copyFrom 3 none, Cond.fieldLink RX2 17 "CraneCampaign$Farm" "turbineCount" "I", Cond.fieldLink RX2 11 "CraneCampaign$Farm" "turbines" "[LCraneCampaign$Turbine;", Cond.fieldLink RX2 24 "CraneCampaign$Farm" "bogs" "LCraneCampaign$Bogs;", Cond.fieldLink RX2 31 "CraneCampaign$Farm" "harbour" "LCraneCampaign$Harbour;", Cond.fieldLink RX2 38 "CraneCampaign$Farm" "plan" "LCraneCampaign$Plan;", Cond.fieldLink RX2 45 "CraneCampaign$Farm" "crane" "LCraneCampaign$Crane;", Cond.fieldLink RX2 52 "CraneCampaign$Farm" "winds" "LCraneCampaign$Winds;", Cond.fieldLink RX2 56 "CraneCampaign$Farm" "settings" "[I", Cond.methodLink RX2 70 arraycopyName, Cond.native arraycopyName, Cond.static arraycopyName, Cond.initialized "java/lang/System", Cond.fieldLink RX2 60 "CraneCampaign$Farm" "lostBy" "[I", Cond.fieldLink RX2 63 "CraneCampaign$Farm" "hour" "I", Cond.methodLink RX2 76 yX5_copyFrom, Cond.instanceMethod yX5_copyFrom, Cond.selects RX5 yX5_copyFrom yX5_copyFrom, Cond.initialized RX5, Cond.code yX5_copyFrom cX5_copyFrom 2 none, Cond.fieldLink RX5 9 "CraneCampaign$Turbine" "place" "I", Cond.fieldLink RX5 15 "CraneCampaign$Turbine" "height" "I"]
def wsX8_set_r3 : List Cond := [Cond.fieldLink RX5 18 "CraneCampaign$Turbine" "rate" "I", Cond.fieldLink RX5 21 "CraneCampaign$Turbine" "fault" "I", Cond.fieldLink RX5 24 "CraneCampaign$Turbine" "age" "I", Cond.fieldLink RX5 27 "CraneCampaign$Turbine" "lost" "I", Cond.fieldLink RX5 30 "CraneCampaign$Turbine" "won" "I", Cond.methodLink RX2 80 yX0_copyFrom, Cond.instanceMethod yX0_copyFrom, Cond.selects RX0 yX0_copyFrom yX0_copyFrom, Cond.initialized RX0, Cond.code yX0_copyFrom cX0_copyFrom 2 none, Cond.fieldLink RX0 9 "CraneCampaign$Bogs" "place" "[I", Cond.methodLink RX0 22 arraycopyName, Cond.fieldLink RX0 15 "CraneCampaign$Bogs" "need" "[I", Cond.fieldLink RX0 18 "CraneCampaign$Bogs" "count" "I", Cond.methodLink RX2 83 yX3_copyFrom, Cond.instanceMethod yX3_copyFrom, Cond.selects RX3 yX3_copyFrom yX3_copyFrom, Cond.initialized RX3, Cond.code yX3_copyFrom cX3_copyFrom 2 none, Cond.fieldLink RX3 9 "CraneCampaign$Harbour" "turbine" "[I", Cond.methodLink RX3 22 arraycopyName, Cond.fieldLink RX3 15 "CraneCampaign$Harbour" "weight" "[I", Cond.fieldLink RX3 18 "CraneCampaign$Harbour" "count" "I", Cond.methodLink RX2 86 yX4_copyFrom]
def wsX8_set_r4 : List Cond := [Cond.instanceMethod yX4_copyFrom, Cond.selects RX4 yX4_copyFrom yX4_copyFrom, Cond.initialized RX4, Cond.code yX4_copyFrom cX4_copyFrom 2 none, Cond.fieldLink RX4 9 "CraneCampaign$Plan" "row" "[I", Cond.methodLink RX4 19 arraycopyName, Cond.fieldLink RX4 15 "CraneCampaign$Plan" "count" "I", Cond.methodLink RX2 89 yX1_copyFrom, Cond.instanceMethod yX1_copyFrom, Cond.selects RX1 yX1_copyFrom yX1_copyFrom, Cond.initialized RX1, Cond.code yX1_copyFrom cX1_copyFrom 2 none, Cond.fieldLink RX1 9 "CraneCampaign$Crane" "place" "I", Cond.fieldLink RX1 15 "CraneCampaign$Crane" "hoursLeft" "I", Cond.fieldLink RX1 18 "CraneCampaign$Crane" "goal" "I", Cond.fieldLink RX1 21 "CraneCampaign$Crane" "workDone" "I", Cond.fieldLink RX1 24 "CraneCampaign$Crane" "workedOn" "I", Cond.methodLink RX2 92 yX7_copyFrom, Cond.instanceMethod yX7_copyFrom, Cond.selects RX7 yX7_copyFrom yX7_copyFrom, Cond.initialized RX7, Cond.code yX7_copyFrom cX7_copyFrom 2 none, Cond.fieldLink RX7 9 "CraneCampaign$Winds" "row" "[I", Cond.methodLink RX7 19 arraycopyName]
def wsX8_set_r5 : List Cond := [Cond.fieldLink RX7 15 "CraneCampaign$Winds" "count" "I"]
def wsX8_set : List Cond := .code yX8_set cX8_set 4 (some .int) :: ((wsX8_set_r1 ++ (wsX8_set_r2 ++ (wsX8_set_r3 ++ (wsX8_set_r4 ++ wsX8_set_r5)))) ++ wsX80 ++ wsX20 ++ wsX50 ++ wsX00 ++ wsX30 ++ wsX40 ++ wsX10 ++ wsX70)
def wsX8_plan_r1 : List Cond := [Cond.classLink RX8 134 "java/lang/IndexOutOfBoundsException", Cond.initialized "java/lang/IndexOutOfBoundsException", Cond.fieldLink RX8 10 "CraneCampaign" "farm" "LCraneCampaign$Farm;", Cond.fieldLink RX8 125 "CraneCampaign$Farm" "plan" "LCraneCampaign$Plan;", Cond.fieldLink RX8 142 "CraneCampaign$Plan" "count" "I", Cond.methodLink RX8 67 yX8_requireTurbine, Cond.instanceMethod yX8_requireTurbine, Cond.selects RX8 yX8_requireTurbine yX8_requireTurbine, Cond.initialized RX8, Cond.code yX8_requireTurbine cX8_requireTurbine 2 none, Cond.methodLink RX8 319 yX2_hasTurbine, Cond.instanceMethod yX2_hasTurbine, Cond.selects RX2 yX2_hasTurbine yX2_hasTurbine, Cond.initialized RX2, Cond.code yX2_hasTurbine cX2_hasTurbine 2 (some .boolean), Cond.fieldLink RX2 17 "CraneCampaign$Farm" "turbineCount" "I", Cond.methodLink RX8 129 yX4_countWithout, Cond.instanceMethod yX4_countWithout, Cond.selects RX4 yX4_countWithout yX4_countWithout, Cond.initialized RX4, Cond.code yX4_countWithout cX4_countWithout 2 (some .int), Cond.fieldLink RX4 15 "CraneCampaign$Plan" "count" "I", Cond.methodLink RX4 25 yX4_placeOf, Cond.instanceMethod yX4_placeOf]
def wsX8_plan_r2 : List Cond := [Cond.selects RX4 yX4_placeOf yX4_placeOf, Cond.code yX4_placeOf cX4_placeOf 3 (some .int), Cond.fieldLink RX4 9 "CraneCampaign$Plan" "row" "[I", Cond.methodLink RX8 37 yX8_isWithin, Cond.static yX8_isWithin, Cond.code yX8_isWithin cX8_isWithin 3 (some .boolean), Cond.methodLink RX8 60 yX8_saveState, Cond.instanceMethod yX8_saveState, Cond.selects RX8 yX8_saveState yX8_saveState, Cond.code yX8_saveState cX8_saveState 1 none, Cond.fieldLink RX8 19 "CraneCampaign" "saved" "[LCraneCampaign$Farm;", Cond.fieldLink RX8 23 "CraneCampaign" "oldestSaved" "I", Cond.fieldLink RX8 27 "CraneCampaign" "savedCount" "I", Cond.methodLink RX8 215 yX2_copyFrom, Cond.instanceMethod yX2_copyFrom, Cond.selects RX2 yX2_copyFrom yX2_copyFrom, Cond.code yX2_copyFrom cX2_copyFrom 3 none, Cond.fieldLink RX2 11 "CraneCampaign$Farm" "turbines" "[LCraneCampaign$Turbine;", Cond.fieldLink RX2 24 "CraneCampaign$Farm" "bogs" "LCraneCampaign$Bogs;", Cond.fieldLink RX2 31 "CraneCampaign$Farm" "harbour" "LCraneCampaign$Harbour;", Cond.fieldLink RX2 38 "CraneCampaign$Farm" "plan" "LCraneCampaign$Plan;", Cond.fieldLink RX2 45 "CraneCampaign$Farm" "crane" "LCraneCampaign$Crane;", Cond.fieldLink RX2 52 "CraneCampaign$Farm" "winds" "LCraneCampaign$Winds;", Cond.fieldLink RX2 56 "CraneCampaign$Farm" "settings" "[I"]
def wsX8_plan_r3 : List Cond := [Cond.methodLink RX2 70 arraycopyName, Cond.native arraycopyName, Cond.static arraycopyName, Cond.initialized "java/lang/System", Cond.fieldLink RX2 60 "CraneCampaign$Farm" "lostBy" "[I", Cond.fieldLink RX2 63 "CraneCampaign$Farm" "hour" "I", Cond.methodLink RX2 76 yX5_copyFrom, Cond.instanceMethod yX5_copyFrom, Cond.selects RX5 yX5_copyFrom yX5_copyFrom, Cond.initialized RX5, Cond.code yX5_copyFrom cX5_copyFrom 2 none, Cond.fieldLink RX5 9 "CraneCampaign$Turbine" "place" "I", Cond.fieldLink RX5 15 "CraneCampaign$Turbine" "height" "I", Cond.fieldLink RX5 18 "CraneCampaign$Turbine" "rate" "I", Cond.fieldLink RX5 21 "CraneCampaign$Turbine" "fault" "I", Cond.fieldLink RX5 24 "CraneCampaign$Turbine" "age" "I", Cond.fieldLink RX5 27 "CraneCampaign$Turbine" "lost" "I", Cond.fieldLink RX5 30 "CraneCampaign$Turbine" "won" "I", Cond.methodLink RX2 80 yX0_copyFrom, Cond.instanceMethod yX0_copyFrom, Cond.selects RX0 yX0_copyFrom yX0_copyFrom, Cond.initialized RX0, Cond.code yX0_copyFrom cX0_copyFrom 2 none, Cond.fieldLink RX0 9 "CraneCampaign$Bogs" "place" "[I"]
def wsX8_plan_r4 : List Cond := [Cond.methodLink RX0 22 arraycopyName, Cond.fieldLink RX0 15 "CraneCampaign$Bogs" "need" "[I", Cond.fieldLink RX0 18 "CraneCampaign$Bogs" "count" "I", Cond.methodLink RX2 83 yX3_copyFrom, Cond.instanceMethod yX3_copyFrom, Cond.selects RX3 yX3_copyFrom yX3_copyFrom, Cond.initialized RX3, Cond.code yX3_copyFrom cX3_copyFrom 2 none, Cond.fieldLink RX3 9 "CraneCampaign$Harbour" "turbine" "[I", Cond.methodLink RX3 22 arraycopyName, Cond.fieldLink RX3 15 "CraneCampaign$Harbour" "weight" "[I", Cond.fieldLink RX3 18 "CraneCampaign$Harbour" "count" "I", Cond.methodLink RX2 86 yX4_copyFrom, Cond.instanceMethod yX4_copyFrom, Cond.selects RX4 yX4_copyFrom yX4_copyFrom, Cond.code yX4_copyFrom cX4_copyFrom 2 none, Cond.methodLink RX4 19 arraycopyName, Cond.methodLink RX2 89 yX1_copyFrom, Cond.instanceMethod yX1_copyFrom, Cond.selects RX1 yX1_copyFrom yX1_copyFrom, Cond.initialized RX1, Cond.code yX1_copyFrom cX1_copyFrom 2 none, Cond.fieldLink RX1 9 "CraneCampaign$Crane" "place" "I", Cond.fieldLink RX1 15 "CraneCampaign$Crane" "hoursLeft" "I"]
def wsX8_plan_r5 : List Cond := [Cond.fieldLink RX1 18 "CraneCampaign$Crane" "goal" "I", Cond.fieldLink RX1 21 "CraneCampaign$Crane" "workDone" "I", Cond.fieldLink RX1 24 "CraneCampaign$Crane" "workedOn" "I", Cond.methodLink RX2 92 yX7_copyFrom, Cond.instanceMethod yX7_copyFrom, Cond.selects RX7 yX7_copyFrom yX7_copyFrom, Cond.initialized RX7, Cond.code yX7_copyFrom cX7_copyFrom 2 none, Cond.fieldLink RX7 9 "CraneCampaign$Winds" "row" "[I", Cond.methodLink RX7 19 arraycopyName, Cond.fieldLink RX7 15 "CraneCampaign$Winds" "count" "I", Cond.methodLink RX8 139 yX4_moveTo, Cond.instanceMethod yX4_moveTo, Cond.selects RX4 yX4_moveTo yX4_moveTo, Cond.code yX4_moveTo cX4_moveTo 4 none, Cond.methodLink RX4 29 yX4_removeAt, Cond.instanceMethod yX4_removeAt, Cond.selects RX4 yX4_removeAt yX4_removeAt, Cond.code yX4_removeAt cX4_removeAt 3 none]
def wsX8_plan : List Cond := .code yX8_plan cX8_plan 3 (some .int) :: ((wsX8_plan_r1 ++ (wsX8_plan_r2 ++ (wsX8_plan_r3 ++ (wsX8_plan_r4 ++ wsX8_plan_r5)))) ++ wsX80 ++ wsX20 ++ wsX40 ++ wsX50 ++ wsX00 ++ wsX30 ++ wsX10 ++ wsX70)
def wsX8_unplan_r1 : List Cond := [Cond.classLink RX8 55 "java/lang/IllegalStateException", Cond.initialized "java/lang/IllegalStateException", Cond.fieldLink RX8 10 "CraneCampaign" "farm" "LCraneCampaign$Farm;", Cond.fieldLink RX8 125 "CraneCampaign$Farm" "plan" "LCraneCampaign$Plan;", Cond.methodLink RX8 67 yX8_requireTurbine, Cond.instanceMethod yX8_requireTurbine, Cond.selects RX8 yX8_requireTurbine yX8_requireTurbine, Cond.initialized RX8, Cond.code yX8_requireTurbine cX8_requireTurbine 2 none, Cond.classLink RX8 134 "java/lang/IndexOutOfBoundsException", Cond.initialized "java/lang/IndexOutOfBoundsException", Cond.methodLink RX8 319 yX2_hasTurbine, Cond.instanceMethod yX2_hasTurbine, Cond.selects RX2 yX2_hasTurbine yX2_hasTurbine, Cond.initialized RX2, Cond.code yX2_hasTurbine cX2_hasTurbine 2 (some .boolean), Cond.fieldLink RX2 17 "CraneCampaign$Farm" "turbineCount" "I", Cond.methodLink RX8 143 yX4_placeOf, Cond.instanceMethod yX4_placeOf, Cond.selects RX4 yX4_placeOf yX4_placeOf, Cond.initialized RX4, Cond.code yX4_placeOf cX4_placeOf 3 (some .int), Cond.fieldLink RX4 15 "CraneCampaign$Plan" "count" "I", Cond.fieldLink RX4 9 "CraneCampaign$Plan" "row" "[I"]
def wsX8_unplan_r2 : List Cond := [Cond.methodLink RX8 60 yX8_saveState, Cond.instanceMethod yX8_saveState, Cond.selects RX8 yX8_saveState yX8_saveState, Cond.code yX8_saveState cX8_saveState 1 none, Cond.fieldLink RX8 19 "CraneCampaign" "saved" "[LCraneCampaign$Farm;", Cond.fieldLink RX8 23 "CraneCampaign" "oldestSaved" "I", Cond.fieldLink RX8 27 "CraneCampaign" "savedCount" "I", Cond.methodLink RX8 215 yX2_copyFrom, Cond.instanceMethod yX2_copyFrom, Cond.selects RX2 yX2_copyFrom yX2_copyFrom, Cond.code yX2_copyFrom cX2_copyFrom 3 none, Cond.fieldLink RX2 11 "CraneCampaign$Farm" "turbines" "[LCraneCampaign$Turbine;", Cond.fieldLink RX2 24 "CraneCampaign$Farm" "bogs" "LCraneCampaign$Bogs;", Cond.fieldLink RX2 31 "CraneCampaign$Farm" "harbour" "LCraneCampaign$Harbour;", Cond.fieldLink RX2 38 "CraneCampaign$Farm" "plan" "LCraneCampaign$Plan;", Cond.fieldLink RX2 45 "CraneCampaign$Farm" "crane" "LCraneCampaign$Crane;", Cond.fieldLink RX2 52 "CraneCampaign$Farm" "winds" "LCraneCampaign$Winds;", Cond.fieldLink RX2 56 "CraneCampaign$Farm" "settings" "[I", Cond.methodLink RX2 70 arraycopyName, Cond.native arraycopyName, Cond.static arraycopyName, Cond.initialized "java/lang/System", Cond.fieldLink RX2 60 "CraneCampaign$Farm" "lostBy" "[I", Cond.fieldLink RX2 63 "CraneCampaign$Farm" "hour" "I"]
def wsX8_unplan_r3 : List Cond := [Cond.methodLink RX2 76 yX5_copyFrom, Cond.instanceMethod yX5_copyFrom, Cond.selects RX5 yX5_copyFrom yX5_copyFrom, Cond.initialized RX5, Cond.code yX5_copyFrom cX5_copyFrom 2 none, Cond.fieldLink RX5 9 "CraneCampaign$Turbine" "place" "I", Cond.fieldLink RX5 15 "CraneCampaign$Turbine" "height" "I", Cond.fieldLink RX5 18 "CraneCampaign$Turbine" "rate" "I", Cond.fieldLink RX5 21 "CraneCampaign$Turbine" "fault" "I", Cond.fieldLink RX5 24 "CraneCampaign$Turbine" "age" "I", Cond.fieldLink RX5 27 "CraneCampaign$Turbine" "lost" "I", Cond.fieldLink RX5 30 "CraneCampaign$Turbine" "won" "I", Cond.methodLink RX2 80 yX0_copyFrom, Cond.instanceMethod yX0_copyFrom, Cond.selects RX0 yX0_copyFrom yX0_copyFrom, Cond.initialized RX0, Cond.code yX0_copyFrom cX0_copyFrom 2 none, Cond.fieldLink RX0 9 "CraneCampaign$Bogs" "place" "[I", Cond.methodLink RX0 22 arraycopyName, Cond.fieldLink RX0 15 "CraneCampaign$Bogs" "need" "[I", Cond.fieldLink RX0 18 "CraneCampaign$Bogs" "count" "I", Cond.methodLink RX2 83 yX3_copyFrom, Cond.instanceMethod yX3_copyFrom, Cond.selects RX3 yX3_copyFrom yX3_copyFrom]
def wsX8_unplan_r4 : List Cond := [Cond.initialized RX3, Cond.code yX3_copyFrom cX3_copyFrom 2 none, Cond.fieldLink RX3 9 "CraneCampaign$Harbour" "turbine" "[I", Cond.methodLink RX3 22 arraycopyName, Cond.fieldLink RX3 15 "CraneCampaign$Harbour" "weight" "[I", Cond.fieldLink RX3 18 "CraneCampaign$Harbour" "count" "I", Cond.methodLink RX2 86 yX4_copyFrom, Cond.instanceMethod yX4_copyFrom, Cond.selects RX4 yX4_copyFrom yX4_copyFrom, Cond.code yX4_copyFrom cX4_copyFrom 2 none, Cond.methodLink RX4 19 arraycopyName, Cond.methodLink RX2 89 yX1_copyFrom, Cond.instanceMethod yX1_copyFrom, Cond.selects RX1 yX1_copyFrom yX1_copyFrom, Cond.initialized RX1, Cond.code yX1_copyFrom cX1_copyFrom 2 none, Cond.fieldLink RX1 9 "CraneCampaign$Crane" "place" "I", Cond.fieldLink RX1 15 "CraneCampaign$Crane" "hoursLeft" "I", Cond.fieldLink RX1 18 "CraneCampaign$Crane" "goal" "I", Cond.fieldLink RX1 21 "CraneCampaign$Crane" "workDone" "I", Cond.fieldLink RX1 24 "CraneCampaign$Crane" "workedOn" "I", Cond.methodLink RX2 92 yX7_copyFrom, Cond.instanceMethod yX7_copyFrom, Cond.selects RX7 yX7_copyFrom yX7_copyFrom]
def wsX8_unplan_r5 : List Cond := [Cond.initialized RX7, Cond.code yX7_copyFrom cX7_copyFrom 2 none, Cond.fieldLink RX7 9 "CraneCampaign$Winds" "row" "[I", Cond.methodLink RX7 19 arraycopyName, Cond.fieldLink RX7 15 "CraneCampaign$Winds" "count" "I", Cond.methodLink RX8 148 yX4_removeAt, Cond.instanceMethod yX4_removeAt, Cond.selects RX4 yX4_removeAt yX4_removeAt, Cond.code yX4_removeAt cX4_removeAt 3 none]
def wsX8_unplan : List Cond := .code yX8_unplan cX8_unplan 3 (some .int) :: ((wsX8_unplan_r1 ++ (wsX8_unplan_r2 ++ (wsX8_unplan_r3 ++ (wsX8_unplan_r4 ++ wsX8_unplan_r5)))) ++ wsX80 ++ wsX20 ++ wsX40 ++ wsX50 ++ wsX00 ++ wsX30 ++ wsX10 ++ wsX70)
def wsX8_orderBlade_r1 : List Cond := [Cond.classLink RX8 55 "java/lang/IllegalStateException", Cond.initialized "java/lang/IllegalStateException", Cond.fieldLink RX8 10 "CraneCampaign" "farm" "LCraneCampaign$Farm;", Cond.fieldLink RX8 151 "CraneCampaign$Farm" "harbour" "LCraneCampaign$Harbour;", Cond.fieldLink RX8 73 "CraneCampaign$Farm" "turbines" "[LCraneCampaign$Turbine;", Cond.fieldLink RX8 167 "CraneCampaign$Harbour" "count" "I", Cond.methodLink RX8 67 yX8_requireTurbine, Cond.instanceMethod yX8_requireTurbine, Cond.selects RX8 yX8_requireTurbine yX8_requireTurbine, Cond.initialized RX8, Cond.code yX8_requireTurbine cX8_requireTurbine 2 none, Cond.classLink RX8 134 "java/lang/IndexOutOfBoundsException", Cond.initialized "java/lang/IndexOutOfBoundsException", Cond.methodLink RX8 319 yX2_hasTurbine, Cond.instanceMethod yX2_hasTurbine, Cond.selects RX2 yX2_hasTurbine yX2_hasTurbine, Cond.initialized RX2, Cond.code yX2_hasTurbine cX2_hasTurbine 2 (some .boolean), Cond.fieldLink RX2 17 "CraneCampaign$Farm" "turbineCount" "I", Cond.methodLink RX8 155 yX3_isFull, Cond.instanceMethod yX3_isFull, Cond.selects RX3 yX3_isFull yX3_isFull, Cond.initialized RX3, Cond.code yX3_isFull cX3_isFull 1 (some .boolean)]
def wsX8_orderBlade_r2 : List Cond := [Cond.fieldLink RX3 18 "CraneCampaign$Harbour" "count" "I", Cond.methodLink RX8 60 yX8_saveState, Cond.instanceMethod yX8_saveState, Cond.selects RX8 yX8_saveState yX8_saveState, Cond.code yX8_saveState cX8_saveState 1 none, Cond.fieldLink RX8 19 "CraneCampaign" "saved" "[LCraneCampaign$Farm;", Cond.fieldLink RX8 23 "CraneCampaign" "oldestSaved" "I", Cond.fieldLink RX8 27 "CraneCampaign" "savedCount" "I", Cond.methodLink RX8 215 yX2_copyFrom, Cond.instanceMethod yX2_copyFrom, Cond.selects RX2 yX2_copyFrom yX2_copyFrom, Cond.code yX2_copyFrom cX2_copyFrom 3 none, Cond.fieldLink RX2 11 "CraneCampaign$Farm" "turbines" "[LCraneCampaign$Turbine;", Cond.fieldLink RX2 24 "CraneCampaign$Farm" "bogs" "LCraneCampaign$Bogs;", Cond.fieldLink RX2 31 "CraneCampaign$Farm" "harbour" "LCraneCampaign$Harbour;", Cond.fieldLink RX2 38 "CraneCampaign$Farm" "plan" "LCraneCampaign$Plan;", Cond.fieldLink RX2 45 "CraneCampaign$Farm" "crane" "LCraneCampaign$Crane;", Cond.fieldLink RX2 52 "CraneCampaign$Farm" "winds" "LCraneCampaign$Winds;", Cond.fieldLink RX2 56 "CraneCampaign$Farm" "settings" "[I", Cond.methodLink RX2 70 arraycopyName, Cond.native arraycopyName, Cond.static arraycopyName, Cond.initialized "java/lang/System", Cond.fieldLink RX2 60 "CraneCampaign$Farm" "lostBy" "[I"]
def wsX8_orderBlade_r3 : List Cond := [Cond.fieldLink RX2 63 "CraneCampaign$Farm" "hour" "I", Cond.methodLink RX2 76 yX5_copyFrom, Cond.instanceMethod yX5_copyFrom, Cond.selects RX5 yX5_copyFrom yX5_copyFrom, Cond.initialized RX5, Cond.code yX5_copyFrom cX5_copyFrom 2 none, Cond.fieldLink RX5 9 "CraneCampaign$Turbine" "place" "I", Cond.fieldLink RX5 15 "CraneCampaign$Turbine" "height" "I", Cond.fieldLink RX5 18 "CraneCampaign$Turbine" "rate" "I", Cond.fieldLink RX5 21 "CraneCampaign$Turbine" "fault" "I", Cond.fieldLink RX5 24 "CraneCampaign$Turbine" "age" "I", Cond.fieldLink RX5 27 "CraneCampaign$Turbine" "lost" "I", Cond.fieldLink RX5 30 "CraneCampaign$Turbine" "won" "I", Cond.methodLink RX2 80 yX0_copyFrom, Cond.instanceMethod yX0_copyFrom, Cond.selects RX0 yX0_copyFrom yX0_copyFrom, Cond.initialized RX0, Cond.code yX0_copyFrom cX0_copyFrom 2 none, Cond.fieldLink RX0 9 "CraneCampaign$Bogs" "place" "[I", Cond.methodLink RX0 22 arraycopyName, Cond.fieldLink RX0 15 "CraneCampaign$Bogs" "need" "[I", Cond.fieldLink RX0 18 "CraneCampaign$Bogs" "count" "I", Cond.methodLink RX2 83 yX3_copyFrom, Cond.instanceMethod yX3_copyFrom]
def wsX8_orderBlade_r4 : List Cond := [Cond.selects RX3 yX3_copyFrom yX3_copyFrom, Cond.code yX3_copyFrom cX3_copyFrom 2 none, Cond.fieldLink RX3 9 "CraneCampaign$Harbour" "turbine" "[I", Cond.methodLink RX3 22 arraycopyName, Cond.fieldLink RX3 15 "CraneCampaign$Harbour" "weight" "[I", Cond.methodLink RX2 86 yX4_copyFrom, Cond.instanceMethod yX4_copyFrom, Cond.selects RX4 yX4_copyFrom yX4_copyFrom, Cond.initialized RX4, Cond.code yX4_copyFrom cX4_copyFrom 2 none, Cond.fieldLink RX4 9 "CraneCampaign$Plan" "row" "[I", Cond.methodLink RX4 19 arraycopyName, Cond.fieldLink RX4 15 "CraneCampaign$Plan" "count" "I", Cond.methodLink RX2 89 yX1_copyFrom, Cond.instanceMethod yX1_copyFrom, Cond.selects RX1 yX1_copyFrom yX1_copyFrom, Cond.initialized RX1, Cond.code yX1_copyFrom cX1_copyFrom 2 none, Cond.fieldLink RX1 9 "CraneCampaign$Crane" "place" "I", Cond.fieldLink RX1 15 "CraneCampaign$Crane" "hoursLeft" "I", Cond.fieldLink RX1 18 "CraneCampaign$Crane" "goal" "I", Cond.fieldLink RX1 21 "CraneCampaign$Crane" "workDone" "I", Cond.fieldLink RX1 24 "CraneCampaign$Crane" "workedOn" "I", Cond.methodLink RX2 92 yX7_copyFrom]
def wsX8_orderBlade_r5 : List Cond := [Cond.instanceMethod yX7_copyFrom, Cond.selects RX7 yX7_copyFrom yX7_copyFrom, Cond.initialized RX7, Cond.code yX7_copyFrom cX7_copyFrom 2 none, Cond.fieldLink RX7 9 "CraneCampaign$Winds" "row" "[I", Cond.methodLink RX7 19 arraycopyName, Cond.fieldLink RX7 15 "CraneCampaign$Winds" "count" "I", Cond.methodLink RX8 160 yX5_bladeWeight, Cond.instanceMethod yX5_bladeWeight, Cond.selects RX5 yX5_bladeWeight yX5_bladeWeight, Cond.code yX5_bladeWeight cX5_bladeWeight 1 (some .int), Cond.methodLink RX8 164 yX3_take, Cond.instanceMethod yX3_take, Cond.selects RX3 yX3_take yX3_take, Cond.code yX3_take cX3_take 3 none, Cond.methodLink RX3 28 yX3_isFull]
def wsX8_orderBlade : List Cond := .code yX8_orderBlade cX8_orderBlade 2 (some .int) :: ((wsX8_orderBlade_r1 ++ (wsX8_orderBlade_r2 ++ (wsX8_orderBlade_r3 ++ (wsX8_orderBlade_r4 ++ wsX8_orderBlade_r5)))) ++ wsX80 ++ wsX20 ++ wsX30 ++ wsX50 ++ wsX00 ++ wsX40 ++ wsX10 ++ wsX70)
def wsX8_pass_r1 : List Cond := [Cond.classLink RX8 41 "java/lang/IllegalArgumentException", Cond.initialized "java/lang/IllegalArgumentException", Cond.classLink RX8 55 "java/lang/IllegalStateException", Cond.initialized "java/lang/IllegalStateException", Cond.fieldLink RX8 10 "CraneCampaign" "farm" "LCraneCampaign$Farm;", Cond.fieldLink RX8 170 "CraneCampaign$Farm" "hour" "I", Cond.methodLink RX8 37 yX8_isWithin, Cond.static yX8_isWithin, Cond.initialized RX8, Cond.code yX8_isWithin cX8_isWithin 3 (some .boolean), Cond.methodLink RX8 60 yX8_saveState, Cond.instanceMethod yX8_saveState, Cond.selects RX8 yX8_saveState yX8_saveState, Cond.code yX8_saveState cX8_saveState 1 none, Cond.fieldLink RX8 19 "CraneCampaign" "saved" "[LCraneCampaign$Farm;", Cond.fieldLink RX8 23 "CraneCampaign" "oldestSaved" "I", Cond.fieldLink RX8 27 "CraneCampaign" "savedCount" "I", Cond.methodLink RX8 215 yX2_copyFrom, Cond.instanceMethod yX2_copyFrom, Cond.selects RX2 yX2_copyFrom yX2_copyFrom, Cond.initialized RX2, Cond.code yX2_copyFrom cX2_copyFrom 3 none, Cond.fieldLink RX2 17 "CraneCampaign$Farm" "turbineCount" "I", Cond.fieldLink RX2 11 "CraneCampaign$Farm" "turbines" "[LCraneCampaign$Turbine;"]
def wsX8_pass_r2 : List Cond := [Cond.fieldLink RX2 24 "CraneCampaign$Farm" "bogs" "LCraneCampaign$Bogs;", Cond.fieldLink RX2 31 "CraneCampaign$Farm" "harbour" "LCraneCampaign$Harbour;", Cond.fieldLink RX2 38 "CraneCampaign$Farm" "plan" "LCraneCampaign$Plan;", Cond.fieldLink RX2 45 "CraneCampaign$Farm" "crane" "LCraneCampaign$Crane;", Cond.fieldLink RX2 52 "CraneCampaign$Farm" "winds" "LCraneCampaign$Winds;", Cond.fieldLink RX2 56 "CraneCampaign$Farm" "settings" "[I", Cond.methodLink RX2 70 arraycopyName, Cond.native arraycopyName, Cond.static arraycopyName, Cond.initialized "java/lang/System", Cond.fieldLink RX2 60 "CraneCampaign$Farm" "lostBy" "[I", Cond.fieldLink RX2 63 "CraneCampaign$Farm" "hour" "I", Cond.methodLink RX2 76 yX5_copyFrom, Cond.instanceMethod yX5_copyFrom, Cond.selects RX5 yX5_copyFrom yX5_copyFrom, Cond.initialized RX5, Cond.code yX5_copyFrom cX5_copyFrom 2 none, Cond.fieldLink RX5 9 "CraneCampaign$Turbine" "place" "I", Cond.fieldLink RX5 15 "CraneCampaign$Turbine" "height" "I", Cond.fieldLink RX5 18 "CraneCampaign$Turbine" "rate" "I", Cond.fieldLink RX5 21 "CraneCampaign$Turbine" "fault" "I", Cond.fieldLink RX5 24 "CraneCampaign$Turbine" "age" "I", Cond.fieldLink RX5 27 "CraneCampaign$Turbine" "lost" "I", Cond.fieldLink RX5 30 "CraneCampaign$Turbine" "won" "I"]
def wsX8_pass_r3 : List Cond := [Cond.methodLink RX2 80 yX0_copyFrom, Cond.instanceMethod yX0_copyFrom, Cond.selects RX0 yX0_copyFrom yX0_copyFrom, Cond.initialized RX0, Cond.code yX0_copyFrom cX0_copyFrom 2 none, Cond.fieldLink RX0 9 "CraneCampaign$Bogs" "place" "[I", Cond.methodLink RX0 22 arraycopyName, Cond.fieldLink RX0 15 "CraneCampaign$Bogs" "need" "[I", Cond.fieldLink RX0 18 "CraneCampaign$Bogs" "count" "I", Cond.methodLink RX2 83 yX3_copyFrom, Cond.instanceMethod yX3_copyFrom, Cond.selects RX3 yX3_copyFrom yX3_copyFrom, Cond.initialized RX3, Cond.code yX3_copyFrom cX3_copyFrom 2 none, Cond.fieldLink RX3 9 "CraneCampaign$Harbour" "turbine" "[I", Cond.methodLink RX3 22 arraycopyName, Cond.fieldLink RX3 15 "CraneCampaign$Harbour" "weight" "[I", Cond.fieldLink RX3 18 "CraneCampaign$Harbour" "count" "I", Cond.methodLink RX2 86 yX4_copyFrom, Cond.instanceMethod yX4_copyFrom, Cond.selects RX4 yX4_copyFrom yX4_copyFrom, Cond.initialized RX4, Cond.code yX4_copyFrom cX4_copyFrom 2 none, Cond.fieldLink RX4 9 "CraneCampaign$Plan" "row" "[I"]
def wsX8_pass_r4 : List Cond := [Cond.methodLink RX4 19 arraycopyName, Cond.fieldLink RX4 15 "CraneCampaign$Plan" "count" "I", Cond.methodLink RX2 89 yX1_copyFrom, Cond.instanceMethod yX1_copyFrom, Cond.selects RX1 yX1_copyFrom yX1_copyFrom, Cond.initialized RX1, Cond.code yX1_copyFrom cX1_copyFrom 2 none, Cond.fieldLink RX1 9 "CraneCampaign$Crane" "place" "I", Cond.fieldLink RX1 15 "CraneCampaign$Crane" "hoursLeft" "I", Cond.fieldLink RX1 18 "CraneCampaign$Crane" "goal" "I", Cond.fieldLink RX1 21 "CraneCampaign$Crane" "workDone" "I", Cond.fieldLink RX1 24 "CraneCampaign$Crane" "workedOn" "I", Cond.methodLink RX2 92 yX7_copyFrom, Cond.instanceMethod yX7_copyFrom, Cond.selects RX7 yX7_copyFrom yX7_copyFrom, Cond.initialized RX7, Cond.code yX7_copyFrom cX7_copyFrom 2 none, Cond.fieldLink RX7 9 "CraneCampaign$Winds" "row" "[I", Cond.methodLink RX7 19 arraycopyName, Cond.fieldLink RX7 15 "CraneCampaign$Winds" "count" "I", Cond.methodLink RX8 175 yX2_runHours, Cond.instanceMethod yX2_runHours, Cond.selects RX2 yX2_runHours yX2_runHours, Cond.code yX2_runHours cX2_runHours 4 (some .int)]
def wsX8_pass_r5 : List Cond := [Cond.methodLink RX2 172 yX2_runHour, Cond.instanceMethod yX2_runHour, Cond.selects RX2 yX2_runHour yX2_runHour, Cond.code yX2_runHour cX2_runHour 4 (some .int), Cond.methodLink RX2 175 yX3_unload, Cond.instanceMethod yX3_unload, Cond.selects RX3 yX3_unload yX3_unload, Cond.code yX3_unload cX3_unload 5 none, Cond.methodLink RX3 32 Lib.Math.min.name, Cond.static Lib.Math.min.name, Cond.initialized "java/lang/Math", Cond.code Lib.Math.min.name Lib.Math.min.code 2 (some .int), Cond.methodLink RX2 179 yX2_dropFaultless, Cond.instanceMethod yX2_dropFaultless, Cond.selects RX2 yX2_dropFaultless yX2_dropFaultless, Cond.code yX2_dropFaultless cX2_dropFaultless 3 none, Cond.fieldLink RX2 153 "CraneCampaign$Plan" "count" "I", Cond.fieldLink RX2 197 "CraneCampaign$Crane" "workedOn" "I", Cond.fieldLink RX2 102 "CraneCampaign$Turbine" "fault" "I", Cond.methodLink RX2 182 yX4_first, Cond.instanceMethod yX4_first, Cond.selects RX4 yX4_first yX4_first, Cond.code yX4_first cX4_first 1 (some .int), Cond.methodLink RX2 200 yX1_forgetWork]
def wsX8_pass_r6 : List Cond := [Cond.instanceMethod yX1_forgetWork, Cond.selects RX1 yX1_forgetWork yX1_forgetWork, Cond.code yX1_forgetWork cX1_forgetWork 1 none, Cond.methodLink RX2 112 yX2_hasTurbine, Cond.instanceMethod yX2_hasTurbine, Cond.selects RX2 yX2_hasTurbine yX2_hasTurbine, Cond.code yX2_hasTurbine cX2_hasTurbine 2 (some .boolean), Cond.methodLink RX2 203 yX4_removeAt, Cond.instanceMethod yX4_removeAt, Cond.selects RX4 yX4_removeAt yX4_removeAt, Cond.code yX4_removeAt cX4_removeAt 3 none, Cond.methodLink RX2 185 yX2_serve, Cond.instanceMethod yX2_serve, Cond.selects RX2 yX2_serve yX2_serve, Cond.code yX2_serve cX2_serve 3 (some .int), Cond.fieldLink RX2 210 "CraneCampaign$Crane" "place" "I", Cond.fieldLink RX2 95 "CraneCampaign$Turbine" "place" "I", Cond.methodLink RX2 206 yX1_isOnWay, Cond.instanceMethod yX1_isOnWay, Cond.selects RX1 yX1_isOnWay yX1_isOnWay, Cond.code yX1_isOnWay cX1_isOnWay 1 (some .boolean), Cond.methodLink RX2 211 yX2_hoursBetween, Cond.instanceMethod yX2_hoursBetween, Cond.selects RX2 yX2_hoursBetween yX2_hoursBetween]
def wsX8_pass_r7 : List Cond := [Cond.code yX2_hoursBetween cX2_hoursBetween 6 (some .int), Cond.methodLink RX2 156 Lib.Math.max.name, Cond.static Lib.Math.max.name, Cond.code Lib.Math.max.name Lib.Math.max.code 2 (some .int), Cond.methodLink RX2 162 Lib.Math.abs.name, Cond.static Lib.Math.abs.name, Cond.code Lib.Math.abs.name Lib.Math.abs.code 1 (some .int), Cond.methodLink RX2 165 Lib.Math.min.name, Cond.methodLink RX2 168 yX0_countBetween, Cond.instanceMethod yX0_countBetween, Cond.selects RX0 yX0_countBetween yX0_countBetween, Cond.code yX0_countBetween cX0_countBetween 6 (some .int), Cond.methodLink RX2 214 yX1_driveTo, Cond.instanceMethod yX1_driveTo, Cond.selects RX1 yX1_driveTo yX1_driveTo, Cond.code yX1_driveTo cX1_driveTo 4 none, Cond.methodLink RX1 27 Lib.Math.max.name, Cond.methodLink RX2 131 yX3_unloadedFor, Cond.instanceMethod yX3_unloadedFor, Cond.selects RX3 yX3_unloadedFor yX3_unloadedFor, Cond.code yX3_unloadedFor cX3_unloadedFor 4 (some .int), Cond.methodLink RX2 137 yX2_windNow, Cond.instanceMethod yX2_windNow, Cond.selects RX2 yX2_windNow yX2_windNow]
def wsX8_pass_r8 : List Cond := [Cond.code yX2_windNow cX2_windNow 1 (some .int), Cond.methodLink RX2 108 yX7_at, Cond.instanceMethod yX7_at, Cond.selects RX7 yX7_at yX7_at, Cond.code yX7_at cX7_at 2 (some .int), Cond.methodLink RX2 125 yX5_limit, Cond.instanceMethod yX5_limit, Cond.selects RX5 yX5_limit yX5_limit, Cond.code yX5_limit cX5_limit 2 (some .int), Cond.methodLink RX2 217 yX1_workAnHourOn, Cond.instanceMethod yX1_workAnHourOn, Cond.selects RX1 yX1_workAnHourOn yX1_workAnHourOn, Cond.code yX1_workAnHourOn cX1_workAnHourOn 2 none, Cond.methodLink RX2 188 yX2_sharePower, Cond.instanceMethod yX2_sharePower, Cond.selects RX2 yX2_sharePower yX2_sharePower, Cond.code yX2_sharePower cX2_sharePower 9 (some .int), Cond.fieldLink RX2 134 "CraneCampaign$Turbine" "lost" "I", Cond.fieldLink RX2 105 "CraneCampaign$Turbine" "won" "I", Cond.methodLink RX2 141 yX5_fullPower, Cond.instanceMethod yX5_fullPower, Cond.selects RX5 yX5_fullPower yX5_fullPower, Cond.code yX5_fullPower cX5_fullPower 2 (some .int), Cond.methodLink RX5 33 Lib.Math.min.name]
def wsX8_pass_r9 : List Cond := [Cond.methodLink RX2 191 yX2_finishIfDone, Cond.instanceMethod yX2_finishIfDone, Cond.selects RX2 yX2_finishIfDone yX2_finishIfDone, Cond.code yX2_finishIfDone cX2_finishIfDone 2 none, Cond.fieldLink RX2 220 "CraneCampaign$Crane" "workDone" "I", Cond.fieldLink RX2 122 "CraneCampaign$Turbine" "age" "I", Cond.methodLink RX2 223 yX3_useBladeFor, Cond.instanceMethod yX3_useBladeFor, Cond.selects RX3 yX3_useBladeFor yX3_useBladeFor, Cond.code yX3_useBladeFor cX3_useBladeFor 3 none, Cond.methodLink RX3 38 yX3_removeAt, Cond.instanceMethod yX3_removeAt, Cond.selects RX3 yX3_removeAt yX3_removeAt, Cond.code yX3_removeAt cX3_removeAt 3 none, Cond.methodLink RX2 128 yX4_placeOf, Cond.instanceMethod yX4_placeOf, Cond.selects RX4 yX4_placeOf yX4_placeOf, Cond.code yX4_placeOf cX4_placeOf 3 (some .int), Cond.methodLink RX2 194 yX2_worsen, Cond.instanceMethod yX2_worsen, Cond.selects RX2 yX2_worsen yX2_worsen, Cond.code yX2_worsen cX2_worsen 3 none, Cond.methodLink RX2 226 yX5_growOlder, Cond.instanceMethod yX5_growOlder]
def wsX8_pass_r10 : List Cond := [Cond.selects RX5 yX5_growOlder yX5_growOlder, Cond.code yX5_growOlder cX5_growOlder 2 none]
def wsX8_pass : List Cond := .code yX8_pass cX8_pass 2 (some .int) :: ((wsX8_pass_r1 ++ (wsX8_pass_r2 ++ (wsX8_pass_r3 ++ (wsX8_pass_r4 ++ (wsX8_pass_r5 ++ (wsX8_pass_r6 ++ (wsX8_pass_r7 ++ (wsX8_pass_r8 ++ (wsX8_pass_r9 ++ wsX8_pass_r10))))))))) ++ wsX80 ++ wsX20 ++ wsX50 ++ wsX00 ++ wsX30 ++ wsX40 ++ wsX10 ++ wsX70)
def wsX8_append : List Cond := .code yX8_append cX8_append 2 (some .int) :: ([.classLink RX8 41 "java/lang/IllegalArgumentException", .initialized "java/lang/IllegalArgumentException", .classLink RX8 55 "java/lang/IllegalStateException", .initialized "java/lang/IllegalStateException", .fieldLink RX8 33 "CraneCampaign" "buffer" "LCraneCampaign$WindText;", .fieldLink RX8 186 "CraneCampaign$WindText" "length" "I", .methodLink RX8 37 yX8_isWithin, .static yX8_isWithin, .initialized RX8, .code yX8_isWithin cX8_isWithin 3 (some .boolean), .methodLink RX8 180 yX6_isFull, .instanceMethod yX6_isFull, .selects RX6 yX6_isFull yX6_isFull, .initialized RX6, .code yX6_isFull cX6_isFull 1 (some .boolean), .fieldLink RX6 15 "CraneCampaign$WindText" "length" "I", .methodLink RX8 183 yX6_add, .instanceMethod yX6_add, .selects RX6 yX6_add yX6_add, .code yX6_add cX6_add 2 none, .fieldLink RX6 9 "CraneCampaign$WindText" "letters" "[I", .methodLink RX6 19 yX6_isFull] ++ wsX80 ++ wsX60)
def wsX8_load_r1 : List Cond := [Cond.classLink RX8 41 "java/lang/IllegalArgumentException", Cond.initialized "java/lang/IllegalArgumentException", Cond.classLink RX8 55 "java/lang/IllegalStateException", Cond.initialized "java/lang/IllegalStateException", Cond.fieldLink RX8 33 "CraneCampaign" "buffer" "LCraneCampaign$WindText;", Cond.fieldLink RX8 10 "CraneCampaign" "farm" "LCraneCampaign$Farm;", Cond.fieldLink RX8 202 "CraneCampaign$Farm" "winds" "LCraneCampaign$Winds;", Cond.fieldLink RX8 186 "CraneCampaign$WindText" "length" "I", Cond.fieldLink RX8 210 "CraneCampaign$Winds" "count" "I", Cond.methodLink RX8 192 yX6_isComplete, Cond.instanceMethod yX6_isComplete, Cond.selects RX6 yX6_isComplete yX6_isComplete, Cond.initialized RX6, Cond.code yX6_isComplete cX6_isComplete 3 (some .boolean), Cond.fieldLink RX6 15 "CraneCampaign$WindText" "length" "I", Cond.fieldLink RX6 9 "CraneCampaign$WindText" "letters" "[I", Cond.methodLink RX6 23 yX6_after, Cond.static yX6_after, Cond.code yX6_after cX6_after 2 (some .int), Cond.methodLink RX6 27 yX6_isEndOfPart, Cond.static yX6_isEndOfPart, Cond.code yX6_isEndOfPart cX6_isEndOfPart 1 (some .boolean), Cond.methodLink RX6 31 yX6_isNumber, Cond.static yX6_isNumber]
def wsX8_load_r2 : List Cond := [Cond.code yX6_isNumber cX6_isNumber 1 (some .boolean), Cond.methodLink RX6 34 yX6_afterDigit, Cond.static yX6_afterDigit, Cond.code yX6_afterDigit cX6_afterDigit 2 (some .int), Cond.methodLink RX6 37 yX6_afterFirstOfNumber, Cond.static yX6_afterFirstOfNumber, Cond.code yX6_afterFirstOfNumber cX6_afterFirstOfNumber 1 (some .int), Cond.methodLink RX6 41 yX6_afterFirstOfTimes, Cond.static yX6_afterFirstOfTimes, Cond.code yX6_afterFirstOfTimes cX6_afterFirstOfTimes 1 (some .int), Cond.methodLink RX8 197 yX6_numberCount, Cond.instanceMethod yX6_numberCount, Cond.selects RX6 yX6_numberCount yX6_numberCount, Cond.code yX6_numberCount cX6_numberCount 3 (some .int), Cond.methodLink RX6 44 yX6_timesFrom, Cond.instanceMethod yX6_timesFrom, Cond.selects RX6 yX6_timesFrom yX6_timesFrom, Cond.code yX6_timesFrom cX6_timesFrom 3 (some .int), Cond.methodLink RX6 52 yX6_valueFrom, Cond.instanceMethod yX6_valueFrom, Cond.selects RX6 yX6_valueFrom yX6_valueFrom, Cond.code yX6_valueFrom cX6_valueFrom 4 (some .int), Cond.methodLink RX8 60 yX8_saveState, Cond.instanceMethod yX8_saveState]
def wsX8_load_r3 : List Cond := [Cond.selects RX8 yX8_saveState yX8_saveState, Cond.initialized RX8, Cond.code yX8_saveState cX8_saveState 1 none, Cond.fieldLink RX8 19 "CraneCampaign" "saved" "[LCraneCampaign$Farm;", Cond.fieldLink RX8 23 "CraneCampaign" "oldestSaved" "I", Cond.fieldLink RX8 27 "CraneCampaign" "savedCount" "I", Cond.methodLink RX8 215 yX2_copyFrom, Cond.instanceMethod yX2_copyFrom, Cond.selects RX2 yX2_copyFrom yX2_copyFrom, Cond.initialized RX2, Cond.code yX2_copyFrom cX2_copyFrom 3 none, Cond.fieldLink RX2 17 "CraneCampaign$Farm" "turbineCount" "I", Cond.fieldLink RX2 11 "CraneCampaign$Farm" "turbines" "[LCraneCampaign$Turbine;", Cond.fieldLink RX2 24 "CraneCampaign$Farm" "bogs" "LCraneCampaign$Bogs;", Cond.fieldLink RX2 31 "CraneCampaign$Farm" "harbour" "LCraneCampaign$Harbour;", Cond.fieldLink RX2 38 "CraneCampaign$Farm" "plan" "LCraneCampaign$Plan;", Cond.fieldLink RX2 45 "CraneCampaign$Farm" "crane" "LCraneCampaign$Crane;", Cond.fieldLink RX2 52 "CraneCampaign$Farm" "winds" "LCraneCampaign$Winds;", Cond.fieldLink RX2 56 "CraneCampaign$Farm" "settings" "[I", Cond.methodLink RX2 70 arraycopyName, Cond.native arraycopyName, Cond.static arraycopyName, Cond.initialized "java/lang/System", Cond.fieldLink RX2 60 "CraneCampaign$Farm" "lostBy" "[I"]
def wsX8_load_r4 : List Cond := [Cond.fieldLink RX2 63 "CraneCampaign$Farm" "hour" "I", Cond.methodLink RX2 76 yX5_copyFrom, Cond.instanceMethod yX5_copyFrom, Cond.selects RX5 yX5_copyFrom yX5_copyFrom, Cond.initialized RX5, Cond.code yX5_copyFrom cX5_copyFrom 2 none, Cond.fieldLink RX5 9 "CraneCampaign$Turbine" "place" "I", Cond.fieldLink RX5 15 "CraneCampaign$Turbine" "height" "I", Cond.fieldLink RX5 18 "CraneCampaign$Turbine" "rate" "I", Cond.fieldLink RX5 21 "CraneCampaign$Turbine" "fault" "I", Cond.fieldLink RX5 24 "CraneCampaign$Turbine" "age" "I", Cond.fieldLink RX5 27 "CraneCampaign$Turbine" "lost" "I", Cond.fieldLink RX5 30 "CraneCampaign$Turbine" "won" "I", Cond.methodLink RX2 80 yX0_copyFrom, Cond.instanceMethod yX0_copyFrom, Cond.selects RX0 yX0_copyFrom yX0_copyFrom, Cond.initialized RX0, Cond.code yX0_copyFrom cX0_copyFrom 2 none, Cond.fieldLink RX0 9 "CraneCampaign$Bogs" "place" "[I", Cond.methodLink RX0 22 arraycopyName, Cond.fieldLink RX0 15 "CraneCampaign$Bogs" "need" "[I", Cond.fieldLink RX0 18 "CraneCampaign$Bogs" "count" "I", Cond.methodLink RX2 83 yX3_copyFrom, Cond.instanceMethod yX3_copyFrom]
def wsX8_load_r5 : List Cond := [Cond.selects RX3 yX3_copyFrom yX3_copyFrom, Cond.initialized RX3, Cond.code yX3_copyFrom cX3_copyFrom 2 none, Cond.fieldLink RX3 9 "CraneCampaign$Harbour" "turbine" "[I", Cond.methodLink RX3 22 arraycopyName, Cond.fieldLink RX3 15 "CraneCampaign$Harbour" "weight" "[I", Cond.fieldLink RX3 18 "CraneCampaign$Harbour" "count" "I", Cond.methodLink RX2 86 yX4_copyFrom, Cond.instanceMethod yX4_copyFrom, Cond.selects RX4 yX4_copyFrom yX4_copyFrom, Cond.initialized RX4, Cond.code yX4_copyFrom cX4_copyFrom 2 none, Cond.fieldLink RX4 9 "CraneCampaign$Plan" "row" "[I", Cond.methodLink RX4 19 arraycopyName, Cond.fieldLink RX4 15 "CraneCampaign$Plan" "count" "I", Cond.methodLink RX2 89 yX1_copyFrom, Cond.instanceMethod yX1_copyFrom, Cond.selects RX1 yX1_copyFrom yX1_copyFrom, Cond.initialized RX1, Cond.code yX1_copyFrom cX1_copyFrom 2 none, Cond.fieldLink RX1 9 "CraneCampaign$Crane" "place" "I", Cond.fieldLink RX1 15 "CraneCampaign$Crane" "hoursLeft" "I", Cond.fieldLink RX1 18 "CraneCampaign$Crane" "goal" "I", Cond.fieldLink RX1 21 "CraneCampaign$Crane" "workDone" "I"]
def wsX8_load_r6 : List Cond := [Cond.fieldLink RX1 24 "CraneCampaign$Crane" "workedOn" "I", Cond.methodLink RX2 92 yX7_copyFrom, Cond.instanceMethod yX7_copyFrom, Cond.selects RX7 yX7_copyFrom yX7_copyFrom, Cond.initialized RX7, Cond.code yX7_copyFrom cX7_copyFrom 2 none, Cond.fieldLink RX7 9 "CraneCampaign$Winds" "row" "[I", Cond.methodLink RX7 19 arraycopyName, Cond.fieldLink RX7 15 "CraneCampaign$Winds" "count" "I", Cond.methodLink RX8 206 yX6_writeTo, Cond.instanceMethod yX6_writeTo, Cond.selects RX6 yX6_writeTo yX6_writeTo, Cond.code yX6_writeTo cX6_writeTo 6 none, Cond.fieldLink RX6 47 "CraneCampaign$Winds" "count" "I", Cond.methodLink RX6 55 yX7_add, Cond.instanceMethod yX7_add, Cond.selects RX7 yX7_add yX7_add, Cond.code yX7_add cX7_add 2 none]
def wsX8_load : List Cond := .code yX8_load cX8_load 1 (some .int) :: ((wsX8_load_r1 ++ (wsX8_load_r2 ++ (wsX8_load_r3 ++ (wsX8_load_r4 ++ (wsX8_load_r5 ++ wsX8_load_r6))))) ++ wsX80 ++ wsX20 ++ wsX60 ++ wsX70 ++ wsX50 ++ wsX00 ++ wsX30 ++ wsX40 ++ wsX10)
def wsX8_turbine_r1 : List Cond := [Cond.classLink RX8 41 "java/lang/IllegalArgumentException", Cond.initialized "java/lang/IllegalArgumentException", Cond.fieldLink RX8 10 "CraneCampaign" "farm" "LCraneCampaign$Farm;", Cond.methodLink RX8 67 yX8_requireTurbine, Cond.instanceMethod yX8_requireTurbine, Cond.selects RX8 yX8_requireTurbine yX8_requireTurbine, Cond.initialized RX8, Cond.code yX8_requireTurbine cX8_requireTurbine 2 none, Cond.classLink RX8 134 "java/lang/IndexOutOfBoundsException", Cond.initialized "java/lang/IndexOutOfBoundsException", Cond.methodLink RX8 319 yX2_hasTurbine, Cond.instanceMethod yX2_hasTurbine, Cond.selects RX2 yX2_hasTurbine yX2_hasTurbine, Cond.initialized RX2, Cond.code yX2_hasTurbine cX2_hasTurbine 2 (some .boolean), Cond.fieldLink RX2 17 "CraneCampaign$Farm" "turbineCount" "I", Cond.methodLink RX8 37 yX8_isWithin, Cond.static yX8_isWithin, Cond.code yX8_isWithin cX8_isWithin 3 (some .boolean), Cond.methodLink RX8 221 yX2_turbineProperty, Cond.instanceMethod yX2_turbineProperty, Cond.selects RX2 yX2_turbineProperty yX2_turbineProperty, Cond.code yX2_turbineProperty cX2_turbineProperty 4 (some .int), Cond.fieldLink RX2 11 "CraneCampaign$Farm" "turbines" "[LCraneCampaign$Turbine;"]
def wsX8_turbine_r2 : List Cond := [Cond.fieldLink RX2 95 "CraneCampaign$Turbine" "place" "I", Cond.fieldLink RX2 116 "CraneCampaign$Turbine" "height" "I", Cond.fieldLink RX2 119 "CraneCampaign$Turbine" "rate" "I", Cond.fieldLink RX2 102 "CraneCampaign$Turbine" "fault" "I", Cond.fieldLink RX2 122 "CraneCampaign$Turbine" "age" "I", Cond.fieldLink RX2 56 "CraneCampaign$Farm" "settings" "[I", Cond.fieldLink RX2 38 "CraneCampaign$Farm" "plan" "LCraneCampaign$Plan;", Cond.fieldLink RX2 31 "CraneCampaign$Farm" "harbour" "LCraneCampaign$Harbour;", Cond.fieldLink RX2 134 "CraneCampaign$Turbine" "lost" "I", Cond.fieldLink RX2 105 "CraneCampaign$Turbine" "won" "I", Cond.methodLink RX2 112 yX2_hasTurbine, Cond.methodLink RX2 125 yX5_limit, Cond.instanceMethod yX5_limit, Cond.selects RX5 yX5_limit yX5_limit, Cond.initialized RX5, Cond.code yX5_limit cX5_limit 2 (some .int), Cond.fieldLink RX5 15 "CraneCampaign$Turbine" "height" "I", Cond.methodLink RX2 128 yX4_placeOf, Cond.instanceMethod yX4_placeOf, Cond.selects RX4 yX4_placeOf yX4_placeOf, Cond.initialized RX4, Cond.code yX4_placeOf cX4_placeOf 3 (some .int), Cond.fieldLink RX4 15 "CraneCampaign$Plan" "count" "I", Cond.fieldLink RX4 9 "CraneCampaign$Plan" "row" "[I"]
def wsX8_turbine_r3 : List Cond := [Cond.methodLink RX2 131 yX3_unloadedFor, Cond.instanceMethod yX3_unloadedFor, Cond.selects RX3 yX3_unloadedFor yX3_unloadedFor, Cond.initialized RX3, Cond.code yX3_unloadedFor cX3_unloadedFor 4 (some .int), Cond.fieldLink RX3 18 "CraneCampaign$Harbour" "count" "I", Cond.fieldLink RX3 9 "CraneCampaign$Harbour" "turbine" "[I", Cond.fieldLink RX3 15 "CraneCampaign$Harbour" "weight" "[I", Cond.methodLink RX2 137 yX2_windNow, Cond.instanceMethod yX2_windNow, Cond.selects RX2 yX2_windNow yX2_windNow, Cond.code yX2_windNow cX2_windNow 1 (some .int), Cond.fieldLink RX2 52 "CraneCampaign$Farm" "winds" "LCraneCampaign$Winds;", Cond.fieldLink RX2 63 "CraneCampaign$Farm" "hour" "I", Cond.methodLink RX2 108 yX7_at, Cond.instanceMethod yX7_at, Cond.selects RX7 yX7_at yX7_at, Cond.initialized RX7, Cond.code yX7_at cX7_at 2 (some .int), Cond.fieldLink RX7 15 "CraneCampaign$Winds" "count" "I", Cond.fieldLink RX7 9 "CraneCampaign$Winds" "row" "[I", Cond.methodLink RX2 141 yX5_fullPower, Cond.instanceMethod yX5_fullPower, Cond.selects RX5 yX5_fullPower yX5_fullPower]
def wsX8_turbine_r4 : List Cond := [Cond.code yX5_fullPower cX5_fullPower 2 (some .int), Cond.fieldLink RX5 18 "CraneCampaign$Turbine" "rate" "I", Cond.methodLink RX5 33 Lib.Math.min.name, Cond.static Lib.Math.min.name, Cond.initialized "java/lang/Math", Cond.code Lib.Math.min.name Lib.Math.min.code 2 (some .int)]
def wsX8_turbine : List Cond := .code yX8_turbine cX8_turbine 3 (some .int) :: ((wsX8_turbine_r1 ++ (wsX8_turbine_r2 ++ (wsX8_turbine_r3 ++ wsX8_turbine_r4))) ++ wsX80 ++ wsX20 ++ wsX50 ++ wsX40 ++ wsX30 ++ wsX70)
def wsX8_blade : List Cond := .code yX8_blade cX8_blade 3 (some .int) :: ([.classLink RX8 134 "java/lang/IndexOutOfBoundsException", .initialized "java/lang/IndexOutOfBoundsException", .classLink RX8 41 "java/lang/IllegalArgumentException", .initialized "java/lang/IllegalArgumentException", .fieldLink RX8 10 "CraneCampaign" "farm" "LCraneCampaign$Farm;", .fieldLink RX8 151 "CraneCampaign$Farm" "harbour" "LCraneCampaign$Harbour;", .fieldLink RX8 167 "CraneCampaign$Harbour" "count" "I", .fieldLink RX8 229 "CraneCampaign$Harbour" "turbine" "[I", .fieldLink RX8 232 "CraneCampaign$Harbour" "weight" "[I", .methodLink RX8 37 yX8_isWithin, .static yX8_isWithin, .initialized RX8, .code yX8_isWithin cX8_isWithin 3 (some .boolean)] ++ wsX80 ++ wsX20 ++ wsX30)
def wsX8_bog : List Cond := .code yX8_bog cX8_bog 3 (some .int) :: ([.classLink RX8 134 "java/lang/IndexOutOfBoundsException", .initialized "java/lang/IndexOutOfBoundsException", .classLink RX8 41 "java/lang/IllegalArgumentException", .initialized "java/lang/IllegalArgumentException", .fieldLink RX8 10 "CraneCampaign" "farm" "LCraneCampaign$Farm;", .fieldLink RX8 87 "CraneCampaign$Farm" "bogs" "LCraneCampaign$Bogs;", .fieldLink RX8 107 "CraneCampaign$Bogs" "count" "I", .fieldLink RX8 237 "CraneCampaign$Bogs" "place" "[I", .fieldLink RX8 240 "CraneCampaign$Bogs" "need" "[I", .methodLink RX8 37 yX8_isWithin, .static yX8_isWithin, .initialized RX8, .code yX8_isWithin cX8_isWithin 3 (some .boolean)] ++ wsX80 ++ wsX20 ++ wsX00)
def wsX8_claims : List Cond := .code yX8_claims cX8_claims 2 (some .int) :: ([.classLink RX8 41 "java/lang/IllegalArgumentException", .initialized "java/lang/IllegalArgumentException", .fieldLink RX8 10 "CraneCampaign" "farm" "LCraneCampaign$Farm;", .fieldLink RX8 245 "CraneCampaign$Farm" "lostBy" "[I", .methodLink RX8 37 yX8_isWithin, .static yX8_isWithin, .initialized RX8, .code yX8_isWithin cX8_isWithin 3 (some .boolean)] ++ wsX80 ++ wsX20)
def wsX8_numberOf_r1 : List Cond := [Cond.fieldLink RX8 10 "CraneCampaign" "farm" "LCraneCampaign$Farm;", Cond.fieldLink RX8 326 "CraneCampaign$Farm" "crane" "LCraneCampaign$Crane;", Cond.fieldLink RX8 48 "CraneCampaign$Farm" "turbineCount" "I", Cond.fieldLink RX8 170 "CraneCampaign$Farm" "hour" "I", Cond.fieldLink RX8 202 "CraneCampaign$Farm" "winds" "LCraneCampaign$Winds;", Cond.fieldLink RX8 210 "CraneCampaign$Winds" "count" "I", Cond.fieldLink RX8 125 "CraneCampaign$Farm" "plan" "LCraneCampaign$Plan;", Cond.fieldLink RX8 142 "CraneCampaign$Plan" "count" "I", Cond.fieldLink RX8 339 "CraneCampaign$Crane" "place" "I", Cond.fieldLink RX8 343 "CraneCampaign$Crane" "hoursLeft" "I", Cond.fieldLink RX8 346 "CraneCampaign$Crane" "goal" "I", Cond.fieldLink RX8 151 "CraneCampaign$Farm" "harbour" "LCraneCampaign$Harbour;", Cond.fieldLink RX8 167 "CraneCampaign$Harbour" "count" "I", Cond.fieldLink RX8 27 "CraneCampaign" "savedCount" "I", Cond.methodLink RX8 330 yX2_faultCount, Cond.instanceMethod yX2_faultCount, Cond.selects RX2 yX2_faultCount yX2_faultCount, Cond.initialized RX2, Cond.code yX2_faultCount cX2_faultCount 3 (some .int), Cond.fieldLink RX2 17 "CraneCampaign$Farm" "turbineCount" "I", Cond.fieldLink RX2 11 "CraneCampaign$Farm" "turbines" "[LCraneCampaign$Turbine;", Cond.fieldLink RX2 102 "CraneCampaign$Turbine" "fault" "I", Cond.methodLink RX8 333 yX2_windNow, Cond.instanceMethod yX2_windNow]
def wsX8_numberOf_r2 : List Cond := [Cond.selects RX2 yX2_windNow yX2_windNow, Cond.code yX2_windNow cX2_windNow 1 (some .int), Cond.fieldLink RX2 52 "CraneCampaign$Farm" "winds" "LCraneCampaign$Winds;", Cond.fieldLink RX2 63 "CraneCampaign$Farm" "hour" "I", Cond.methodLink RX2 108 yX7_at, Cond.instanceMethod yX7_at, Cond.selects RX7 yX7_at yX7_at, Cond.initialized RX7, Cond.code yX7_at cX7_at 2 (some .int), Cond.fieldLink RX7 15 "CraneCampaign$Winds" "count" "I", Cond.fieldLink RX7 9 "CraneCampaign$Winds" "row" "[I", Cond.methodLink RX8 336 yX4_first, Cond.instanceMethod yX4_first, Cond.selects RX4 yX4_first yX4_first, Cond.initialized RX4, Cond.code yX4_first cX4_first 1 (some .int), Cond.fieldLink RX4 15 "CraneCampaign$Plan" "count" "I", Cond.fieldLink RX4 9 "CraneCampaign$Plan" "row" "[I", Cond.methodLink RX8 349 yX1_workOn, Cond.instanceMethod yX1_workOn, Cond.selects RX1 yX1_workOn yX1_workOn, Cond.initialized RX1, Cond.code yX1_workOn cX1_workOn 2 (some .int), Cond.fieldLink RX1 24 "CraneCampaign$Crane" "workedOn" "I"]
def wsX8_numberOf_r3 : List Cond := [Cond.fieldLink RX1 21 "CraneCampaign$Crane" "workDone" "I", Cond.methodLink RX8 278 yX2_lostPower, Cond.instanceMethod yX2_lostPower, Cond.selects RX2 yX2_lostPower yX2_lostPower, Cond.code yX2_lostPower cX2_lostPower 3 (some .int), Cond.fieldLink RX2 60 "CraneCampaign$Farm" "lostBy" "[I", Cond.methodLink RX8 281 yX2_wonPower, Cond.instanceMethod yX2_wonPower, Cond.selects RX2 yX2_wonPower yX2_wonPower, Cond.code yX2_wonPower cX2_wonPower 3 (some .int), Cond.fieldLink RX2 105 "CraneCampaign$Turbine" "won" "I"]
def wsX8_numberOf : List Cond := .code yX8_numberOf cX8_numberOf 3 (some .int) :: ((wsX8_numberOf_r1 ++ (wsX8_numberOf_r2 ++ wsX8_numberOf_r3)) ++ wsX80 ++ wsX20 ++ wsX70 ++ wsX40 ++ wsX10 ++ wsX30 ++ wsX50)
def wsX8_count_r1 : List Cond := [Cond.classLink RX8 41 "java/lang/IllegalArgumentException", Cond.initialized "java/lang/IllegalArgumentException", Cond.methodLink RX8 37 yX8_isWithin, Cond.static yX8_isWithin, Cond.initialized RX8, Cond.code yX8_isWithin cX8_isWithin 3 (some .boolean), Cond.methodLink RX8 250 yX8_numberOf, Cond.instanceMethod yX8_numberOf, Cond.selects RX8 yX8_numberOf yX8_numberOf, Cond.code yX8_numberOf cX8_numberOf 3 (some .int), Cond.fieldLink RX8 10 "CraneCampaign" "farm" "LCraneCampaign$Farm;", Cond.fieldLink RX8 326 "CraneCampaign$Farm" "crane" "LCraneCampaign$Crane;", Cond.fieldLink RX8 48 "CraneCampaign$Farm" "turbineCount" "I", Cond.fieldLink RX8 170 "CraneCampaign$Farm" "hour" "I", Cond.fieldLink RX8 202 "CraneCampaign$Farm" "winds" "LCraneCampaign$Winds;", Cond.fieldLink RX8 210 "CraneCampaign$Winds" "count" "I", Cond.fieldLink RX8 125 "CraneCampaign$Farm" "plan" "LCraneCampaign$Plan;", Cond.fieldLink RX8 142 "CraneCampaign$Plan" "count" "I", Cond.fieldLink RX8 339 "CraneCampaign$Crane" "place" "I", Cond.fieldLink RX8 343 "CraneCampaign$Crane" "hoursLeft" "I", Cond.fieldLink RX8 346 "CraneCampaign$Crane" "goal" "I", Cond.fieldLink RX8 151 "CraneCampaign$Farm" "harbour" "LCraneCampaign$Harbour;", Cond.fieldLink RX8 167 "CraneCampaign$Harbour" "count" "I", Cond.fieldLink RX8 27 "CraneCampaign" "savedCount" "I"]
def wsX8_count_r2 : List Cond := [Cond.methodLink RX8 330 yX2_faultCount, Cond.instanceMethod yX2_faultCount, Cond.selects RX2 yX2_faultCount yX2_faultCount, Cond.initialized RX2, Cond.code yX2_faultCount cX2_faultCount 3 (some .int), Cond.fieldLink RX2 17 "CraneCampaign$Farm" "turbineCount" "I", Cond.fieldLink RX2 11 "CraneCampaign$Farm" "turbines" "[LCraneCampaign$Turbine;", Cond.fieldLink RX2 102 "CraneCampaign$Turbine" "fault" "I", Cond.methodLink RX8 333 yX2_windNow, Cond.instanceMethod yX2_windNow, Cond.selects RX2 yX2_windNow yX2_windNow, Cond.code yX2_windNow cX2_windNow 1 (some .int), Cond.fieldLink RX2 52 "CraneCampaign$Farm" "winds" "LCraneCampaign$Winds;", Cond.fieldLink RX2 63 "CraneCampaign$Farm" "hour" "I", Cond.methodLink RX2 108 yX7_at, Cond.instanceMethod yX7_at, Cond.selects RX7 yX7_at yX7_at, Cond.initialized RX7, Cond.code yX7_at cX7_at 2 (some .int), Cond.fieldLink RX7 15 "CraneCampaign$Winds" "count" "I", Cond.fieldLink RX7 9 "CraneCampaign$Winds" "row" "[I", Cond.methodLink RX8 336 yX4_first, Cond.instanceMethod yX4_first, Cond.selects RX4 yX4_first yX4_first]
def wsX8_count_r3 : List Cond := [Cond.initialized RX4, Cond.code yX4_first cX4_first 1 (some .int), Cond.fieldLink RX4 15 "CraneCampaign$Plan" "count" "I", Cond.fieldLink RX4 9 "CraneCampaign$Plan" "row" "[I", Cond.methodLink RX8 349 yX1_workOn, Cond.instanceMethod yX1_workOn, Cond.selects RX1 yX1_workOn yX1_workOn, Cond.initialized RX1, Cond.code yX1_workOn cX1_workOn 2 (some .int), Cond.fieldLink RX1 24 "CraneCampaign$Crane" "workedOn" "I", Cond.fieldLink RX1 21 "CraneCampaign$Crane" "workDone" "I", Cond.methodLink RX8 278 yX2_lostPower, Cond.instanceMethod yX2_lostPower, Cond.selects RX2 yX2_lostPower yX2_lostPower, Cond.code yX2_lostPower cX2_lostPower 3 (some .int), Cond.fieldLink RX2 60 "CraneCampaign$Farm" "lostBy" "[I", Cond.methodLink RX8 281 yX2_wonPower, Cond.instanceMethod yX2_wonPower, Cond.selects RX2 yX2_wonPower yX2_wonPower, Cond.code yX2_wonPower cX2_wonPower 3 (some .int), Cond.fieldLink RX2 105 "CraneCampaign$Turbine" "won" "I"]
def wsX8_count : List Cond := .code yX8_count cX8_count 2 (some .int) :: ((wsX8_count_r1 ++ (wsX8_count_r2 ++ wsX8_count_r3)) ++ wsX80 ++ wsX20 ++ wsX70 ++ wsX40 ++ wsX10 ++ wsX30 ++ wsX50)
def wsX8_setting : List Cond := .code yX8_setting cX8_setting 2 (some .int) :: ([.fieldLink RX8 10 "CraneCampaign" "farm" "LCraneCampaign$Farm;", .fieldLink RX8 122 "CraneCampaign$Farm" "settings" "[I", .methodLink RX8 110 yX8_requireSetting, .static yX8_requireSetting, .initialized RX8, .code yX8_requireSetting cX8_requireSetting 1 none, .classLink RX8 134 "java/lang/IndexOutOfBoundsException", .initialized "java/lang/IndexOutOfBoundsException", .methodLink RX8 37 yX8_isWithin, .static yX8_isWithin, .code yX8_isWithin cX8_isWithin 3 (some .boolean)] ++ wsX80 ++ wsX20)
def wsX8_way_r1 : List Cond := [Cond.classLink RX8 41 "java/lang/IllegalArgumentException", Cond.initialized "java/lang/IllegalArgumentException", Cond.fieldLink RX8 10 "CraneCampaign" "farm" "LCraneCampaign$Farm;", Cond.methodLink RX8 37 yX8_isWithin, Cond.static yX8_isWithin, Cond.initialized RX8, Cond.code yX8_isWithin cX8_isWithin 3 (some .boolean), Cond.methodLink RX8 255 yX2_hoursBetween, Cond.instanceMethod yX2_hoursBetween, Cond.selects RX2 yX2_hoursBetween yX2_hoursBetween, Cond.initialized RX2, Cond.code yX2_hoursBetween cX2_hoursBetween 6 (some .int), Cond.fieldLink RX2 56 "CraneCampaign$Farm" "settings" "[I", Cond.methodLink RX2 156 Lib.Math.max.name, Cond.static Lib.Math.max.name, Cond.initialized "java/lang/Math", Cond.code Lib.Math.max.name Lib.Math.max.code 2 (some .int), Cond.methodLink RX2 162 Lib.Math.abs.name, Cond.static Lib.Math.abs.name, Cond.code Lib.Math.abs.name Lib.Math.abs.code 1 (some .int), Cond.fieldLink RX2 24 "CraneCampaign$Farm" "bogs" "LCraneCampaign$Bogs;", Cond.methodLink RX2 165 Lib.Math.min.name, Cond.static Lib.Math.min.name, Cond.code Lib.Math.min.name Lib.Math.min.code 2 (some .int)]
def wsX8_way_r2 : List Cond := [Cond.methodLink RX2 168 yX0_countBetween, Cond.instanceMethod yX0_countBetween, Cond.selects RX0 yX0_countBetween yX0_countBetween, Cond.initialized RX0, Cond.code yX0_countBetween cX0_countBetween 6 (some .int), Cond.fieldLink RX0 18 "CraneCampaign$Bogs" "count" "I", Cond.fieldLink RX0 9 "CraneCampaign$Bogs" "place" "[I", Cond.fieldLink RX0 15 "CraneCampaign$Bogs" "need" "[I"]
def wsX8_way : List Cond := .code yX8_way cX8_way 3 (some .int) :: ((wsX8_way_r1 ++ wsX8_way_r2) ++ wsX80 ++ wsX20 ++ wsX00)
def wsX8_ifPassed_r1 : List Cond := [Cond.classLink RX8 41 "java/lang/IllegalArgumentException", Cond.initialized "java/lang/IllegalArgumentException", Cond.fieldLink RX8 16 "CraneCampaign" "trial" "LCraneCampaign$Farm;", Cond.fieldLink RX8 10 "CraneCampaign" "farm" "LCraneCampaign$Farm;", Cond.methodLink RX8 37 yX8_isWithin, Cond.static yX8_isWithin, Cond.initialized RX8, Cond.code yX8_isWithin cX8_isWithin 3 (some .boolean), Cond.methodLink RX8 215 yX2_copyFrom, Cond.instanceMethod yX2_copyFrom, Cond.selects RX2 yX2_copyFrom yX2_copyFrom, Cond.initialized RX2, Cond.code yX2_copyFrom cX2_copyFrom 3 none, Cond.fieldLink RX2 17 "CraneCampaign$Farm" "turbineCount" "I", Cond.fieldLink RX2 11 "CraneCampaign$Farm" "turbines" "[LCraneCampaign$Turbine;", Cond.fieldLink RX2 24 "CraneCampaign$Farm" "bogs" "LCraneCampaign$Bogs;", Cond.fieldLink RX2 31 "CraneCampaign$Farm" "harbour" "LCraneCampaign$Harbour;", Cond.fieldLink RX2 38 "CraneCampaign$Farm" "plan" "LCraneCampaign$Plan;", Cond.fieldLink RX2 45 "CraneCampaign$Farm" "crane" "LCraneCampaign$Crane;", Cond.fieldLink RX2 52 "CraneCampaign$Farm" "winds" "LCraneCampaign$Winds;", Cond.fieldLink RX2 56 "CraneCampaign$Farm" "settings" "[I", Cond.methodLink RX2 70 arraycopyName, Cond.native arraycopyName, Cond.static arraycopyName]
def wsX8_ifPassed_r2 : List Cond := [Cond.initialized "java/lang/System", Cond.fieldLink RX2 60 "CraneCampaign$Farm" "lostBy" "[I", Cond.fieldLink RX2 63 "CraneCampaign$Farm" "hour" "I", Cond.methodLink RX2 76 yX5_copyFrom, Cond.instanceMethod yX5_copyFrom, Cond.selects RX5 yX5_copyFrom yX5_copyFrom, Cond.initialized RX5, Cond.code yX5_copyFrom cX5_copyFrom 2 none, Cond.fieldLink RX5 9 "CraneCampaign$Turbine" "place" "I", Cond.fieldLink RX5 15 "CraneCampaign$Turbine" "height" "I", Cond.fieldLink RX5 18 "CraneCampaign$Turbine" "rate" "I", Cond.fieldLink RX5 21 "CraneCampaign$Turbine" "fault" "I", Cond.fieldLink RX5 24 "CraneCampaign$Turbine" "age" "I", Cond.fieldLink RX5 27 "CraneCampaign$Turbine" "lost" "I", Cond.fieldLink RX5 30 "CraneCampaign$Turbine" "won" "I", Cond.methodLink RX2 80 yX0_copyFrom, Cond.instanceMethod yX0_copyFrom, Cond.selects RX0 yX0_copyFrom yX0_copyFrom, Cond.initialized RX0, Cond.code yX0_copyFrom cX0_copyFrom 2 none, Cond.fieldLink RX0 9 "CraneCampaign$Bogs" "place" "[I", Cond.methodLink RX0 22 arraycopyName, Cond.fieldLink RX0 15 "CraneCampaign$Bogs" "need" "[I", Cond.fieldLink RX0 18 "CraneCampaign$Bogs" "count" "I"]
def wsX8_ifPassed_r3 : List Cond := [Cond.methodLink RX2 83 yX3_copyFrom, Cond.instanceMethod yX3_copyFrom, Cond.selects RX3 yX3_copyFrom yX3_copyFrom, Cond.initialized RX3, Cond.code yX3_copyFrom cX3_copyFrom 2 none, Cond.fieldLink RX3 9 "CraneCampaign$Harbour" "turbine" "[I", Cond.methodLink RX3 22 arraycopyName, Cond.fieldLink RX3 15 "CraneCampaign$Harbour" "weight" "[I", Cond.fieldLink RX3 18 "CraneCampaign$Harbour" "count" "I", Cond.methodLink RX2 86 yX4_copyFrom, Cond.instanceMethod yX4_copyFrom, Cond.selects RX4 yX4_copyFrom yX4_copyFrom, Cond.initialized RX4, Cond.code yX4_copyFrom cX4_copyFrom 2 none, Cond.fieldLink RX4 9 "CraneCampaign$Plan" "row" "[I", Cond.methodLink RX4 19 arraycopyName, Cond.fieldLink RX4 15 "CraneCampaign$Plan" "count" "I", Cond.methodLink RX2 89 yX1_copyFrom, Cond.instanceMethod yX1_copyFrom, Cond.selects RX1 yX1_copyFrom yX1_copyFrom, Cond.initialized RX1, Cond.code yX1_copyFrom cX1_copyFrom 2 none, Cond.fieldLink RX1 9 "CraneCampaign$Crane" "place" "I", Cond.fieldLink RX1 15 "CraneCampaign$Crane" "hoursLeft" "I"]
def wsX8_ifPassed_r4 : List Cond := [Cond.fieldLink RX1 18 "CraneCampaign$Crane" "goal" "I", Cond.fieldLink RX1 21 "CraneCampaign$Crane" "workDone" "I", Cond.fieldLink RX1 24 "CraneCampaign$Crane" "workedOn" "I", Cond.methodLink RX2 92 yX7_copyFrom, Cond.instanceMethod yX7_copyFrom, Cond.selects RX7 yX7_copyFrom yX7_copyFrom, Cond.initialized RX7, Cond.code yX7_copyFrom cX7_copyFrom 2 none, Cond.fieldLink RX7 9 "CraneCampaign$Winds" "row" "[I", Cond.methodLink RX7 19 arraycopyName, Cond.fieldLink RX7 15 "CraneCampaign$Winds" "count" "I", Cond.methodLink RX8 175 yX2_runHours, Cond.instanceMethod yX2_runHours, Cond.selects RX2 yX2_runHours yX2_runHours, Cond.code yX2_runHours cX2_runHours 4 (some .int), Cond.methodLink RX2 172 yX2_runHour, Cond.instanceMethod yX2_runHour, Cond.selects RX2 yX2_runHour yX2_runHour, Cond.code yX2_runHour cX2_runHour 4 (some .int), Cond.methodLink RX2 175 yX3_unload, Cond.instanceMethod yX3_unload, Cond.selects RX3 yX3_unload yX3_unload, Cond.code yX3_unload cX3_unload 5 none, Cond.methodLink RX3 32 Lib.Math.min.name]
def wsX8_ifPassed_r5 : List Cond := [Cond.static Lib.Math.min.name, Cond.initialized "java/lang/Math", Cond.code Lib.Math.min.name Lib.Math.min.code 2 (some .int), Cond.methodLink RX2 179 yX2_dropFaultless, Cond.instanceMethod yX2_dropFaultless, Cond.selects RX2 yX2_dropFaultless yX2_dropFaultless, Cond.code yX2_dropFaultless cX2_dropFaultless 3 none, Cond.fieldLink RX2 153 "CraneCampaign$Plan" "count" "I", Cond.fieldLink RX2 197 "CraneCampaign$Crane" "workedOn" "I", Cond.fieldLink RX2 102 "CraneCampaign$Turbine" "fault" "I", Cond.methodLink RX2 182 yX4_first, Cond.instanceMethod yX4_first, Cond.selects RX4 yX4_first yX4_first, Cond.code yX4_first cX4_first 1 (some .int), Cond.methodLink RX2 200 yX1_forgetWork, Cond.instanceMethod yX1_forgetWork, Cond.selects RX1 yX1_forgetWork yX1_forgetWork, Cond.code yX1_forgetWork cX1_forgetWork 1 none, Cond.methodLink RX2 112 yX2_hasTurbine, Cond.instanceMethod yX2_hasTurbine, Cond.selects RX2 yX2_hasTurbine yX2_hasTurbine, Cond.code yX2_hasTurbine cX2_hasTurbine 2 (some .boolean), Cond.methodLink RX2 203 yX4_removeAt, Cond.instanceMethod yX4_removeAt]
def wsX8_ifPassed_r6 : List Cond := [Cond.selects RX4 yX4_removeAt yX4_removeAt, Cond.code yX4_removeAt cX4_removeAt 3 none, Cond.methodLink RX2 185 yX2_serve, Cond.instanceMethod yX2_serve, Cond.selects RX2 yX2_serve yX2_serve, Cond.code yX2_serve cX2_serve 3 (some .int), Cond.fieldLink RX2 210 "CraneCampaign$Crane" "place" "I", Cond.fieldLink RX2 95 "CraneCampaign$Turbine" "place" "I", Cond.methodLink RX2 206 yX1_isOnWay, Cond.instanceMethod yX1_isOnWay, Cond.selects RX1 yX1_isOnWay yX1_isOnWay, Cond.code yX1_isOnWay cX1_isOnWay 1 (some .boolean), Cond.methodLink RX2 211 yX2_hoursBetween, Cond.instanceMethod yX2_hoursBetween, Cond.selects RX2 yX2_hoursBetween yX2_hoursBetween, Cond.code yX2_hoursBetween cX2_hoursBetween 6 (some .int), Cond.methodLink RX2 156 Lib.Math.max.name, Cond.static Lib.Math.max.name, Cond.code Lib.Math.max.name Lib.Math.max.code 2 (some .int), Cond.methodLink RX2 162 Lib.Math.abs.name, Cond.static Lib.Math.abs.name, Cond.code Lib.Math.abs.name Lib.Math.abs.code 1 (some .int), Cond.methodLink RX2 165 Lib.Math.min.name, Cond.methodLink RX2 168 yX0_countBetween]
def wsX8_ifPassed_r7 : List Cond := [Cond.instanceMethod yX0_countBetween, Cond.selects RX0 yX0_countBetween yX0_countBetween, Cond.code yX0_countBetween cX0_countBetween 6 (some .int), Cond.methodLink RX2 214 yX1_driveTo, Cond.instanceMethod yX1_driveTo, Cond.selects RX1 yX1_driveTo yX1_driveTo, Cond.code yX1_driveTo cX1_driveTo 4 none, Cond.methodLink RX1 27 Lib.Math.max.name, Cond.methodLink RX2 131 yX3_unloadedFor, Cond.instanceMethod yX3_unloadedFor, Cond.selects RX3 yX3_unloadedFor yX3_unloadedFor, Cond.code yX3_unloadedFor cX3_unloadedFor 4 (some .int), Cond.methodLink RX2 137 yX2_windNow, Cond.instanceMethod yX2_windNow, Cond.selects RX2 yX2_windNow yX2_windNow, Cond.code yX2_windNow cX2_windNow 1 (some .int), Cond.methodLink RX2 108 yX7_at, Cond.instanceMethod yX7_at, Cond.selects RX7 yX7_at yX7_at, Cond.code yX7_at cX7_at 2 (some .int), Cond.methodLink RX2 125 yX5_limit, Cond.instanceMethod yX5_limit, Cond.selects RX5 yX5_limit yX5_limit, Cond.code yX5_limit cX5_limit 2 (some .int)]
def wsX8_ifPassed_r8 : List Cond := [Cond.methodLink RX2 217 yX1_workAnHourOn, Cond.instanceMethod yX1_workAnHourOn, Cond.selects RX1 yX1_workAnHourOn yX1_workAnHourOn, Cond.code yX1_workAnHourOn cX1_workAnHourOn 2 none, Cond.methodLink RX2 188 yX2_sharePower, Cond.instanceMethod yX2_sharePower, Cond.selects RX2 yX2_sharePower yX2_sharePower, Cond.code yX2_sharePower cX2_sharePower 9 (some .int), Cond.fieldLink RX2 134 "CraneCampaign$Turbine" "lost" "I", Cond.fieldLink RX2 105 "CraneCampaign$Turbine" "won" "I", Cond.methodLink RX2 141 yX5_fullPower, Cond.instanceMethod yX5_fullPower, Cond.selects RX5 yX5_fullPower yX5_fullPower, Cond.code yX5_fullPower cX5_fullPower 2 (some .int), Cond.methodLink RX5 33 Lib.Math.min.name, Cond.methodLink RX2 191 yX2_finishIfDone, Cond.instanceMethod yX2_finishIfDone, Cond.selects RX2 yX2_finishIfDone yX2_finishIfDone, Cond.code yX2_finishIfDone cX2_finishIfDone 2 none, Cond.fieldLink RX2 220 "CraneCampaign$Crane" "workDone" "I", Cond.fieldLink RX2 122 "CraneCampaign$Turbine" "age" "I", Cond.methodLink RX2 223 yX3_useBladeFor, Cond.instanceMethod yX3_useBladeFor, Cond.selects RX3 yX3_useBladeFor yX3_useBladeFor]
def wsX8_ifPassed_r9 : List Cond := [Cond.code yX3_useBladeFor cX3_useBladeFor 3 none, Cond.methodLink RX3 38 yX3_removeAt, Cond.instanceMethod yX3_removeAt, Cond.selects RX3 yX3_removeAt yX3_removeAt, Cond.code yX3_removeAt cX3_removeAt 3 none, Cond.methodLink RX2 128 yX4_placeOf, Cond.instanceMethod yX4_placeOf, Cond.selects RX4 yX4_placeOf yX4_placeOf, Cond.code yX4_placeOf cX4_placeOf 3 (some .int), Cond.methodLink RX2 194 yX2_worsen, Cond.instanceMethod yX2_worsen, Cond.selects RX2 yX2_worsen yX2_worsen, Cond.code yX2_worsen cX2_worsen 3 none, Cond.methodLink RX2 226 yX5_growOlder, Cond.instanceMethod yX5_growOlder, Cond.selects RX5 yX5_growOlder yX5_growOlder, Cond.code yX5_growOlder cX5_growOlder 2 none, Cond.methodLink RX8 260 yX2_outcome, Cond.instanceMethod yX2_outcome, Cond.selects RX2 yX2_outcome yX2_outcome, Cond.code yX2_outcome cX2_outcome 2 (some .int), Cond.methodLink RX2 144 yX2_lostPower, Cond.instanceMethod yX2_lostPower, Cond.selects RX2 yX2_lostPower yX2_lostPower]
def wsX8_ifPassed_r10 : List Cond := [Cond.code yX2_lostPower cX2_lostPower 3 (some .int), Cond.methodLink RX2 147 yX2_wonPower, Cond.instanceMethod yX2_wonPower, Cond.selects RX2 yX2_wonPower yX2_wonPower, Cond.code yX2_wonPower cX2_wonPower 3 (some .int), Cond.methodLink RX2 150 yX2_faultCount, Cond.instanceMethod yX2_faultCount, Cond.selects RX2 yX2_faultCount yX2_faultCount, Cond.code yX2_faultCount cX2_faultCount 3 (some .int)]
def wsX8_ifPassed : List Cond := .code yX8_ifPassed cX8_ifPassed 3 (some .int) :: ((wsX8_ifPassed_r1 ++ (wsX8_ifPassed_r2 ++ (wsX8_ifPassed_r3 ++ (wsX8_ifPassed_r4 ++ (wsX8_ifPassed_r5 ++ (wsX8_ifPassed_r6 ++ (wsX8_ifPassed_r7 ++ (wsX8_ifPassed_r8 ++ (wsX8_ifPassed_r9 ++ wsX8_ifPassed_r10))))))))) ++ wsX80 ++ wsX20 ++ wsX50 ++ wsX00 ++ wsX30 ++ wsX40 ++ wsX10 ++ wsX70)
def wsX8_bestFirst_r1 : List Cond := [Cond.fieldLink RX8 10 "CraneCampaign" "farm" "LCraneCampaign$Farm;", Cond.fieldLink RX8 125 "CraneCampaign$Farm" "plan" "LCraneCampaign$Plan;", Cond.fieldLink RX8 142 "CraneCampaign$Plan" "count" "I", Cond.fieldLink RX8 263 "CraneCampaign$Plan" "row" "[I", Cond.fieldLink RX8 16 "CraneCampaign" "trial" "LCraneCampaign$Farm;", Cond.methodLink RX8 215 yX2_copyFrom, Cond.instanceMethod yX2_copyFrom, Cond.selects RX2 yX2_copyFrom yX2_copyFrom, Cond.initialized RX2, Cond.code yX2_copyFrom cX2_copyFrom 3 none, Cond.fieldLink RX2 17 "CraneCampaign$Farm" "turbineCount" "I", Cond.fieldLink RX2 11 "CraneCampaign$Farm" "turbines" "[LCraneCampaign$Turbine;", Cond.fieldLink RX2 24 "CraneCampaign$Farm" "bogs" "LCraneCampaign$Bogs;", Cond.fieldLink RX2 31 "CraneCampaign$Farm" "harbour" "LCraneCampaign$Harbour;", Cond.fieldLink RX2 38 "CraneCampaign$Farm" "plan" "LCraneCampaign$Plan;", Cond.fieldLink RX2 45 "CraneCampaign$Farm" "crane" "LCraneCampaign$Crane;", Cond.fieldLink RX2 52 "CraneCampaign$Farm" "winds" "LCraneCampaign$Winds;", Cond.fieldLink RX2 56 "CraneCampaign$Farm" "settings" "[I", Cond.methodLink RX2 70 arraycopyName, Cond.native arraycopyName, Cond.static arraycopyName, Cond.initialized "java/lang/System", Cond.fieldLink RX2 60 "CraneCampaign$Farm" "lostBy" "[I", Cond.fieldLink RX2 63 "CraneCampaign$Farm" "hour" "I"]
def wsX8_bestFirst_r2 : List Cond := [Cond.methodLink RX2 76 yX5_copyFrom, Cond.instanceMethod yX5_copyFrom, Cond.selects RX5 yX5_copyFrom yX5_copyFrom, Cond.initialized RX5, Cond.code yX5_copyFrom cX5_copyFrom 2 none, Cond.fieldLink RX5 9 "CraneCampaign$Turbine" "place" "I", Cond.fieldLink RX5 15 "CraneCampaign$Turbine" "height" "I", Cond.fieldLink RX5 18 "CraneCampaign$Turbine" "rate" "I", Cond.fieldLink RX5 21 "CraneCampaign$Turbine" "fault" "I", Cond.fieldLink RX5 24 "CraneCampaign$Turbine" "age" "I", Cond.fieldLink RX5 27 "CraneCampaign$Turbine" "lost" "I", Cond.fieldLink RX5 30 "CraneCampaign$Turbine" "won" "I", Cond.methodLink RX2 80 yX0_copyFrom, Cond.instanceMethod yX0_copyFrom, Cond.selects RX0 yX0_copyFrom yX0_copyFrom, Cond.initialized RX0, Cond.code yX0_copyFrom cX0_copyFrom 2 none, Cond.fieldLink RX0 9 "CraneCampaign$Bogs" "place" "[I", Cond.methodLink RX0 22 arraycopyName, Cond.fieldLink RX0 15 "CraneCampaign$Bogs" "need" "[I", Cond.fieldLink RX0 18 "CraneCampaign$Bogs" "count" "I", Cond.methodLink RX2 83 yX3_copyFrom, Cond.instanceMethod yX3_copyFrom, Cond.selects RX3 yX3_copyFrom yX3_copyFrom]
def wsX8_bestFirst_r3 : List Cond := [Cond.initialized RX3, Cond.code yX3_copyFrom cX3_copyFrom 2 none, Cond.fieldLink RX3 9 "CraneCampaign$Harbour" "turbine" "[I", Cond.methodLink RX3 22 arraycopyName, Cond.fieldLink RX3 15 "CraneCampaign$Harbour" "weight" "[I", Cond.fieldLink RX3 18 "CraneCampaign$Harbour" "count" "I", Cond.methodLink RX2 86 yX4_copyFrom, Cond.instanceMethod yX4_copyFrom, Cond.selects RX4 yX4_copyFrom yX4_copyFrom, Cond.initialized RX4, Cond.code yX4_copyFrom cX4_copyFrom 2 none, Cond.fieldLink RX4 9 "CraneCampaign$Plan" "row" "[I", Cond.methodLink RX4 19 arraycopyName, Cond.fieldLink RX4 15 "CraneCampaign$Plan" "count" "I", Cond.methodLink RX2 89 yX1_copyFrom, Cond.instanceMethod yX1_copyFrom, Cond.selects RX1 yX1_copyFrom yX1_copyFrom, Cond.initialized RX1, Cond.code yX1_copyFrom cX1_copyFrom 2 none, Cond.fieldLink RX1 9 "CraneCampaign$Crane" "place" "I", Cond.fieldLink RX1 15 "CraneCampaign$Crane" "hoursLeft" "I", Cond.fieldLink RX1 18 "CraneCampaign$Crane" "goal" "I", Cond.fieldLink RX1 21 "CraneCampaign$Crane" "workDone" "I", Cond.fieldLink RX1 24 "CraneCampaign$Crane" "workedOn" "I"]
def wsX8_bestFirst_r4 : List Cond := [Cond.methodLink RX2 92 yX7_copyFrom, Cond.instanceMethod yX7_copyFrom, Cond.selects RX7 yX7_copyFrom yX7_copyFrom, Cond.initialized RX7, Cond.code yX7_copyFrom cX7_copyFrom 2 none, Cond.fieldLink RX7 9 "CraneCampaign$Winds" "row" "[I", Cond.methodLink RX7 19 arraycopyName, Cond.fieldLink RX7 15 "CraneCampaign$Winds" "count" "I", Cond.methodLink RX8 139 yX4_moveTo, Cond.instanceMethod yX4_moveTo, Cond.selects RX4 yX4_moveTo yX4_moveTo, Cond.code yX4_moveTo cX4_moveTo 4 none, Cond.methodLink RX4 25 yX4_placeOf, Cond.instanceMethod yX4_placeOf, Cond.selects RX4 yX4_placeOf yX4_placeOf, Cond.code yX4_placeOf cX4_placeOf 3 (some .int), Cond.methodLink RX4 29 yX4_removeAt, Cond.instanceMethod yX4_removeAt, Cond.selects RX4 yX4_removeAt yX4_removeAt, Cond.code yX4_removeAt cX4_removeAt 3 none, Cond.methodLink RX8 175 yX2_runHours, Cond.instanceMethod yX2_runHours, Cond.selects RX2 yX2_runHours yX2_runHours, Cond.code yX2_runHours cX2_runHours 4 (some .int)]
def wsX8_bestFirst_r5 : List Cond := [Cond.methodLink RX2 172 yX2_runHour, Cond.instanceMethod yX2_runHour, Cond.selects RX2 yX2_runHour yX2_runHour, Cond.code yX2_runHour cX2_runHour 4 (some .int), Cond.methodLink RX2 175 yX3_unload, Cond.instanceMethod yX3_unload, Cond.selects RX3 yX3_unload yX3_unload, Cond.code yX3_unload cX3_unload 5 none, Cond.methodLink RX3 32 Lib.Math.min.name, Cond.static Lib.Math.min.name, Cond.initialized "java/lang/Math", Cond.code Lib.Math.min.name Lib.Math.min.code 2 (some .int), Cond.methodLink RX2 179 yX2_dropFaultless, Cond.instanceMethod yX2_dropFaultless, Cond.selects RX2 yX2_dropFaultless yX2_dropFaultless, Cond.code yX2_dropFaultless cX2_dropFaultless 3 none, Cond.fieldLink RX2 153 "CraneCampaign$Plan" "count" "I", Cond.fieldLink RX2 197 "CraneCampaign$Crane" "workedOn" "I", Cond.fieldLink RX2 102 "CraneCampaign$Turbine" "fault" "I", Cond.methodLink RX2 182 yX4_first, Cond.instanceMethod yX4_first, Cond.selects RX4 yX4_first yX4_first, Cond.code yX4_first cX4_first 1 (some .int), Cond.methodLink RX2 200 yX1_forgetWork]
def wsX8_bestFirst_r6 : List Cond := [Cond.instanceMethod yX1_forgetWork, Cond.selects RX1 yX1_forgetWork yX1_forgetWork, Cond.code yX1_forgetWork cX1_forgetWork 1 none, Cond.methodLink RX2 112 yX2_hasTurbine, Cond.instanceMethod yX2_hasTurbine, Cond.selects RX2 yX2_hasTurbine yX2_hasTurbine, Cond.code yX2_hasTurbine cX2_hasTurbine 2 (some .boolean), Cond.methodLink RX2 203 yX4_removeAt, Cond.methodLink RX2 185 yX2_serve, Cond.instanceMethod yX2_serve, Cond.selects RX2 yX2_serve yX2_serve, Cond.code yX2_serve cX2_serve 3 (some .int), Cond.fieldLink RX2 210 "CraneCampaign$Crane" "place" "I", Cond.fieldLink RX2 95 "CraneCampaign$Turbine" "place" "I", Cond.methodLink RX2 206 yX1_isOnWay, Cond.instanceMethod yX1_isOnWay, Cond.selects RX1 yX1_isOnWay yX1_isOnWay, Cond.code yX1_isOnWay cX1_isOnWay 1 (some .boolean), Cond.methodLink RX2 211 yX2_hoursBetween, Cond.instanceMethod yX2_hoursBetween, Cond.selects RX2 yX2_hoursBetween yX2_hoursBetween, Cond.code yX2_hoursBetween cX2_hoursBetween 6 (some .int), Cond.methodLink RX2 156 Lib.Math.max.name, Cond.static Lib.Math.max.name]
def wsX8_bestFirst_r7 : List Cond := [Cond.code Lib.Math.max.name Lib.Math.max.code 2 (some .int), Cond.methodLink RX2 162 Lib.Math.abs.name, Cond.static Lib.Math.abs.name, Cond.code Lib.Math.abs.name Lib.Math.abs.code 1 (some .int), Cond.methodLink RX2 165 Lib.Math.min.name, Cond.methodLink RX2 168 yX0_countBetween, Cond.instanceMethod yX0_countBetween, Cond.selects RX0 yX0_countBetween yX0_countBetween, Cond.code yX0_countBetween cX0_countBetween 6 (some .int), Cond.methodLink RX2 214 yX1_driveTo, Cond.instanceMethod yX1_driveTo, Cond.selects RX1 yX1_driveTo yX1_driveTo, Cond.code yX1_driveTo cX1_driveTo 4 none, Cond.methodLink RX1 27 Lib.Math.max.name, Cond.methodLink RX2 131 yX3_unloadedFor, Cond.instanceMethod yX3_unloadedFor, Cond.selects RX3 yX3_unloadedFor yX3_unloadedFor, Cond.code yX3_unloadedFor cX3_unloadedFor 4 (some .int), Cond.methodLink RX2 137 yX2_windNow, Cond.instanceMethod yX2_windNow, Cond.selects RX2 yX2_windNow yX2_windNow, Cond.code yX2_windNow cX2_windNow 1 (some .int), Cond.methodLink RX2 108 yX7_at, Cond.instanceMethod yX7_at]
def wsX8_bestFirst_r8 : List Cond := [Cond.selects RX7 yX7_at yX7_at, Cond.code yX7_at cX7_at 2 (some .int), Cond.methodLink RX2 125 yX5_limit, Cond.instanceMethod yX5_limit, Cond.selects RX5 yX5_limit yX5_limit, Cond.code yX5_limit cX5_limit 2 (some .int), Cond.methodLink RX2 217 yX1_workAnHourOn, Cond.instanceMethod yX1_workAnHourOn, Cond.selects RX1 yX1_workAnHourOn yX1_workAnHourOn, Cond.code yX1_workAnHourOn cX1_workAnHourOn 2 none, Cond.methodLink RX2 188 yX2_sharePower, Cond.instanceMethod yX2_sharePower, Cond.selects RX2 yX2_sharePower yX2_sharePower, Cond.code yX2_sharePower cX2_sharePower 9 (some .int), Cond.fieldLink RX2 134 "CraneCampaign$Turbine" "lost" "I", Cond.fieldLink RX2 105 "CraneCampaign$Turbine" "won" "I", Cond.methodLink RX2 141 yX5_fullPower, Cond.instanceMethod yX5_fullPower, Cond.selects RX5 yX5_fullPower yX5_fullPower, Cond.code yX5_fullPower cX5_fullPower 2 (some .int), Cond.methodLink RX5 33 Lib.Math.min.name, Cond.methodLink RX2 191 yX2_finishIfDone, Cond.instanceMethod yX2_finishIfDone, Cond.selects RX2 yX2_finishIfDone yX2_finishIfDone]
def wsX8_bestFirst_r9 : List Cond := [Cond.code yX2_finishIfDone cX2_finishIfDone 2 none, Cond.fieldLink RX2 220 "CraneCampaign$Crane" "workDone" "I", Cond.fieldLink RX2 122 "CraneCampaign$Turbine" "age" "I", Cond.methodLink RX2 223 yX3_useBladeFor, Cond.instanceMethod yX3_useBladeFor, Cond.selects RX3 yX3_useBladeFor yX3_useBladeFor, Cond.code yX3_useBladeFor cX3_useBladeFor 3 none, Cond.methodLink RX3 38 yX3_removeAt, Cond.instanceMethod yX3_removeAt, Cond.selects RX3 yX3_removeAt yX3_removeAt, Cond.code yX3_removeAt cX3_removeAt 3 none, Cond.methodLink RX2 128 yX4_placeOf, Cond.methodLink RX2 194 yX2_worsen, Cond.instanceMethod yX2_worsen, Cond.selects RX2 yX2_worsen yX2_worsen, Cond.code yX2_worsen cX2_worsen 3 none, Cond.methodLink RX2 226 yX5_growOlder, Cond.instanceMethod yX5_growOlder, Cond.selects RX5 yX5_growOlder yX5_growOlder, Cond.code yX5_growOlder cX5_growOlder 2 none]
def wsX8_bestFirst : List Cond := .code yX8_bestFirst cX8_bestFirst 6 (some .int) :: ((wsX8_bestFirst_r1 ++ (wsX8_bestFirst_r2 ++ (wsX8_bestFirst_r3 ++ (wsX8_bestFirst_r4 ++ (wsX8_bestFirst_r5 ++ (wsX8_bestFirst_r6 ++ (wsX8_bestFirst_r7 ++ (wsX8_bestFirst_r8 ++ wsX8_bestFirst_r9)))))))) ++ wsX80 ++ wsX20 ++ wsX40 ++ wsX50 ++ wsX00 ++ wsX30 ++ wsX10 ++ wsX70)
def wsX8_window_r1 : List Cond := [Cond.classLink RX8 41 "java/lang/IllegalArgumentException", Cond.initialized "java/lang/IllegalArgumentException", Cond.fieldLink RX8 10 "CraneCampaign" "farm" "LCraneCampaign$Farm;", Cond.methodLink RX8 67 yX8_requireTurbine, Cond.instanceMethod yX8_requireTurbine, Cond.selects RX8 yX8_requireTurbine yX8_requireTurbine, Cond.initialized RX8, Cond.code yX8_requireTurbine cX8_requireTurbine 2 none, Cond.classLink RX8 134 "java/lang/IndexOutOfBoundsException", Cond.initialized "java/lang/IndexOutOfBoundsException", Cond.methodLink RX8 319 yX2_hasTurbine, Cond.instanceMethod yX2_hasTurbine, Cond.selects RX2 yX2_hasTurbine yX2_hasTurbine, Cond.initialized RX2, Cond.code yX2_hasTurbine cX2_hasTurbine 2 (some .boolean), Cond.fieldLink RX2 17 "CraneCampaign$Farm" "turbineCount" "I", Cond.methodLink RX8 37 yX8_isWithin, Cond.static yX8_isWithin, Cond.code yX8_isWithin cX8_isWithin 3 (some .boolean), Cond.methodLink RX8 268 yX2_hoursUntilCalm, Cond.instanceMethod yX2_hoursUntilCalm, Cond.selects RX2 yX2_hoursUntilCalm yX2_hoursUntilCalm, Cond.code yX2_hoursUntilCalm cX2_hoursUntilCalm 6 (some .int), Cond.fieldLink RX2 11 "CraneCampaign$Farm" "turbines" "[LCraneCampaign$Turbine;"]
def wsX8_window_r2 : List Cond := [Cond.fieldLink RX2 56 "CraneCampaign$Farm" "settings" "[I", Cond.fieldLink RX2 52 "CraneCampaign$Farm" "winds" "LCraneCampaign$Winds;", Cond.fieldLink RX2 63 "CraneCampaign$Farm" "hour" "I", Cond.methodLink RX2 112 yX2_hasTurbine, Cond.methodLink RX2 125 yX5_limit, Cond.instanceMethod yX5_limit, Cond.selects RX5 yX5_limit yX5_limit, Cond.initialized RX5, Cond.code yX5_limit cX5_limit 2 (some .int), Cond.fieldLink RX5 15 "CraneCampaign$Turbine" "height" "I", Cond.methodLink RX2 108 yX7_at, Cond.instanceMethod yX7_at, Cond.selects RX7 yX7_at yX7_at, Cond.initialized RX7, Cond.code yX7_at cX7_at 2 (some .int), Cond.fieldLink RX7 15 "CraneCampaign$Winds" "count" "I", Cond.fieldLink RX7 9 "CraneCampaign$Winds" "row" "[I"]
def wsX8_window : List Cond := .code yX8_window cX8_window 3 (some .int) :: ((wsX8_window_r1 ++ wsX8_window_r2) ++ wsX80 ++ wsX20 ++ wsX50 ++ wsX70)
def wsX8_doneIn_r1 : List Cond := [Cond.fieldLink RX8 16 "CraneCampaign" "trial" "LCraneCampaign$Farm;", Cond.fieldLink RX8 10 "CraneCampaign" "farm" "LCraneCampaign$Farm;", Cond.fieldLink RX8 125 "CraneCampaign$Farm" "plan" "LCraneCampaign$Plan;", Cond.fieldLink RX8 142 "CraneCampaign$Plan" "count" "I", Cond.methodLink RX8 215 yX2_copyFrom, Cond.instanceMethod yX2_copyFrom, Cond.selects RX2 yX2_copyFrom yX2_copyFrom, Cond.initialized RX2, Cond.code yX2_copyFrom cX2_copyFrom 3 none, Cond.fieldLink RX2 17 "CraneCampaign$Farm" "turbineCount" "I", Cond.fieldLink RX2 11 "CraneCampaign$Farm" "turbines" "[LCraneCampaign$Turbine;", Cond.fieldLink RX2 24 "CraneCampaign$Farm" "bogs" "LCraneCampaign$Bogs;", Cond.fieldLink RX2 31 "CraneCampaign$Farm" "harbour" "LCraneCampaign$Harbour;", Cond.fieldLink RX2 38 "CraneCampaign$Farm" "plan" "LCraneCampaign$Plan;", Cond.fieldLink RX2 45 "CraneCampaign$Farm" "crane" "LCraneCampaign$Crane;", Cond.fieldLink RX2 52 "CraneCampaign$Farm" "winds" "LCraneCampaign$Winds;", Cond.fieldLink RX2 56 "CraneCampaign$Farm" "settings" "[I", Cond.methodLink RX2 70 arraycopyName, Cond.native arraycopyName, Cond.static arraycopyName, Cond.initialized "java/lang/System", Cond.fieldLink RX2 60 "CraneCampaign$Farm" "lostBy" "[I", Cond.fieldLink RX2 63 "CraneCampaign$Farm" "hour" "I", Cond.methodLink RX2 76 yX5_copyFrom]
def wsX8_doneIn_r2 : List Cond := [Cond.instanceMethod yX5_copyFrom, Cond.selects RX5 yX5_copyFrom yX5_copyFrom, Cond.initialized RX5, Cond.code yX5_copyFrom cX5_copyFrom 2 none, Cond.fieldLink RX5 9 "CraneCampaign$Turbine" "place" "I", Cond.fieldLink RX5 15 "CraneCampaign$Turbine" "height" "I", Cond.fieldLink RX5 18 "CraneCampaign$Turbine" "rate" "I", Cond.fieldLink RX5 21 "CraneCampaign$Turbine" "fault" "I", Cond.fieldLink RX5 24 "CraneCampaign$Turbine" "age" "I", Cond.fieldLink RX5 27 "CraneCampaign$Turbine" "lost" "I", Cond.fieldLink RX5 30 "CraneCampaign$Turbine" "won" "I", Cond.methodLink RX2 80 yX0_copyFrom, Cond.instanceMethod yX0_copyFrom, Cond.selects RX0 yX0_copyFrom yX0_copyFrom, Cond.initialized RX0, Cond.code yX0_copyFrom cX0_copyFrom 2 none, Cond.fieldLink RX0 9 "CraneCampaign$Bogs" "place" "[I", Cond.methodLink RX0 22 arraycopyName, Cond.fieldLink RX0 15 "CraneCampaign$Bogs" "need" "[I", Cond.fieldLink RX0 18 "CraneCampaign$Bogs" "count" "I", Cond.methodLink RX2 83 yX3_copyFrom, Cond.instanceMethod yX3_copyFrom, Cond.selects RX3 yX3_copyFrom yX3_copyFrom, Cond.initialized RX3]
def wsX8_doneIn_r3 : List Cond := [Cond.code yX3_copyFrom cX3_copyFrom 2 none, Cond.fieldLink RX3 9 "CraneCampaign$Harbour" "turbine" "[I", Cond.methodLink RX3 22 arraycopyName, Cond.fieldLink RX3 15 "CraneCampaign$Harbour" "weight" "[I", Cond.fieldLink RX3 18 "CraneCampaign$Harbour" "count" "I", Cond.methodLink RX2 86 yX4_copyFrom, Cond.instanceMethod yX4_copyFrom, Cond.selects RX4 yX4_copyFrom yX4_copyFrom, Cond.initialized RX4, Cond.code yX4_copyFrom cX4_copyFrom 2 none, Cond.fieldLink RX4 9 "CraneCampaign$Plan" "row" "[I", Cond.methodLink RX4 19 arraycopyName, Cond.fieldLink RX4 15 "CraneCampaign$Plan" "count" "I", Cond.methodLink RX2 89 yX1_copyFrom, Cond.instanceMethod yX1_copyFrom, Cond.selects RX1 yX1_copyFrom yX1_copyFrom, Cond.initialized RX1, Cond.code yX1_copyFrom cX1_copyFrom 2 none, Cond.fieldLink RX1 9 "CraneCampaign$Crane" "place" "I", Cond.fieldLink RX1 15 "CraneCampaign$Crane" "hoursLeft" "I", Cond.fieldLink RX1 18 "CraneCampaign$Crane" "goal" "I", Cond.fieldLink RX1 21 "CraneCampaign$Crane" "workDone" "I", Cond.fieldLink RX1 24 "CraneCampaign$Crane" "workedOn" "I", Cond.methodLink RX2 92 yX7_copyFrom]
def wsX8_doneIn_r4 : List Cond := [Cond.instanceMethod yX7_copyFrom, Cond.selects RX7 yX7_copyFrom yX7_copyFrom, Cond.initialized RX7, Cond.code yX7_copyFrom cX7_copyFrom 2 none, Cond.fieldLink RX7 9 "CraneCampaign$Winds" "row" "[I", Cond.methodLink RX7 19 arraycopyName, Cond.fieldLink RX7 15 "CraneCampaign$Winds" "count" "I", Cond.methodLink RX8 271 yX2_runHour, Cond.instanceMethod yX2_runHour, Cond.selects RX2 yX2_runHour yX2_runHour, Cond.code yX2_runHour cX2_runHour 4 (some .int), Cond.methodLink RX2 175 yX3_unload, Cond.instanceMethod yX3_unload, Cond.selects RX3 yX3_unload yX3_unload, Cond.code yX3_unload cX3_unload 5 none, Cond.methodLink RX3 32 Lib.Math.min.name, Cond.static Lib.Math.min.name, Cond.initialized "java/lang/Math", Cond.code Lib.Math.min.name Lib.Math.min.code 2 (some .int), Cond.methodLink RX2 179 yX2_dropFaultless, Cond.instanceMethod yX2_dropFaultless, Cond.selects RX2 yX2_dropFaultless yX2_dropFaultless, Cond.code yX2_dropFaultless cX2_dropFaultless 3 none, Cond.fieldLink RX2 153 "CraneCampaign$Plan" "count" "I"]
def wsX8_doneIn_r5 : List Cond := [Cond.fieldLink RX2 197 "CraneCampaign$Crane" "workedOn" "I", Cond.fieldLink RX2 102 "CraneCampaign$Turbine" "fault" "I", Cond.methodLink RX2 182 yX4_first, Cond.instanceMethod yX4_first, Cond.selects RX4 yX4_first yX4_first, Cond.code yX4_first cX4_first 1 (some .int), Cond.methodLink RX2 200 yX1_forgetWork, Cond.instanceMethod yX1_forgetWork, Cond.selects RX1 yX1_forgetWork yX1_forgetWork, Cond.code yX1_forgetWork cX1_forgetWork 1 none, Cond.methodLink RX2 112 yX2_hasTurbine, Cond.instanceMethod yX2_hasTurbine, Cond.selects RX2 yX2_hasTurbine yX2_hasTurbine, Cond.code yX2_hasTurbine cX2_hasTurbine 2 (some .boolean), Cond.methodLink RX2 203 yX4_removeAt, Cond.instanceMethod yX4_removeAt, Cond.selects RX4 yX4_removeAt yX4_removeAt, Cond.code yX4_removeAt cX4_removeAt 3 none, Cond.methodLink RX2 185 yX2_serve, Cond.instanceMethod yX2_serve, Cond.selects RX2 yX2_serve yX2_serve, Cond.code yX2_serve cX2_serve 3 (some .int), Cond.fieldLink RX2 210 "CraneCampaign$Crane" "place" "I", Cond.fieldLink RX2 95 "CraneCampaign$Turbine" "place" "I"]
def wsX8_doneIn_r6 : List Cond := [Cond.methodLink RX2 206 yX1_isOnWay, Cond.instanceMethod yX1_isOnWay, Cond.selects RX1 yX1_isOnWay yX1_isOnWay, Cond.code yX1_isOnWay cX1_isOnWay 1 (some .boolean), Cond.methodLink RX2 211 yX2_hoursBetween, Cond.instanceMethod yX2_hoursBetween, Cond.selects RX2 yX2_hoursBetween yX2_hoursBetween, Cond.code yX2_hoursBetween cX2_hoursBetween 6 (some .int), Cond.methodLink RX2 156 Lib.Math.max.name, Cond.static Lib.Math.max.name, Cond.code Lib.Math.max.name Lib.Math.max.code 2 (some .int), Cond.methodLink RX2 162 Lib.Math.abs.name, Cond.static Lib.Math.abs.name, Cond.code Lib.Math.abs.name Lib.Math.abs.code 1 (some .int), Cond.methodLink RX2 165 Lib.Math.min.name, Cond.methodLink RX2 168 yX0_countBetween, Cond.instanceMethod yX0_countBetween, Cond.selects RX0 yX0_countBetween yX0_countBetween, Cond.code yX0_countBetween cX0_countBetween 6 (some .int), Cond.methodLink RX2 214 yX1_driveTo, Cond.instanceMethod yX1_driveTo, Cond.selects RX1 yX1_driveTo yX1_driveTo, Cond.code yX1_driveTo cX1_driveTo 4 none, Cond.methodLink RX1 27 Lib.Math.max.name]
def wsX8_doneIn_r7 : List Cond := [Cond.methodLink RX2 131 yX3_unloadedFor, Cond.instanceMethod yX3_unloadedFor, Cond.selects RX3 yX3_unloadedFor yX3_unloadedFor, Cond.code yX3_unloadedFor cX3_unloadedFor 4 (some .int), Cond.methodLink RX2 137 yX2_windNow, Cond.instanceMethod yX2_windNow, Cond.selects RX2 yX2_windNow yX2_windNow, Cond.code yX2_windNow cX2_windNow 1 (some .int), Cond.methodLink RX2 108 yX7_at, Cond.instanceMethod yX7_at, Cond.selects RX7 yX7_at yX7_at, Cond.code yX7_at cX7_at 2 (some .int), Cond.methodLink RX2 125 yX5_limit, Cond.instanceMethod yX5_limit, Cond.selects RX5 yX5_limit yX5_limit, Cond.code yX5_limit cX5_limit 2 (some .int), Cond.methodLink RX2 217 yX1_workAnHourOn, Cond.instanceMethod yX1_workAnHourOn, Cond.selects RX1 yX1_workAnHourOn yX1_workAnHourOn, Cond.code yX1_workAnHourOn cX1_workAnHourOn 2 none, Cond.methodLink RX2 188 yX2_sharePower, Cond.instanceMethod yX2_sharePower, Cond.selects RX2 yX2_sharePower yX2_sharePower, Cond.code yX2_sharePower cX2_sharePower 9 (some .int)]
def wsX8_doneIn_r8 : List Cond := [Cond.fieldLink RX2 134 "CraneCampaign$Turbine" "lost" "I", Cond.fieldLink RX2 105 "CraneCampaign$Turbine" "won" "I", Cond.methodLink RX2 141 yX5_fullPower, Cond.instanceMethod yX5_fullPower, Cond.selects RX5 yX5_fullPower yX5_fullPower, Cond.code yX5_fullPower cX5_fullPower 2 (some .int), Cond.methodLink RX5 33 Lib.Math.min.name, Cond.methodLink RX2 191 yX2_finishIfDone, Cond.instanceMethod yX2_finishIfDone, Cond.selects RX2 yX2_finishIfDone yX2_finishIfDone, Cond.code yX2_finishIfDone cX2_finishIfDone 2 none, Cond.fieldLink RX2 220 "CraneCampaign$Crane" "workDone" "I", Cond.fieldLink RX2 122 "CraneCampaign$Turbine" "age" "I", Cond.methodLink RX2 223 yX3_useBladeFor, Cond.instanceMethod yX3_useBladeFor, Cond.selects RX3 yX3_useBladeFor yX3_useBladeFor, Cond.code yX3_useBladeFor cX3_useBladeFor 3 none, Cond.methodLink RX3 38 yX3_removeAt, Cond.instanceMethod yX3_removeAt, Cond.selects RX3 yX3_removeAt yX3_removeAt, Cond.code yX3_removeAt cX3_removeAt 3 none, Cond.methodLink RX2 128 yX4_placeOf, Cond.instanceMethod yX4_placeOf, Cond.selects RX4 yX4_placeOf yX4_placeOf]
def wsX8_doneIn_r9 : List Cond := [Cond.code yX4_placeOf cX4_placeOf 3 (some .int), Cond.methodLink RX2 194 yX2_worsen, Cond.instanceMethod yX2_worsen, Cond.selects RX2 yX2_worsen yX2_worsen, Cond.code yX2_worsen cX2_worsen 3 none, Cond.methodLink RX2 226 yX5_growOlder, Cond.instanceMethod yX5_growOlder, Cond.selects RX5 yX5_growOlder yX5_growOlder, Cond.code yX5_growOlder cX5_growOlder 2 none]
def wsX8_doneIn : List Cond := .code yX8_doneIn cX8_doneIn 2 (some .int) :: ((wsX8_doneIn_r1 ++ (wsX8_doneIn_r2 ++ (wsX8_doneIn_r3 ++ (wsX8_doneIn_r4 ++ (wsX8_doneIn_r5 ++ (wsX8_doneIn_r6 ++ (wsX8_doneIn_r7 ++ (wsX8_doneIn_r8 ++ wsX8_doneIn_r9)))))))) ++ wsX80 ++ wsX20 ++ wsX40 ++ wsX50 ++ wsX00 ++ wsX30 ++ wsX10 ++ wsX70)
def wsX8_meanWind : List Cond := .code yX8_meanWind cX8_meanWind 2 (some .float) :: ([.fieldLink RX8 10 "CraneCampaign" "farm" "LCraneCampaign$Farm;", .fieldLink RX8 202 "CraneCampaign$Farm" "winds" "LCraneCampaign$Winds;", .fieldLink RX8 210 "CraneCampaign$Winds" "count" "I", .constantFloat RX8 277 (1090519040), .methodLink RX8 274 yX7_sum, .instanceMethod yX7_sum, .selects RX7 yX7_sum yX7_sum, .initialized RX7, .code yX7_sum cX7_sum 3 (some .int), .fieldLink RX7 15 "CraneCampaign$Winds" "count" "I", .fieldLink RX7 9 "CraneCampaign$Winds" "row" "[I"] ++ wsX80 ++ wsX20 ++ wsX70)
def wsX8_lostShare : List Cond := .code yX8_lostShare cX8_lostShare 3 (some .double) :: ([.fieldLink RX8 10 "CraneCampaign" "farm" "LCraneCampaign$Farm;", .methodLink RX8 278 yX2_lostPower, .instanceMethod yX2_lostPower, .selects RX2 yX2_lostPower yX2_lostPower, .initialized RX2, .code yX2_lostPower cX2_lostPower 3 (some .int), .fieldLink RX2 60 "CraneCampaign$Farm" "lostBy" "[I", .methodLink RX8 281 yX2_wonPower, .instanceMethod yX2_wonPower, .selects RX2 yX2_wonPower yX2_wonPower, .code yX2_wonPower cX2_wonPower 3 (some .int), .fieldLink RX2 17 "CraneCampaign$Farm" "turbineCount" "I", .fieldLink RX2 11 "CraneCampaign$Farm" "turbines" "[LCraneCampaign$Turbine;", .fieldLink RX2 105 "CraneCampaign$Turbine" "won" "I"] ++ wsX80 ++ wsX20 ++ wsX50)
def wsJ9_abs_0f7a4 : List Cond := .code yJ9_abs_0f7a4 cJ9_abs_0f7a4 1 (some .int) :: ([])
def wsJ9_max_7cf53 : List Cond := .code yJ9_max_7cf53 cJ9_max_7cf53 2 (some .int) :: ([])
def wsJ9_min_7cf53 : List Cond := .code yJ9_min_7cf53 cJ9_min_7cf53 2 (some .int) :: ([])
def wsL_law0_r1 : List Cond := [Cond.classLink RL 39 RX8, Cond.instantiable RX8 6, Cond.initialized RX8, Cond.arrayClass .int, Cond.constant RL 158 (2147483647), Cond.methodLink RL 149 yX8_init, Cond.instanceMethod yX8_init, Cond.code yX8_init cX8_init 2 none, Cond.methodLink RX8 1 objectInit, Cond.instanceMethod objectInit, Cond.code objectInit ⟨#[0xb1]⟩ 1 none, Cond.classLink RX8 7 RX2, Cond.instantiable RX2 10, Cond.initialized RX2, Cond.fieldLink RX8 10 "CraneCampaign" "farm" "LCraneCampaign$Farm;", Cond.fieldLink RX8 16 "CraneCampaign" "trial" "LCraneCampaign$Farm;", Cond.fieldLink RX8 19 "CraneCampaign" "saved" "[LCraneCampaign$Farm;", Cond.fieldLink RX8 23 "CraneCampaign" "oldestSaved" "I", Cond.fieldLink RX8 27 "CraneCampaign" "savedCount" "I", Cond.classLink RX8 30 RX6, Cond.instantiable RX6 2, Cond.initialized RX6, Cond.fieldLink RX8 33 "CraneCampaign" "buffer" "LCraneCampaign$WindText;", Cond.methodLink RX8 9 yX2_init]
def wsL_law0_r2 : List Cond := [Cond.instanceMethod yX2_init, Cond.code yX2_init cX2_init 2 none, Cond.methodLink RX2 3 objectInit, Cond.classLink RX2 9 RX5, Cond.fieldLink RX2 11 "CraneCampaign$Farm" "turbines" "[LCraneCampaign$Turbine;", Cond.fieldLink RX2 17 "CraneCampaign$Farm" "turbineCount" "I", Cond.classLink RX2 21 RX0, Cond.instantiable RX0 3, Cond.initialized RX0, Cond.fieldLink RX2 24 "CraneCampaign$Farm" "bogs" "LCraneCampaign$Bogs;", Cond.classLink RX2 28 RX3, Cond.instantiable RX3 3, Cond.initialized RX3, Cond.fieldLink RX2 31 "CraneCampaign$Farm" "harbour" "LCraneCampaign$Harbour;", Cond.classLink RX2 35 RX4, Cond.instantiable RX4 2, Cond.initialized RX4, Cond.fieldLink RX2 38 "CraneCampaign$Farm" "plan" "LCraneCampaign$Plan;", Cond.classLink RX2 42 RX1, Cond.instantiable RX1 5, Cond.initialized RX1, Cond.fieldLink RX2 45 "CraneCampaign$Farm" "crane" "LCraneCampaign$Crane;", Cond.classLink RX2 49 RX7, Cond.instantiable RX7 2]
def wsL_law0_r3 : List Cond := [Cond.initialized RX7, Cond.fieldLink RX2 52 "CraneCampaign$Farm" "winds" "LCraneCampaign$Winds;", Cond.fieldLink RX2 56 "CraneCampaign$Farm" "settings" "[I", Cond.fieldLink RX2 60 "CraneCampaign$Farm" "lostBy" "[I", Cond.fieldLink RX2 63 "CraneCampaign$Farm" "hour" "I", Cond.instantiable RX5 7, Cond.initialized RX5, Cond.methodLink RX2 70 arraycopyName, Cond.native arraycopyName, Cond.static arraycopyName, Cond.initialized "java/lang/System", Cond.instanceMethod yX0_init, Cond.code yX0_init cX0_init 1 none, Cond.methodLink RX0 3 objectInit, Cond.fieldLink RX0 9 "CraneCampaign$Bogs" "place" "[I", Cond.fieldLink RX0 15 "CraneCampaign$Bogs" "need" "[I", Cond.fieldLink RX0 18 "CraneCampaign$Bogs" "count" "I", Cond.instanceMethod yX3_init, Cond.code yX3_init cX3_init 1 none, Cond.methodLink RX3 3 objectInit, Cond.fieldLink RX3 9 "CraneCampaign$Harbour" "turbine" "[I", Cond.fieldLink RX3 15 "CraneCampaign$Harbour" "weight" "[I", Cond.fieldLink RX3 18 "CraneCampaign$Harbour" "count" "I", Cond.instanceMethod yX4_init]
def wsL_law0_r4 : List Cond := [Cond.code yX4_init cX4_init 1 none, Cond.methodLink RX4 3 objectInit, Cond.fieldLink RX4 9 "CraneCampaign$Plan" "row" "[I", Cond.fieldLink RX4 15 "CraneCampaign$Plan" "count" "I", Cond.instanceMethod yX1_init, Cond.code yX1_init cX1_init 1 none, Cond.methodLink RX1 3 objectInit, Cond.fieldLink RX1 9 "CraneCampaign$Crane" "place" "I", Cond.fieldLink RX1 15 "CraneCampaign$Crane" "hoursLeft" "I", Cond.fieldLink RX1 18 "CraneCampaign$Crane" "goal" "I", Cond.fieldLink RX1 21 "CraneCampaign$Crane" "workDone" "I", Cond.fieldLink RX1 24 "CraneCampaign$Crane" "workedOn" "I", Cond.instanceMethod yX7_init, Cond.code yX7_init cX7_init 1 none, Cond.methodLink RX7 3 objectInit, Cond.fieldLink RX7 9 "CraneCampaign$Winds" "row" "[I", Cond.fieldLink RX7 15 "CraneCampaign$Winds" "count" "I", Cond.instanceMethod yX5_init, Cond.code yX5_init cX5_init 1 none, Cond.methodLink RX5 3 objectInit, Cond.instanceMethod yX6_init, Cond.code yX6_init cX6_init 1 none, Cond.methodLink RX6 3 objectInit, Cond.fieldLink RX6 9 "CraneCampaign$WindText" "letters" "[I"]
def wsL_law0_r5 : List Cond := [Cond.fieldLink RX6 15 "CraneCampaign$WindText" "length" "I", Cond.methodLink RL 150 yL_told, Cond.static yL_told, Cond.initialized RL, Cond.code yL_told cL_told 13 (some .boolean), Cond.constantFloat RL 78 (1090519040), Cond.methodLink RL 50 yL_turbines, Cond.static yL_turbines, Cond.code yL_turbines cL_turbines 10 (some .boolean), Cond.methodLink RL 38 yX8_turbine, Cond.instanceMethod yX8_turbine, Cond.selects RX8 yX8_turbine yX8_turbine, Cond.code yX8_turbine cX8_turbine 3 (some .int), Cond.classLink RX8 41 "java/lang/IllegalArgumentException", Cond.initialized "java/lang/IllegalArgumentException", Cond.methodLink RX8 67 yX8_requireTurbine, Cond.instanceMethod yX8_requireTurbine, Cond.selects RX8 yX8_requireTurbine yX8_requireTurbine, Cond.code yX8_requireTurbine cX8_requireTurbine 2 none, Cond.classLink RX8 134 "java/lang/IndexOutOfBoundsException", Cond.initialized "java/lang/IndexOutOfBoundsException", Cond.methodLink RX8 319 yX2_hasTurbine, Cond.instanceMethod yX2_hasTurbine, Cond.selects RX2 yX2_hasTurbine yX2_hasTurbine]
def wsL_law0_r6 : List Cond := [Cond.code yX2_hasTurbine cX2_hasTurbine 2 (some .boolean), Cond.methodLink RX8 37 yX8_isWithin, Cond.static yX8_isWithin, Cond.code yX8_isWithin cX8_isWithin 3 (some .boolean), Cond.methodLink RX8 221 yX2_turbineProperty, Cond.instanceMethod yX2_turbineProperty, Cond.selects RX2 yX2_turbineProperty yX2_turbineProperty, Cond.code yX2_turbineProperty cX2_turbineProperty 4 (some .int), Cond.fieldLink RX2 95 "CraneCampaign$Turbine" "place" "I", Cond.fieldLink RX2 116 "CraneCampaign$Turbine" "height" "I", Cond.fieldLink RX2 119 "CraneCampaign$Turbine" "rate" "I", Cond.fieldLink RX2 102 "CraneCampaign$Turbine" "fault" "I", Cond.fieldLink RX2 122 "CraneCampaign$Turbine" "age" "I", Cond.fieldLink RX2 134 "CraneCampaign$Turbine" "lost" "I", Cond.fieldLink RX2 105 "CraneCampaign$Turbine" "won" "I", Cond.methodLink RX2 112 yX2_hasTurbine, Cond.methodLink RX2 125 yX5_limit, Cond.instanceMethod yX5_limit, Cond.selects RX5 yX5_limit yX5_limit, Cond.code yX5_limit cX5_limit 2 (some .int), Cond.fieldLink RX5 15 "CraneCampaign$Turbine" "height" "I", Cond.methodLink RX2 128 yX4_placeOf, Cond.instanceMethod yX4_placeOf, Cond.selects RX4 yX4_placeOf yX4_placeOf]
def wsL_law0_r7 : List Cond := [Cond.code yX4_placeOf cX4_placeOf 3 (some .int), Cond.methodLink RX2 131 yX3_unloadedFor, Cond.instanceMethod yX3_unloadedFor, Cond.selects RX3 yX3_unloadedFor yX3_unloadedFor, Cond.code yX3_unloadedFor cX3_unloadedFor 4 (some .int), Cond.methodLink RX2 137 yX2_windNow, Cond.instanceMethod yX2_windNow, Cond.selects RX2 yX2_windNow yX2_windNow, Cond.code yX2_windNow cX2_windNow 1 (some .int), Cond.methodLink RX2 108 yX7_at, Cond.instanceMethod yX7_at, Cond.selects RX7 yX7_at yX7_at, Cond.code yX7_at cX7_at 2 (some .int), Cond.methodLink RX2 141 yX5_fullPower, Cond.instanceMethod yX5_fullPower, Cond.selects RX5 yX5_fullPower yX5_fullPower, Cond.code yX5_fullPower cX5_fullPower 2 (some .int), Cond.fieldLink RX5 18 "CraneCampaign$Turbine" "rate" "I", Cond.methodLink RX5 33 Lib.Math.min.name, Cond.static Lib.Math.min.name, Cond.initialized "java/lang/Math", Cond.code Lib.Math.min.name Lib.Math.min.code 2 (some .int), Cond.methodLink RL 44 yL_spot, Cond.static yL_spot]
def wsL_law0_r8 : List Cond := [Cond.code yL_spot cL_spot 3 (some .int), Cond.methodLink RL 26 yL_wind, Cond.static yL_wind, Cond.code yL_wind cL_wind 2 (some .int), Cond.methodLink RL 34 yL_power, Cond.static yL_power, Cond.code yL_power cL_power 3 (some .int), Cond.methodLink RL 47 yX8_blade, Cond.instanceMethod yX8_blade, Cond.selects RX8 yX8_blade yX8_blade, Cond.code yX8_blade cX8_blade 3 (some .int), Cond.fieldLink RX8 151 "CraneCampaign$Farm" "harbour" "LCraneCampaign$Harbour;", Cond.fieldLink RX8 167 "CraneCampaign$Harbour" "count" "I", Cond.fieldLink RX8 229 "CraneCampaign$Harbour" "turbine" "[I", Cond.fieldLink RX8 232 "CraneCampaign$Harbour" "weight" "[I", Cond.methodLink RL 54 yX8_bog, Cond.instanceMethod yX8_bog, Cond.selects RX8 yX8_bog yX8_bog, Cond.code yX8_bog cX8_bog 3 (some .int), Cond.fieldLink RX8 87 "CraneCampaign$Farm" "bogs" "LCraneCampaign$Bogs;", Cond.fieldLink RX8 107 "CraneCampaign$Bogs" "count" "I", Cond.fieldLink RX8 237 "CraneCampaign$Bogs" "place" "[I", Cond.fieldLink RX8 240 "CraneCampaign$Bogs" "need" "[I", Cond.methodLink RL 57 yX8_claims]
def wsL_law0_r9 : List Cond := [Cond.instanceMethod yX8_claims, Cond.selects RX8 yX8_claims yX8_claims, Cond.code yX8_claims cX8_claims 2 (some .int), Cond.fieldLink RX8 245 "CraneCampaign$Farm" "lostBy" "[I", Cond.methodLink RL 60 yX8_setting, Cond.instanceMethod yX8_setting, Cond.selects RX8 yX8_setting yX8_setting, Cond.code yX8_setting cX8_setting 2 (some .int), Cond.fieldLink RX8 122 "CraneCampaign$Farm" "settings" "[I", Cond.methodLink RX8 110 yX8_requireSetting, Cond.static yX8_requireSetting, Cond.code yX8_requireSetting cX8_requireSetting 1 none, Cond.methodLink RL 63 yX8_count, Cond.instanceMethod yX8_count, Cond.selects RX8 yX8_count yX8_count, Cond.code yX8_count cX8_count 2 (some .int), Cond.methodLink RX8 250 yX8_numberOf, Cond.instanceMethod yX8_numberOf, Cond.selects RX8 yX8_numberOf yX8_numberOf, Cond.code yX8_numberOf cX8_numberOf 3 (some .int), Cond.fieldLink RX8 326 "CraneCampaign$Farm" "crane" "LCraneCampaign$Crane;", Cond.fieldLink RX8 48 "CraneCampaign$Farm" "turbineCount" "I", Cond.fieldLink RX8 170 "CraneCampaign$Farm" "hour" "I", Cond.fieldLink RX8 202 "CraneCampaign$Farm" "winds" "LCraneCampaign$Winds;"]
def wsL_law0_r10 : List Cond := [Cond.fieldLink RX8 210 "CraneCampaign$Winds" "count" "I", Cond.fieldLink RX8 125 "CraneCampaign$Farm" "plan" "LCraneCampaign$Plan;", Cond.fieldLink RX8 142 "CraneCampaign$Plan" "count" "I", Cond.fieldLink RX8 339 "CraneCampaign$Crane" "place" "I", Cond.fieldLink RX8 343 "CraneCampaign$Crane" "hoursLeft" "I", Cond.fieldLink RX8 346 "CraneCampaign$Crane" "goal" "I", Cond.methodLink RX8 330 yX2_faultCount, Cond.instanceMethod yX2_faultCount, Cond.selects RX2 yX2_faultCount yX2_faultCount, Cond.code yX2_faultCount cX2_faultCount 3 (some .int), Cond.methodLink RX8 333 yX2_windNow, Cond.methodLink RX8 336 yX4_first, Cond.instanceMethod yX4_first, Cond.selects RX4 yX4_first yX4_first, Cond.code yX4_first cX4_first 1 (some .int), Cond.methodLink RX8 349 yX1_workOn, Cond.instanceMethod yX1_workOn, Cond.selects RX1 yX1_workOn yX1_workOn, Cond.code yX1_workOn cX1_workOn 2 (some .int), Cond.methodLink RX8 278 yX2_lostPower, Cond.instanceMethod yX2_lostPower, Cond.selects RX2 yX2_lostPower yX2_lostPower, Cond.code yX2_lostPower cX2_lostPower 3 (some .int), Cond.methodLink RX8 281 yX2_wonPower]
def wsL_law0_r11 : List Cond := [Cond.instanceMethod yX2_wonPower, Cond.selects RX2 yX2_wonPower yX2_wonPower, Cond.code yX2_wonPower cX2_wonPower 3 (some .int), Cond.methodLink RL 66 yL_sum, Cond.static yL_sum, Cond.code yL_sum cL_sum 5 (some .int), Cond.methodLink RL 69 yL_at, Cond.static yL_at, Cond.code yL_at cL_at 2 (some .int), Cond.methodLink RL 72 yX8_way, Cond.instanceMethod yX8_way, Cond.selects RX8 yX8_way yX8_way, Cond.code yX8_way cX8_way 3 (some .int), Cond.methodLink RX8 255 yX2_hoursBetween, Cond.instanceMethod yX2_hoursBetween, Cond.selects RX2 yX2_hoursBetween yX2_hoursBetween, Cond.code yX2_hoursBetween cX2_hoursBetween 6 (some .int), Cond.methodLink RX2 156 Lib.Math.max.name, Cond.static Lib.Math.max.name, Cond.code Lib.Math.max.name Lib.Math.max.code 2 (some .int), Cond.methodLink RX2 162 Lib.Math.abs.name, Cond.static Lib.Math.abs.name, Cond.code Lib.Math.abs.name Lib.Math.abs.code 1 (some .int), Cond.methodLink RX2 165 Lib.Math.min.name]
def wsL_law0_r12 : List Cond := [Cond.methodLink RX2 168 yX0_countBetween, Cond.instanceMethod yX0_countBetween, Cond.selects RX0 yX0_countBetween yX0_countBetween, Cond.code yX0_countBetween cX0_countBetween 6 (some .int), Cond.methodLink RL 14 yL_way, Cond.static yL_way, Cond.code yL_way cL_way 7 (some .int), Cond.methodLink RL 8 yL_abs, Cond.static yL_abs, Cond.code yL_abs cL_abs 1 (some .int), Cond.methodLink RL 74 yX8_meanWind, Cond.instanceMethod yX8_meanWind, Cond.selects RX8 yX8_meanWind yX8_meanWind, Cond.code yX8_meanWind cX8_meanWind 2 (some .float), Cond.constantFloat RX8 277 (1090519040), Cond.methodLink RX8 274 yX7_sum, Cond.instanceMethod yX7_sum, Cond.selects RX7 yX7_sum yX7_sum, Cond.code yX7_sum cX7_sum 3 (some .int), Cond.methodLink RL 79 yX8_lostShare, Cond.instanceMethod yX8_lostShare, Cond.selects RX8 yX8_lostShare yX8_lostShare, Cond.code yX8_lostShare cX8_lostShare 3 (some .double), Cond.methodLink RL 91 yX8_doneIn]
def wsL_law0_r13 : List Cond := [Cond.instanceMethod yX8_doneIn, Cond.selects RX8 yX8_doneIn yX8_doneIn, Cond.code yX8_doneIn cX8_doneIn 2 (some .int), Cond.methodLink RX8 215 yX2_copyFrom, Cond.instanceMethod yX2_copyFrom, Cond.selects RX2 yX2_copyFrom yX2_copyFrom, Cond.code yX2_copyFrom cX2_copyFrom 3 none, Cond.methodLink RX2 76 yX5_copyFrom, Cond.instanceMethod yX5_copyFrom, Cond.selects RX5 yX5_copyFrom yX5_copyFrom, Cond.code yX5_copyFrom cX5_copyFrom 2 none, Cond.fieldLink RX5 9 "CraneCampaign$Turbine" "place" "I", Cond.fieldLink RX5 21 "CraneCampaign$Turbine" "fault" "I", Cond.fieldLink RX5 24 "CraneCampaign$Turbine" "age" "I", Cond.fieldLink RX5 27 "CraneCampaign$Turbine" "lost" "I", Cond.fieldLink RX5 30 "CraneCampaign$Turbine" "won" "I", Cond.methodLink RX2 80 yX0_copyFrom, Cond.instanceMethod yX0_copyFrom, Cond.selects RX0 yX0_copyFrom yX0_copyFrom, Cond.code yX0_copyFrom cX0_copyFrom 2 none, Cond.methodLink RX0 22 arraycopyName, Cond.methodLink RX2 83 yX3_copyFrom, Cond.instanceMethod yX3_copyFrom, Cond.selects RX3 yX3_copyFrom yX3_copyFrom]
def wsL_law0_r14 : List Cond := [Cond.code yX3_copyFrom cX3_copyFrom 2 none, Cond.methodLink RX3 22 arraycopyName, Cond.methodLink RX2 86 yX4_copyFrom, Cond.instanceMethod yX4_copyFrom, Cond.selects RX4 yX4_copyFrom yX4_copyFrom, Cond.code yX4_copyFrom cX4_copyFrom 2 none, Cond.methodLink RX4 19 arraycopyName, Cond.methodLink RX2 89 yX1_copyFrom, Cond.instanceMethod yX1_copyFrom, Cond.selects RX1 yX1_copyFrom yX1_copyFrom, Cond.code yX1_copyFrom cX1_copyFrom 2 none, Cond.methodLink RX2 92 yX7_copyFrom, Cond.instanceMethod yX7_copyFrom, Cond.selects RX7 yX7_copyFrom yX7_copyFrom, Cond.code yX7_copyFrom cX7_copyFrom 2 none, Cond.methodLink RX7 19 arraycopyName, Cond.methodLink RX8 271 yX2_runHour, Cond.instanceMethod yX2_runHour, Cond.selects RX2 yX2_runHour yX2_runHour, Cond.code yX2_runHour cX2_runHour 4 (some .int), Cond.methodLink RX2 175 yX3_unload, Cond.instanceMethod yX3_unload, Cond.selects RX3 yX3_unload yX3_unload, Cond.code yX3_unload cX3_unload 5 none]
def wsL_law0_r15 : List Cond := [Cond.methodLink RX3 32 Lib.Math.min.name, Cond.methodLink RX2 179 yX2_dropFaultless, Cond.instanceMethod yX2_dropFaultless, Cond.selects RX2 yX2_dropFaultless yX2_dropFaultless, Cond.code yX2_dropFaultless cX2_dropFaultless 3 none, Cond.fieldLink RX2 153 "CraneCampaign$Plan" "count" "I", Cond.fieldLink RX2 197 "CraneCampaign$Crane" "workedOn" "I", Cond.methodLink RX2 182 yX4_first, Cond.methodLink RX2 200 yX1_forgetWork, Cond.instanceMethod yX1_forgetWork, Cond.selects RX1 yX1_forgetWork yX1_forgetWork, Cond.code yX1_forgetWork cX1_forgetWork 1 none, Cond.methodLink RX2 203 yX4_removeAt, Cond.instanceMethod yX4_removeAt, Cond.selects RX4 yX4_removeAt yX4_removeAt, Cond.code yX4_removeAt cX4_removeAt 3 none, Cond.methodLink RX2 185 yX2_serve, Cond.instanceMethod yX2_serve, Cond.selects RX2 yX2_serve yX2_serve, Cond.code yX2_serve cX2_serve 3 (some .int), Cond.fieldLink RX2 210 "CraneCampaign$Crane" "place" "I", Cond.methodLink RX2 206 yX1_isOnWay, Cond.instanceMethod yX1_isOnWay, Cond.selects RX1 yX1_isOnWay yX1_isOnWay]
def wsL_law0_r16 : List Cond := [Cond.code yX1_isOnWay cX1_isOnWay 1 (some .boolean), Cond.methodLink RX2 211 yX2_hoursBetween, Cond.methodLink RX2 214 yX1_driveTo, Cond.instanceMethod yX1_driveTo, Cond.selects RX1 yX1_driveTo yX1_driveTo, Cond.code yX1_driveTo cX1_driveTo 4 none, Cond.methodLink RX1 27 Lib.Math.max.name, Cond.methodLink RX2 217 yX1_workAnHourOn, Cond.instanceMethod yX1_workAnHourOn, Cond.selects RX1 yX1_workAnHourOn yX1_workAnHourOn, Cond.code yX1_workAnHourOn cX1_workAnHourOn 2 none, Cond.methodLink RX2 188 yX2_sharePower, Cond.instanceMethod yX2_sharePower, Cond.selects RX2 yX2_sharePower yX2_sharePower, Cond.code yX2_sharePower cX2_sharePower 9 (some .int), Cond.methodLink RX2 191 yX2_finishIfDone, Cond.instanceMethod yX2_finishIfDone, Cond.selects RX2 yX2_finishIfDone yX2_finishIfDone, Cond.code yX2_finishIfDone cX2_finishIfDone 2 none, Cond.fieldLink RX2 220 "CraneCampaign$Crane" "workDone" "I", Cond.methodLink RX2 223 yX3_useBladeFor, Cond.instanceMethod yX3_useBladeFor, Cond.selects RX3 yX3_useBladeFor yX3_useBladeFor, Cond.code yX3_useBladeFor cX3_useBladeFor 3 none]
def wsL_law0_r17 : List Cond := [Cond.methodLink RX3 38 yX3_removeAt, Cond.instanceMethod yX3_removeAt, Cond.selects RX3 yX3_removeAt yX3_removeAt, Cond.code yX3_removeAt cX3_removeAt 3 none, Cond.methodLink RX2 194 yX2_worsen, Cond.instanceMethod yX2_worsen, Cond.selects RX2 yX2_worsen yX2_worsen, Cond.code yX2_worsen cX2_worsen 3 none, Cond.methodLink RX2 226 yX5_growOlder, Cond.instanceMethod yX5_growOlder, Cond.selects RX5 yX5_growOlder yX5_growOlder, Cond.code yX5_growOlder cX5_growOlder 2 none, Cond.methodLink RL 98 yX8_bestFirst, Cond.instanceMethod yX8_bestFirst, Cond.selects RX8 yX8_bestFirst yX8_bestFirst, Cond.code yX8_bestFirst cX8_bestFirst 6 (some .int), Cond.fieldLink RX8 263 "CraneCampaign$Plan" "row" "[I", Cond.methodLink RX8 139 yX4_moveTo, Cond.instanceMethod yX4_moveTo, Cond.selects RX4 yX4_moveTo yX4_moveTo, Cond.code yX4_moveTo cX4_moveTo 4 none, Cond.methodLink RX4 25 yX4_placeOf, Cond.methodLink RX4 29 yX4_removeAt, Cond.methodLink RX8 175 yX2_runHours]
def wsL_law0_r18 : List Cond := [Cond.instanceMethod yX2_runHours, Cond.selects RX2 yX2_runHours yX2_runHours, Cond.code yX2_runHours cX2_runHours 4 (some .int), Cond.methodLink RX2 172 yX2_runHour, Cond.methodLink RL 154 yL_cell, Cond.static yL_cell, Cond.code yL_cell cL_cell 2 (some .int), Cond.constant RL 7 (1116352408), Cond.methodLink RL 159 yL_act, Cond.static yL_act, Cond.code yL_act cL_act 15 (some .boolean), Cond.methodLink RL 120 yL_winds, Cond.static yL_winds, Cond.code yL_winds cL_winds 9 (some .boolean), Cond.methodLink RL 107 yX8_append, Cond.instanceMethod yX8_append, Cond.selects RX8 yX8_append yX8_append, Cond.code yX8_append cX8_append 2 (some .int), Cond.classLink RX8 55 "java/lang/IllegalStateException", Cond.initialized "java/lang/IllegalStateException", Cond.fieldLink RX8 186 "CraneCampaign$WindText" "length" "I", Cond.methodLink RX8 180 yX6_isFull, Cond.instanceMethod yX6_isFull, Cond.selects RX6 yX6_isFull yX6_isFull]
def wsL_law0_r19 : List Cond := [Cond.code yX6_isFull cX6_isFull 1 (some .boolean), Cond.methodLink RX8 183 yX6_add, Cond.instanceMethod yX6_add, Cond.selects RX6 yX6_add yX6_add, Cond.code yX6_add cX6_add 2 none, Cond.methodLink RX6 19 yX6_isFull, Cond.methodLink RL 110 yL_number, Cond.static yL_number, Cond.code yL_number cL_number 2 (some .boolean), Cond.methodLink RL 114 yX8_load, Cond.instanceMethod yX8_load, Cond.selects RX8 yX8_load yX8_load, Cond.code yX8_load cX8_load 1 (some .int), Cond.methodLink RX8 192 yX6_isComplete, Cond.instanceMethod yX6_isComplete, Cond.selects RX6 yX6_isComplete yX6_isComplete, Cond.code yX6_isComplete cX6_isComplete 3 (some .boolean), Cond.methodLink RX6 23 yX6_after, Cond.static yX6_after, Cond.code yX6_after cX6_after 2 (some .int), Cond.methodLink RX6 27 yX6_isEndOfPart, Cond.static yX6_isEndOfPart, Cond.code yX6_isEndOfPart cX6_isEndOfPart 1 (some .boolean), Cond.methodLink RX6 31 yX6_isNumber]
def wsL_law0_r20 : List Cond := [Cond.static yX6_isNumber, Cond.code yX6_isNumber cX6_isNumber 1 (some .boolean), Cond.methodLink RX6 34 yX6_afterDigit, Cond.static yX6_afterDigit, Cond.code yX6_afterDigit cX6_afterDigit 2 (some .int), Cond.methodLink RX6 37 yX6_afterFirstOfNumber, Cond.static yX6_afterFirstOfNumber, Cond.code yX6_afterFirstOfNumber cX6_afterFirstOfNumber 1 (some .int), Cond.methodLink RX6 41 yX6_afterFirstOfTimes, Cond.static yX6_afterFirstOfTimes, Cond.code yX6_afterFirstOfTimes cX6_afterFirstOfTimes 1 (some .int), Cond.methodLink RX8 197 yX6_numberCount, Cond.instanceMethod yX6_numberCount, Cond.selects RX6 yX6_numberCount yX6_numberCount, Cond.code yX6_numberCount cX6_numberCount 3 (some .int), Cond.methodLink RX6 44 yX6_timesFrom, Cond.instanceMethod yX6_timesFrom, Cond.selects RX6 yX6_timesFrom yX6_timesFrom, Cond.code yX6_timesFrom cX6_timesFrom 3 (some .int), Cond.methodLink RX6 52 yX6_valueFrom, Cond.instanceMethod yX6_valueFrom, Cond.selects RX6 yX6_valueFrom yX6_valueFrom, Cond.code yX6_valueFrom cX6_valueFrom 4 (some .int), Cond.methodLink RX8 60 yX8_saveState]
def wsL_law0_r21 : List Cond := [Cond.instanceMethod yX8_saveState, Cond.selects RX8 yX8_saveState yX8_saveState, Cond.code yX8_saveState cX8_saveState 1 none, Cond.methodLink RX8 206 yX6_writeTo, Cond.instanceMethod yX6_writeTo, Cond.selects RX6 yX6_writeTo yX6_writeTo, Cond.code yX6_writeTo cX6_writeTo 6 none, Cond.fieldLink RX6 47 "CraneCampaign$Winds" "count" "I", Cond.methodLink RX6 55 yX7_add, Cond.instanceMethod yX7_add, Cond.selects RX7 yX7_add yX7_add, Cond.code yX7_add cX7_add 2 none, Cond.methodLink RL 124 yL_bog, Cond.static yL_bog, Cond.code yL_bog cL_bog 8 (some .boolean), Cond.methodLink RL 117 yX8_setBog, Cond.instanceMethod yX8_setBog, Cond.selects RX8 yX8_setBog yX8_setBog, Cond.code yX8_setBog cX8_setBog 3 (some .int), Cond.methodLink RX8 91 yX0_isFull, Cond.instanceMethod yX0_isFull, Cond.selects RX0 yX0_isFull yX0_isFull, Cond.code yX0_isFull cX0_isFull 1 (some .boolean), Cond.methodLink RX8 97 yX0_indexAt]
def wsL_law0_r22 : List Cond := [Cond.instanceMethod yX0_indexAt, Cond.selects RX0 yX0_indexAt yX0_indexAt, Cond.code yX0_indexAt cX0_indexAt 3 (some .int), Cond.methodLink RX8 103 yX0_put, Cond.instanceMethod yX0_put, Cond.selects RX0 yX0_put yX0_put, Cond.code yX0_put cX0_put 4 none, Cond.methodLink RX0 28 yX0_indexAt, Cond.methodLink RX0 32 yX0_removeAt, Cond.instanceMethod yX0_removeAt, Cond.selects RX0 yX0_removeAt yX0_removeAt, Cond.code yX0_removeAt cX0_removeAt 3 none, Cond.methodLink RX0 36 yX0_insert, Cond.instanceMethod yX0_insert, Cond.selects RX0 yX0_insert yX0_insert, Cond.code yX0_insert cX0_insert 5 none, Cond.methodLink RX0 40 yX0_isFull, Cond.methodLink RL 127 yX8_set, Cond.instanceMethod yX8_set, Cond.selects RX8 yX8_set yX8_set, Cond.code yX8_set cX8_set 4 (some .int), Cond.fieldLink RX8 113 "CraneCampaign" "SETTING_LOWEST" "[I", Cond.fieldLink RX8 117 "CraneCampaign" "SETTING_HIGHEST" "[I", Cond.methodLink RL 130 yX8_addTurbine]
def wsL_law0_r23 : List Cond := [Cond.instanceMethod yX8_addTurbine, Cond.selects RX8 yX8_addTurbine yX8_addTurbine, Cond.code yX8_addTurbine cX8_addTurbine 4 (some .int), Cond.methodLink RX8 51 yX2_hasTurbineAt, Cond.instanceMethod yX2_hasTurbineAt, Cond.selects RX2 yX2_hasTurbineAt yX2_hasTurbineAt, Cond.code yX2_hasTurbineAt cX2_hasTurbineAt 3 (some .boolean), Cond.methodLink RX8 63 yX2_buildTurbine, Cond.instanceMethod yX2_buildTurbine, Cond.selects RX2 yX2_buildTurbine yX2_buildTurbine, Cond.code yX2_buildTurbine cX2_buildTurbine 4 (some .int), Cond.methodLink RX2 98 yX5_begin, Cond.instanceMethod yX5_begin, Cond.selects RX5 yX5_begin yX5_begin, Cond.code yX5_begin cX5_begin 4 none, Cond.methodLink RL 134 yX8_setFault, Cond.instanceMethod yX8_setFault, Cond.selects RX8 yX8_setFault yX8_setFault, Cond.code yX8_setFault cX8_setFault 5 (some .int), Cond.fieldLink RX8 73 "CraneCampaign$Farm" "turbines" "[LCraneCampaign$Turbine;", Cond.fieldLink RX8 77 "CraneCampaign$Turbine" "fault" "I", Cond.fieldLink RX8 82 "CraneCampaign$Turbine" "age" "I", Cond.methodLink RL 22 yL_off, Cond.static yL_off]
def wsL_law0_r24 : List Cond := [Cond.code yL_off cL_off 3 none, Cond.methodLink RL 137 yX8_plan, Cond.instanceMethod yX8_plan, Cond.selects RX8 yX8_plan yX8_plan, Cond.code yX8_plan cX8_plan 3 (some .int), Cond.methodLink RX8 129 yX4_countWithout, Cond.instanceMethod yX4_countWithout, Cond.selects RX4 yX4_countWithout yX4_countWithout, Cond.code yX4_countWithout cX4_countWithout 2 (some .int), Cond.methodLink RL 140 yX8_unplan, Cond.instanceMethod yX8_unplan, Cond.selects RX8 yX8_unplan yX8_unplan, Cond.code yX8_unplan cX8_unplan 3 (some .int), Cond.methodLink RX8 143 yX4_placeOf, Cond.methodLink RX8 148 yX4_removeAt, Cond.methodLink RL 143 yX8_orderBlade, Cond.instanceMethod yX8_orderBlade, Cond.selects RX8 yX8_orderBlade yX8_orderBlade, Cond.code yX8_orderBlade cX8_orderBlade 2 (some .int), Cond.methodLink RX8 155 yX3_isFull, Cond.instanceMethod yX3_isFull, Cond.selects RX3 yX3_isFull yX3_isFull, Cond.code yX3_isFull cX3_isFull 1 (some .boolean), Cond.methodLink RX8 160 yX5_bladeWeight]
def wsL_law0_r25 : List Cond := [Cond.instanceMethod yX5_bladeWeight, Cond.selects RX5 yX5_bladeWeight yX5_bladeWeight, Cond.code yX5_bladeWeight cX5_bladeWeight 1 (some .int), Cond.methodLink RX8 164 yX3_take, Cond.instanceMethod yX3_take, Cond.selects RX3 yX3_take yX3_take, Cond.code yX3_take cX3_take 3 none, Cond.methodLink RX3 28 yX3_isFull, Cond.methodLink RL 87 yL_hour, Cond.static yL_hour, Cond.code yL_hour cL_hour 16 (some .int), Cond.methodLink RL 30 yL_serve, Cond.static yL_serve, Cond.code yL_serve cL_serve 9 (some .int), Cond.methodLink RL 18 yL_ready, Cond.static yL_ready, Cond.code yL_ready cL_ready 4 (some .int), Cond.methodLink RL 146 yX8_pass, Cond.instanceMethod yX8_pass, Cond.selects RX8 yX8_pass yX8_pass, Cond.code yX8_pass cX8_pass 2 (some .int), Cond.methodLink RL 163 yL_ahead, Cond.static yL_ahead, Cond.code yL_ahead cL_ahead 21 (some .boolean)]
def wsL_law0_r26 : List Cond := [Cond.methodLink RL 83 yL_same, Cond.static yL_same, Cond.code yL_same cL_same 3 none, Cond.methodLink RL 95 yX8_ifPassed, Cond.instanceMethod yX8_ifPassed, Cond.selects RX8 yX8_ifPassed yX8_ifPassed, Cond.code yX8_ifPassed cX8_ifPassed 3 (some .int), Cond.methodLink RX8 260 yX2_outcome, Cond.instanceMethod yX2_outcome, Cond.selects RX2 yX2_outcome yX2_outcome, Cond.code yX2_outcome cX2_outcome 2 (some .int), Cond.methodLink RX2 144 yX2_lostPower, Cond.methodLink RX2 147 yX2_wonPower, Cond.methodLink RX2 150 yX2_faultCount, Cond.methodLink RL 101 yX8_window, Cond.instanceMethod yX8_window, Cond.selects RX8 yX8_window yX8_window, Cond.code yX8_window cX8_window 3 (some .int), Cond.methodLink RX8 268 yX2_hoursUntilCalm, Cond.instanceMethod yX2_hoursUntilCalm, Cond.selects RX2 yX2_hoursUntilCalm yX2_hoursUntilCalm, Cond.code yX2_hoursUntilCalm cX2_hoursUntilCalm 6 (some .int), Cond.methodLink RL 104 yL_window, Cond.static yL_window]
def wsL_law0_r27 : List Cond := [Cond.code yL_window cL_window 8 (some .int)]
def wsL_law0 : List Cond := (wsL_law0_r1 ++ (wsL_law0_r2 ++ (wsL_law0_r3 ++ (wsL_law0_r4 ++ (wsL_law0_r5 ++ (wsL_law0_r6 ++ (wsL_law0_r7 ++ (wsL_law0_r8 ++ (wsL_law0_r9 ++ (wsL_law0_r10 ++ (wsL_law0_r11 ++ (wsL_law0_r12 ++ (wsL_law0_r13 ++ (wsL_law0_r14 ++ (wsL_law0_r15 ++ (wsL_law0_r16 ++ (wsL_law0_r17 ++ (wsL_law0_r18 ++ (wsL_law0_r19 ++ (wsL_law0_r20 ++ (wsL_law0_r21 ++ (wsL_law0_r22 ++ (wsL_law0_r23 ++ (wsL_law0_r24 ++ (wsL_law0_r25 ++ (wsL_law0_r26 ++ wsL_law0_r27)))))))))))))))))))))))))) ++ wsX80 ++ wsX20 ++ wsX60 ++ wsX00 ++ wsX30 ++ wsX40 ++ wsX10 ++ wsX70 ++ wsX50 ++ ([] : List Cond)
abbrev vwCl : List vw_C := [(RX0, TX0, 3), (RX1, TX1, 5), (RX2, TX2, 10), (RX3, TX3, 3), (RX4, TX4, 2), (RX5, TX5, 7), (RX6, TX6, 2), (RX7, TX7, 2), (RX8, TX8, 6)]
/-- the objects of CraneCampaign$Bogs, kind 0: what each holds, by its address -/
end
section
theorem dL_cell_0 : decode cL_cell 0 = .ok (.iload_n 1, 1) := by decide +kernel
theorem dL_cell_1 : decode cL_cell 1 = .ok (.aload_n 0, 1) := by decide +kernel
theorem dL_cell_2 : decode cL_cell 2 = .ok (.arraylength, 1) := by decide +kernel
theorem dL_cell_3 : decode cL_cell 3 = .ok (.if_icmp .ge 9, 3) := by decide +kernel
theorem dL_cell_6 : decode cL_cell 6 = .ok (.aload_n 0, 1) := by decide +kernel
theorem dL_cell_7 : decode cL_cell 7 = .ok (.iload_n 1, 1) := by decide +kernel
theorem dL_cell_8 : decode cL_cell 8 = .ok (.iaload, 1) := by decide +kernel
theorem dL_cell_9 : decode cL_cell 9 = .ok (.goto 9, 3) := by decide +kernel
theorem dL_cell_12 : decode cL_cell 12 = .ok (.ldc 7, 2) := by decide +kernel
theorem dL_cell_14 : decode cL_cell 14 = .ok (.iload_n 1, 1) := by decide +kernel
theorem dL_cell_15 : decode cL_cell 15 = .ok (.iconst 1, 1) := by decide +kernel
theorem dL_cell_16 : decode cL_cell 16 = .ok (.iadd, 1) := by decide +kernel
theorem dL_cell_17 : decode cL_cell 17 = .ok (.imul, 1) := by decide +kernel
theorem dL_cell_18 : decode cL_cell 18 = .ok (.ireturn, 1) := by decide +kernel
theorem dL_at_0 : decode cL_at 0 = .ok (.iload_n 0, 1) := by decide +kernel
theorem dL_at_1 : decode cL_at 1 = .ok (.iconst 1, 1) := by decide +kernel
theorem dL_at_2 : decode cL_at 2 = .ok (.iushr, 1) := by decide +kernel
theorem dL_at_3 : decode cL_at 3 = .ok (.iload_n 1, 1) := by decide +kernel
theorem dL_at_4 : decode cL_at 4 = .ok (.irem, 1) := by decide +kernel
theorem dL_at_5 : decode cL_at 5 = .ok (.ireturn, 1) := by decide +kernel
theorem dL_abs_0 : decode cL_abs 0 = .ok (.iload_n 0, 1) := by decide +kernel
theorem dL_abs_1 : decode cL_abs 1 = .ok (.ifCond .ge 8, 3) := by decide +kernel
theorem dL_abs_4 : decode cL_abs 4 = .ok (.iload_n 0, 1) := by decide +kernel
theorem dL_abs_5 : decode cL_abs 5 = .ok (.ineg, 1) := by decide +kernel
theorem dL_abs_6 : decode cL_abs 6 = .ok (.goto 4, 3) := by decide +kernel
theorem dL_abs_9 : decode cL_abs 9 = .ok (.iload_n 0, 1) := by decide +kernel
theorem dL_abs_10 : decode cL_abs 10 = .ok (.ireturn, 1) := by decide +kernel
theorem dL_way_0 : decode cL_way 0 = .ok (.iload_n 0, 1) := by decide +kernel
theorem dL_way_1 : decode cL_way 1 = .ok (.iload_n 1, 1) := by decide +kernel
theorem dL_way_2 : decode cL_way 2 = .ok (.isub, 1) := by decide +kernel
theorem dL_way_3 : decode cL_way 3 = .ok (.invokestatic 8, 3) := by decide +kernel
theorem dL_way_6 : decode cL_way 6 = .ok (.aload_n 2, 1) := by decide +kernel
theorem dL_way_7 : decode cL_way 7 = .ok (.iconst 1, 1) := by decide +kernel
theorem dL_way_8 : decode cL_way 8 = .ok (.iaload, 1) := by decide +kernel
theorem dL_way_9 : decode cL_way 9 = .ok (.idiv, 1) := by decide +kernel
theorem dL_way_10 : decode cL_way 10 = .ok (.istore 5, 2) := by decide +kernel
theorem dL_way_12 : decode cL_way 12 = .ok (.iload 5, 2) := by decide +kernel
theorem dL_way_14 : decode cL_way 14 = .ok (.aload_n 2, 1) := by decide +kernel
theorem dL_way_15 : decode cL_way 15 = .ok (.iconst 1, 1) := by decide +kernel
theorem dL_way_16 : decode cL_way 16 = .ok (.iaload, 1) := by decide +kernel
theorem dL_way_17 : decode cL_way 17 = .ok (.imul, 1) := by decide +kernel
theorem dL_way_18 : decode cL_way 18 = .ok (.iload_n 0, 1) := by decide +kernel
theorem dL_way_19 : decode cL_way 19 = .ok (.iload_n 1, 1) := by decide +kernel
theorem dL_way_20 : decode cL_way 20 = .ok (.isub, 1) := by decide +kernel
theorem dL_way_21 : decode cL_way 21 = .ok (.invokestatic 8, 3) := by decide +kernel
theorem dL_way_24 : decode cL_way 24 = .ok (.if_icmp .ge 6, 3) := by decide +kernel
theorem dL_way_27 : decode cL_way 27 = .ok (.iinc 5 1, 3) := by decide +kernel
theorem dL_way_30 : decode cL_way 30 = .ok (.iconst 0, 1) := by decide +kernel
theorem dL_way_31 : decode cL_way 31 = .ok (.istore 6, 2) := by decide +kernel
theorem dL_way_33 : decode cL_way 33 = .ok (.iload 6, 2) := by decide +kernel
theorem dL_way_35 : decode cL_way 35 = .ok (.aload 4, 2) := by decide +kernel
theorem dL_way_37 : decode cL_way 37 = .ok (.bipush 8, 2) := by decide +kernel
theorem dL_way_39 : decode cL_way 39 = .ok (.iaload, 1) := by decide +kernel
theorem dL_way_40 : decode cL_way 40 = .ok (.if_icmp .ge 52, 3) := by decide +kernel
theorem dL_way_43 : decode cL_way 43 = .ok (.aload_n 3, 1) := by decide +kernel
theorem dL_way_44 : decode cL_way 44 = .ok (.iconst 2, 1) := by decide +kernel
theorem dL_way_45 : decode cL_way 45 = .ok (.iload 6, 2) := by decide +kernel
theorem dL_way_47 : decode cL_way 47 = .ok (.imul, 1) := by decide +kernel
theorem dL_way_48 : decode cL_way 48 = .ok (.iaload, 1) := by decide +kernel
theorem dL_way_49 : decode cL_way 49 = .ok (.iload_n 0, 1) := by decide +kernel
theorem dL_way_50 : decode cL_way 50 = .ok (.isub, 1) := by decide +kernel
theorem dL_way_51 : decode cL_way 51 = .ok (.aload_n 3, 1) := by decide +kernel
theorem dL_way_52 : decode cL_way 52 = .ok (.iconst 2, 1) := by decide +kernel
theorem dL_way_53 : decode cL_way 53 = .ok (.iload 6, 2) := by decide +kernel
theorem dL_way_55 : decode cL_way 55 = .ok (.imul, 1) := by decide +kernel
theorem dL_way_56 : decode cL_way 56 = .ok (.iaload, 1) := by decide +kernel
theorem dL_way_57 : decode cL_way 57 = .ok (.iload_n 1, 1) := by decide +kernel
theorem dL_way_58 : decode cL_way 58 = .ok (.isub, 1) := by decide +kernel
theorem dL_way_59 : decode cL_way 59 = .ok (.imul, 1) := by decide +kernel
theorem dL_way_60 : decode cL_way 60 = .ok (.ifCond .ge 26, 3) := by decide +kernel
theorem dL_way_63 : decode cL_way 63 = .ok (.aload_n 3, 1) := by decide +kernel
theorem dL_way_64 : decode cL_way 64 = .ok (.iconst 2, 1) := by decide +kernel
theorem dL_way_65 : decode cL_way 65 = .ok (.iload 6, 2) := by decide +kernel
theorem dL_way_67 : decode cL_way 67 = .ok (.imul, 1) := by decide +kernel
theorem dL_way_68 : decode cL_way 68 = .ok (.iconst 1, 1) := by decide +kernel
theorem dL_way_69 : decode cL_way 69 = .ok (.iadd, 1) := by decide +kernel
theorem dL_way_70 : decode cL_way 70 = .ok (.iaload, 1) := by decide +kernel
theorem dL_way_71 : decode cL_way 71 = .ok (.aload_n 2, 1) := by decide +kernel
theorem dL_way_72 : decode cL_way 72 = .ok (.bipush 6, 2) := by decide +kernel
theorem dL_way_74 : decode cL_way 74 = .ok (.iaload, 1) := by decide +kernel
theorem dL_way_75 : decode cL_way 75 = .ok (.if_icmp .le 11, 3) := by decide +kernel
theorem dL_way_78 : decode cL_way 78 = .ok (.iload 5, 2) := by decide +kernel
theorem dL_way_80 : decode cL_way 80 = .ok (.aload_n 2, 1) := by decide +kernel
theorem dL_way_81 : decode cL_way 81 = .ok (.iconst 4, 1) := by decide +kernel
theorem dL_way_82 : decode cL_way 82 = .ok (.iaload, 1) := by decide +kernel
theorem dL_way_83 : decode cL_way 83 = .ok (.iadd, 1) := by decide +kernel
theorem dL_way_84 : decode cL_way 84 = .ok (.istore 5, 2) := by decide +kernel
theorem dL_way_86 : decode cL_way 86 = .ok (.iinc 6 1, 3) := by decide +kernel
theorem dL_way_89 : decode cL_way 89 = .ok (.goto (-56), 3) := by decide +kernel
theorem dL_way_92 : decode cL_way 92 = .ok (.iload 5, 2) := by decide +kernel
theorem dL_way_94 : decode cL_way 94 = .ok (.ireturn, 1) := by decide +kernel
theorem dL_wind_0 : decode cL_wind 0 = .ok (.aload_n 1, 1) := by decide +kernel
theorem dL_wind_1 : decode cL_wind 1 = .ok (.iconst 0, 1) := by decide +kernel
theorem dL_wind_2 : decode cL_wind 2 = .ok (.iaload, 1) := by decide +kernel
theorem dL_wind_3 : decode cL_wind 3 = .ok (.ifCond .ne 8, 3) := by decide +kernel
theorem dL_wind_6 : decode cL_wind 6 = .ok (.bipush 8, 2) := by decide +kernel
theorem dL_wind_8 : decode cL_wind 8 = .ok (.goto 12, 3) := by decide +kernel
theorem dL_wind_11 : decode cL_wind 11 = .ok (.aload_n 1, 1) := by decide +kernel
theorem dL_wind_12 : decode cL_wind 12 = .ok (.iconst 1, 1) := by decide +kernel
theorem dL_wind_13 : decode cL_wind 13 = .ok (.iload_n 0, 1) := by decide +kernel
theorem dL_wind_14 : decode cL_wind 14 = .ok (.aload_n 1, 1) := by decide +kernel
theorem dL_wind_15 : decode cL_wind 15 = .ok (.iconst 0, 1) := by decide +kernel
theorem dL_wind_16 : decode cL_wind 16 = .ok (.iaload, 1) := by decide +kernel
theorem dL_wind_17 : decode cL_wind 17 = .ok (.irem, 1) := by decide +kernel
theorem dL_wind_18 : decode cL_wind 18 = .ok (.iadd, 1) := by decide +kernel
theorem dL_wind_19 : decode cL_wind 19 = .ok (.iaload, 1) := by decide +kernel
theorem dL_wind_20 : decode cL_wind 20 = .ok (.ireturn, 1) := by decide +kernel
theorem dL_power_0 : decode cL_power 0 = .ok (.iload_n 1, 1) := by decide +kernel
theorem dL_power_1 : decode cL_power 1 = .ok (.iconst 3, 1) := by decide +kernel
theorem dL_power_2 : decode cL_power 2 = .ok (.if_icmp .lt 9, 3) := by decide +kernel
theorem dL_power_5 : decode cL_power 5 = .ok (.iload_n 1, 1) := by decide +kernel
theorem dL_power_6 : decode cL_power 6 = .ok (.bipush 25, 2) := by decide +kernel
theorem dL_power_8 : decode cL_power 8 = .ok (.if_icmp .le 5, 3) := by decide +kernel
theorem dL_power_11 : decode cL_power 11 = .ok (.iconst 0, 1) := by decide +kernel
theorem dL_power_12 : decode cL_power 12 = .ok (.ireturn, 1) := by decide +kernel
theorem dL_power_13 : decode cL_power 13 = .ok (.iload_n 1, 1) := by decide +kernel
theorem dL_power_14 : decode cL_power 14 = .ok (.bipush 12, 2) := by decide +kernel
theorem dL_power_16 : decode cL_power 16 = .ok (.if_icmp .le 14, 3) := by decide +kernel
theorem dL_power_19 : decode cL_power 19 = .ok (.aload_n 2, 1) := by decide +kernel
theorem dL_power_20 : decode cL_power 20 = .ok (.bipush 7, 2) := by decide +kernel
theorem dL_power_22 : decode cL_power 22 = .ok (.iload_n 0, 1) := by decide +kernel
theorem dL_power_23 : decode cL_power 23 = .ok (.imul, 1) := by decide +kernel
theorem dL_power_24 : decode cL_power 24 = .ok (.iconst 2, 1) := by decide +kernel
theorem dL_power_25 : decode cL_power 25 = .ok (.iadd, 1) := by decide +kernel
theorem dL_power_26 : decode cL_power 26 = .ok (.iaload, 1) := by decide +kernel
theorem dL_power_27 : decode cL_power 27 = .ok (.goto 16, 3) := by decide +kernel
theorem dL_power_30 : decode cL_power 30 = .ok (.aload_n 2, 1) := by decide +kernel
theorem dL_power_31 : decode cL_power 31 = .ok (.bipush 7, 2) := by decide +kernel
theorem dL_power_33 : decode cL_power 33 = .ok (.iload_n 0, 1) := by decide +kernel
theorem dL_power_34 : decode cL_power 34 = .ok (.imul, 1) := by decide +kernel
theorem dL_power_35 : decode cL_power 35 = .ok (.iconst 2, 1) := by decide +kernel
theorem dL_power_36 : decode cL_power 36 = .ok (.iadd, 1) := by decide +kernel
theorem dL_power_37 : decode cL_power 37 = .ok (.iaload, 1) := by decide +kernel
theorem dL_power_38 : decode cL_power 38 = .ok (.iload_n 1, 1) := by decide +kernel
theorem dL_power_39 : decode cL_power 39 = .ok (.imul, 1) := by decide +kernel
theorem dL_power_40 : decode cL_power 40 = .ok (.bipush 12, 2) := by decide +kernel
theorem dL_power_42 : decode cL_power 42 = .ok (.idiv, 1) := by decide +kernel
theorem dL_power_43 : decode cL_power 43 = .ok (.ireturn, 1) := by decide +kernel
theorem dL_off_0 : decode cL_off 0 = .ok (.iload_n 0, 1) := by decide +kernel
theorem dL_off_1 : decode cL_off 1 = .ok (.iconst 1, 1) := by decide +kernel
theorem dL_off_2 : decode cL_off 2 = .ok (.iadd, 1) := by decide +kernel
theorem dL_off_3 : decode cL_off 3 = .ok (.istore_n 2, 1) := by decide +kernel
theorem dL_off_4 : decode cL_off 4 = .ok (.iload_n 2, 1) := by decide +kernel
theorem dL_off_5 : decode cL_off 5 = .ok (.aload_n 1, 1) := by decide +kernel
theorem dL_off_6 : decode cL_off 6 = .ok (.iconst 0, 1) := by decide +kernel
theorem dL_off_7 : decode cL_off 7 = .ok (.iaload, 1) := by decide +kernel
theorem dL_off_8 : decode cL_off 8 = .ok (.if_icmp .ge 17, 3) := by decide +kernel
theorem dL_off_11 : decode cL_off 11 = .ok (.aload_n 1, 1) := by decide +kernel
theorem dL_off_12 : decode cL_off 12 = .ok (.iload_n 2, 1) := by decide +kernel
theorem dL_off_13 : decode cL_off 13 = .ok (.aload_n 1, 1) := by decide +kernel
theorem dL_off_14 : decode cL_off 14 = .ok (.iload_n 2, 1) := by decide +kernel
theorem dL_off_15 : decode cL_off 15 = .ok (.iconst 1, 1) := by decide +kernel
theorem dL_off_16 : decode cL_off 16 = .ok (.iadd, 1) := by decide +kernel
theorem dL_off_17 : decode cL_off 17 = .ok (.iaload, 1) := by decide +kernel
theorem dL_off_18 : decode cL_off 18 = .ok (.iastore, 1) := by decide +kernel
theorem dL_off_19 : decode cL_off 19 = .ok (.iinc 2 1, 3) := by decide +kernel
theorem dL_off_22 : decode cL_off 22 = .ok (.goto (-18), 3) := by decide +kernel
theorem dL_off_25 : decode cL_off 25 = .ok (.aload_n 1, 1) := by decide +kernel
theorem dL_off_26 : decode cL_off 26 = .ok (.iconst 0, 1) := by decide +kernel
theorem dL_off_27 : decode cL_off 27 = .ok (.dup2, 1) := by decide +kernel
theorem dL_off_28 : decode cL_off 28 = .ok (.iaload, 1) := by decide +kernel
theorem dL_off_29 : decode cL_off 29 = .ok (.iconst 1, 1) := by decide +kernel
theorem dL_off_30 : decode cL_off 30 = .ok (.isub, 1) := by decide +kernel
theorem dL_off_31 : decode cL_off 31 = .ok (.iastore, 1) := by decide +kernel
theorem dL_off_32 : decode cL_off 32 = .ok (.return_, 1) := by decide +kernel
theorem dL_ready_0 : decode cL_ready 0 = .ok (.iconst 0, 1) := by decide +kernel
theorem dL_ready_1 : decode cL_ready 1 = .ok (.istore_n 3, 1) := by decide +kernel
theorem dL_ready_2 : decode cL_ready 2 = .ok (.iload_n 3, 1) := by decide +kernel
theorem dL_ready_3 : decode cL_ready 3 = .ok (.aload_n 2, 1) := by decide +kernel
theorem dL_ready_4 : decode cL_ready 4 = .ok (.bipush 7, 2) := by decide +kernel
theorem dL_ready_6 : decode cL_ready 6 = .ok (.iaload, 1) := by decide +kernel
theorem dL_ready_7 : decode cL_ready 7 = .ok (.if_icmp .ge 30, 3) := by decide +kernel
theorem dL_ready_10 : decode cL_ready 10 = .ok (.aload_n 1, 1) := by decide +kernel
theorem dL_ready_11 : decode cL_ready 11 = .ok (.iconst 2, 1) := by decide +kernel
theorem dL_ready_12 : decode cL_ready 12 = .ok (.iload_n 3, 1) := by decide +kernel
theorem dL_ready_13 : decode cL_ready 13 = .ok (.imul, 1) := by decide +kernel
theorem dL_ready_14 : decode cL_ready 14 = .ok (.iaload, 1) := by decide +kernel
theorem dL_ready_15 : decode cL_ready 15 = .ok (.iload_n 0, 1) := by decide +kernel
theorem dL_ready_16 : decode cL_ready 16 = .ok (.if_icmp .ne 15, 3) := by decide +kernel
theorem dL_ready_19 : decode cL_ready 19 = .ok (.aload_n 1, 1) := by decide +kernel
theorem dL_ready_20 : decode cL_ready 20 = .ok (.iconst 2, 1) := by decide +kernel
theorem dL_ready_21 : decode cL_ready 21 = .ok (.iload_n 3, 1) := by decide +kernel
theorem dL_ready_22 : decode cL_ready 22 = .ok (.imul, 1) := by decide +kernel
theorem dL_ready_23 : decode cL_ready 23 = .ok (.iconst 1, 1) := by decide +kernel
theorem dL_ready_24 : decode cL_ready 24 = .ok (.iadd, 1) := by decide +kernel
theorem dL_ready_25 : decode cL_ready 25 = .ok (.iaload, 1) := by decide +kernel
theorem dL_ready_26 : decode cL_ready 26 = .ok (.ifCond .ne 5, 3) := by decide +kernel
theorem dL_ready_29 : decode cL_ready 29 = .ok (.iload_n 3, 1) := by decide +kernel
theorem dL_ready_30 : decode cL_ready 30 = .ok (.ireturn, 1) := by decide +kernel
theorem dL_ready_31 : decode cL_ready 31 = .ok (.iinc 3 1, 3) := by decide +kernel
theorem dL_ready_34 : decode cL_ready 34 = .ok (.goto (-32), 3) := by decide +kernel
theorem dL_ready_37 : decode cL_ready 37 = .ok (.iconst (-1), 1) := by decide +kernel
theorem dL_ready_38 : decode cL_ready 38 = .ok (.ireturn, 1) := by decide +kernel
theorem dL_serve_0 : decode cL_serve 0 = .ok (.aload 6, 2) := by decide +kernel
theorem dL_serve_2 : decode cL_serve 2 = .ok (.iconst 1, 1) := by decide +kernel
theorem dL_serve_3 : decode cL_serve 3 = .ok (.iaload, 1) := by decide +kernel
theorem dL_serve_4 : decode cL_serve 4 = .ok (.ifCond .lt 7, 3) := by decide +kernel
theorem dL_serve_7 : decode cL_serve 7 = .ok (.iconst 1, 1) := by decide +kernel
theorem dL_serve_8 : decode cL_serve 8 = .ok (.goto 4, 3) := by decide +kernel
theorem dL_serve_11 : decode cL_serve 11 = .ok (.iconst 0, 1) := by decide +kernel
theorem dL_serve_12 : decode cL_serve 12 = .ok (.istore 7, 2) := by decide +kernel
theorem dL_serve_14 : decode cL_serve 14 = .ok (.iload 7, 2) := by decide +kernel
theorem dL_serve_16 : decode cL_serve 16 = .ok (.ifCond .ne 16, 3) := by decide +kernel
theorem dL_serve_19 : decode cL_serve 19 = .ok (.aload 6, 2) := by decide +kernel
theorem dL_serve_21 : decode cL_serve 21 = .ok (.iconst 0, 1) := by decide +kernel
theorem dL_serve_22 : decode cL_serve 22 = .ok (.iaload, 1) := by decide +kernel
theorem dL_serve_23 : decode cL_serve 23 = .ok (.aload_n 2, 1) := by decide +kernel
theorem dL_serve_24 : decode cL_serve 24 = .ok (.bipush 7, 2) := by decide +kernel
theorem dL_serve_26 : decode cL_serve 26 = .ok (.iload_n 0, 1) := by decide +kernel
theorem dL_serve_27 : decode cL_serve 27 = .ok (.imul, 1) := by decide +kernel
theorem dL_serve_28 : decode cL_serve 28 = .ok (.iaload, 1) := by decide +kernel
theorem dL_serve_29 : decode cL_serve 29 = .ok (.if_icmp .eq 87, 3) := by decide +kernel
theorem dL_serve_32 : decode cL_serve 32 = .ok (.aload 6, 2) := by decide +kernel
theorem dL_serve_34 : decode cL_serve 34 = .ok (.iconst 1, 1) := by decide +kernel
theorem dL_serve_35 : decode cL_serve 35 = .ok (.iaload, 1) := by decide +kernel
theorem dL_serve_36 : decode cL_serve 36 = .ok (.iload_n 0, 1) := by decide +kernel
theorem dL_serve_37 : decode cL_serve 37 = .ok (.if_icmp .ne 10, 3) := by decide +kernel
theorem dL_serve_40 : decode cL_serve 40 = .ok (.aload 6, 2) := by decide +kernel
theorem dL_serve_42 : decode cL_serve 42 = .ok (.iconst 2, 1) := by decide +kernel
theorem dL_serve_43 : decode cL_serve 43 = .ok (.iaload, 1) := by decide +kernel
theorem dL_serve_44 : decode cL_serve 44 = .ok (.goto 22, 3) := by decide +kernel
theorem dL_serve_47 : decode cL_serve 47 = .ok (.aload 6, 2) := by decide +kernel
theorem dL_serve_49 : decode cL_serve 49 = .ok (.iconst 0, 1) := by decide +kernel
theorem dL_serve_50 : decode cL_serve 50 = .ok (.iaload, 1) := by decide +kernel
theorem dL_serve_51 : decode cL_serve 51 = .ok (.aload_n 2, 1) := by decide +kernel
theorem dL_serve_52 : decode cL_serve 52 = .ok (.bipush 7, 2) := by decide +kernel
theorem dL_serve_54 : decode cL_serve 54 = .ok (.iload_n 0, 1) := by decide +kernel
theorem dL_serve_55 : decode cL_serve 55 = .ok (.imul, 1) := by decide +kernel
theorem dL_serve_56 : decode cL_serve 56 = .ok (.iaload, 1) := by decide +kernel
theorem dL_serve_57 : decode cL_serve 57 = .ok (.aload 4, 2) := by decide +kernel
theorem dL_serve_59 : decode cL_serve 59 = .ok (.aload 5, 2) := by decide +kernel
theorem dL_serve_61 : decode cL_serve 61 = .ok (.aload 6, 2) := by decide +kernel
theorem dL_serve_63 : decode cL_serve 63 = .ok (.invokestatic 14, 3) := by decide +kernel
theorem dL_serve_66 : decode cL_serve 66 = .ok (.iconst 1, 1) := by decide +kernel
theorem dL_serve_67 : decode cL_serve 67 = .ok (.isub, 1) := by decide +kernel
theorem dL_serve_68 : decode cL_serve 68 = .ok (.istore 8, 2) := by decide +kernel
theorem dL_serve_70 : decode cL_serve 70 = .ok (.aload 6, 2) := by decide +kernel
theorem dL_serve_72 : decode cL_serve 72 = .ok (.iconst 1, 1) := by decide +kernel
theorem dL_serve_73 : decode cL_serve 73 = .ok (.iload 8, 2) := by decide +kernel
theorem dL_serve_75 : decode cL_serve 75 = .ok (.ifCond .le 7, 3) := by decide +kernel
theorem dL_serve_78 : decode cL_serve 78 = .ok (.iload_n 0, 1) := by decide +kernel
theorem dL_serve_79 : decode cL_serve 79 = .ok (.goto 4, 3) := by decide +kernel
theorem dL_serve_82 : decode cL_serve 82 = .ok (.iconst (-1), 1) := by decide +kernel
theorem dL_serve_83 : decode cL_serve 83 = .ok (.iastore, 1) := by decide +kernel
theorem dL_serve_84 : decode cL_serve 84 = .ok (.aload 6, 2) := by decide +kernel
theorem dL_serve_86 : decode cL_serve 86 = .ok (.iconst 2, 1) := by decide +kernel
theorem dL_serve_87 : decode cL_serve 87 = .ok (.iload 8, 2) := by decide +kernel
theorem dL_serve_89 : decode cL_serve 89 = .ok (.ifCond .le 8, 3) := by decide +kernel
theorem dL_serve_92 : decode cL_serve 92 = .ok (.iload 8, 2) := by decide +kernel
theorem dL_serve_94 : decode cL_serve 94 = .ok (.goto 4, 3) := by decide +kernel
theorem dL_serve_97 : decode cL_serve 97 = .ok (.iconst 0, 1) := by decide +kernel
theorem dL_serve_98 : decode cL_serve 98 = .ok (.iastore, 1) := by decide +kernel
theorem dL_serve_99 : decode cL_serve 99 = .ok (.iload 8, 2) := by decide +kernel
theorem dL_serve_101 : decode cL_serve 101 = .ok (.ifCond .gt 13, 3) := by decide +kernel
theorem dL_serve_104 : decode cL_serve 104 = .ok (.aload 6, 2) := by decide +kernel
theorem dL_serve_106 : decode cL_serve 106 = .ok (.iconst 0, 1) := by decide +kernel
theorem dL_serve_107 : decode cL_serve 107 = .ok (.aload_n 2, 1) := by decide +kernel
theorem dL_serve_108 : decode cL_serve 108 = .ok (.bipush 7, 2) := by decide +kernel
theorem dL_serve_110 : decode cL_serve 110 = .ok (.iload_n 0, 1) := by decide +kernel
theorem dL_serve_111 : decode cL_serve 111 = .ok (.imul, 1) := by decide +kernel
theorem dL_serve_112 : decode cL_serve 112 = .ok (.iaload, 1) := by decide +kernel
theorem dL_serve_113 : decode cL_serve 113 = .ok (.iastore, 1) := by decide +kernel
theorem dL_serve_114 : decode cL_serve 114 = .ok (.iconst 1, 1) := by decide +kernel
theorem dL_serve_115 : decode cL_serve 115 = .ok (.ireturn, 1) := by decide +kernel
theorem dL_serve_116 : decode cL_serve 116 = .ok (.iload_n 0, 1) := by decide +kernel
theorem dL_serve_117 : decode cL_serve 117 = .ok (.aload_n 3, 1) := by decide +kernel
theorem dL_serve_118 : decode cL_serve 118 = .ok (.aload 6, 2) := by decide +kernel
theorem dL_serve_120 : decode cL_serve 120 = .ok (.invokestatic 18, 3) := by decide +kernel
theorem dL_serve_123 : decode cL_serve 123 = .ok (.ifCond .ge 5, 3) := by decide +kernel
theorem dL_serve_126 : decode cL_serve 126 = .ok (.iconst 2, 1) := by decide +kernel
theorem dL_serve_127 : decode cL_serve 127 = .ok (.ireturn, 1) := by decide +kernel
theorem dL_serve_128 : decode cL_serve 128 = .ok (.iload_n 1, 1) := by decide +kernel
theorem dL_serve_129 : decode cL_serve 129 = .ok (.aload 4, 2) := by decide +kernel
theorem dL_serve_131 : decode cL_serve 131 = .ok (.iconst 0, 1) := by decide +kernel
theorem dL_serve_132 : decode cL_serve 132 = .ok (.iaload, 1) := by decide +kernel
theorem dL_serve_133 : decode cL_serve 133 = .ok (.aload_n 2, 1) := by decide +kernel
theorem dL_serve_134 : decode cL_serve 134 = .ok (.bipush 7, 2) := by decide +kernel
theorem dL_serve_136 : decode cL_serve 136 = .ok (.iload_n 0, 1) := by decide +kernel
theorem dL_serve_137 : decode cL_serve 137 = .ok (.imul, 1) := by decide +kernel
theorem dL_serve_138 : decode cL_serve 138 = .ok (.iconst 1, 1) := by decide +kernel
theorem dL_serve_139 : decode cL_serve 139 = .ok (.iadd, 1) := by decide +kernel
theorem dL_serve_140 : decode cL_serve 140 = .ok (.iaload, 1) := by decide +kernel
theorem dL_serve_141 : decode cL_serve 141 = .ok (.bipush 25, 2) := by decide +kernel
theorem dL_serve_143 : decode cL_serve 143 = .ok (.idiv, 1) := by decide +kernel
theorem dL_serve_144 : decode cL_serve 144 = .ok (.isub, 1) := by decide +kernel
theorem dL_serve_145 : decode cL_serve 145 = .ok (.if_icmp .le 5, 3) := by decide +kernel
theorem dL_serve_148 : decode cL_serve 148 = .ok (.iconst 3, 1) := by decide +kernel
theorem dL_serve_149 : decode cL_serve 149 = .ok (.ireturn, 1) := by decide +kernel
theorem dL_serve_150 : decode cL_serve 150 = .ok (.aload 6, 2) := by decide +kernel
theorem dL_serve_152 : decode cL_serve 152 = .ok (.iconst 3, 1) := by decide +kernel
theorem dL_serve_153 : decode cL_serve 153 = .ok (.dup2, 1) := by decide +kernel
theorem dL_serve_154 : decode cL_serve 154 = .ok (.iaload, 1) := by decide +kernel
theorem dL_serve_155 : decode cL_serve 155 = .ok (.iconst 1, 1) := by decide +kernel
theorem dL_serve_156 : decode cL_serve 156 = .ok (.iadd, 1) := by decide +kernel
theorem dL_serve_157 : decode cL_serve 157 = .ok (.iastore, 1) := by decide +kernel
theorem dL_serve_158 : decode cL_serve 158 = .ok (.aload 6, 2) := by decide +kernel
theorem dL_serve_160 : decode cL_serve 160 = .ok (.iconst 4, 1) := by decide +kernel
theorem dL_serve_161 : decode cL_serve 161 = .ok (.iload_n 0, 1) := by decide +kernel
theorem dL_serve_162 : decode cL_serve 162 = .ok (.iastore, 1) := by decide +kernel
theorem dL_serve_163 : decode cL_serve 163 = .ok (.iconst 4, 1) := by decide +kernel
theorem dL_serve_164 : decode cL_serve 164 = .ok (.ireturn, 1) := by decide +kernel
theorem dL_hour_0 : decode cL_hour 0 = .ok (.aload 4, 2) := by decide +kernel
theorem dL_hour_2 : decode cL_hour 2 = .ok (.iconst 5, 1) := by decide +kernel
theorem dL_hour_3 : decode cL_hour 3 = .ok (.iaload, 1) := by decide +kernel
theorem dL_hour_4 : decode cL_hour 4 = .ok (.istore 7, 2) := by decide +kernel
theorem dL_hour_6 : decode cL_hour 6 = .ok (.iconst 0, 1) := by decide +kernel
theorem dL_hour_7 : decode cL_hour 7 = .ok (.istore 8, 2) := by decide +kernel
theorem dL_hour_9 : decode cL_hour 9 = .ok (.iload 8, 2) := by decide +kernel
theorem dL_hour_11 : decode cL_hour 11 = .ok (.aload 6, 2) := by decide +kernel
theorem dL_hour_13 : decode cL_hour 13 = .ok (.bipush 7, 2) := by decide +kernel
theorem dL_hour_15 : decode cL_hour 15 = .ok (.iaload, 1) := by decide +kernel
theorem dL_hour_16 : decode cL_hour 16 = .ok (.if_icmp .ge 57, 3) := by decide +kernel
theorem dL_hour_19 : decode cL_hour 19 = .ok (.iload 7, 2) := by decide +kernel
theorem dL_hour_21 : decode cL_hour 21 = .ok (.aload_n 1, 1) := by decide +kernel
theorem dL_hour_22 : decode cL_hour 22 = .ok (.iconst 2, 1) := by decide +kernel
theorem dL_hour_23 : decode cL_hour 23 = .ok (.iload 8, 2) := by decide +kernel
theorem dL_hour_25 : decode cL_hour 25 = .ok (.imul, 1) := by decide +kernel
theorem dL_hour_26 : decode cL_hour 26 = .ok (.iconst 1, 1) := by decide +kernel
theorem dL_hour_27 : decode cL_hour 27 = .ok (.iadd, 1) := by decide +kernel
theorem dL_hour_28 : decode cL_hour 28 = .ok (.iaload, 1) := by decide +kernel
theorem dL_hour_29 : decode cL_hour 29 = .ok (.if_icmp .ge 8, 3) := by decide +kernel
theorem dL_hour_32 : decode cL_hour 32 = .ok (.iload 7, 2) := by decide +kernel
theorem dL_hour_34 : decode cL_hour 34 = .ok (.goto 11, 3) := by decide +kernel
theorem dL_hour_37 : decode cL_hour 37 = .ok (.aload_n 1, 1) := by decide +kernel
theorem dL_hour_38 : decode cL_hour 38 = .ok (.iconst 2, 1) := by decide +kernel
theorem dL_hour_39 : decode cL_hour 39 = .ok (.iload 8, 2) := by decide +kernel
theorem dL_hour_41 : decode cL_hour 41 = .ok (.imul, 1) := by decide +kernel
theorem dL_hour_42 : decode cL_hour 42 = .ok (.iconst 1, 1) := by decide +kernel
theorem dL_hour_43 : decode cL_hour 43 = .ok (.iadd, 1) := by decide +kernel
theorem dL_hour_44 : decode cL_hour 44 = .ok (.iaload, 1) := by decide +kernel
theorem dL_hour_45 : decode cL_hour 45 = .ok (.istore 9, 2) := by decide +kernel
theorem dL_hour_47 : decode cL_hour 47 = .ok (.aload_n 1, 1) := by decide +kernel
theorem dL_hour_48 : decode cL_hour 48 = .ok (.iconst 2, 1) := by decide +kernel
theorem dL_hour_49 : decode cL_hour 49 = .ok (.iload 8, 2) := by decide +kernel
theorem dL_hour_51 : decode cL_hour 51 = .ok (.imul, 1) := by decide +kernel
theorem dL_hour_52 : decode cL_hour 52 = .ok (.iconst 1, 1) := by decide +kernel
theorem dL_hour_53 : decode cL_hour 53 = .ok (.iadd, 1) := by decide +kernel
theorem dL_hour_54 : decode cL_hour 54 = .ok (.dup2, 1) := by decide +kernel
theorem dL_hour_55 : decode cL_hour 55 = .ok (.iaload, 1) := by decide +kernel
theorem dL_hour_56 : decode cL_hour 56 = .ok (.iload 9, 2) := by decide +kernel
theorem dL_hour_58 : decode cL_hour 58 = .ok (.isub, 1) := by decide +kernel
theorem dL_hour_59 : decode cL_hour 59 = .ok (.iastore, 1) := by decide +kernel
theorem dL_hour_60 : decode cL_hour 60 = .ok (.iload 7, 2) := by decide +kernel
theorem dL_hour_62 : decode cL_hour 62 = .ok (.iload 9, 2) := by decide +kernel
theorem dL_hour_64 : decode cL_hour 64 = .ok (.isub, 1) := by decide +kernel
theorem dL_hour_65 : decode cL_hour 65 = .ok (.istore 7, 2) := by decide +kernel
theorem dL_hour_67 : decode cL_hour 67 = .ok (.iinc 8 1, 3) := by decide +kernel
theorem dL_hour_70 : decode cL_hour 70 = .ok (.goto (-61), 3) := by decide +kernel
theorem dL_hour_73 : decode cL_hour 73 = .ok (.aload_n 2, 1) := by decide +kernel
theorem dL_hour_74 : decode cL_hour 74 = .ok (.iconst 0, 1) := by decide +kernel
theorem dL_hour_75 : decode cL_hour 75 = .ok (.iaload, 1) := by decide +kernel
theorem dL_hour_76 : decode cL_hour 76 = .ok (.ifCond .le 18, 3) := by decide +kernel
theorem dL_hour_79 : decode cL_hour 79 = .ok (.aload_n 2, 1) := by decide +kernel
theorem dL_hour_80 : decode cL_hour 80 = .ok (.iconst 1, 1) := by decide +kernel
theorem dL_hour_81 : decode cL_hour 81 = .ok (.iaload, 1) := by decide +kernel
theorem dL_hour_82 : decode cL_hour 82 = .ok (.aload 6, 2) := by decide +kernel
theorem dL_hour_84 : decode cL_hour 84 = .ok (.iconst 4, 1) := by decide +kernel
theorem dL_hour_85 : decode cL_hour 85 = .ok (.iaload, 1) := by decide +kernel
theorem dL_hour_86 : decode cL_hour 86 = .ok (.if_icmp .eq 8, 3) := by decide +kernel
theorem dL_hour_89 : decode cL_hour 89 = .ok (.aload 6, 2) := by decide +kernel
theorem dL_hour_91 : decode cL_hour 91 = .ok (.iconst 4, 1) := by decide +kernel
theorem dL_hour_92 : decode cL_hour 92 = .ok (.iconst (-1), 1) := by decide +kernel
theorem dL_hour_93 : decode cL_hour 93 = .ok (.iastore, 1) := by decide +kernel
theorem dL_hour_94 : decode cL_hour 94 = .ok (.aload_n 2, 1) := by decide +kernel
theorem dL_hour_95 : decode cL_hour 95 = .ok (.iconst 0, 1) := by decide +kernel
theorem dL_hour_96 : decode cL_hour 96 = .ok (.iaload, 1) := by decide +kernel
theorem dL_hour_97 : decode cL_hour 97 = .ok (.ifCond .le 39, 3) := by decide +kernel
theorem dL_hour_100 : decode cL_hour 100 = .ok (.aload_n 0, 1) := by decide +kernel
theorem dL_hour_101 : decode cL_hour 101 = .ok (.bipush 7, 2) := by decide +kernel
theorem dL_hour_103 : decode cL_hour 103 = .ok (.aload_n 2, 1) := by decide +kernel
theorem dL_hour_104 : decode cL_hour 104 = .ok (.iconst 1, 1) := by decide +kernel
theorem dL_hour_105 : decode cL_hour 105 = .ok (.iaload, 1) := by decide +kernel
theorem dL_hour_106 : decode cL_hour 106 = .ok (.imul, 1) := by decide +kernel
theorem dL_hour_107 : decode cL_hour 107 = .ok (.iconst 3, 1) := by decide +kernel
theorem dL_hour_108 : decode cL_hour 108 = .ok (.iadd, 1) := by decide +kernel
theorem dL_hour_109 : decode cL_hour 109 = .ok (.iaload, 1) := by decide +kernel
theorem dL_hour_110 : decode cL_hour 110 = .ok (.ifCond .ne 26, 3) := by decide +kernel
theorem dL_hour_113 : decode cL_hour 113 = .ok (.aload_n 2, 1) := by decide +kernel
theorem dL_hour_114 : decode cL_hour 114 = .ok (.iconst 1, 1) := by decide +kernel
theorem dL_hour_115 : decode cL_hour 115 = .ok (.iaload, 1) := by decide +kernel
theorem dL_hour_116 : decode cL_hour 116 = .ok (.aload 6, 2) := by decide +kernel
theorem dL_hour_118 : decode cL_hour 118 = .ok (.iconst 4, 1) := by decide +kernel
theorem dL_hour_119 : decode cL_hour 119 = .ok (.iaload, 1) := by decide +kernel
theorem dL_hour_120 : decode cL_hour 120 = .ok (.if_icmp .ne 8, 3) := by decide +kernel
theorem dL_hour_123 : decode cL_hour 123 = .ok (.aload 6, 2) := by decide +kernel
theorem dL_hour_125 : decode cL_hour 125 = .ok (.iconst 4, 1) := by decide +kernel
theorem dL_hour_126 : decode cL_hour 126 = .ok (.iconst (-1), 1) := by decide +kernel
theorem dL_hour_127 : decode cL_hour 127 = .ok (.iastore, 1) := by decide +kernel
theorem dL_hour_128 : decode cL_hour 128 = .ok (.iconst 0, 1) := by decide +kernel
theorem dL_hour_129 : decode cL_hour 129 = .ok (.aload_n 2, 1) := by decide +kernel
theorem dL_hour_130 : decode cL_hour 130 = .ok (.invokestatic 22, 3) := by decide +kernel
theorem dL_hour_133 : decode cL_hour 133 = .ok (.goto (-39), 3) := by decide +kernel
theorem dL_hour_136 : decode cL_hour 136 = .ok (.aload 6, 2) := by decide +kernel
theorem dL_hour_138 : decode cL_hour 138 = .ok (.iconst 4, 1) := by decide +kernel
theorem dL_hour_139 : decode cL_hour 139 = .ok (.iaload, 1) := by decide +kernel
theorem dL_hour_140 : decode cL_hour 140 = .ok (.ifCond .ge 8, 3) := by decide +kernel
theorem dL_hour_143 : decode cL_hour 143 = .ok (.aload 6, 2) := by decide +kernel
theorem dL_hour_145 : decode cL_hour 145 = .ok (.iconst 3, 1) := by decide +kernel
theorem dL_hour_146 : decode cL_hour 146 = .ok (.iconst 0, 1) := by decide +kernel
theorem dL_hour_147 : decode cL_hour 147 = .ok (.iastore, 1) := by decide +kernel
theorem dL_hour_148 : decode cL_hour 148 = .ok (.aload 6, 2) := by decide +kernel
theorem dL_hour_150 : decode cL_hour 150 = .ok (.iconst 5, 1) := by decide +kernel
theorem dL_hour_151 : decode cL_hour 151 = .ok (.iaload, 1) := by decide +kernel
theorem dL_hour_152 : decode cL_hour 152 = .ok (.aload_n 3, 1) := by decide +kernel
theorem dL_hour_153 : decode cL_hour 153 = .ok (.invokestatic 26, 3) := by decide +kernel
theorem dL_hour_156 : decode cL_hour 156 = .ok (.istore 8, 2) := by decide +kernel
theorem dL_hour_158 : decode cL_hour 158 = .ok (.aload_n 2, 1) := by decide +kernel
theorem dL_hour_159 : decode cL_hour 159 = .ok (.iconst 0, 1) := by decide +kernel
theorem dL_hour_160 : decode cL_hour 160 = .ok (.iaload, 1) := by decide +kernel
theorem dL_hour_161 : decode cL_hour 161 = .ok (.ifCond .le 9, 3) := by decide +kernel
theorem dL_hour_164 : decode cL_hour 164 = .ok (.aload_n 2, 1) := by decide +kernel
theorem dL_hour_165 : decode cL_hour 165 = .ok (.iconst 1, 1) := by decide +kernel
theorem dL_hour_166 : decode cL_hour 166 = .ok (.iaload, 1) := by decide +kernel
theorem dL_hour_167 : decode cL_hour 167 = .ok (.goto 4, 3) := by decide +kernel
theorem dL_hour_170 : decode cL_hour 170 = .ok (.iconst (-1), 1) := by decide +kernel
theorem dL_hour_171 : decode cL_hour 171 = .ok (.istore 9, 2) := by decide +kernel
theorem dL_hour_173 : decode cL_hour 173 = .ok (.iload 9, 2) := by decide +kernel
theorem dL_hour_175 : decode cL_hour 175 = .ok (.ifCond .ge 7, 3) := by decide +kernel
theorem dL_hour_178 : decode cL_hour 178 = .ok (.iconst 0, 1) := by decide +kernel
theorem dL_hour_179 : decode cL_hour 179 = .ok (.goto 18, 3) := by decide +kernel
theorem dL_hour_182 : decode cL_hour 182 = .ok (.iload 9, 2) := by decide +kernel
theorem dL_hour_184 : decode cL_hour 184 = .ok (.iload 8, 2) := by decide +kernel
theorem dL_hour_186 : decode cL_hour 186 = .ok (.aload_n 0, 1) := by decide +kernel
theorem dL_hour_187 : decode cL_hour 187 = .ok (.aload_n 1, 1) := by decide +kernel
theorem dL_hour_188 : decode cL_hour 188 = .ok (.aload 4, 2) := by decide +kernel
theorem dL_hour_190 : decode cL_hour 190 = .ok (.aload 5, 2) := by decide +kernel
theorem dL_hour_192 : decode cL_hour 192 = .ok (.aload 6, 2) := by decide +kernel
theorem dL_hour_194 : decode cL_hour 194 = .ok (.invokestatic 30, 3) := by decide +kernel
theorem dL_hour_197 : decode cL_hour 197 = .ok (.istore 10, 2) := by decide +kernel
theorem dL_hour_199 : decode cL_hour 199 = .ok (.iconst 0, 1) := by decide +kernel
theorem dL_hour_200 : decode cL_hour 200 = .ok (.istore 11, 2) := by decide +kernel
theorem dL_hour_202 : decode cL_hour 202 = .ok (.iconst 0, 1) := by decide +kernel
theorem dL_hour_203 : decode cL_hour 203 = .ok (.istore 12, 2) := by decide +kernel
theorem dL_hour_205 : decode cL_hour 205 = .ok (.iload 12, 2) := by decide +kernel
theorem dL_hour_207 : decode cL_hour 207 = .ok (.aload 6, 2) := by decide +kernel
theorem dL_hour_209 : decode cL_hour 209 = .ok (.bipush 6, 2) := by decide +kernel
theorem dL_hour_211 : decode cL_hour 211 = .ok (.iaload, 1) := by decide +kernel
theorem dL_hour_212 : decode cL_hour 212 = .ok (.if_icmp .ge 202, 3) := by decide +kernel
theorem dL_hour_215 : decode cL_hour 215 = .ok (.iload 12, 2) := by decide +kernel
theorem dL_hour_217 : decode cL_hour 217 = .ok (.iload 8, 2) := by decide +kernel
theorem dL_hour_219 : decode cL_hour 219 = .ok (.aload_n 0, 1) := by decide +kernel
theorem dL_hour_220 : decode cL_hour 220 = .ok (.invokestatic 34, 3) := by decide +kernel
theorem dL_hour_223 : decode cL_hour 223 = .ok (.istore 13, 2) := by decide +kernel
theorem dL_hour_225 : decode cL_hour 225 = .ok (.iload 12, 2) := by decide +kernel
theorem dL_hour_227 : decode cL_hour 227 = .ok (.iload 9, 2) := by decide +kernel
theorem dL_hour_229 : decode cL_hour 229 = .ok (.if_icmp .ne 8, 3) := by decide +kernel
theorem dL_hour_232 : decode cL_hour 232 = .ok (.iload 10, 2) := by decide +kernel
theorem dL_hour_234 : decode cL_hour 234 = .ok (.goto 4, 3) := by decide +kernel
theorem dL_hour_237 : decode cL_hour 237 = .ok (.iconst 0, 1) := by decide +kernel
theorem dL_hour_238 : decode cL_hour 238 = .ok (.istore 14, 2) := by decide +kernel
theorem dL_hour_240 : decode cL_hour 240 = .ok (.iload 14, 2) := by decide +kernel
theorem dL_hour_242 : decode cL_hour 242 = .ok (.iconst 4, 1) := by decide +kernel
theorem dL_hour_243 : decode cL_hour 243 = .ok (.if_icmp .ne 8, 3) := by decide +kernel
theorem dL_hour_246 : decode cL_hour 246 = .ok (.iload 13, 2) := by decide +kernel
theorem dL_hour_248 : decode cL_hour 248 = .ok (.goto 17, 3) := by decide +kernel
theorem dL_hour_251 : decode cL_hour 251 = .ok (.iload 13, 2) := by decide +kernel
theorem dL_hour_253 : decode cL_hour 253 = .ok (.aload_n 0, 1) := by decide +kernel
theorem dL_hour_254 : decode cL_hour 254 = .ok (.bipush 7, 2) := by decide +kernel
theorem dL_hour_256 : decode cL_hour 256 = .ok (.iload 12, 2) := by decide +kernel
theorem dL_hour_258 : decode cL_hour 258 = .ok (.imul, 1) := by decide +kernel
theorem dL_hour_259 : decode cL_hour 259 = .ok (.iconst 3, 1) := by decide +kernel
theorem dL_hour_260 : decode cL_hour 260 = .ok (.iadd, 1) := by decide +kernel
theorem dL_hour_261 : decode cL_hour 261 = .ok (.iaload, 1) := by decide +kernel
theorem dL_hour_262 : decode cL_hour 262 = .ok (.imul, 1) := by decide +kernel
theorem dL_hour_263 : decode cL_hour 263 = .ok (.iconst 4, 1) := by decide +kernel
theorem dL_hour_264 : decode cL_hour 264 = .ok (.idiv, 1) := by decide +kernel
theorem dL_hour_265 : decode cL_hour 265 = .ok (.istore 15, 2) := by decide +kernel
theorem dL_hour_267 : decode cL_hour 267 = .ok (.aload_n 0, 1) := by decide +kernel
theorem dL_hour_268 : decode cL_hour 268 = .ok (.bipush 7, 2) := by decide +kernel
theorem dL_hour_270 : decode cL_hour 270 = .ok (.iload 12, 2) := by decide +kernel
theorem dL_hour_272 : decode cL_hour 272 = .ok (.imul, 1) := by decide +kernel
theorem dL_hour_273 : decode cL_hour 273 = .ok (.iconst 5, 1) := by decide +kernel
theorem dL_hour_274 : decode cL_hour 274 = .ok (.iadd, 1) := by decide +kernel
theorem dL_hour_275 : decode cL_hour 275 = .ok (.dup2, 1) := by decide +kernel
theorem dL_hour_276 : decode cL_hour 276 = .ok (.iaload, 1) := by decide +kernel
theorem dL_hour_277 : decode cL_hour 277 = .ok (.iload 15, 2) := by decide +kernel
theorem dL_hour_279 : decode cL_hour 279 = .ok (.iadd, 1) := by decide +kernel
theorem dL_hour_280 : decode cL_hour 280 = .ok (.iastore, 1) := by decide +kernel
theorem dL_hour_281 : decode cL_hour 281 = .ok (.aload_n 0, 1) := by decide +kernel
theorem dL_hour_282 : decode cL_hour 282 = .ok (.bipush 7, 2) := by decide +kernel
theorem dL_hour_284 : decode cL_hour 284 = .ok (.iload 12, 2) := by decide +kernel
theorem dL_hour_286 : decode cL_hour 286 = .ok (.imul, 1) := by decide +kernel
theorem dL_hour_287 : decode cL_hour 287 = .ok (.bipush 6, 2) := by decide +kernel
theorem dL_hour_289 : decode cL_hour 289 = .ok (.iadd, 1) := by decide +kernel
theorem dL_hour_290 : decode cL_hour 290 = .ok (.dup2, 1) := by decide +kernel
theorem dL_hour_291 : decode cL_hour 291 = .ok (.iaload, 1) := by decide +kernel
theorem dL_hour_292 : decode cL_hour 292 = .ok (.iload 13, 2) := by decide +kernel
theorem dL_hour_294 : decode cL_hour 294 = .ok (.iload 15, 2) := by decide +kernel
theorem dL_hour_296 : decode cL_hour 296 = .ok (.isub, 1) := by decide +kernel
theorem dL_hour_297 : decode cL_hour 297 = .ok (.iadd, 1) := by decide +kernel
theorem dL_hour_298 : decode cL_hour 298 = .ok (.iastore, 1) := by decide +kernel
theorem dL_hour_299 : decode cL_hour 299 = .ok (.aload 6, 2) := by decide +kernel
theorem dL_hour_301 : decode cL_hour 301 = .ok (.bipush 9, 2) := by decide +kernel
theorem dL_hour_303 : decode cL_hour 303 = .ok (.iload 14, 2) := by decide +kernel
theorem dL_hour_305 : decode cL_hour 305 = .ok (.iadd, 1) := by decide +kernel
theorem dL_hour_306 : decode cL_hour 306 = .ok (.dup2, 1) := by decide +kernel
theorem dL_hour_307 : decode cL_hour 307 = .ok (.iaload, 1) := by decide +kernel
theorem dL_hour_308 : decode cL_hour 308 = .ok (.iload 15, 2) := by decide +kernel
theorem dL_hour_310 : decode cL_hour 310 = .ok (.iadd, 1) := by decide +kernel
theorem dL_hour_311 : decode cL_hour 311 = .ok (.iastore, 1) := by decide +kernel
theorem dL_hour_312 : decode cL_hour 312 = .ok (.iload 11, 2) := by decide +kernel
theorem dL_hour_314 : decode cL_hour 314 = .ok (.iload 15, 2) := by decide +kernel
theorem dL_hour_316 : decode cL_hour 316 = .ok (.iadd, 1) := by decide +kernel
theorem dL_hour_317 : decode cL_hour 317 = .ok (.istore 11, 2) := by decide +kernel
theorem dL_hour_319 : decode cL_hour 319 = .ok (.iload 14, 2) := by decide +kernel
theorem dL_hour_321 : decode cL_hour 321 = .ok (.iconst 4, 1) := by decide +kernel
theorem dL_hour_322 : decode cL_hour 322 = .ok (.if_icmp .eq 86, 3) := by decide +kernel
theorem dL_hour_325 : decode cL_hour 325 = .ok (.aload_n 0, 1) := by decide +kernel
theorem dL_hour_326 : decode cL_hour 326 = .ok (.bipush 7, 2) := by decide +kernel
theorem dL_hour_328 : decode cL_hour 328 = .ok (.iload 12, 2) := by decide +kernel
theorem dL_hour_330 : decode cL_hour 330 = .ok (.imul, 1) := by decide +kernel
theorem dL_hour_331 : decode cL_hour 331 = .ok (.iconst 3, 1) := by decide +kernel
theorem dL_hour_332 : decode cL_hour 332 = .ok (.iadd, 1) := by decide +kernel
theorem dL_hour_333 : decode cL_hour 333 = .ok (.iaload, 1) := by decide +kernel
theorem dL_hour_334 : decode cL_hour 334 = .ok (.ifCond .eq 74, 3) := by decide +kernel
theorem dL_hour_337 : decode cL_hour 337 = .ok (.aload_n 0, 1) := by decide +kernel
theorem dL_hour_338 : decode cL_hour 338 = .ok (.bipush 7, 2) := by decide +kernel
theorem dL_hour_340 : decode cL_hour 340 = .ok (.iload 12, 2) := by decide +kernel
theorem dL_hour_342 : decode cL_hour 342 = .ok (.imul, 1) := by decide +kernel
theorem dL_hour_343 : decode cL_hour 343 = .ok (.iconst 3, 1) := by decide +kernel
theorem dL_hour_344 : decode cL_hour 344 = .ok (.iadd, 1) := by decide +kernel
theorem dL_hour_345 : decode cL_hour 345 = .ok (.iaload, 1) := by decide +kernel
theorem dL_hour_346 : decode cL_hour 346 = .ok (.iconst 4, 1) := by decide +kernel
theorem dL_hour_347 : decode cL_hour 347 = .ok (.if_icmp .ne 6, 3) := by decide +kernel
theorem dL_hour_350 : decode cL_hour 350 = .ok (.goto 58, 3) := by decide +kernel
theorem dL_hour_353 : decode cL_hour 353 = .ok (.aload_n 0, 1) := by decide +kernel
theorem dL_hour_354 : decode cL_hour 354 = .ok (.bipush 7, 2) := by decide +kernel
theorem dL_hour_356 : decode cL_hour 356 = .ok (.iload 12, 2) := by decide +kernel
theorem dL_hour_358 : decode cL_hour 358 = .ok (.imul, 1) := by decide +kernel
theorem dL_hour_359 : decode cL_hour 359 = .ok (.iconst 4, 1) := by decide +kernel
theorem dL_hour_360 : decode cL_hour 360 = .ok (.iadd, 1) := by decide +kernel
theorem dL_hour_361 : decode cL_hour 361 = .ok (.dup2, 1) := by decide +kernel
theorem dL_hour_362 : decode cL_hour 362 = .ok (.iaload, 1) := by decide +kernel
theorem dL_hour_363 : decode cL_hour 363 = .ok (.iconst 1, 1) := by decide +kernel
theorem dL_hour_364 : decode cL_hour 364 = .ok (.iadd, 1) := by decide +kernel
theorem dL_hour_365 : decode cL_hour 365 = .ok (.iastore, 1) := by decide +kernel
theorem dL_hour_366 : decode cL_hour 366 = .ok (.aload_n 0, 1) := by decide +kernel
theorem dL_hour_367 : decode cL_hour 367 = .ok (.bipush 7, 2) := by decide +kernel
theorem dL_hour_369 : decode cL_hour 369 = .ok (.iload 12, 2) := by decide +kernel
theorem dL_hour_371 : decode cL_hour 371 = .ok (.imul, 1) := by decide +kernel
theorem dL_hour_372 : decode cL_hour 372 = .ok (.iconst 4, 1) := by decide +kernel
theorem dL_hour_373 : decode cL_hour 373 = .ok (.iadd, 1) := by decide +kernel
theorem dL_hour_374 : decode cL_hour 374 = .ok (.iaload, 1) := by decide +kernel
theorem dL_hour_375 : decode cL_hour 375 = .ok (.aload 4, 2) := by decide +kernel
theorem dL_hour_377 : decode cL_hour 377 = .ok (.iconst 3, 1) := by decide +kernel
theorem dL_hour_378 : decode cL_hour 378 = .ok (.iaload, 1) := by decide +kernel
theorem dL_hour_379 : decode cL_hour 379 = .ok (.if_icmp .ge 6, 3) := by decide +kernel
theorem dL_hour_382 : decode cL_hour 382 = .ok (.goto 26, 3) := by decide +kernel
theorem dL_hour_385 : decode cL_hour 385 = .ok (.aload_n 0, 1) := by decide +kernel
theorem dL_hour_386 : decode cL_hour 386 = .ok (.bipush 7, 2) := by decide +kernel
theorem dL_hour_388 : decode cL_hour 388 = .ok (.iload 12, 2) := by decide +kernel
theorem dL_hour_390 : decode cL_hour 390 = .ok (.imul, 1) := by decide +kernel
theorem dL_hour_391 : decode cL_hour 391 = .ok (.iconst 3, 1) := by decide +kernel
theorem dL_hour_392 : decode cL_hour 392 = .ok (.iadd, 1) := by decide +kernel
theorem dL_hour_393 : decode cL_hour 393 = .ok (.dup2, 1) := by decide +kernel
theorem dL_hour_394 : decode cL_hour 394 = .ok (.iaload, 1) := by decide +kernel
theorem dL_hour_395 : decode cL_hour 395 = .ok (.iconst 1, 1) := by decide +kernel
theorem dL_hour_396 : decode cL_hour 396 = .ok (.iadd, 1) := by decide +kernel
theorem dL_hour_397 : decode cL_hour 397 = .ok (.iastore, 1) := by decide +kernel
theorem dL_hour_398 : decode cL_hour 398 = .ok (.aload_n 0, 1) := by decide +kernel
theorem dL_hour_399 : decode cL_hour 399 = .ok (.bipush 7, 2) := by decide +kernel
theorem dL_hour_401 : decode cL_hour 401 = .ok (.iload 12, 2) := by decide +kernel
theorem dL_hour_403 : decode cL_hour 403 = .ok (.imul, 1) := by decide +kernel
theorem dL_hour_404 : decode cL_hour 404 = .ok (.iconst 4, 1) := by decide +kernel
theorem dL_hour_405 : decode cL_hour 405 = .ok (.iadd, 1) := by decide +kernel
theorem dL_hour_406 : decode cL_hour 406 = .ok (.iconst 0, 1) := by decide +kernel
theorem dL_hour_407 : decode cL_hour 407 = .ok (.iastore, 1) := by decide +kernel
theorem dL_hour_408 : decode cL_hour 408 = .ok (.iinc 12 1, 3) := by decide +kernel
theorem dL_hour_411 : decode cL_hour 411 = .ok (.goto (-206), 3) := by decide +kernel
theorem dL_hour_414 : decode cL_hour 414 = .ok (.iload 10, 2) := by decide +kernel
theorem dL_hour_416 : decode cL_hour 416 = .ok (.iconst 4, 1) := by decide +kernel
theorem dL_hour_417 : decode cL_hour 417 = .ok (.if_icmp .ne 112, 3) := by decide +kernel
theorem dL_hour_420 : decode cL_hour 420 = .ok (.aload 6, 2) := by decide +kernel
theorem dL_hour_422 : decode cL_hour 422 = .ok (.iconst 3, 1) := by decide +kernel
theorem dL_hour_423 : decode cL_hour 423 = .ok (.iaload, 1) := by decide +kernel
theorem dL_hour_424 : decode cL_hour 424 = .ok (.aload 4, 2) := by decide +kernel
theorem dL_hour_426 : decode cL_hour 426 = .ok (.iconst 2, 1) := by decide +kernel
theorem dL_hour_427 : decode cL_hour 427 = .ok (.iaload, 1) := by decide +kernel
theorem dL_hour_428 : decode cL_hour 428 = .ok (.aload_n 0, 1) := by decide +kernel
theorem dL_hour_429 : decode cL_hour 429 = .ok (.bipush 7, 2) := by decide +kernel
theorem dL_hour_431 : decode cL_hour 431 = .ok (.iload 9, 2) := by decide +kernel
theorem dL_hour_433 : decode cL_hour 433 = .ok (.imul, 1) := by decide +kernel
theorem dL_hour_434 : decode cL_hour 434 = .ok (.iconst 3, 1) := by decide +kernel
theorem dL_hour_435 : decode cL_hour 435 = .ok (.iadd, 1) := by decide +kernel
theorem dL_hour_436 : decode cL_hour 436 = .ok (.iaload, 1) := by decide +kernel
theorem dL_hour_437 : decode cL_hour 437 = .ok (.imul, 1) := by decide +kernel
theorem dL_hour_438 : decode cL_hour 438 = .ok (.if_icmp .lt 91, 3) := by decide +kernel
theorem dL_hour_441 : decode cL_hour 441 = .ok (.aload_n 0, 1) := by decide +kernel
theorem dL_hour_442 : decode cL_hour 442 = .ok (.bipush 7, 2) := by decide +kernel
theorem dL_hour_444 : decode cL_hour 444 = .ok (.iload 9, 2) := by decide +kernel
theorem dL_hour_446 : decode cL_hour 446 = .ok (.imul, 1) := by decide +kernel
theorem dL_hour_447 : decode cL_hour 447 = .ok (.iconst 3, 1) := by decide +kernel
theorem dL_hour_448 : decode cL_hour 448 = .ok (.iadd, 1) := by decide +kernel
theorem dL_hour_449 : decode cL_hour 449 = .ok (.iconst 0, 1) := by decide +kernel
theorem dL_hour_450 : decode cL_hour 450 = .ok (.iastore, 1) := by decide +kernel
theorem dL_hour_451 : decode cL_hour 451 = .ok (.aload_n 0, 1) := by decide +kernel
theorem dL_hour_452 : decode cL_hour 452 = .ok (.bipush 7, 2) := by decide +kernel
theorem dL_hour_454 : decode cL_hour 454 = .ok (.iload 9, 2) := by decide +kernel
theorem dL_hour_456 : decode cL_hour 456 = .ok (.imul, 1) := by decide +kernel
theorem dL_hour_457 : decode cL_hour 457 = .ok (.iconst 4, 1) := by decide +kernel
theorem dL_hour_458 : decode cL_hour 458 = .ok (.iadd, 1) := by decide +kernel
theorem dL_hour_459 : decode cL_hour 459 = .ok (.iconst 0, 1) := by decide +kernel
theorem dL_hour_460 : decode cL_hour 460 = .ok (.iastore, 1) := by decide +kernel
theorem dL_hour_461 : decode cL_hour 461 = .ok (.iload 9, 2) := by decide +kernel
theorem dL_hour_463 : decode cL_hour 463 = .ok (.aload_n 1, 1) := by decide +kernel
theorem dL_hour_464 : decode cL_hour 464 = .ok (.aload 6, 2) := by decide +kernel
theorem dL_hour_466 : decode cL_hour 466 = .ok (.invokestatic 18, 3) := by decide +kernel
theorem dL_hour_469 : decode cL_hour 469 = .ok (.istore 12, 2) := by decide +kernel
theorem dL_hour_471 : decode cL_hour 471 = .ok (.aload 6, 2) := by decide +kernel
theorem dL_hour_473 : decode cL_hour 473 = .ok (.bipush 7, 2) := by decide +kernel
theorem dL_hour_475 : decode cL_hour 475 = .ok (.dup2, 1) := by decide +kernel
theorem dL_hour_476 : decode cL_hour 476 = .ok (.iaload, 1) := by decide +kernel
theorem dL_hour_477 : decode cL_hour 477 = .ok (.iconst 1, 1) := by decide +kernel
theorem dL_hour_478 : decode cL_hour 478 = .ok (.isub, 1) := by decide +kernel
theorem dL_hour_479 : decode cL_hour 479 = .ok (.iastore, 1) := by decide +kernel
theorem dL_hour_480 : decode cL_hour 480 = .ok (.iconst 2, 1) := by decide +kernel
theorem dL_hour_481 : decode cL_hour 481 = .ok (.iload 12, 2) := by decide +kernel
theorem dL_hour_483 : decode cL_hour 483 = .ok (.imul, 1) := by decide +kernel
theorem dL_hour_484 : decode cL_hour 484 = .ok (.istore 13, 2) := by decide +kernel
theorem dL_hour_486 : decode cL_hour 486 = .ok (.iload 13, 2) := by decide +kernel
theorem dL_hour_488 : decode cL_hour 488 = .ok (.iconst 2, 1) := by decide +kernel
theorem dL_hour_489 : decode cL_hour 489 = .ok (.aload 6, 2) := by decide +kernel
theorem dL_hour_491 : decode cL_hour 491 = .ok (.bipush 7, 2) := by decide +kernel
theorem dL_hour_493 : decode cL_hour 493 = .ok (.iaload, 1) := by decide +kernel
theorem dL_hour_494 : decode cL_hour 494 = .ok (.imul, 1) := by decide +kernel
theorem dL_hour_495 : decode cL_hour 495 = .ok (.if_icmp .ge 19, 3) := by decide +kernel
theorem dL_hour_498 : decode cL_hour 498 = .ok (.aload_n 1, 1) := by decide +kernel
theorem dL_hour_499 : decode cL_hour 499 = .ok (.iload 13, 2) := by decide +kernel
theorem dL_hour_501 : decode cL_hour 501 = .ok (.aload_n 1, 1) := by decide +kernel
theorem dL_hour_502 : decode cL_hour 502 = .ok (.iload 13, 2) := by decide +kernel
theorem dL_hour_504 : decode cL_hour 504 = .ok (.iconst 2, 1) := by decide +kernel
theorem dL_hour_505 : decode cL_hour 505 = .ok (.iadd, 1) := by decide +kernel
theorem dL_hour_506 : decode cL_hour 506 = .ok (.iaload, 1) := by decide +kernel
theorem dL_hour_507 : decode cL_hour 507 = .ok (.iastore, 1) := by decide +kernel
theorem dL_hour_508 : decode cL_hour 508 = .ok (.iinc 13 1, 3) := by decide +kernel
theorem dL_hour_511 : decode cL_hour 511 = .ok (.goto (-25), 3) := by decide +kernel
theorem dL_hour_514 : decode cL_hour 514 = .ok (.aload 6, 2) := by decide +kernel
theorem dL_hour_516 : decode cL_hour 516 = .ok (.iconst 3, 1) := by decide +kernel
theorem dL_hour_517 : decode cL_hour 517 = .ok (.iconst 0, 1) := by decide +kernel
theorem dL_hour_518 : decode cL_hour 518 = .ok (.iastore, 1) := by decide +kernel
theorem dL_hour_519 : decode cL_hour 519 = .ok (.aload 6, 2) := by decide +kernel
theorem dL_hour_521 : decode cL_hour 521 = .ok (.iconst 4, 1) := by decide +kernel
theorem dL_hour_522 : decode cL_hour 522 = .ok (.iconst (-1), 1) := by decide +kernel
theorem dL_hour_523 : decode cL_hour 523 = .ok (.iastore, 1) := by decide +kernel
theorem dL_hour_524 : decode cL_hour 524 = .ok (.iconst 0, 1) := by decide +kernel
theorem dL_hour_525 : decode cL_hour 525 = .ok (.aload_n 2, 1) := by decide +kernel
theorem dL_hour_526 : decode cL_hour 526 = .ok (.invokestatic 22, 3) := by decide +kernel
theorem dL_hour_529 : decode cL_hour 529 = .ok (.aload 6, 2) := by decide +kernel
theorem dL_hour_531 : decode cL_hour 531 = .ok (.iconst 5, 1) := by decide +kernel
theorem dL_hour_532 : decode cL_hour 532 = .ok (.dup2, 1) := by decide +kernel
theorem dL_hour_533 : decode cL_hour 533 = .ok (.iaload, 1) := by decide +kernel
theorem dL_hour_534 : decode cL_hour 534 = .ok (.iconst 1, 1) := by decide +kernel
theorem dL_hour_535 : decode cL_hour 535 = .ok (.iadd, 1) := by decide +kernel
theorem dL_hour_536 : decode cL_hour 536 = .ok (.iastore, 1) := by decide +kernel
theorem dL_hour_537 : decode cL_hour 537 = .ok (.iload 11, 2) := by decide +kernel
theorem dL_hour_539 : decode cL_hour 539 = .ok (.ireturn, 1) := by decide +kernel
theorem dL_spot_0 : decode cL_spot 0 = .ok (.iconst 0, 1) := by decide +kernel
theorem dL_spot_1 : decode cL_spot 1 = .ok (.istore_n 2, 1) := by decide +kernel
theorem dL_spot_2 : decode cL_spot 2 = .ok (.iload_n 2, 1) := by decide +kernel
theorem dL_spot_3 : decode cL_spot 3 = .ok (.aload_n 1, 1) := by decide +kernel
theorem dL_spot_4 : decode cL_spot 4 = .ok (.iconst 0, 1) := by decide +kernel
theorem dL_spot_5 : decode cL_spot 5 = .ok (.iaload, 1) := by decide +kernel
theorem dL_spot_6 : decode cL_spot 6 = .ok (.if_icmp .ge 20, 3) := by decide +kernel
theorem dL_spot_9 : decode cL_spot 9 = .ok (.aload_n 1, 1) := by decide +kernel
theorem dL_spot_10 : decode cL_spot 10 = .ok (.iload_n 2, 1) := by decide +kernel
theorem dL_spot_11 : decode cL_spot 11 = .ok (.iconst 1, 1) := by decide +kernel
theorem dL_spot_12 : decode cL_spot 12 = .ok (.iadd, 1) := by decide +kernel
theorem dL_spot_13 : decode cL_spot 13 = .ok (.iaload, 1) := by decide +kernel
theorem dL_spot_14 : decode cL_spot 14 = .ok (.iload_n 0, 1) := by decide +kernel
theorem dL_spot_15 : decode cL_spot 15 = .ok (.if_icmp .ne 5, 3) := by decide +kernel
theorem dL_spot_18 : decode cL_spot 18 = .ok (.iload_n 2, 1) := by decide +kernel
theorem dL_spot_19 : decode cL_spot 19 = .ok (.ireturn, 1) := by decide +kernel
theorem dL_spot_20 : decode cL_spot 20 = .ok (.iinc 2 1, 3) := by decide +kernel
theorem dL_spot_23 : decode cL_spot 23 = .ok (.goto (-21), 3) := by decide +kernel
theorem dL_spot_26 : decode cL_spot 26 = .ok (.iconst (-1), 1) := by decide +kernel
theorem dL_spot_27 : decode cL_spot 27 = .ok (.ireturn, 1) := by decide +kernel
theorem dL_sum_0 : decode cL_sum 0 = .ok (.iconst 0, 1) := by decide +kernel
theorem dL_sum_1 : decode cL_sum 1 = .ok (.istore_n 3, 1) := by decide +kernel
theorem dL_sum_2 : decode cL_sum 2 = .ok (.iconst 0, 1) := by decide +kernel
theorem dL_sum_3 : decode cL_sum 3 = .ok (.istore 4, 2) := by decide +kernel
theorem dL_sum_5 : decode cL_sum 5 = .ok (.iload 4, 2) := by decide +kernel
theorem dL_sum_7 : decode cL_sum 7 = .ok (.aload_n 2, 1) := by decide +kernel
theorem dL_sum_8 : decode cL_sum 8 = .ok (.bipush 6, 2) := by decide +kernel
theorem dL_sum_10 : decode cL_sum 10 = .ok (.iaload, 1) := by decide +kernel
theorem dL_sum_11 : decode cL_sum 11 = .ok (.if_icmp .ge 46, 3) := by decide +kernel
theorem dL_sum_14 : decode cL_sum 14 = .ok (.iload_n 3, 1) := by decide +kernel
theorem dL_sum_15 : decode cL_sum 15 = .ok (.iload_n 0, 1) := by decide +kernel
theorem dL_sum_16 : decode cL_sum 16 = .ok (.iconst 3, 1) := by decide +kernel
theorem dL_sum_17 : decode cL_sum 17 = .ok (.if_icmp .ne 23, 3) := by decide +kernel
theorem dL_sum_20 : decode cL_sum 20 = .ok (.aload_n 1, 1) := by decide +kernel
theorem dL_sum_21 : decode cL_sum 21 = .ok (.bipush 7, 2) := by decide +kernel
theorem dL_sum_23 : decode cL_sum 23 = .ok (.iload 4, 2) := by decide +kernel
theorem dL_sum_25 : decode cL_sum 25 = .ok (.imul, 1) := by decide +kernel
theorem dL_sum_26 : decode cL_sum 26 = .ok (.iconst 3, 1) := by decide +kernel
theorem dL_sum_27 : decode cL_sum 27 = .ok (.iadd, 1) := by decide +kernel
theorem dL_sum_28 : decode cL_sum 28 = .ok (.iaload, 1) := by decide +kernel
theorem dL_sum_29 : decode cL_sum 29 = .ok (.ifCond .le 7, 3) := by decide +kernel
theorem dL_sum_32 : decode cL_sum 32 = .ok (.iconst 1, 1) := by decide +kernel
theorem dL_sum_33 : decode cL_sum 33 = .ok (.goto 16, 3) := by decide +kernel
theorem dL_sum_36 : decode cL_sum 36 = .ok (.iconst 0, 1) := by decide +kernel
theorem dL_sum_37 : decode cL_sum 37 = .ok (.goto 12, 3) := by decide +kernel
theorem dL_sum_40 : decode cL_sum 40 = .ok (.aload_n 1, 1) := by decide +kernel
theorem dL_sum_41 : decode cL_sum 41 = .ok (.bipush 7, 2) := by decide +kernel
theorem dL_sum_43 : decode cL_sum 43 = .ok (.iload 4, 2) := by decide +kernel
theorem dL_sum_45 : decode cL_sum 45 = .ok (.imul, 1) := by decide +kernel
theorem dL_sum_46 : decode cL_sum 46 = .ok (.iload_n 0, 1) := by decide +kernel
theorem dL_sum_47 : decode cL_sum 47 = .ok (.iadd, 1) := by decide +kernel
theorem dL_sum_48 : decode cL_sum 48 = .ok (.iaload, 1) := by decide +kernel
theorem dL_sum_49 : decode cL_sum 49 = .ok (.iadd, 1) := by decide +kernel
theorem dL_sum_50 : decode cL_sum 50 = .ok (.istore_n 3, 1) := by decide +kernel
theorem dL_sum_51 : decode cL_sum 51 = .ok (.iinc 4 1, 3) := by decide +kernel
theorem dL_sum_54 : decode cL_sum 54 = .ok (.goto (-49), 3) := by decide +kernel
theorem dL_sum_57 : decode cL_sum 57 = .ok (.iload_n 3, 1) := by decide +kernel
theorem dL_sum_58 : decode cL_sum 58 = .ok (.ireturn, 1) := by decide +kernel
theorem dL_turbines_0 : decode cL_turbines 0 = .ok (.iconst 0, 1) := by decide +kernel
theorem dL_turbines_1 : decode cL_turbines 1 = .ok (.istore 7, 2) := by decide +kernel
theorem dL_turbines_3 : decode cL_turbines 3 = .ok (.iload 7, 2) := by decide +kernel
theorem dL_turbines_5 : decode cL_turbines 5 = .ok (.aload 6, 2) := by decide +kernel
theorem dL_turbines_7 : decode cL_turbines 7 = .ok (.bipush 6, 2) := by decide +kernel
theorem dL_turbines_9 : decode cL_turbines 9 = .ok (.iaload, 1) := by decide +kernel
theorem dL_turbines_10 : decode cL_turbines 10 = .ok (.if_icmp .ge 227, 3) := by decide +kernel
theorem dL_turbines_13 : decode cL_turbines 13 = .ok (.iconst 0, 1) := by decide +kernel
theorem dL_turbines_14 : decode cL_turbines 14 = .ok (.istore 8, 2) := by decide +kernel
theorem dL_turbines_16 : decode cL_turbines 16 = .ok (.iconst 0, 1) := by decide +kernel
theorem dL_turbines_17 : decode cL_turbines 17 = .ok (.istore 9, 2) := by decide +kernel
theorem dL_turbines_19 : decode cL_turbines 19 = .ok (.iload 9, 2) := by decide +kernel
theorem dL_turbines_21 : decode cL_turbines 21 = .ok (.aload 6, 2) := by decide +kernel
theorem dL_turbines_23 : decode cL_turbines 23 = .ok (.bipush 7, 2) := by decide +kernel
theorem dL_turbines_25 : decode cL_turbines 25 = .ok (.iaload, 1) := by decide +kernel
theorem dL_turbines_26 : decode cL_turbines 26 = .ok (.if_icmp .ge 41, 3) := by decide +kernel
theorem dL_turbines_29 : decode cL_turbines 29 = .ok (.iload 8, 2) := by decide +kernel
theorem dL_turbines_31 : decode cL_turbines 31 = .ok (.aload_n 2, 1) := by decide +kernel
theorem dL_turbines_32 : decode cL_turbines 32 = .ok (.iconst 2, 1) := by decide +kernel
theorem dL_turbines_33 : decode cL_turbines 33 = .ok (.iload 9, 2) := by decide +kernel
theorem dL_turbines_35 : decode cL_turbines 35 = .ok (.imul, 1) := by decide +kernel
theorem dL_turbines_36 : decode cL_turbines 36 = .ok (.iaload, 1) := by decide +kernel
theorem dL_turbines_37 : decode cL_turbines 37 = .ok (.iload 7, 2) := by decide +kernel
theorem dL_turbines_39 : decode cL_turbines 39 = .ok (.if_icmp .ne 18, 3) := by decide +kernel
theorem dL_turbines_42 : decode cL_turbines 42 = .ok (.aload_n 2, 1) := by decide +kernel
theorem dL_turbines_43 : decode cL_turbines 43 = .ok (.iconst 2, 1) := by decide +kernel
theorem dL_turbines_44 : decode cL_turbines 44 = .ok (.iload 9, 2) := by decide +kernel
theorem dL_turbines_46 : decode cL_turbines 46 = .ok (.imul, 1) := by decide +kernel
theorem dL_turbines_47 : decode cL_turbines 47 = .ok (.iconst 1, 1) := by decide +kernel
theorem dL_turbines_48 : decode cL_turbines 48 = .ok (.iadd, 1) := by decide +kernel
theorem dL_turbines_49 : decode cL_turbines 49 = .ok (.iaload, 1) := by decide +kernel
theorem dL_turbines_50 : decode cL_turbines 50 = .ok (.ifCond .ne 7, 3) := by decide +kernel
theorem dL_turbines_53 : decode cL_turbines 53 = .ok (.iconst 1, 1) := by decide +kernel
theorem dL_turbines_54 : decode cL_turbines 54 = .ok (.goto 4, 3) := by decide +kernel
theorem dL_turbines_57 : decode cL_turbines 57 = .ok (.iconst 0, 1) := by decide +kernel
theorem dL_turbines_58 : decode cL_turbines 58 = .ok (.iadd, 1) := by decide +kernel
theorem dL_turbines_59 : decode cL_turbines 59 = .ok (.istore 8, 2) := by decide +kernel
theorem dL_turbines_61 : decode cL_turbines 61 = .ok (.iinc 9 1, 3) := by decide +kernel
theorem dL_turbines_64 : decode cL_turbines 64 = .ok (.goto (-45), 3) := by decide +kernel
theorem dL_turbines_67 : decode cL_turbines 67 = .ok (.iconst 0, 1) := by decide +kernel
theorem dL_turbines_68 : decode cL_turbines 68 = .ok (.istore 9, 2) := by decide +kernel
theorem dL_turbines_70 : decode cL_turbines 70 = .ok (.iload 9, 2) := by decide +kernel
theorem dL_turbines_72 : decode cL_turbines 72 = .ok (.iconst 5, 1) := by decide +kernel
theorem dL_turbines_73 : decode cL_turbines 73 = .ok (.if_icmp .ge 32, 3) := by decide +kernel
theorem dL_turbines_76 : decode cL_turbines 76 = .ok (.aload_n 0, 1) := by decide +kernel
theorem dL_turbines_77 : decode cL_turbines 77 = .ok (.iload 7, 2) := by decide +kernel
theorem dL_turbines_79 : decode cL_turbines 79 = .ok (.iload 9, 2) := by decide +kernel
theorem dL_turbines_81 : decode cL_turbines 81 = .ok (.invokevirtual 38, 3) := by decide +kernel
theorem dL_turbines_84 : decode cL_turbines 84 = .ok (.aload_n 1, 1) := by decide +kernel
theorem dL_turbines_85 : decode cL_turbines 85 = .ok (.bipush 7, 2) := by decide +kernel
theorem dL_turbines_87 : decode cL_turbines 87 = .ok (.iload 7, 2) := by decide +kernel
theorem dL_turbines_89 : decode cL_turbines 89 = .ok (.imul, 1) := by decide +kernel
theorem dL_turbines_90 : decode cL_turbines 90 = .ok (.iload 9, 2) := by decide +kernel
theorem dL_turbines_92 : decode cL_turbines 92 = .ok (.iadd, 1) := by decide +kernel
theorem dL_turbines_93 : decode cL_turbines 93 = .ok (.iaload, 1) := by decide +kernel
theorem dL_turbines_94 : decode cL_turbines 94 = .ok (.if_icmp .eq 5, 3) := by decide +kernel
theorem dL_turbines_97 : decode cL_turbines 97 = .ok (.iconst 0, 1) := by decide +kernel
theorem dL_turbines_98 : decode cL_turbines 98 = .ok (.ireturn, 1) := by decide +kernel
theorem dL_turbines_99 : decode cL_turbines 99 = .ok (.iinc 9 1, 3) := by decide +kernel
theorem dL_turbines_102 : decode cL_turbines 102 = .ok (.goto (-32), 3) := by decide +kernel
theorem dL_turbines_105 : decode cL_turbines 105 = .ok (.aload_n 0, 1) := by decide +kernel
theorem dL_turbines_106 : decode cL_turbines 106 = .ok (.iload 7, 2) := by decide +kernel
theorem dL_turbines_108 : decode cL_turbines 108 = .ok (.iconst 5, 1) := by decide +kernel
theorem dL_turbines_109 : decode cL_turbines 109 = .ok (.invokevirtual 38, 3) := by decide +kernel
theorem dL_turbines_112 : decode cL_turbines 112 = .ok (.aload 5, 2) := by decide +kernel
theorem dL_turbines_114 : decode cL_turbines 114 = .ok (.iconst 0, 1) := by decide +kernel
theorem dL_turbines_115 : decode cL_turbines 115 = .ok (.iaload, 1) := by decide +kernel
theorem dL_turbines_116 : decode cL_turbines 116 = .ok (.aload_n 1, 1) := by decide +kernel
theorem dL_turbines_117 : decode cL_turbines 117 = .ok (.bipush 7, 2) := by decide +kernel
theorem dL_turbines_119 : decode cL_turbines 119 = .ok (.iload 7, 2) := by decide +kernel
theorem dL_turbines_121 : decode cL_turbines 121 = .ok (.imul, 1) := by decide +kernel
theorem dL_turbines_122 : decode cL_turbines 122 = .ok (.iconst 1, 1) := by decide +kernel
theorem dL_turbines_123 : decode cL_turbines 123 = .ok (.iadd, 1) := by decide +kernel
theorem dL_turbines_124 : decode cL_turbines 124 = .ok (.iaload, 1) := by decide +kernel
theorem dL_turbines_125 : decode cL_turbines 125 = .ok (.bipush 25, 2) := by decide +kernel
theorem dL_turbines_127 : decode cL_turbines 127 = .ok (.idiv, 1) := by decide +kernel
theorem dL_turbines_128 : decode cL_turbines 128 = .ok (.isub, 1) := by decide +kernel
theorem dL_turbines_129 : decode cL_turbines 129 = .ok (.if_icmp .ne 100, 3) := by decide +kernel
theorem dL_turbines_132 : decode cL_turbines 132 = .ok (.aload_n 0, 1) := by decide +kernel
theorem dL_turbines_133 : decode cL_turbines 133 = .ok (.iload 7, 2) := by decide +kernel
theorem dL_turbines_135 : decode cL_turbines 135 = .ok (.bipush 6, 2) := by decide +kernel
theorem dL_turbines_137 : decode cL_turbines 137 = .ok (.invokevirtual 38, 3) := by decide +kernel
theorem dL_turbines_140 : decode cL_turbines 140 = .ok (.iload 7, 2) := by decide +kernel
theorem dL_turbines_142 : decode cL_turbines 142 = .ok (.aload_n 3, 1) := by decide +kernel
theorem dL_turbines_143 : decode cL_turbines 143 = .ok (.invokestatic 44, 3) := by decide +kernel
theorem dL_turbines_146 : decode cL_turbines 146 = .ok (.if_icmp .ne 83, 3) := by decide +kernel
theorem dL_turbines_149 : decode cL_turbines 149 = .ok (.aload_n 0, 1) := by decide +kernel
theorem dL_turbines_150 : decode cL_turbines 150 = .ok (.iload 7, 2) := by decide +kernel
theorem dL_turbines_152 : decode cL_turbines 152 = .ok (.bipush 7, 2) := by decide +kernel
theorem dL_turbines_154 : decode cL_turbines 154 = .ok (.invokevirtual 38, 3) := by decide +kernel
theorem dL_turbines_157 : decode cL_turbines 157 = .ok (.iload 8, 2) := by decide +kernel
theorem dL_turbines_159 : decode cL_turbines 159 = .ok (.if_icmp .ne 70, 3) := by decide +kernel
theorem dL_turbines_162 : decode cL_turbines 162 = .ok (.aload_n 0, 1) := by decide +kernel
theorem dL_turbines_163 : decode cL_turbines 163 = .ok (.iload 7, 2) := by decide +kernel
theorem dL_turbines_165 : decode cL_turbines 165 = .ok (.bipush 8, 2) := by decide +kernel
theorem dL_turbines_167 : decode cL_turbines 167 = .ok (.invokevirtual 38, 3) := by decide +kernel
theorem dL_turbines_170 : decode cL_turbines 170 = .ok (.aload_n 1, 1) := by decide +kernel
theorem dL_turbines_171 : decode cL_turbines 171 = .ok (.bipush 7, 2) := by decide +kernel
theorem dL_turbines_173 : decode cL_turbines 173 = .ok (.iload 7, 2) := by decide +kernel
theorem dL_turbines_175 : decode cL_turbines 175 = .ok (.imul, 1) := by decide +kernel
theorem dL_turbines_176 : decode cL_turbines 176 = .ok (.iconst 5, 1) := by decide +kernel
theorem dL_turbines_177 : decode cL_turbines 177 = .ok (.iadd, 1) := by decide +kernel
theorem dL_turbines_178 : decode cL_turbines 178 = .ok (.iaload, 1) := by decide +kernel
theorem dL_turbines_179 : decode cL_turbines 179 = .ok (.if_icmp .ne 50, 3) := by decide +kernel
theorem dL_turbines_182 : decode cL_turbines 182 = .ok (.aload_n 0, 1) := by decide +kernel
theorem dL_turbines_183 : decode cL_turbines 183 = .ok (.iload 7, 2) := by decide +kernel
theorem dL_turbines_185 : decode cL_turbines 185 = .ok (.bipush 9, 2) := by decide +kernel
theorem dL_turbines_187 : decode cL_turbines 187 = .ok (.invokevirtual 38, 3) := by decide +kernel
theorem dL_turbines_190 : decode cL_turbines 190 = .ok (.aload_n 1, 1) := by decide +kernel
theorem dL_turbines_191 : decode cL_turbines 191 = .ok (.bipush 7, 2) := by decide +kernel
theorem dL_turbines_193 : decode cL_turbines 193 = .ok (.iload 7, 2) := by decide +kernel
theorem dL_turbines_195 : decode cL_turbines 195 = .ok (.imul, 1) := by decide +kernel
theorem dL_turbines_196 : decode cL_turbines 196 = .ok (.bipush 6, 2) := by decide +kernel
theorem dL_turbines_198 : decode cL_turbines 198 = .ok (.iadd, 1) := by decide +kernel
theorem dL_turbines_199 : decode cL_turbines 199 = .ok (.iaload, 1) := by decide +kernel
theorem dL_turbines_200 : decode cL_turbines 200 = .ok (.if_icmp .ne 29, 3) := by decide +kernel
theorem dL_turbines_203 : decode cL_turbines 203 = .ok (.aload_n 0, 1) := by decide +kernel
theorem dL_turbines_204 : decode cL_turbines 204 = .ok (.iload 7, 2) := by decide +kernel
theorem dL_turbines_206 : decode cL_turbines 206 = .ok (.bipush 10, 2) := by decide +kernel
theorem dL_turbines_208 : decode cL_turbines 208 = .ok (.invokevirtual 38, 3) := by decide +kernel
theorem dL_turbines_211 : decode cL_turbines 211 = .ok (.iload 7, 2) := by decide +kernel
theorem dL_turbines_213 : decode cL_turbines 213 = .ok (.aload 6, 2) := by decide +kernel
theorem dL_turbines_215 : decode cL_turbines 215 = .ok (.iconst 5, 1) := by decide +kernel
theorem dL_turbines_216 : decode cL_turbines 216 = .ok (.iaload, 1) := by decide +kernel
theorem dL_turbines_217 : decode cL_turbines 217 = .ok (.aload 4, 2) := by decide +kernel
theorem dL_turbines_219 : decode cL_turbines 219 = .ok (.invokestatic 26, 3) := by decide +kernel
theorem dL_turbines_222 : decode cL_turbines 222 = .ok (.aload_n 1, 1) := by decide +kernel
theorem dL_turbines_223 : decode cL_turbines 223 = .ok (.invokestatic 34, 3) := by decide +kernel
theorem dL_turbines_226 : decode cL_turbines 226 = .ok (.if_icmp .eq 5, 3) := by decide +kernel
theorem dL_turbines_229 : decode cL_turbines 229 = .ok (.iconst 0, 1) := by decide +kernel
theorem dL_turbines_230 : decode cL_turbines 230 = .ok (.ireturn, 1) := by decide +kernel
theorem dL_turbines_231 : decode cL_turbines 231 = .ok (.iinc 7 1, 3) := by decide +kernel
theorem dL_turbines_234 : decode cL_turbines 234 = .ok (.goto (-231), 3) := by decide +kernel
theorem dL_turbines_237 : decode cL_turbines 237 = .ok (.iconst 0, 1) := by decide +kernel
theorem dL_turbines_238 : decode cL_turbines 238 = .ok (.istore 7, 2) := by decide +kernel
theorem dL_turbines_240 : decode cL_turbines 240 = .ok (.iload 7, 2) := by decide +kernel
theorem dL_turbines_242 : decode cL_turbines 242 = .ok (.aload 6, 2) := by decide +kernel
theorem dL_turbines_244 : decode cL_turbines 244 = .ok (.bipush 7, 2) := by decide +kernel
theorem dL_turbines_246 : decode cL_turbines 246 = .ok (.iaload, 1) := by decide +kernel
theorem dL_turbines_247 : decode cL_turbines 247 = .ok (.if_icmp .ge 45, 3) := by decide +kernel
theorem dL_turbines_250 : decode cL_turbines 250 = .ok (.aload_n 0, 1) := by decide +kernel
theorem dL_turbines_251 : decode cL_turbines 251 = .ok (.iload 7, 2) := by decide +kernel
theorem dL_turbines_253 : decode cL_turbines 253 = .ok (.iconst 0, 1) := by decide +kernel
theorem dL_turbines_254 : decode cL_turbines 254 = .ok (.invokevirtual 47, 3) := by decide +kernel
theorem dL_turbines_257 : decode cL_turbines 257 = .ok (.aload_n 2, 1) := by decide +kernel
theorem dL_turbines_258 : decode cL_turbines 258 = .ok (.iconst 2, 1) := by decide +kernel
theorem dL_turbines_259 : decode cL_turbines 259 = .ok (.iload 7, 2) := by decide +kernel
theorem dL_turbines_261 : decode cL_turbines 261 = .ok (.imul, 1) := by decide +kernel
theorem dL_turbines_262 : decode cL_turbines 262 = .ok (.iaload, 1) := by decide +kernel
theorem dL_turbines_263 : decode cL_turbines 263 = .ok (.if_icmp .ne 21, 3) := by decide +kernel
theorem dL_turbines_266 : decode cL_turbines 266 = .ok (.aload_n 0, 1) := by decide +kernel
theorem dL_turbines_267 : decode cL_turbines 267 = .ok (.iload 7, 2) := by decide +kernel
theorem dL_turbines_269 : decode cL_turbines 269 = .ok (.iconst 1, 1) := by decide +kernel
theorem dL_turbines_270 : decode cL_turbines 270 = .ok (.invokevirtual 47, 3) := by decide +kernel
theorem dL_turbines_273 : decode cL_turbines 273 = .ok (.aload_n 2, 1) := by decide +kernel
theorem dL_turbines_274 : decode cL_turbines 274 = .ok (.iconst 2, 1) := by decide +kernel
theorem dL_turbines_275 : decode cL_turbines 275 = .ok (.iload 7, 2) := by decide +kernel
theorem dL_turbines_277 : decode cL_turbines 277 = .ok (.imul, 1) := by decide +kernel
theorem dL_turbines_278 : decode cL_turbines 278 = .ok (.iconst 1, 1) := by decide +kernel
theorem dL_turbines_279 : decode cL_turbines 279 = .ok (.iadd, 1) := by decide +kernel
theorem dL_turbines_280 : decode cL_turbines 280 = .ok (.iaload, 1) := by decide +kernel
theorem dL_turbines_281 : decode cL_turbines 281 = .ok (.if_icmp .eq 5, 3) := by decide +kernel
theorem dL_turbines_284 : decode cL_turbines 284 = .ok (.iconst 0, 1) := by decide +kernel
theorem dL_turbines_285 : decode cL_turbines 285 = .ok (.ireturn, 1) := by decide +kernel
theorem dL_turbines_286 : decode cL_turbines 286 = .ok (.iinc 7 1, 3) := by decide +kernel
theorem dL_turbines_289 : decode cL_turbines 289 = .ok (.goto (-49), 3) := by decide +kernel
theorem dL_turbines_292 : decode cL_turbines 292 = .ok (.iconst 1, 1) := by decide +kernel
theorem dL_turbines_293 : decode cL_turbines 293 = .ok (.ireturn, 1) := by decide +kernel
theorem dL_told_0 : decode cL_told 0 = .ok (.aload_n 0, 1) := by decide +kernel
theorem dL_told_1 : decode cL_told 1 = .ok (.aload_n 2, 1) := by decide +kernel
theorem dL_told_2 : decode cL_told 2 = .ok (.aload_n 3, 1) := by decide +kernel
theorem dL_told_3 : decode cL_told 3 = .ok (.aload 4, 2) := by decide +kernel
theorem dL_told_5 : decode cL_told 5 = .ok (.aload 5, 2) := by decide +kernel
theorem dL_told_7 : decode cL_told 7 = .ok (.aload 6, 2) := by decide +kernel
theorem dL_told_9 : decode cL_told 9 = .ok (.aload 8, 2) := by decide +kernel
theorem dL_told_11 : decode cL_told 11 = .ok (.invokestatic 50, 3) := by decide +kernel
theorem dL_told_14 : decode cL_told 14 = .ok (.ifCond .ne 5, 3) := by decide +kernel
theorem dL_told_17 : decode cL_told 17 = .ok (.iconst 0, 1) := by decide +kernel
theorem dL_told_18 : decode cL_told 18 = .ok (.ireturn, 1) := by decide +kernel
theorem dL_told_19 : decode cL_told 19 = .ok (.iconst 0, 1) := by decide +kernel
theorem dL_told_20 : decode cL_told 20 = .ok (.istore 9, 2) := by decide +kernel
theorem dL_told_22 : decode cL_told 22 = .ok (.iload 9, 2) := by decide +kernel
theorem dL_told_24 : decode cL_told 24 = .ok (.aload 8, 2) := by decide +kernel
theorem dL_told_26 : decode cL_told 26 = .ok (.bipush 8, 2) := by decide +kernel
theorem dL_told_28 : decode cL_told 28 = .ok (.iaload, 1) := by decide +kernel
theorem dL_told_29 : decode cL_told 29 = .ok (.if_icmp .ge 47, 3) := by decide +kernel
theorem dL_told_32 : decode cL_told 32 = .ok (.aload_n 0, 1) := by decide +kernel
theorem dL_told_33 : decode cL_told 33 = .ok (.iload 9, 2) := by decide +kernel
theorem dL_told_35 : decode cL_told 35 = .ok (.iconst 0, 1) := by decide +kernel
theorem dL_told_36 : decode cL_told 36 = .ok (.invokevirtual 54, 3) := by decide +kernel
theorem dL_told_39 : decode cL_told 39 = .ok (.aload 7, 2) := by decide +kernel
theorem dL_told_41 : decode cL_told 41 = .ok (.iconst 2, 1) := by decide +kernel
theorem dL_told_42 : decode cL_told 42 = .ok (.iload 9, 2) := by decide +kernel
theorem dL_told_44 : decode cL_told 44 = .ok (.imul, 1) := by decide +kernel
theorem dL_told_45 : decode cL_told 45 = .ok (.iaload, 1) := by decide +kernel
theorem dL_told_46 : decode cL_told 46 = .ok (.if_icmp .ne 22, 3) := by decide +kernel
theorem dL_told_49 : decode cL_told 49 = .ok (.aload_n 0, 1) := by decide +kernel
theorem dL_told_50 : decode cL_told 50 = .ok (.iload 9, 2) := by decide +kernel
theorem dL_told_52 : decode cL_told 52 = .ok (.iconst 1, 1) := by decide +kernel
theorem dL_told_53 : decode cL_told 53 = .ok (.invokevirtual 54, 3) := by decide +kernel
theorem dL_told_56 : decode cL_told 56 = .ok (.aload 7, 2) := by decide +kernel
theorem dL_told_58 : decode cL_told 58 = .ok (.iconst 2, 1) := by decide +kernel
theorem dL_told_59 : decode cL_told 59 = .ok (.iload 9, 2) := by decide +kernel
theorem dL_told_61 : decode cL_told 61 = .ok (.imul, 1) := by decide +kernel
theorem dL_told_62 : decode cL_told 62 = .ok (.iconst 1, 1) := by decide +kernel
theorem dL_told_63 : decode cL_told 63 = .ok (.iadd, 1) := by decide +kernel
theorem dL_told_64 : decode cL_told 64 = .ok (.iaload, 1) := by decide +kernel
theorem dL_told_65 : decode cL_told 65 = .ok (.if_icmp .eq 5, 3) := by decide +kernel
theorem dL_told_68 : decode cL_told 68 = .ok (.iconst 0, 1) := by decide +kernel
theorem dL_told_69 : decode cL_told 69 = .ok (.ireturn, 1) := by decide +kernel
theorem dL_told_70 : decode cL_told 70 = .ok (.iinc 9 1, 3) := by decide +kernel
theorem dL_told_73 : decode cL_told 73 = .ok (.goto (-51), 3) := by decide +kernel
theorem dL_told_76 : decode cL_told 76 = .ok (.iconst 0, 1) := by decide +kernel
theorem dL_told_77 : decode cL_told 77 = .ok (.istore 9, 2) := by decide +kernel
theorem dL_told_79 : decode cL_told 79 = .ok (.iload 9, 2) := by decide +kernel
theorem dL_told_81 : decode cL_told 81 = .ok (.iconst 5, 1) := by decide +kernel
theorem dL_told_82 : decode cL_told 82 = .ok (.if_icmp .ge 28, 3) := by decide +kernel
theorem dL_told_85 : decode cL_told 85 = .ok (.aload_n 0, 1) := by decide +kernel
theorem dL_told_86 : decode cL_told 86 = .ok (.iload 9, 2) := by decide +kernel
theorem dL_told_88 : decode cL_told 88 = .ok (.invokevirtual 57, 3) := by decide +kernel
theorem dL_told_91 : decode cL_told 91 = .ok (.aload 8, 2) := by decide +kernel
theorem dL_told_93 : decode cL_told 93 = .ok (.bipush 9, 2) := by decide +kernel
theorem dL_told_95 : decode cL_told 95 = .ok (.iload 9, 2) := by decide +kernel
theorem dL_told_97 : decode cL_told 97 = .ok (.iadd, 1) := by decide +kernel
theorem dL_told_98 : decode cL_told 98 = .ok (.iaload, 1) := by decide +kernel
theorem dL_told_99 : decode cL_told 99 = .ok (.if_icmp .eq 5, 3) := by decide +kernel
theorem dL_told_102 : decode cL_told 102 = .ok (.iconst 0, 1) := by decide +kernel
theorem dL_told_103 : decode cL_told 103 = .ok (.ireturn, 1) := by decide +kernel
theorem dL_told_104 : decode cL_told 104 = .ok (.iinc 9 1, 3) := by decide +kernel
theorem dL_told_107 : decode cL_told 107 = .ok (.goto (-28), 3) := by decide +kernel
theorem dL_told_110 : decode cL_told 110 = .ok (.iconst 0, 1) := by decide +kernel
theorem dL_told_111 : decode cL_told 111 = .ok (.istore 9, 2) := by decide +kernel
theorem dL_told_113 : decode cL_told 113 = .ok (.iload 9, 2) := by decide +kernel
theorem dL_told_115 : decode cL_told 115 = .ok (.bipush 7, 2) := by decide +kernel
theorem dL_told_117 : decode cL_told 117 = .ok (.if_icmp .ge 25, 3) := by decide +kernel
theorem dL_told_120 : decode cL_told 120 = .ok (.aload_n 0, 1) := by decide +kernel
theorem dL_told_121 : decode cL_told 121 = .ok (.iload 9, 2) := by decide +kernel
theorem dL_told_123 : decode cL_told 123 = .ok (.invokevirtual 60, 3) := by decide +kernel
theorem dL_told_126 : decode cL_told 126 = .ok (.aload 6, 2) := by decide +kernel
theorem dL_told_128 : decode cL_told 128 = .ok (.iload 9, 2) := by decide +kernel
theorem dL_told_130 : decode cL_told 130 = .ok (.iaload, 1) := by decide +kernel
theorem dL_told_131 : decode cL_told 131 = .ok (.if_icmp .eq 5, 3) := by decide +kernel
theorem dL_told_134 : decode cL_told 134 = .ok (.iconst 0, 1) := by decide +kernel
theorem dL_told_135 : decode cL_told 135 = .ok (.ireturn, 1) := by decide +kernel
theorem dL_told_136 : decode cL_told 136 = .ok (.iinc 9 1, 3) := by decide +kernel
theorem dL_told_139 : decode cL_told 139 = .ok (.goto (-26), 3) := by decide +kernel
theorem dL_told_142 : decode cL_told 142 = .ok (.aload_n 0, 1) := by decide +kernel
theorem dL_told_143 : decode cL_told 143 = .ok (.iconst 0, 1) := by decide +kernel
theorem dL_told_144 : decode cL_told 144 = .ok (.invokevirtual 63, 3) := by decide +kernel
end
section
theorem dL_told_147 : decode cL_told 147 = .ok (.aload 8, 2) := by decide +kernel
theorem dL_told_149 : decode cL_told 149 = .ok (.bipush 6, 2) := by decide +kernel
theorem dL_told_151 : decode cL_told 151 = .ok (.iaload, 1) := by decide +kernel
theorem dL_told_152 : decode cL_told 152 = .ok (.if_icmp .ne 95, 3) := by decide +kernel
theorem dL_told_155 : decode cL_told 155 = .ok (.aload_n 0, 1) := by decide +kernel
theorem dL_told_156 : decode cL_told 156 = .ok (.iconst 1, 1) := by decide +kernel
theorem dL_told_157 : decode cL_told 157 = .ok (.invokevirtual 63, 3) := by decide +kernel
theorem dL_told_160 : decode cL_told 160 = .ok (.iconst 3, 1) := by decide +kernel
theorem dL_told_161 : decode cL_told 161 = .ok (.aload_n 2, 1) := by decide +kernel
theorem dL_told_162 : decode cL_told 162 = .ok (.aload 8, 2) := by decide +kernel
theorem dL_told_164 : decode cL_told 164 = .ok (.invokestatic 66, 3) := by decide +kernel
theorem dL_told_167 : decode cL_told 167 = .ok (.if_icmp .ne 80, 3) := by decide +kernel
theorem dL_told_170 : decode cL_told 170 = .ok (.aload_n 0, 1) := by decide +kernel
theorem dL_told_171 : decode cL_told 171 = .ok (.iconst 2, 1) := by decide +kernel
theorem dL_told_172 : decode cL_told 172 = .ok (.invokevirtual 63, 3) := by decide +kernel
theorem dL_told_175 : decode cL_told 175 = .ok (.aload 8, 2) := by decide +kernel
theorem dL_told_177 : decode cL_told 177 = .ok (.iconst 5, 1) := by decide +kernel
theorem dL_told_178 : decode cL_told 178 = .ok (.iaload, 1) := by decide +kernel
theorem dL_told_179 : decode cL_told 179 = .ok (.if_icmp .ne 68, 3) := by decide +kernel
theorem dL_told_182 : decode cL_told 182 = .ok (.aload_n 0, 1) := by decide +kernel
theorem dL_told_183 : decode cL_told 183 = .ok (.iconst 3, 1) := by decide +kernel
theorem dL_told_184 : decode cL_told 184 = .ok (.invokevirtual 63, 3) := by decide +kernel
theorem dL_told_187 : decode cL_told 187 = .ok (.aload 8, 2) := by decide +kernel
theorem dL_told_189 : decode cL_told 189 = .ok (.iconst 5, 1) := by decide +kernel
theorem dL_told_190 : decode cL_told 190 = .ok (.iaload, 1) := by decide +kernel
theorem dL_told_191 : decode cL_told 191 = .ok (.aload 5, 2) := by decide +kernel
theorem dL_told_193 : decode cL_told 193 = .ok (.invokestatic 26, 3) := by decide +kernel
theorem dL_told_196 : decode cL_told 196 = .ok (.if_icmp .ne 51, 3) := by decide +kernel
theorem dL_told_199 : decode cL_told 199 = .ok (.aload_n 0, 1) := by decide +kernel
theorem dL_told_200 : decode cL_told 200 = .ok (.iconst 4, 1) := by decide +kernel
theorem dL_told_201 : decode cL_told 201 = .ok (.invokevirtual 63, 3) := by decide +kernel
theorem dL_told_204 : decode cL_told 204 = .ok (.aload 5, 2) := by decide +kernel
theorem dL_told_206 : decode cL_told 206 = .ok (.iconst 0, 1) := by decide +kernel
theorem dL_told_207 : decode cL_told 207 = .ok (.iaload, 1) := by decide +kernel
theorem dL_told_208 : decode cL_told 208 = .ok (.if_icmp .ne 39, 3) := by decide +kernel
theorem dL_told_211 : decode cL_told 211 = .ok (.aload_n 0, 1) := by decide +kernel
theorem dL_told_212 : decode cL_told 212 = .ok (.iconst 5, 1) := by decide +kernel
theorem dL_told_213 : decode cL_told 213 = .ok (.invokevirtual 63, 3) := by decide +kernel
theorem dL_told_216 : decode cL_told 216 = .ok (.aload 4, 2) := by decide +kernel
theorem dL_told_218 : decode cL_told 218 = .ok (.iconst 0, 1) := by decide +kernel
theorem dL_told_219 : decode cL_told 219 = .ok (.iaload, 1) := by decide +kernel
theorem dL_told_220 : decode cL_told 220 = .ok (.if_icmp .ne 27, 3) := by decide +kernel
theorem dL_told_223 : decode cL_told 223 = .ok (.aload_n 0, 1) := by decide +kernel
theorem dL_told_224 : decode cL_told 224 = .ok (.bipush 6, 2) := by decide +kernel
theorem dL_told_226 : decode cL_told 226 = .ok (.invokevirtual 63, 3) := by decide +kernel
theorem dL_told_229 : decode cL_told 229 = .ok (.aload 4, 2) := by decide +kernel
theorem dL_told_231 : decode cL_told 231 = .ok (.iconst 0, 1) := by decide +kernel
theorem dL_told_232 : decode cL_told 232 = .ok (.iaload, 1) := by decide +kernel
theorem dL_told_233 : decode cL_told 233 = .ok (.ifCond .le 10, 3) := by decide +kernel
theorem dL_told_236 : decode cL_told 236 = .ok (.aload 4, 2) := by decide +kernel
theorem dL_told_238 : decode cL_told 238 = .ok (.iconst 1, 1) := by decide +kernel
theorem dL_told_239 : decode cL_told 239 = .ok (.iaload, 1) := by decide +kernel
theorem dL_told_240 : decode cL_told 240 = .ok (.goto 4, 3) := by decide +kernel
theorem dL_told_243 : decode cL_told 243 = .ok (.iconst (-1), 1) := by decide +kernel
theorem dL_told_244 : decode cL_told 244 = .ok (.if_icmp .eq 5, 3) := by decide +kernel
theorem dL_told_247 : decode cL_told 247 = .ok (.iconst 0, 1) := by decide +kernel
theorem dL_told_248 : decode cL_told 248 = .ok (.ireturn, 1) := by decide +kernel
theorem dL_told_249 : decode cL_told 249 = .ok (.aload_n 0, 1) := by decide +kernel
theorem dL_told_250 : decode cL_told 250 = .ok (.bipush 7, 2) := by decide +kernel
theorem dL_told_252 : decode cL_told 252 = .ok (.invokevirtual 63, 3) := by decide +kernel
theorem dL_told_255 : decode cL_told 255 = .ok (.aload 8, 2) := by decide +kernel
theorem dL_told_257 : decode cL_told 257 = .ok (.iconst 0, 1) := by decide +kernel
theorem dL_told_258 : decode cL_told 258 = .ok (.iaload, 1) := by decide +kernel
theorem dL_told_259 : decode cL_told 259 = .ok (.if_icmp .ne 111, 3) := by decide +kernel
theorem dL_told_262 : decode cL_told 262 = .ok (.aload_n 0, 1) := by decide +kernel
theorem dL_told_263 : decode cL_told 263 = .ok (.bipush 8, 2) := by decide +kernel
theorem dL_told_265 : decode cL_told 265 = .ok (.invokevirtual 63, 3) := by decide +kernel
theorem dL_told_268 : decode cL_told 268 = .ok (.aload 8, 2) := by decide +kernel
theorem dL_told_270 : decode cL_told 270 = .ok (.iconst 2, 1) := by decide +kernel
theorem dL_told_271 : decode cL_told 271 = .ok (.iaload, 1) := by decide +kernel
theorem dL_told_272 : decode cL_told 272 = .ok (.if_icmp .ne 98, 3) := by decide +kernel
theorem dL_told_275 : decode cL_told 275 = .ok (.aload_n 0, 1) := by decide +kernel
theorem dL_told_276 : decode cL_told 276 = .ok (.bipush 9, 2) := by decide +kernel
theorem dL_told_278 : decode cL_told 278 = .ok (.invokevirtual 63, 3) := by decide +kernel
theorem dL_told_281 : decode cL_told 281 = .ok (.aload 8, 2) := by decide +kernel
theorem dL_told_283 : decode cL_told 283 = .ok (.iconst 1, 1) := by decide +kernel
theorem dL_told_284 : decode cL_told 284 = .ok (.iaload, 1) := by decide +kernel
theorem dL_told_285 : decode cL_told 285 = .ok (.if_icmp .ne 85, 3) := by decide +kernel
theorem dL_told_288 : decode cL_told 288 = .ok (.aload_n 0, 1) := by decide +kernel
theorem dL_told_289 : decode cL_told 289 = .ok (.bipush 10, 2) := by decide +kernel
theorem dL_told_291 : decode cL_told 291 = .ok (.invokevirtual 63, 3) := by decide +kernel
theorem dL_told_294 : decode cL_told 294 = .ok (.aload 4, 2) := by decide +kernel
theorem dL_told_296 : decode cL_told 296 = .ok (.iconst 0, 1) := by decide +kernel
theorem dL_told_297 : decode cL_told 297 = .ok (.iaload, 1) := by decide +kernel
theorem dL_told_298 : decode cL_told 298 = .ok (.ifCond .le 21, 3) := by decide +kernel
theorem dL_told_301 : decode cL_told 301 = .ok (.aload 4, 2) := by decide +kernel
theorem dL_told_303 : decode cL_told 303 = .ok (.iconst 1, 1) := by decide +kernel
theorem dL_told_304 : decode cL_told 304 = .ok (.iaload, 1) := by decide +kernel
theorem dL_told_305 : decode cL_told 305 = .ok (.aload 8, 2) := by decide +kernel
theorem dL_told_307 : decode cL_told 307 = .ok (.iconst 4, 1) := by decide +kernel
theorem dL_told_308 : decode cL_told 308 = .ok (.iaload, 1) := by decide +kernel
theorem dL_told_309 : decode cL_told 309 = .ok (.if_icmp .ne 10, 3) := by decide +kernel
theorem dL_told_312 : decode cL_told 312 = .ok (.aload 8, 2) := by decide +kernel
theorem dL_told_314 : decode cL_told 314 = .ok (.iconst 3, 1) := by decide +kernel
theorem dL_told_315 : decode cL_told 315 = .ok (.iaload, 1) := by decide +kernel
theorem dL_told_316 : decode cL_told 316 = .ok (.goto 4, 3) := by decide +kernel
theorem dL_told_319 : decode cL_told 319 = .ok (.iconst 0, 1) := by decide +kernel
theorem dL_told_320 : decode cL_told 320 = .ok (.if_icmp .ne 50, 3) := by decide +kernel
theorem dL_told_323 : decode cL_told 323 = .ok (.aload_n 0, 1) := by decide +kernel
theorem dL_told_324 : decode cL_told 324 = .ok (.bipush 11, 2) := by decide +kernel
theorem dL_told_326 : decode cL_told 326 = .ok (.invokevirtual 63, 3) := by decide +kernel
theorem dL_told_329 : decode cL_told 329 = .ok (.iconst 5, 1) := by decide +kernel
theorem dL_told_330 : decode cL_told 330 = .ok (.aload_n 2, 1) := by decide +kernel
theorem dL_told_331 : decode cL_told 331 = .ok (.aload 8, 2) := by decide +kernel
theorem dL_told_333 : decode cL_told 333 = .ok (.invokestatic 66, 3) := by decide +kernel
theorem dL_told_336 : decode cL_told 336 = .ok (.if_icmp .ne 34, 3) := by decide +kernel
theorem dL_told_339 : decode cL_told 339 = .ok (.aload_n 0, 1) := by decide +kernel
theorem dL_told_340 : decode cL_told 340 = .ok (.bipush 12, 2) := by decide +kernel
theorem dL_told_342 : decode cL_told 342 = .ok (.invokevirtual 63, 3) := by decide +kernel
theorem dL_told_345 : decode cL_told 345 = .ok (.bipush 6, 2) := by decide +kernel
theorem dL_told_347 : decode cL_told 347 = .ok (.aload_n 2, 1) := by decide +kernel
theorem dL_told_348 : decode cL_told 348 = .ok (.aload 8, 2) := by decide +kernel
theorem dL_told_350 : decode cL_told 350 = .ok (.invokestatic 66, 3) := by decide +kernel
theorem dL_told_353 : decode cL_told 353 = .ok (.if_icmp .ne 17, 3) := by decide +kernel
theorem dL_told_356 : decode cL_told 356 = .ok (.aload_n 0, 1) := by decide +kernel
theorem dL_told_357 : decode cL_told 357 = .ok (.bipush 13, 2) := by decide +kernel
theorem dL_told_359 : decode cL_told 359 = .ok (.invokevirtual 63, 3) := by decide +kernel
theorem dL_told_362 : decode cL_told 362 = .ok (.aload 8, 2) := by decide +kernel
theorem dL_told_364 : decode cL_told 364 = .ok (.bipush 7, 2) := by decide +kernel
theorem dL_told_366 : decode cL_told 366 = .ok (.iaload, 1) := by decide +kernel
theorem dL_told_367 : decode cL_told 367 = .ok (.if_icmp .eq 5, 3) := by decide +kernel
theorem dL_told_370 : decode cL_told 370 = .ok (.iconst 0, 1) := by decide +kernel
theorem dL_told_371 : decode cL_told 371 = .ok (.ireturn, 1) := by decide +kernel
theorem dL_told_372 : decode cL_told 372 = .ok (.iconst 0, 1) := by decide +kernel
theorem dL_told_373 : decode cL_told 373 = .ok (.istore 9, 2) := by decide +kernel
theorem dL_told_375 : decode cL_told 375 = .ok (.iconst 1, 1) := by decide +kernel
theorem dL_told_376 : decode cL_told 376 = .ok (.istore 10, 2) := by decide +kernel
theorem dL_told_378 : decode cL_told 378 = .ok (.iload 10, 2) := by decide +kernel
theorem dL_told_380 : decode cL_told 380 = .ok (.aload 5, 2) := by decide +kernel
theorem dL_told_382 : decode cL_told 382 = .ok (.iconst 0, 1) := by decide +kernel
theorem dL_told_383 : decode cL_told 383 = .ok (.iaload, 1) := by decide +kernel
theorem dL_told_384 : decode cL_told 384 = .ok (.if_icmp .gt 19, 3) := by decide +kernel
theorem dL_told_387 : decode cL_told 387 = .ok (.iload 9, 2) := by decide +kernel
theorem dL_told_389 : decode cL_told 389 = .ok (.aload 5, 2) := by decide +kernel
theorem dL_told_391 : decode cL_told 391 = .ok (.iload 10, 2) := by decide +kernel
theorem dL_told_393 : decode cL_told 393 = .ok (.iaload, 1) := by decide +kernel
theorem dL_told_394 : decode cL_told 394 = .ok (.iadd, 1) := by decide +kernel
theorem dL_told_395 : decode cL_told 395 = .ok (.istore 9, 2) := by decide +kernel
theorem dL_told_397 : decode cL_told 397 = .ok (.iinc 10 1, 3) := by decide +kernel
theorem dL_told_400 : decode cL_told 400 = .ok (.goto (-22), 3) := by decide +kernel
theorem dL_told_403 : decode cL_told 403 = .ok (.iconst 5, 1) := by decide +kernel
theorem dL_told_404 : decode cL_told 404 = .ok (.aload_n 2, 1) := by decide +kernel
theorem dL_told_405 : decode cL_told 405 = .ok (.aload 8, 2) := by decide +kernel
theorem dL_told_407 : decode cL_told 407 = .ok (.invokestatic 66, 3) := by decide +kernel
theorem dL_told_410 : decode cL_told 410 = .ok (.bipush 6, 2) := by decide +kernel
theorem dL_told_412 : decode cL_told 412 = .ok (.aload_n 2, 1) := by decide +kernel
theorem dL_told_413 : decode cL_told 413 = .ok (.aload 8, 2) := by decide +kernel
theorem dL_told_415 : decode cL_told 415 = .ok (.invokestatic 66, 3) := by decide +kernel
theorem dL_told_418 : decode cL_told 418 = .ok (.iadd, 1) := by decide +kernel
theorem dL_told_419 : decode cL_told 419 = .ok (.istore 10, 2) := by decide +kernel
theorem dL_told_421 : decode cL_told 421 = .ok (.iload_n 1, 1) := by decide +kernel
theorem dL_told_422 : decode cL_told 422 = .ok (.bipush 100, 2) := by decide +kernel
theorem dL_told_424 : decode cL_told 424 = .ok (.invokestatic 69, 3) := by decide +kernel
theorem dL_told_427 : decode cL_told 427 = .ok (.istore 11, 2) := by decide +kernel
theorem dL_told_429 : decode cL_told 429 = .ok (.iload_n 1, 1) := by decide +kernel
theorem dL_told_430 : decode cL_told 430 = .ok (.bipush 7, 2) := by decide +kernel
theorem dL_told_432 : decode cL_told 432 = .ok (.ishr, 1) := by decide +kernel
theorem dL_told_433 : decode cL_told 433 = .ok (.bipush 100, 2) := by decide +kernel
theorem dL_told_435 : decode cL_told 435 = .ok (.invokestatic 69, 3) := by decide +kernel
theorem dL_told_438 : decode cL_told 438 = .ok (.istore 12, 2) := by decide +kernel
theorem dL_told_440 : decode cL_told 440 = .ok (.aload_n 0, 1) := by decide +kernel
theorem dL_told_441 : decode cL_told 441 = .ok (.iload 11, 2) := by decide +kernel
theorem dL_told_443 : decode cL_told 443 = .ok (.iload 12, 2) := by decide +kernel
theorem dL_told_445 : decode cL_told 445 = .ok (.invokevirtual 72, 3) := by decide +kernel
theorem dL_told_448 : decode cL_told 448 = .ok (.iload 11, 2) := by decide +kernel
theorem dL_told_450 : decode cL_told 450 = .ok (.iload 12, 2) := by decide +kernel
theorem dL_told_452 : decode cL_told 452 = .ok (.aload 6, 2) := by decide +kernel
theorem dL_told_454 : decode cL_told 454 = .ok (.aload 7, 2) := by decide +kernel
theorem dL_told_456 : decode cL_told 456 = .ok (.aload 8, 2) := by decide +kernel
theorem dL_told_458 : decode cL_told 458 = .ok (.invokestatic 14, 3) := by decide +kernel
theorem dL_told_461 : decode cL_told 461 = .ok (.if_icmp .ne 69, 3) := by decide +kernel
theorem dL_told_464 : decode cL_told 464 = .ok (.aload_n 0, 1) := by decide +kernel
theorem dL_told_465 : decode cL_told 465 = .ok (.invokevirtual 74, 3) := by decide +kernel
theorem dL_told_468 : decode cL_told 468 = .ok (.aload 5, 2) := by decide +kernel
theorem dL_told_470 : decode cL_told 470 = .ok (.iconst 0, 1) := by decide +kernel
theorem dL_told_471 : decode cL_told 471 = .ok (.iaload, 1) := by decide +kernel
theorem dL_told_472 : decode cL_told 472 = .ok (.ifCond .ne 8, 3) := by decide +kernel
theorem dL_told_475 : decode cL_told 475 = .ok (.ldc 78, 2) := by decide +kernel
theorem dL_told_477 : decode cL_told 477 = .ok (.goto 14, 3) := by decide +kernel
theorem dL_told_480 : decode cL_told 480 = .ok (.fconst 1, 1) := by decide +kernel
theorem dL_told_481 : decode cL_told 481 = .ok (.iload 9, 2) := by decide +kernel
theorem dL_told_483 : decode cL_told 483 = .ok (.i2f, 1) := by decide +kernel
theorem dL_told_484 : decode cL_told 484 = .ok (.fmul, 1) := by decide +kernel
theorem dL_told_485 : decode cL_told 485 = .ok (.aload 5, 2) := by decide +kernel
theorem dL_told_487 : decode cL_told 487 = .ok (.iconst 0, 1) := by decide +kernel
theorem dL_told_488 : decode cL_told 488 = .ok (.iaload, 1) := by decide +kernel
theorem dL_told_489 : decode cL_told 489 = .ok (.i2f, 1) := by decide +kernel
theorem dL_told_490 : decode cL_told 490 = .ok (.fdiv, 1) := by decide +kernel
theorem dL_told_491 : decode cL_told 491 = .ok (.fcmp .l, 1) := by decide +kernel
theorem dL_told_492 : decode cL_told 492 = .ok (.ifCond .ne 38, 3) := by decide +kernel
theorem dL_told_495 : decode cL_told 495 = .ok (.aload_n 0, 1) := by decide +kernel
theorem dL_told_496 : decode cL_told 496 = .ok (.invokevirtual 79, 3) := by decide +kernel
theorem dL_told_499 : decode cL_told 499 = .ok (.iload 10, 2) := by decide +kernel
theorem dL_told_501 : decode cL_told 501 = .ok (.ifCond .ne 7, 3) := by decide +kernel
theorem dL_told_504 : decode cL_told 504 = .ok (.dconst 0, 1) := by decide +kernel
theorem dL_told_505 : decode cL_told 505 = .ok (.goto 17, 3) := by decide +kernel
theorem dL_told_508 : decode cL_told 508 = .ok (.dconst 1, 1) := by decide +kernel
theorem dL_told_509 : decode cL_told 509 = .ok (.iconst 5, 1) := by decide +kernel
theorem dL_told_510 : decode cL_told 510 = .ok (.aload_n 2, 1) := by decide +kernel
theorem dL_told_511 : decode cL_told 511 = .ok (.aload 8, 2) := by decide +kernel
theorem dL_told_513 : decode cL_told 513 = .ok (.invokestatic 66, 3) := by decide +kernel
theorem dL_told_516 : decode cL_told 516 = .ok (.i2d, 1) := by decide +kernel
theorem dL_told_517 : decode cL_told 517 = .ok (.dmul, 1) := by decide +kernel
theorem dL_told_518 : decode cL_told 518 = .ok (.iload 10, 2) := by decide +kernel
theorem dL_told_520 : decode cL_told 520 = .ok (.i2d, 1) := by decide +kernel
theorem dL_told_521 : decode cL_told 521 = .ok (.ddiv, 1) := by decide +kernel
theorem dL_told_522 : decode cL_told 522 = .ok (.dcmp .l, 1) := by decide +kernel
theorem dL_told_523 : decode cL_told 523 = .ok (.ifCond .ne 7, 3) := by decide +kernel
theorem dL_told_526 : decode cL_told 526 = .ok (.iconst 1, 1) := by decide +kernel
theorem dL_told_527 : decode cL_told 527 = .ok (.goto 4, 3) := by decide +kernel
theorem dL_told_530 : decode cL_told 530 = .ok (.iconst 0, 1) := by decide +kernel
theorem dL_told_531 : decode cL_told 531 = .ok (.ireturn, 1) := by decide +kernel
theorem dL_window_0 : decode cL_window 0 = .ok (.iconst 0, 1) := by decide +kernel
theorem dL_window_1 : decode cL_window 1 = .ok (.istore 6, 2) := by decide +kernel
theorem dL_window_3 : decode cL_window 3 = .ok (.iload 6, 2) := by decide +kernel
theorem dL_window_5 : decode cL_window 5 = .ok (.bipush 97, 2) := by decide +kernel
theorem dL_window_7 : decode cL_window 7 = .ok (.if_icmp .ge 66, 3) := by decide +kernel
theorem dL_window_10 : decode cL_window 10 = .ok (.iconst 0, 1) := by decide +kernel
theorem dL_window_11 : decode cL_window 11 = .ok (.istore 7, 2) := by decide +kernel
theorem dL_window_13 : decode cL_window 13 = .ok (.iload 7, 2) := by decide +kernel
theorem dL_window_15 : decode cL_window 15 = .ok (.iload_n 1, 1) := by decide +kernel
theorem dL_window_16 : decode cL_window 16 = .ok (.if_icmp .ge 42, 3) := by decide +kernel
theorem dL_window_19 : decode cL_window 19 = .ok (.aload 5, 2) := by decide +kernel
theorem dL_window_21 : decode cL_window 21 = .ok (.iconst 5, 1) := by decide +kernel
theorem dL_window_22 : decode cL_window 22 = .ok (.iaload, 1) := by decide +kernel
theorem dL_window_23 : decode cL_window 23 = .ok (.iload 6, 2) := by decide +kernel
theorem dL_window_25 : decode cL_window 25 = .ok (.iadd, 1) := by decide +kernel
theorem dL_window_26 : decode cL_window 26 = .ok (.iload 7, 2) := by decide +kernel
theorem dL_window_28 : decode cL_window 28 = .ok (.iadd, 1) := by decide +kernel
theorem dL_window_29 : decode cL_window 29 = .ok (.aload_n 3, 1) := by decide +kernel
theorem dL_window_30 : decode cL_window 30 = .ok (.invokestatic 26, 3) := by decide +kernel
theorem dL_window_33 : decode cL_window 33 = .ok (.aload 4, 2) := by decide +kernel
theorem dL_window_35 : decode cL_window 35 = .ok (.iconst 0, 1) := by decide +kernel
theorem dL_window_36 : decode cL_window 36 = .ok (.iaload, 1) := by decide +kernel
theorem dL_window_37 : decode cL_window 37 = .ok (.aload_n 2, 1) := by decide +kernel
theorem dL_window_38 : decode cL_window 38 = .ok (.bipush 7, 2) := by decide +kernel
theorem dL_window_40 : decode cL_window 40 = .ok (.iload_n 0, 1) := by decide +kernel
theorem dL_window_41 : decode cL_window 41 = .ok (.imul, 1) := by decide +kernel
theorem dL_window_42 : decode cL_window 42 = .ok (.iconst 1, 1) := by decide +kernel
theorem dL_window_43 : decode cL_window 43 = .ok (.iadd, 1) := by decide +kernel
theorem dL_window_44 : decode cL_window 44 = .ok (.iaload, 1) := by decide +kernel
theorem dL_window_45 : decode cL_window 45 = .ok (.bipush 25, 2) := by decide +kernel
theorem dL_window_47 : decode cL_window 47 = .ok (.idiv, 1) := by decide +kernel
theorem dL_window_48 : decode cL_window 48 = .ok (.isub, 1) := by decide +kernel
theorem dL_window_49 : decode cL_window 49 = .ok (.if_icmp .gt 9, 3) := by decide +kernel
theorem dL_window_52 : decode cL_window 52 = .ok (.iinc 7 1, 3) := by decide +kernel
theorem dL_window_55 : decode cL_window 55 = .ok (.goto (-42), 3) := by decide +kernel
theorem dL_window_58 : decode cL_window 58 = .ok (.iload 7, 2) := by decide +kernel
theorem dL_window_60 : decode cL_window 60 = .ok (.iload_n 1, 1) := by decide +kernel
theorem dL_window_61 : decode cL_window 61 = .ok (.if_icmp .ne 6, 3) := by decide +kernel
theorem dL_window_64 : decode cL_window 64 = .ok (.iload 6, 2) := by decide +kernel
theorem dL_window_66 : decode cL_window 66 = .ok (.ireturn, 1) := by decide +kernel
theorem dL_window_67 : decode cL_window 67 = .ok (.iinc 6 1, 3) := by decide +kernel
theorem dL_window_70 : decode cL_window 70 = .ok (.goto (-67), 3) := by decide +kernel
theorem dL_window_73 : decode cL_window 73 = .ok (.iconst (-1), 1) := by decide +kernel
theorem dL_window_74 : decode cL_window 74 = .ok (.ireturn, 1) := by decide +kernel
theorem dL_same_0 : decode cL_same 0 = .ok (.iconst 0, 1) := by decide +kernel
theorem dL_same_1 : decode cL_same 1 = .ok (.istore_n 2, 1) := by decide +kernel
theorem dL_same_2 : decode cL_same 2 = .ok (.iload_n 2, 1) := by decide +kernel
theorem dL_same_3 : decode cL_same 3 = .ok (.aload_n 1, 1) := by decide +kernel
theorem dL_same_4 : decode cL_same 4 = .ok (.arraylength, 1) := by decide +kernel
theorem dL_same_5 : decode cL_same 5 = .ok (.if_icmp .ge 15, 3) := by decide +kernel
theorem dL_same_8 : decode cL_same 8 = .ok (.aload_n 0, 1) := by decide +kernel
theorem dL_same_9 : decode cL_same 9 = .ok (.iload_n 2, 1) := by decide +kernel
theorem dL_same_10 : decode cL_same 10 = .ok (.aload_n 1, 1) := by decide +kernel
theorem dL_same_11 : decode cL_same 11 = .ok (.iload_n 2, 1) := by decide +kernel
theorem dL_same_12 : decode cL_same 12 = .ok (.iaload, 1) := by decide +kernel
theorem dL_same_13 : decode cL_same 13 = .ok (.iastore, 1) := by decide +kernel
theorem dL_same_14 : decode cL_same 14 = .ok (.iinc 2 1, 3) := by decide +kernel
theorem dL_same_17 : decode cL_same 17 = .ok (.goto (-15), 3) := by decide +kernel
theorem dL_same_20 : decode cL_same 20 = .ok (.return_, 1) := by decide +kernel
theorem dL_ahead_0 : decode cL_ahead 0 = .ok (.bipush 42, 2) := by decide +kernel
theorem dL_ahead_2 : decode cL_ahead 2 = .ok (.newarray .int, 2) := by decide +kernel
theorem dL_ahead_4 : decode cL_ahead 4 = .ok (.astore 9, 2) := by decide +kernel
theorem dL_ahead_6 : decode cL_ahead 6 = .ok (.bipush 22, 2) := by decide +kernel
theorem dL_ahead_8 : decode cL_ahead 8 = .ok (.newarray .int, 2) := by decide +kernel
theorem dL_ahead_10 : decode cL_ahead 10 = .ok (.astore 10, 2) := by decide +kernel
theorem dL_ahead_12 : decode cL_ahead 12 = .ok (.bipush 9, 2) := by decide +kernel
theorem dL_ahead_14 : decode cL_ahead 14 = .ok (.newarray .int, 2) := by decide +kernel
theorem dL_ahead_16 : decode cL_ahead 16 = .ok (.astore 11, 2) := by decide +kernel
theorem dL_ahead_18 : decode cL_ahead 18 = .ok (.bipush 14, 2) := by decide +kernel
theorem dL_ahead_20 : decode cL_ahead 20 = .ok (.newarray .int, 2) := by decide +kernel
theorem dL_ahead_22 : decode cL_ahead 22 = .ok (.astore 12, 2) := by decide +kernel
theorem dL_ahead_24 : decode cL_ahead 24 = .ok (.iconst (-1), 1) := by decide +kernel
theorem dL_ahead_25 : decode cL_ahead 25 = .ok (.istore 13, 2) := by decide +kernel
theorem dL_ahead_27 : decode cL_ahead 27 = .ok (.iconst 0, 1) := by decide +kernel
theorem dL_ahead_28 : decode cL_ahead 28 = .ok (.istore 14, 2) := by decide +kernel
theorem dL_ahead_30 : decode cL_ahead 30 = .ok (.iconst 0, 1) := by decide +kernel
theorem dL_ahead_31 : decode cL_ahead 31 = .ok (.istore 15, 2) := by decide +kernel
theorem dL_ahead_33 : decode cL_ahead 33 = .ok (.iload 15, 2) := by decide +kernel
theorem dL_ahead_35 : decode cL_ahead 35 = .ok (.aload 4, 2) := by decide +kernel
theorem dL_ahead_37 : decode cL_ahead 37 = .ok (.iconst 0, 1) := by decide +kernel
theorem dL_ahead_38 : decode cL_ahead 38 = .ok (.iaload, 1) := by decide +kernel
theorem dL_ahead_39 : decode cL_ahead 39 = .ok (.iconst 2, 1) := by decide +kernel
theorem dL_ahead_40 : decode cL_ahead 40 = .ok (.iadd, 1) := by decide +kernel
theorem dL_ahead_41 : decode cL_ahead 41 = .ok (.if_icmp .ge 318, 3) := by decide +kernel
theorem dL_ahead_44 : decode cL_ahead 44 = .ok (.aload 9, 2) := by decide +kernel
theorem dL_ahead_46 : decode cL_ahead 46 = .ok (.aload_n 2, 1) := by decide +kernel
theorem dL_ahead_47 : decode cL_ahead 47 = .ok (.invokestatic 83, 3) := by decide +kernel
theorem dL_ahead_50 : decode cL_ahead 50 = .ok (.aload 10, 2) := by decide +kernel
theorem dL_ahead_52 : decode cL_ahead 52 = .ok (.aload_n 3, 1) := by decide +kernel
theorem dL_ahead_53 : decode cL_ahead 53 = .ok (.invokestatic 83, 3) := by decide +kernel
theorem dL_ahead_56 : decode cL_ahead 56 = .ok (.aload 11, 2) := by decide +kernel
theorem dL_ahead_58 : decode cL_ahead 58 = .ok (.aload 4, 2) := by decide +kernel
theorem dL_ahead_60 : decode cL_ahead 60 = .ok (.invokestatic 83, 3) := by decide +kernel
theorem dL_ahead_63 : decode cL_ahead 63 = .ok (.aload 12, 2) := by decide +kernel
theorem dL_ahead_65 : decode cL_ahead 65 = .ok (.aload 8, 2) := by decide +kernel
theorem dL_ahead_67 : decode cL_ahead 67 = .ok (.invokestatic 83, 3) := by decide +kernel
theorem dL_ahead_70 : decode cL_ahead 70 = .ok (.iload 15, 2) := by decide +kernel
theorem dL_ahead_72 : decode cL_ahead 72 = .ok (.ifCond .ne 14, 3) := by decide +kernel
theorem dL_ahead_75 : decode cL_ahead 75 = .ok (.iconst 1, 1) := by decide +kernel
theorem dL_ahead_76 : decode cL_ahead 76 = .ok (.iload_n 1, 1) := by decide +kernel
theorem dL_ahead_77 : decode cL_ahead 77 = .ok (.bipush 60, 2) := by decide +kernel
theorem dL_ahead_79 : decode cL_ahead 79 = .ok (.invokestatic 69, 3) := by decide +kernel
theorem dL_ahead_82 : decode cL_ahead 82 = .ok (.iadd, 1) := by decide +kernel
theorem dL_ahead_83 : decode cL_ahead 83 = .ok (.goto 17, 3) := by decide +kernel
theorem dL_ahead_86 : decode cL_ahead 86 = .ok (.iload 15, 2) := by decide +kernel
theorem dL_ahead_88 : decode cL_ahead 88 = .ok (.iconst 1, 1) := by decide +kernel
theorem dL_ahead_89 : decode cL_ahead 89 = .ok (.if_icmp .ne 9, 3) := by decide +kernel
theorem dL_ahead_92 : decode cL_ahead 92 = .ok (.sipush 500, 3) := by decide +kernel
theorem dL_ahead_95 : decode cL_ahead 95 = .ok (.goto 5, 3) := by decide +kernel
theorem dL_ahead_98 : decode cL_ahead 98 = .ok (.bipush 48, 2) := by decide +kernel
theorem dL_ahead_100 : decode cL_ahead 100 = .ok (.istore 16, 2) := by decide +kernel
theorem dL_ahead_102 : decode cL_ahead 102 = .ok (.iload 15, 2) := by decide +kernel
theorem dL_ahead_104 : decode cL_ahead 104 = .ok (.iconst 1, 1) := by decide +kernel
theorem dL_ahead_105 : decode cL_ahead 105 = .ok (.if_icmp .le 44, 3) := by decide +kernel
theorem dL_ahead_108 : decode cL_ahead 108 = .ok (.iload 15, 2) := by decide +kernel
theorem dL_ahead_110 : decode cL_ahead 110 = .ok (.iconst 1, 1) := by decide +kernel
theorem dL_ahead_111 : decode cL_ahead 111 = .ok (.isub, 1) := by decide +kernel
theorem dL_ahead_112 : decode cL_ahead 112 = .ok (.istore 17, 2) := by decide +kernel
theorem dL_ahead_114 : decode cL_ahead 114 = .ok (.iload 17, 2) := by decide +kernel
theorem dL_ahead_116 : decode cL_ahead 116 = .ok (.iconst 1, 1) := by decide +kernel
theorem dL_ahead_117 : decode cL_ahead 117 = .ok (.if_icmp .le 21, 3) := by decide +kernel
theorem dL_ahead_120 : decode cL_ahead 120 = .ok (.aload 11, 2) := by decide +kernel
theorem dL_ahead_122 : decode cL_ahead 122 = .ok (.iload 17, 2) := by decide +kernel
theorem dL_ahead_124 : decode cL_ahead 124 = .ok (.aload 11, 2) := by decide +kernel
theorem dL_ahead_126 : decode cL_ahead 126 = .ok (.iload 17, 2) := by decide +kernel
theorem dL_ahead_128 : decode cL_ahead 128 = .ok (.iconst 1, 1) := by decide +kernel
theorem dL_ahead_129 : decode cL_ahead 129 = .ok (.isub, 1) := by decide +kernel
theorem dL_ahead_130 : decode cL_ahead 130 = .ok (.iaload, 1) := by decide +kernel
theorem dL_ahead_131 : decode cL_ahead 131 = .ok (.iastore, 1) := by decide +kernel
theorem dL_ahead_132 : decode cL_ahead 132 = .ok (.iinc 17 (-1), 3) := by decide +kernel
theorem dL_ahead_135 : decode cL_ahead 135 = .ok (.goto (-21), 3) := by decide +kernel
theorem dL_ahead_138 : decode cL_ahead 138 = .ok (.aload 11, 2) := by decide +kernel
theorem dL_ahead_140 : decode cL_ahead 140 = .ok (.iconst 1, 1) := by decide +kernel
theorem dL_ahead_141 : decode cL_ahead 141 = .ok (.aload 4, 2) := by decide +kernel
theorem dL_ahead_143 : decode cL_ahead 143 = .ok (.iload 15, 2) := by decide +kernel
theorem dL_ahead_145 : decode cL_ahead 145 = .ok (.iconst 1, 1) := by decide +kernel
theorem dL_ahead_146 : decode cL_ahead 146 = .ok (.isub, 1) := by decide +kernel
theorem dL_ahead_147 : decode cL_ahead 147 = .ok (.iaload, 1) := by decide +kernel
theorem dL_ahead_148 : decode cL_ahead 148 = .ok (.iastore, 1) := by decide +kernel
theorem dL_ahead_149 : decode cL_ahead 149 = .ok (.iconst 0, 1) := by decide +kernel
theorem dL_ahead_150 : decode cL_ahead 150 = .ok (.istore 17, 2) := by decide +kernel
theorem dL_ahead_152 : decode cL_ahead 152 = .ok (.iconst 0, 1) := by decide +kernel
theorem dL_ahead_153 : decode cL_ahead 153 = .ok (.istore 18, 2) := by decide +kernel
theorem dL_ahead_155 : decode cL_ahead 155 = .ok (.iload 18, 2) := by decide +kernel
theorem dL_ahead_157 : decode cL_ahead 157 = .ok (.iload 16, 2) := by decide +kernel
theorem dL_ahead_159 : decode cL_ahead 159 = .ok (.if_icmp .ge 44, 3) := by decide +kernel
theorem dL_ahead_162 : decode cL_ahead 162 = .ok (.iload 15, 2) := by decide +kernel
theorem dL_ahead_164 : decode cL_ahead 164 = .ok (.iconst 1, 1) := by decide +kernel
theorem dL_ahead_165 : decode cL_ahead 165 = .ok (.if_icmp .ne 10, 3) := by decide +kernel
theorem dL_ahead_168 : decode cL_ahead 168 = .ok (.aload 11, 2) := by decide +kernel
theorem dL_ahead_170 : decode cL_ahead 170 = .ok (.iconst 0, 1) := by decide +kernel
theorem dL_ahead_171 : decode cL_ahead 171 = .ok (.iaload, 1) := by decide +kernel
theorem dL_ahead_172 : decode cL_ahead 172 = .ok (.ifCond .le 31, 3) := by decide +kernel
theorem dL_ahead_175 : decode cL_ahead 175 = .ok (.iload 17, 2) := by decide +kernel
theorem dL_ahead_177 : decode cL_ahead 177 = .ok (.aload 9, 2) := by decide +kernel
theorem dL_ahead_179 : decode cL_ahead 179 = .ok (.aload 10, 2) := by decide +kernel
theorem dL_ahead_181 : decode cL_ahead 181 = .ok (.aload 11, 2) := by decide +kernel
theorem dL_ahead_183 : decode cL_ahead 183 = .ok (.aload 5, 2) := by decide +kernel
theorem dL_ahead_185 : decode cL_ahead 185 = .ok (.aload 6, 2) := by decide +kernel
theorem dL_ahead_187 : decode cL_ahead 187 = .ok (.aload 7, 2) := by decide +kernel
theorem dL_ahead_189 : decode cL_ahead 189 = .ok (.aload 12, 2) := by decide +kernel
theorem dL_ahead_191 : decode cL_ahead 191 = .ok (.invokestatic 87, 3) := by decide +kernel
theorem dL_ahead_194 : decode cL_ahead 194 = .ok (.iadd, 1) := by decide +kernel
theorem dL_ahead_195 : decode cL_ahead 195 = .ok (.istore 17, 2) := by decide +kernel
theorem dL_ahead_197 : decode cL_ahead 197 = .ok (.iinc 18 1, 3) := by decide +kernel
theorem dL_ahead_200 : decode cL_ahead 200 = .ok (.goto (-45), 3) := by decide +kernel
theorem dL_ahead_203 : decode cL_ahead 203 = .ok (.iload 15, 2) := by decide +kernel
theorem dL_ahead_205 : decode cL_ahead 205 = .ok (.iconst 1, 1) := by decide +kernel
theorem dL_ahead_206 : decode cL_ahead 206 = .ok (.if_icmp .ne 25, 3) := by decide +kernel
theorem dL_ahead_209 : decode cL_ahead 209 = .ok (.aload_n 0, 1) := by decide +kernel
theorem dL_ahead_210 : decode cL_ahead 210 = .ok (.invokevirtual 91, 3) := by decide +kernel
theorem dL_ahead_213 : decode cL_ahead 213 = .ok (.aload 11, 2) := by decide +kernel
theorem dL_ahead_215 : decode cL_ahead 215 = .ok (.iconst 0, 1) := by decide +kernel
theorem dL_ahead_216 : decode cL_ahead 216 = .ok (.iaload, 1) := by decide +kernel
theorem dL_ahead_217 : decode cL_ahead 217 = .ok (.ifCond .le 7, 3) := by decide +kernel
theorem dL_ahead_220 : decode cL_ahead 220 = .ok (.iconst (-1), 1) := by decide +kernel
theorem dL_ahead_221 : decode cL_ahead 221 = .ok (.goto 5, 3) := by decide +kernel
theorem dL_ahead_224 : decode cL_ahead 224 = .ok (.iload 18, 2) := by decide +kernel
theorem dL_ahead_226 : decode cL_ahead 226 = .ok (.if_icmp .eq 5, 3) := by decide +kernel
theorem dL_ahead_229 : decode cL_ahead 229 = .ok (.iconst 0, 1) := by decide +kernel
theorem dL_ahead_230 : decode cL_ahead 230 = .ok (.ireturn, 1) := by decide +kernel
theorem dL_ahead_231 : decode cL_ahead 231 = .ok (.iload 15, 2) := by decide +kernel
theorem dL_ahead_233 : decode cL_ahead 233 = .ok (.iconst 1, 1) := by decide +kernel
theorem dL_ahead_234 : decode cL_ahead 234 = .ok (.if_icmp .le 28, 3) := by decide +kernel
theorem dL_ahead_237 : decode cL_ahead 237 = .ok (.iload 13, 2) := by decide +kernel
theorem dL_ahead_239 : decode cL_ahead 239 = .ok (.ifCond .lt 10, 3) := by decide +kernel
theorem dL_ahead_242 : decode cL_ahead 242 = .ok (.iload 17, 2) := by decide +kernel
theorem dL_ahead_244 : decode cL_ahead 244 = .ok (.iload 14, 2) := by decide +kernel
theorem dL_ahead_246 : decode cL_ahead 246 = .ok (.if_icmp .ge 16, 3) := by decide +kernel
theorem dL_ahead_249 : decode cL_ahead 249 = .ok (.aload 4, 2) := by decide +kernel
theorem dL_ahead_251 : decode cL_ahead 251 = .ok (.iload 15, 2) := by decide +kernel
theorem dL_ahead_253 : decode cL_ahead 253 = .ok (.iconst 1, 1) := by decide +kernel
theorem dL_ahead_254 : decode cL_ahead 254 = .ok (.isub, 1) := by decide +kernel
theorem dL_ahead_255 : decode cL_ahead 255 = .ok (.iaload, 1) := by decide +kernel
theorem dL_ahead_256 : decode cL_ahead 256 = .ok (.istore 13, 2) := by decide +kernel
theorem dL_ahead_258 : decode cL_ahead 258 = .ok (.iload 17, 2) := by decide +kernel
theorem dL_ahead_260 : decode cL_ahead 260 = .ok (.istore 14, 2) := by decide +kernel
theorem dL_ahead_262 : decode cL_ahead 262 = .ok (.iload_n 1, 1) := by decide +kernel
theorem dL_ahead_263 : decode cL_ahead 263 = .ok (.bipush 6, 2) := by decide +kernel
theorem dL_ahead_265 : decode cL_ahead 265 = .ok (.ishr, 1) := by decide +kernel
theorem dL_ahead_266 : decode cL_ahead 266 = .ok (.bipush 9, 2) := by decide +kernel
theorem dL_ahead_268 : decode cL_ahead 268 = .ok (.invokestatic 69, 3) := by decide +kernel
theorem dL_ahead_271 : decode cL_ahead 271 = .ok (.istore 19, 2) := by decide +kernel
theorem dL_ahead_273 : decode cL_ahead 273 = .ok (.iload 19, 2) := by decide +kernel
theorem dL_ahead_275 : decode cL_ahead 275 = .ok (.iconst 5, 1) := by decide +kernel
theorem dL_ahead_276 : decode cL_ahead 276 = .ok (.if_icmp .ge 14, 3) := by decide +kernel
theorem dL_ahead_279 : decode cL_ahead 279 = .ok (.aload 12, 2) := by decide +kernel
theorem dL_ahead_281 : decode cL_ahead 281 = .ok (.bipush 9, 2) := by decide +kernel
theorem dL_ahead_283 : decode cL_ahead 283 = .ok (.iload 19, 2) := by decide +kernel
theorem dL_ahead_285 : decode cL_ahead 285 = .ok (.iadd, 1) := by decide +kernel
theorem dL_ahead_286 : decode cL_ahead 286 = .ok (.iaload, 1) := by decide +kernel
theorem dL_ahead_287 : decode cL_ahead 287 = .ok (.goto 44, 3) := by decide +kernel
theorem dL_ahead_290 : decode cL_ahead 290 = .ok (.iload 19, 2) := by decide +kernel
theorem dL_ahead_292 : decode cL_ahead 292 = .ok (.bipush 7, 2) := by decide +kernel
theorem dL_ahead_294 : decode cL_ahead 294 = .ok (.if_icmp .ge 15, 3) := by decide +kernel
theorem dL_ahead_297 : decode cL_ahead 297 = .ok (.iload 19, 2) := by decide +kernel
theorem dL_ahead_299 : decode cL_ahead 299 = .ok (.aload 9, 2) := by decide +kernel
theorem dL_ahead_301 : decode cL_ahead 301 = .ok (.aload 12, 2) := by decide +kernel
theorem dL_ahead_303 : decode cL_ahead 303 = .ok (.invokestatic 66, 3) := by decide +kernel
theorem dL_ahead_306 : decode cL_ahead 306 = .ok (.goto 25, 3) := by decide +kernel
theorem dL_ahead_309 : decode cL_ahead 309 = .ok (.iload 19, 2) := by decide +kernel
theorem dL_ahead_311 : decode cL_ahead 311 = .ok (.bipush 7, 2) := by decide +kernel
theorem dL_ahead_313 : decode cL_ahead 313 = .ok (.if_icmp .ne 14, 3) := by decide +kernel
theorem dL_ahead_316 : decode cL_ahead 316 = .ok (.iconst 3, 1) := by decide +kernel
theorem dL_ahead_317 : decode cL_ahead 317 = .ok (.aload 9, 2) := by decide +kernel
theorem dL_ahead_319 : decode cL_ahead 319 = .ok (.aload 12, 2) := by decide +kernel
theorem dL_ahead_321 : decode cL_ahead 321 = .ok (.invokestatic 66, 3) := by decide +kernel
theorem dL_ahead_324 : decode cL_ahead 324 = .ok (.goto 7, 3) := by decide +kernel
theorem dL_ahead_327 : decode cL_ahead 327 = .ok (.aload 11, 2) := by decide +kernel
theorem dL_ahead_329 : decode cL_ahead 329 = .ok (.iconst 0, 1) := by decide +kernel
theorem dL_ahead_330 : decode cL_ahead 330 = .ok (.iaload, 1) := by decide +kernel
theorem dL_ahead_331 : decode cL_ahead 331 = .ok (.istore 20, 2) := by decide +kernel
theorem dL_ahead_333 : decode cL_ahead 333 = .ok (.iload 15, 2) := by decide +kernel
theorem dL_ahead_335 : decode cL_ahead 335 = .ok (.ifCond .ne 18, 3) := by decide +kernel
theorem dL_ahead_338 : decode cL_ahead 338 = .ok (.aload_n 0, 1) := by decide +kernel
theorem dL_ahead_339 : decode cL_ahead 339 = .ok (.iload 16, 2) := by decide +kernel
theorem dL_ahead_341 : decode cL_ahead 341 = .ok (.iload 19, 2) := by decide +kernel
theorem dL_ahead_343 : decode cL_ahead 343 = .ok (.invokevirtual 95, 3) := by decide +kernel
theorem dL_ahead_346 : decode cL_ahead 346 = .ok (.iload 20, 2) := by decide +kernel
theorem dL_ahead_348 : decode cL_ahead 348 = .ok (.if_icmp .eq 5, 3) := by decide +kernel
theorem dL_ahead_351 : decode cL_ahead 351 = .ok (.iconst 0, 1) := by decide +kernel
theorem dL_ahead_352 : decode cL_ahead 352 = .ok (.ireturn, 1) := by decide +kernel
theorem dL_ahead_353 : decode cL_ahead 353 = .ok (.iinc 15 1, 3) := by decide +kernel
theorem dL_ahead_356 : decode cL_ahead 356 = .ok (.goto (-323), 3) := by decide +kernel
theorem dL_ahead_359 : decode cL_ahead 359 = .ok (.aload 8, 2) := by decide +kernel
theorem dL_ahead_361 : decode cL_ahead 361 = .ok (.bipush 6, 2) := by decide +kernel
theorem dL_ahead_363 : decode cL_ahead 363 = .ok (.iaload, 1) := by decide +kernel
theorem dL_ahead_364 : decode cL_ahead 364 = .ok (.ifCond .ne 7, 3) := by decide +kernel
theorem dL_ahead_367 : decode cL_ahead 367 = .ok (.iconst 0, 1) := by decide +kernel
theorem dL_ahead_368 : decode cL_ahead 368 = .ok (.goto 15, 3) := by decide +kernel
theorem dL_ahead_371 : decode cL_ahead 371 = .ok (.iload_n 1, 1) := by decide +kernel
theorem dL_ahead_372 : decode cL_ahead 372 = .ok (.bipush 9, 2) := by decide +kernel
theorem dL_ahead_374 : decode cL_ahead 374 = .ok (.ishr, 1) := by decide +kernel
theorem dL_ahead_375 : decode cL_ahead 375 = .ok (.aload 8, 2) := by decide +kernel
theorem dL_ahead_377 : decode cL_ahead 377 = .ok (.bipush 6, 2) := by decide +kernel
theorem dL_ahead_379 : decode cL_ahead 379 = .ok (.iaload, 1) := by decide +kernel
theorem dL_ahead_380 : decode cL_ahead 380 = .ok (.invokestatic 69, 3) := by decide +kernel
theorem dL_ahead_383 : decode cL_ahead 383 = .ok (.istore 15, 2) := by decide +kernel
theorem dL_ahead_385 : decode cL_ahead 385 = .ok (.iconst 1, 1) := by decide +kernel
theorem dL_ahead_386 : decode cL_ahead 386 = .ok (.iload_n 1, 1) := by decide +kernel
theorem dL_ahead_387 : decode cL_ahead 387 = .ok (.iconst 4, 1) := by decide +kernel
theorem dL_ahead_388 : decode cL_ahead 388 = .ok (.ishr, 1) := by decide +kernel
theorem dL_ahead_389 : decode cL_ahead 389 = .ok (.bipush 8, 2) := by decide +kernel
theorem dL_ahead_391 : decode cL_ahead 391 = .ok (.invokestatic 69, 3) := by decide +kernel
theorem dL_ahead_394 : decode cL_ahead 394 = .ok (.iadd, 1) := by decide +kernel
theorem dL_ahead_395 : decode cL_ahead 395 = .ok (.istore 16, 2) := by decide +kernel
theorem dL_ahead_397 : decode cL_ahead 397 = .ok (.aload_n 0, 1) := by decide +kernel
theorem dL_ahead_398 : decode cL_ahead 398 = .ok (.invokevirtual 98, 3) := by decide +kernel
theorem dL_ahead_401 : decode cL_ahead 401 = .ok (.iload 13, 2) := by decide +kernel
theorem dL_ahead_403 : decode cL_ahead 403 = .ok (.if_icmp .ne 40, 3) := by decide +kernel
theorem dL_ahead_406 : decode cL_ahead 406 = .ok (.aload 8, 2) := by decide +kernel
theorem dL_ahead_408 : decode cL_ahead 408 = .ok (.bipush 6, 2) := by decide +kernel
theorem dL_ahead_410 : decode cL_ahead 410 = .ok (.iaload, 1) := by decide +kernel
theorem dL_ahead_411 : decode cL_ahead 411 = .ok (.ifCond .eq 28, 3) := by decide +kernel
theorem dL_ahead_414 : decode cL_ahead 414 = .ok (.aload_n 0, 1) := by decide +kernel
theorem dL_ahead_415 : decode cL_ahead 415 = .ok (.iload 15, 2) := by decide +kernel
theorem dL_ahead_417 : decode cL_ahead 417 = .ok (.iload 16, 2) := by decide +kernel
theorem dL_ahead_419 : decode cL_ahead 419 = .ok (.invokevirtual 101, 3) := by decide +kernel
theorem dL_ahead_422 : decode cL_ahead 422 = .ok (.iload 15, 2) := by decide +kernel
theorem dL_ahead_424 : decode cL_ahead 424 = .ok (.iload 16, 2) := by decide +kernel
theorem dL_ahead_426 : decode cL_ahead 426 = .ok (.aload_n 2, 1) := by decide +kernel
theorem dL_ahead_427 : decode cL_ahead 427 = .ok (.aload 5, 2) := by decide +kernel
theorem dL_ahead_429 : decode cL_ahead 429 = .ok (.aload 6, 2) := by decide +kernel
theorem dL_ahead_431 : decode cL_ahead 431 = .ok (.aload 8, 2) := by decide +kernel
theorem dL_ahead_433 : decode cL_ahead 433 = .ok (.invokestatic 104, 3) := by decide +kernel
theorem dL_ahead_436 : decode cL_ahead 436 = .ok (.if_icmp .ne 7, 3) := by decide +kernel
theorem dL_ahead_439 : decode cL_ahead 439 = .ok (.iconst 1, 1) := by decide +kernel
theorem dL_ahead_440 : decode cL_ahead 440 = .ok (.goto 4, 3) := by decide +kernel
theorem dL_ahead_443 : decode cL_ahead 443 = .ok (.iconst 0, 1) := by decide +kernel
theorem dL_ahead_444 : decode cL_ahead 444 = .ok (.ireturn, 1) := by decide +kernel
theorem dL_number_0 : decode cL_number 0 = .ok (.iload_n 1, 1) := by decide +kernel
theorem dL_number_1 : decode cL_number 1 = .ok (.bipush 10, 2) := by decide +kernel
theorem dL_number_3 : decode cL_number 3 = .ok (.if_icmp .lt 17, 3) := by decide +kernel
theorem dL_number_6 : decode cL_number 6 = .ok (.aload_n 0, 1) := by decide +kernel
theorem dL_number_7 : decode cL_number 7 = .ok (.bipush 48, 2) := by decide +kernel
theorem dL_number_9 : decode cL_number 9 = .ok (.iload_n 1, 1) := by decide +kernel
theorem dL_number_10 : decode cL_number 10 = .ok (.bipush 10, 2) := by decide +kernel
theorem dL_number_12 : decode cL_number 12 = .ok (.idiv, 1) := by decide +kernel
theorem dL_number_13 : decode cL_number 13 = .ok (.iadd, 1) := by decide +kernel
theorem dL_number_14 : decode cL_number 14 = .ok (.invokevirtual 107, 3) := by decide +kernel
theorem dL_number_17 : decode cL_number 17 = .ok (.ifCond .le 21, 3) := by decide +kernel
theorem dL_number_20 : decode cL_number 20 = .ok (.aload_n 0, 1) := by decide +kernel
theorem dL_number_21 : decode cL_number 21 = .ok (.bipush 48, 2) := by decide +kernel
theorem dL_number_23 : decode cL_number 23 = .ok (.iload_n 1, 1) := by decide +kernel
theorem dL_number_24 : decode cL_number 24 = .ok (.bipush 10, 2) := by decide +kernel
theorem dL_number_26 : decode cL_number 26 = .ok (.irem, 1) := by decide +kernel
theorem dL_number_27 : decode cL_number 27 = .ok (.iadd, 1) := by decide +kernel
theorem dL_number_28 : decode cL_number 28 = .ok (.invokevirtual 107, 3) := by decide +kernel
theorem dL_number_31 : decode cL_number 31 = .ok (.ifCond .le 7, 3) := by decide +kernel
theorem dL_number_34 : decode cL_number 34 = .ok (.iconst 1, 1) := by decide +kernel
theorem dL_number_35 : decode cL_number 35 = .ok (.goto 4, 3) := by decide +kernel
theorem dL_number_38 : decode cL_number 38 = .ok (.iconst 0, 1) := by decide +kernel
theorem dL_number_39 : decode cL_number 39 = .ok (.ireturn, 1) := by decide +kernel
theorem dL_winds_0 : decode cL_winds 0 = .ok (.aload_n 3, 1) := by decide +kernel
theorem dL_winds_1 : decode cL_winds 1 = .ok (.iconst 0, 1) := by decide +kernel
theorem dL_winds_2 : decode cL_winds 2 = .ok (.iconst 0, 1) := by decide +kernel
theorem dL_winds_3 : decode cL_winds 3 = .ok (.iastore, 1) := by decide +kernel
theorem dL_winds_4 : decode cL_winds 4 = .ok (.iconst 1, 1) := by decide +kernel
theorem dL_winds_5 : decode cL_winds 5 = .ok (.iload_n 1, 1) := by decide +kernel
theorem dL_winds_6 : decode cL_winds 6 = .ok (.iconst 4, 1) := by decide +kernel
theorem dL_winds_7 : decode cL_winds 7 = .ok (.invokestatic 69, 3) := by decide +kernel
theorem dL_winds_10 : decode cL_winds 10 = .ok (.iadd, 1) := by decide +kernel
theorem dL_winds_11 : decode cL_winds 11 = .ok (.istore 4, 2) := by decide +kernel
theorem dL_winds_13 : decode cL_winds 13 = .ok (.iconst 0, 1) := by decide +kernel
theorem dL_winds_14 : decode cL_winds 14 = .ok (.istore 5, 2) := by decide +kernel
theorem dL_winds_16 : decode cL_winds 16 = .ok (.iload 5, 2) := by decide +kernel
theorem dL_winds_18 : decode cL_winds 18 = .ok (.iload 4, 2) := by decide +kernel
theorem dL_winds_20 : decode cL_winds 20 = .ok (.if_icmp .ge 140, 3) := by decide +kernel
theorem dL_winds_23 : decode cL_winds 23 = .ok (.iload_n 2, 1) := by decide +kernel
theorem dL_winds_24 : decode cL_winds 24 = .ok (.iconst 3, 1) := by decide +kernel
theorem dL_winds_25 : decode cL_winds 25 = .ok (.iload 5, 2) := by decide +kernel
theorem dL_winds_27 : decode cL_winds 27 = .ok (.imul, 1) := by decide +kernel
theorem dL_winds_28 : decode cL_winds 28 = .ok (.ishr, 1) := by decide +kernel
theorem dL_winds_29 : decode cL_winds 29 = .ok (.bipush 7, 2) := by decide +kernel
theorem dL_winds_31 : decode cL_winds 31 = .ok (.iload 5, 2) := by decide +kernel
theorem dL_winds_33 : decode cL_winds 33 = .ok (.imul, 1) := by decide +kernel
theorem dL_winds_34 : decode cL_winds 34 = .ok (.iadd, 1) := by decide +kernel
theorem dL_winds_35 : decode cL_winds 35 = .ok (.iload_n 1, 1) := by decide +kernel
theorem dL_winds_36 : decode cL_winds 36 = .ok (.iconst 2, 1) := by decide +kernel
theorem dL_winds_37 : decode cL_winds 37 = .ok (.ishr, 1) := by decide +kernel
theorem dL_winds_38 : decode cL_winds 38 = .ok (.iconst 2, 1) := by decide +kernel
theorem dL_winds_39 : decode cL_winds 39 = .ok (.invokestatic 69, 3) := by decide +kernel
theorem dL_winds_42 : decode cL_winds 42 = .ok (.ifCond .ne 8, 3) := by decide +kernel
theorem dL_winds_45 : decode cL_winds 45 = .ok (.bipush 31, 2) := by decide +kernel
theorem dL_winds_47 : decode cL_winds 47 = .ok (.goto 5, 3) := by decide +kernel
theorem dL_winds_50 : decode cL_winds 50 = .ok (.bipush 18, 2) := by decide +kernel
theorem dL_winds_52 : decode cL_winds 52 = .ok (.invokestatic 69, 3) := by decide +kernel
theorem dL_winds_55 : decode cL_winds 55 = .ok (.istore 6, 2) := by decide +kernel
theorem dL_winds_57 : decode cL_winds 57 = .ok (.iconst 1, 1) := by decide +kernel
theorem dL_winds_58 : decode cL_winds 58 = .ok (.iload_n 1, 1) := by decide +kernel
theorem dL_winds_59 : decode cL_winds 59 = .ok (.iload 5, 2) := by decide +kernel
theorem dL_winds_61 : decode cL_winds 61 = .ok (.ishr, 1) := by decide +kernel
theorem dL_winds_62 : decode cL_winds 62 = .ok (.iload 5, 2) := by decide +kernel
theorem dL_winds_64 : decode cL_winds 64 = .ok (.iadd, 1) := by decide +kernel
theorem dL_winds_65 : decode cL_winds 65 = .ok (.bipush 10, 2) := by decide +kernel
theorem dL_winds_67 : decode cL_winds 67 = .ok (.invokestatic 69, 3) := by decide +kernel
theorem dL_winds_70 : decode cL_winds 70 = .ok (.iadd, 1) := by decide +kernel
theorem dL_winds_71 : decode cL_winds 71 = .ok (.istore 7, 2) := by decide +kernel
theorem dL_winds_73 : decode cL_winds 73 = .ok (.iload 5, 2) := by decide +kernel
theorem dL_winds_75 : decode cL_winds 75 = .ok (.ifCond .le 13, 3) := by decide +kernel
theorem dL_winds_78 : decode cL_winds 78 = .ok (.aload_n 0, 1) := by decide +kernel
theorem dL_winds_79 : decode cL_winds 79 = .ok (.bipush 44, 2) := by decide +kernel
theorem dL_winds_81 : decode cL_winds 81 = .ok (.invokevirtual 107, 3) := by decide +kernel
theorem dL_winds_84 : decode cL_winds 84 = .ok (.iconst 1, 1) := by decide +kernel
theorem dL_winds_85 : decode cL_winds 85 = .ok (.if_icmp .lt 37, 3) := by decide +kernel
theorem dL_winds_88 : decode cL_winds 88 = .ok (.aload_n 0, 1) := by decide +kernel
theorem dL_winds_89 : decode cL_winds 89 = .ok (.iload 6, 2) := by decide +kernel
theorem dL_winds_91 : decode cL_winds 91 = .ok (.invokestatic 110, 3) := by decide +kernel
theorem dL_winds_94 : decode cL_winds 94 = .ok (.ifCond .eq 28, 3) := by decide +kernel
theorem dL_winds_97 : decode cL_winds 97 = .ok (.iload 7, 2) := by decide +kernel
theorem dL_winds_99 : decode cL_winds 99 = .ok (.iconst 1, 1) := by decide +kernel
theorem dL_winds_100 : decode cL_winds 100 = .ok (.if_icmp .le 24, 3) := by decide +kernel
theorem dL_winds_103 : decode cL_winds 103 = .ok (.aload_n 0, 1) := by decide +kernel
theorem dL_winds_104 : decode cL_winds 104 = .ok (.bipush 42, 2) := by decide +kernel
theorem dL_winds_106 : decode cL_winds 106 = .ok (.invokevirtual 107, 3) := by decide +kernel
theorem dL_winds_109 : decode cL_winds 109 = .ok (.iconst 1, 1) := by decide +kernel
theorem dL_winds_110 : decode cL_winds 110 = .ok (.if_icmp .lt 12, 3) := by decide +kernel
theorem dL_winds_113 : decode cL_winds 113 = .ok (.aload_n 0, 1) := by decide +kernel
theorem dL_winds_114 : decode cL_winds 114 = .ok (.iload 7, 2) := by decide +kernel
theorem dL_winds_116 : decode cL_winds 116 = .ok (.invokestatic 110, 3) := by decide +kernel
theorem dL_winds_119 : decode cL_winds 119 = .ok (.ifCond .ne 5, 3) := by decide +kernel
theorem dL_winds_122 : decode cL_winds 122 = .ok (.iconst 0, 1) := by decide +kernel
theorem dL_winds_123 : decode cL_winds 123 = .ok (.ireturn, 1) := by decide +kernel
theorem dL_winds_124 : decode cL_winds 124 = .ok (.iconst 0, 1) := by decide +kernel
theorem dL_winds_125 : decode cL_winds 125 = .ok (.istore 8, 2) := by decide +kernel
theorem dL_winds_127 : decode cL_winds 127 = .ok (.iload 8, 2) := by decide +kernel
theorem dL_winds_129 : decode cL_winds 129 = .ok (.iload 7, 2) := by decide +kernel
theorem dL_winds_131 : decode cL_winds 131 = .ok (.if_icmp .ge 23, 3) := by decide +kernel
theorem dL_winds_134 : decode cL_winds 134 = .ok (.aload_n 3, 1) := by decide +kernel
theorem dL_winds_135 : decode cL_winds 135 = .ok (.iconst 0, 1) := by decide +kernel
theorem dL_winds_136 : decode cL_winds 136 = .ok (.dup2, 1) := by decide +kernel
theorem dL_winds_137 : decode cL_winds 137 = .ok (.iaload, 1) := by decide +kernel
theorem dL_winds_138 : decode cL_winds 138 = .ok (.iconst 1, 1) := by decide +kernel
theorem dL_winds_139 : decode cL_winds 139 = .ok (.iadd, 1) := by decide +kernel
theorem dL_winds_140 : decode cL_winds 140 = .ok (.iastore, 1) := by decide +kernel
theorem dL_winds_141 : decode cL_winds 141 = .ok (.aload_n 3, 1) := by decide +kernel
theorem dL_winds_142 : decode cL_winds 142 = .ok (.aload_n 3, 1) := by decide +kernel
theorem dL_winds_143 : decode cL_winds 143 = .ok (.iconst 0, 1) := by decide +kernel
theorem dL_winds_144 : decode cL_winds 144 = .ok (.iaload, 1) := by decide +kernel
theorem dL_winds_145 : decode cL_winds 145 = .ok (.iload 6, 2) := by decide +kernel
theorem dL_winds_147 : decode cL_winds 147 = .ok (.iastore, 1) := by decide +kernel
theorem dL_winds_148 : decode cL_winds 148 = .ok (.iinc 8 1, 3) := by decide +kernel
theorem dL_winds_151 : decode cL_winds 151 = .ok (.goto (-24), 3) := by decide +kernel
theorem dL_winds_154 : decode cL_winds 154 = .ok (.iinc 5 1, 3) := by decide +kernel
theorem dL_winds_157 : decode cL_winds 157 = .ok (.goto (-141), 3) := by decide +kernel
theorem dL_winds_160 : decode cL_winds 160 = .ok (.aload_n 0, 1) := by decide +kernel
theorem dL_winds_161 : decode cL_winds 161 = .ok (.invokevirtual 114, 3) := by decide +kernel
theorem dL_winds_164 : decode cL_winds 164 = .ok (.aload_n 3, 1) := by decide +kernel
theorem dL_winds_165 : decode cL_winds 165 = .ok (.iconst 0, 1) := by decide +kernel
theorem dL_winds_166 : decode cL_winds 166 = .ok (.iaload, 1) := by decide +kernel
theorem dL_winds_167 : decode cL_winds 167 = .ok (.if_icmp .ne 7, 3) := by decide +kernel
theorem dL_winds_170 : decode cL_winds 170 = .ok (.iconst 1, 1) := by decide +kernel
theorem dL_winds_171 : decode cL_winds 171 = .ok (.goto 4, 3) := by decide +kernel
theorem dL_winds_174 : decode cL_winds 174 = .ok (.iconst 0, 1) := by decide +kernel
theorem dL_winds_175 : decode cL_winds 175 = .ok (.ireturn, 1) := by decide +kernel
theorem dL_bog_0 : decode cL_bog 0 = .ok (.iconst 0, 1) := by decide +kernel
theorem dL_bog_1 : decode cL_bog 1 = .ok (.istore 5, 2) := by decide +kernel
theorem dL_bog_3 : decode cL_bog 3 = .ok (.iload 5, 2) := by decide +kernel
theorem dL_bog_5 : decode cL_bog 5 = .ok (.aload 4, 2) := by decide +kernel
theorem dL_bog_7 : decode cL_bog 7 = .ok (.bipush 8, 2) := by decide +kernel
theorem dL_bog_9 : decode cL_bog 9 = .ok (.iaload, 1) := by decide +kernel
theorem dL_bog_10 : decode cL_bog 10 = .ok (.if_icmp .ge 19, 3) := by decide +kernel
theorem dL_bog_13 : decode cL_bog 13 = .ok (.aload_n 3, 1) := by decide +kernel
theorem dL_bog_14 : decode cL_bog 14 = .ok (.iconst 2, 1) := by decide +kernel
theorem dL_bog_15 : decode cL_bog 15 = .ok (.iload 5, 2) := by decide +kernel
theorem dL_bog_17 : decode cL_bog 17 = .ok (.imul, 1) := by decide +kernel
theorem dL_bog_18 : decode cL_bog 18 = .ok (.iaload, 1) := by decide +kernel
theorem dL_bog_19 : decode cL_bog 19 = .ok (.iload_n 1, 1) := by decide +kernel
theorem dL_bog_20 : decode cL_bog 20 = .ok (.if_icmp .ge 9, 3) := by decide +kernel
theorem dL_bog_23 : decode cL_bog 23 = .ok (.iinc 5 1, 3) := by decide +kernel
theorem dL_bog_26 : decode cL_bog 26 = .ok (.goto (-23), 3) := by decide +kernel
theorem dL_bog_29 : decode cL_bog 29 = .ok (.iload 5, 2) := by decide +kernel
theorem dL_bog_31 : decode cL_bog 31 = .ok (.aload 4, 2) := by decide +kernel
theorem dL_bog_33 : decode cL_bog 33 = .ok (.bipush 8, 2) := by decide +kernel
theorem dL_bog_35 : decode cL_bog 35 = .ok (.iaload, 1) := by decide +kernel
theorem dL_bog_36 : decode cL_bog 36 = .ok (.if_icmp .ge 17, 3) := by decide +kernel
theorem dL_bog_39 : decode cL_bog 39 = .ok (.aload_n 3, 1) := by decide +kernel
theorem dL_bog_40 : decode cL_bog 40 = .ok (.iconst 2, 1) := by decide +kernel
theorem dL_bog_41 : decode cL_bog 41 = .ok (.iload 5, 2) := by decide +kernel
theorem dL_bog_43 : decode cL_bog 43 = .ok (.imul, 1) := by decide +kernel
theorem dL_bog_44 : decode cL_bog 44 = .ok (.iaload, 1) := by decide +kernel
theorem dL_bog_45 : decode cL_bog 45 = .ok (.iload_n 1, 1) := by decide +kernel
theorem dL_bog_46 : decode cL_bog 46 = .ok (.if_icmp .ne 7, 3) := by decide +kernel
theorem dL_bog_49 : decode cL_bog 49 = .ok (.iconst 1, 1) := by decide +kernel
theorem dL_bog_50 : decode cL_bog 50 = .ok (.goto 4, 3) := by decide +kernel
theorem dL_bog_53 : decode cL_bog 53 = .ok (.iconst 0, 1) := by decide +kernel
theorem dL_bog_54 : decode cL_bog 54 = .ok (.istore 6, 2) := by decide +kernel
theorem dL_bog_56 : decode cL_bog 56 = .ok (.iload 6, 2) := by decide +kernel
theorem dL_bog_58 : decode cL_bog 58 = .ok (.ifCond .ne 15, 3) := by decide +kernel
theorem dL_bog_61 : decode cL_bog 61 = .ok (.aload 4, 2) := by decide +kernel
theorem dL_bog_63 : decode cL_bog 63 = .ok (.bipush 8, 2) := by decide +kernel
theorem dL_bog_65 : decode cL_bog 65 = .ok (.iaload, 1) := by decide +kernel
theorem dL_bog_66 : decode cL_bog 66 = .ok (.bipush 6, 2) := by decide +kernel
theorem dL_bog_68 : decode cL_bog 68 = .ok (.if_icmp .ne 5, 3) := by decide +kernel
theorem dL_bog_71 : decode cL_bog 71 = .ok (.iconst 1, 1) := by decide +kernel
theorem dL_bog_72 : decode cL_bog 72 = .ok (.ireturn, 1) := by decide +kernel
theorem dL_bog_73 : decode cL_bog 73 = .ok (.iload 6, 2) := by decide +kernel
theorem dL_bog_75 : decode cL_bog 75 = .ok (.ifCond .eq 50, 3) := by decide +kernel
theorem dL_bog_78 : decode cL_bog 78 = .ok (.iload_n 2, 1) := by decide +kernel
theorem dL_bog_79 : decode cL_bog 79 = .ok (.ifCond .ne 46, 3) := by decide +kernel
theorem dL_bog_82 : decode cL_bog 82 = .ok (.aload 4, 2) := by decide +kernel
theorem dL_bog_84 : decode cL_bog 84 = .ok (.bipush 8, 2) := by decide +kernel
theorem dL_bog_86 : decode cL_bog 86 = .ok (.dup2, 1) := by decide +kernel
theorem dL_bog_87 : decode cL_bog 87 = .ok (.iaload, 1) := by decide +kernel
theorem dL_bog_88 : decode cL_bog 88 = .ok (.iconst 1, 1) := by decide +kernel
theorem dL_bog_89 : decode cL_bog 89 = .ok (.isub, 1) := by decide +kernel
theorem dL_bog_90 : decode cL_bog 90 = .ok (.iastore, 1) := by decide +kernel
theorem dL_bog_91 : decode cL_bog 91 = .ok (.iconst 2, 1) := by decide +kernel
theorem dL_bog_92 : decode cL_bog 92 = .ok (.iload 5, 2) := by decide +kernel
theorem dL_bog_94 : decode cL_bog 94 = .ok (.imul, 1) := by decide +kernel
theorem dL_bog_95 : decode cL_bog 95 = .ok (.istore 7, 2) := by decide +kernel
theorem dL_bog_97 : decode cL_bog 97 = .ok (.iload 7, 2) := by decide +kernel
theorem dL_bog_99 : decode cL_bog 99 = .ok (.iconst 2, 1) := by decide +kernel
theorem dL_bog_100 : decode cL_bog 100 = .ok (.aload 4, 2) := by decide +kernel
theorem dL_bog_102 : decode cL_bog 102 = .ok (.bipush 8, 2) := by decide +kernel
theorem dL_bog_104 : decode cL_bog 104 = .ok (.iaload, 1) := by decide +kernel
theorem dL_bog_105 : decode cL_bog 105 = .ok (.imul, 1) := by decide +kernel
theorem dL_bog_106 : decode cL_bog 106 = .ok (.if_icmp .ge 19, 3) := by decide +kernel
theorem dL_bog_109 : decode cL_bog 109 = .ok (.aload_n 3, 1) := by decide +kernel
theorem dL_bog_110 : decode cL_bog 110 = .ok (.iload 7, 2) := by decide +kernel
theorem dL_bog_112 : decode cL_bog 112 = .ok (.aload_n 3, 1) := by decide +kernel
theorem dL_bog_113 : decode cL_bog 113 = .ok (.iload 7, 2) := by decide +kernel
theorem dL_bog_115 : decode cL_bog 115 = .ok (.iconst 2, 1) := by decide +kernel
theorem dL_bog_116 : decode cL_bog 116 = .ok (.iadd, 1) := by decide +kernel
theorem dL_bog_117 : decode cL_bog 117 = .ok (.iaload, 1) := by decide +kernel
theorem dL_bog_118 : decode cL_bog 118 = .ok (.iastore, 1) := by decide +kernel
theorem dL_bog_119 : decode cL_bog 119 = .ok (.iinc 7 1, 3) := by decide +kernel
theorem dL_bog_122 : decode cL_bog 122 = .ok (.goto (-25), 3) := by decide +kernel
theorem dL_bog_125 : decode cL_bog 125 = .ok (.iload 6, 2) := by decide +kernel
theorem dL_bog_127 : decode cL_bog 127 = .ok (.ifCond .ne 54, 3) := by decide +kernel
theorem dL_bog_130 : decode cL_bog 130 = .ok (.iload_n 2, 1) := by decide +kernel
theorem dL_bog_131 : decode cL_bog 131 = .ok (.ifCond .le 50, 3) := by decide +kernel
theorem dL_bog_134 : decode cL_bog 134 = .ok (.iconst 2, 1) := by decide +kernel
theorem dL_bog_135 : decode cL_bog 135 = .ok (.aload 4, 2) := by decide +kernel
theorem dL_bog_137 : decode cL_bog 137 = .ok (.bipush 8, 2) := by decide +kernel
theorem dL_bog_139 : decode cL_bog 139 = .ok (.iaload, 1) := by decide +kernel
theorem dL_bog_140 : decode cL_bog 140 = .ok (.imul, 1) := by decide +kernel
theorem dL_bog_141 : decode cL_bog 141 = .ok (.iconst 1, 1) := by decide +kernel
theorem dL_bog_142 : decode cL_bog 142 = .ok (.iadd, 1) := by decide +kernel
theorem dL_bog_143 : decode cL_bog 143 = .ok (.istore 7, 2) := by decide +kernel
theorem dL_bog_145 : decode cL_bog 145 = .ok (.iload 7, 2) := by decide +kernel
theorem dL_bog_147 : decode cL_bog 147 = .ok (.iconst 2, 1) := by decide +kernel
theorem dL_bog_148 : decode cL_bog 148 = .ok (.iload 5, 2) := by decide +kernel
theorem dL_bog_150 : decode cL_bog 150 = .ok (.imul, 1) := by decide +kernel
theorem dL_bog_151 : decode cL_bog 151 = .ok (.iconst 1, 1) := by decide +kernel
theorem dL_bog_152 : decode cL_bog 152 = .ok (.iadd, 1) := by decide +kernel
theorem dL_bog_153 : decode cL_bog 153 = .ok (.if_icmp .le 19, 3) := by decide +kernel
theorem dL_bog_156 : decode cL_bog 156 = .ok (.aload_n 3, 1) := by decide +kernel
theorem dL_bog_157 : decode cL_bog 157 = .ok (.iload 7, 2) := by decide +kernel
theorem dL_bog_159 : decode cL_bog 159 = .ok (.aload_n 3, 1) := by decide +kernel
theorem dL_bog_160 : decode cL_bog 160 = .ok (.iload 7, 2) := by decide +kernel
theorem dL_bog_162 : decode cL_bog 162 = .ok (.iconst 2, 1) := by decide +kernel
theorem dL_bog_163 : decode cL_bog 163 = .ok (.isub, 1) := by decide +kernel
theorem dL_bog_164 : decode cL_bog 164 = .ok (.iaload, 1) := by decide +kernel
theorem dL_bog_165 : decode cL_bog 165 = .ok (.iastore, 1) := by decide +kernel
theorem dL_bog_166 : decode cL_bog 166 = .ok (.iinc 7 (-1), 3) := by decide +kernel
theorem dL_bog_169 : decode cL_bog 169 = .ok (.goto (-24), 3) := by decide +kernel
theorem dL_bog_172 : decode cL_bog 172 = .ok (.aload 4, 2) := by decide +kernel
theorem dL_bog_174 : decode cL_bog 174 = .ok (.bipush 8, 2) := by decide +kernel
theorem dL_bog_176 : decode cL_bog 176 = .ok (.dup2, 1) := by decide +kernel
theorem dL_bog_177 : decode cL_bog 177 = .ok (.iaload, 1) := by decide +kernel
theorem dL_bog_178 : decode cL_bog 178 = .ok (.iconst 1, 1) := by decide +kernel
theorem dL_bog_179 : decode cL_bog 179 = .ok (.iadd, 1) := by decide +kernel
theorem dL_bog_180 : decode cL_bog 180 = .ok (.iastore, 1) := by decide +kernel
theorem dL_bog_181 : decode cL_bog 181 = .ok (.iload_n 2, 1) := by decide +kernel
theorem dL_bog_182 : decode cL_bog 182 = .ok (.ifCond .le 19, 3) := by decide +kernel
theorem dL_bog_185 : decode cL_bog 185 = .ok (.aload_n 3, 1) := by decide +kernel
theorem dL_bog_186 : decode cL_bog 186 = .ok (.iconst 2, 1) := by decide +kernel
theorem dL_bog_187 : decode cL_bog 187 = .ok (.iload 5, 2) := by decide +kernel
theorem dL_bog_189 : decode cL_bog 189 = .ok (.imul, 1) := by decide +kernel
theorem dL_bog_190 : decode cL_bog 190 = .ok (.iload_n 1, 1) := by decide +kernel
theorem dL_bog_191 : decode cL_bog 191 = .ok (.iastore, 1) := by decide +kernel
theorem dL_bog_192 : decode cL_bog 192 = .ok (.aload_n 3, 1) := by decide +kernel
theorem dL_bog_193 : decode cL_bog 193 = .ok (.iconst 2, 1) := by decide +kernel
theorem dL_bog_194 : decode cL_bog 194 = .ok (.iload 5, 2) := by decide +kernel
theorem dL_bog_196 : decode cL_bog 196 = .ok (.imul, 1) := by decide +kernel
theorem dL_bog_197 : decode cL_bog 197 = .ok (.iconst 1, 1) := by decide +kernel
theorem dL_bog_198 : decode cL_bog 198 = .ok (.iadd, 1) := by decide +kernel
theorem dL_bog_199 : decode cL_bog 199 = .ok (.iload_n 2, 1) := by decide +kernel
theorem dL_bog_200 : decode cL_bog 200 = .ok (.iastore, 1) := by decide +kernel
theorem dL_bog_201 : decode cL_bog 201 = .ok (.aload_n 0, 1) := by decide +kernel
theorem dL_bog_202 : decode cL_bog 202 = .ok (.iload_n 1, 1) := by decide +kernel
theorem dL_bog_203 : decode cL_bog 203 = .ok (.iload_n 2, 1) := by decide +kernel
theorem dL_bog_204 : decode cL_bog 204 = .ok (.invokevirtual 117, 3) := by decide +kernel
theorem dL_bog_207 : decode cL_bog 207 = .ok (.aload 4, 2) := by decide +kernel
theorem dL_bog_209 : decode cL_bog 209 = .ok (.bipush 8, 2) := by decide +kernel
theorem dL_bog_211 : decode cL_bog 211 = .ok (.iaload, 1) := by decide +kernel
theorem dL_bog_212 : decode cL_bog 212 = .ok (.if_icmp .ne 7, 3) := by decide +kernel
theorem dL_bog_215 : decode cL_bog 215 = .ok (.iconst 1, 1) := by decide +kernel
theorem dL_bog_216 : decode cL_bog 216 = .ok (.goto 4, 3) := by decide +kernel
theorem dL_bog_219 : decode cL_bog 219 = .ok (.iconst 0, 1) := by decide +kernel
theorem dL_bog_220 : decode cL_bog 220 = .ok (.ireturn, 1) := by decide +kernel
theorem dL_act_0 : decode cL_act 0 = .ok (.iload_n 1, 1) := by decide +kernel
theorem dL_act_1 : decode cL_act 1 = .ok (.iconst 2, 1) := by decide +kernel
theorem dL_act_2 : decode cL_act 2 = .ok (.if_icmp .ge 12, 3) := by decide +kernel
theorem dL_act_5 : decode cL_act 5 = .ok (.aload_n 0, 1) := by decide +kernel
theorem dL_act_6 : decode cL_act 6 = .ok (.iload_n 2, 1) := by decide +kernel
theorem dL_act_7 : decode cL_act 7 = .ok (.iload_n 3, 1) := by decide +kernel
theorem dL_act_8 : decode cL_act 8 = .ok (.aload 7, 2) := by decide +kernel
theorem dL_act_10 : decode cL_act 10 = .ok (.invokestatic 120, 3) := by decide +kernel
theorem dL_act_13 : decode cL_act 13 = .ok (.ireturn, 1) := by decide +kernel
theorem dL_act_14 : decode cL_act 14 = .ok (.iload_n 1, 1) := by decide +kernel
theorem dL_act_15 : decode cL_act 15 = .ok (.iconst 2, 1) := by decide +kernel
theorem dL_act_16 : decode cL_act 16 = .ok (.if_icmp .ne 42, 3) := by decide +kernel
theorem dL_act_19 : decode cL_act 19 = .ok (.aload_n 0, 1) := by decide +kernel
theorem dL_act_20 : decode cL_act 20 = .ok (.iconst 1, 1) := by decide +kernel
theorem dL_act_21 : decode cL_act 21 = .ok (.iload_n 2, 1) := by decide +kernel
theorem dL_act_22 : decode cL_act 22 = .ok (.bipush 60, 2) := by decide +kernel
theorem dL_act_24 : decode cL_act 24 = .ok (.invokestatic 69, 3) := by decide +kernel
theorem dL_act_27 : decode cL_act 27 = .ok (.iadd, 1) := by decide +kernel
theorem dL_act_28 : decode cL_act 28 = .ok (.iload_n 3, 1) := by decide +kernel
theorem dL_act_29 : decode cL_act 29 = .ok (.iconst 3, 1) := by decide +kernel
theorem dL_act_30 : decode cL_act 30 = .ok (.invokestatic 69, 3) := by decide +kernel
theorem dL_act_33 : decode cL_act 33 = .ok (.ifCond .ne 7, 3) := by decide +kernel
theorem dL_act_36 : decode cL_act 36 = .ok (.iconst 0, 1) := by decide +kernel
theorem dL_act_37 : decode cL_act 37 = .ok (.goto 13, 3) := by decide +kernel
theorem dL_act_40 : decode cL_act 40 = .ok (.iconst 1, 1) := by decide +kernel
theorem dL_act_41 : decode cL_act 41 = .ok (.iload_n 3, 1) := by decide +kernel
theorem dL_act_42 : decode cL_act 42 = .ok (.iconst 2, 1) := by decide +kernel
theorem dL_act_43 : decode cL_act 43 = .ok (.ishr, 1) := by decide +kernel
theorem dL_act_44 : decode cL_act 44 = .ok (.bipush 20, 2) := by decide +kernel
theorem dL_act_46 : decode cL_act 46 = .ok (.invokestatic 69, 3) := by decide +kernel
theorem dL_act_49 : decode cL_act 49 = .ok (.iadd, 1) := by decide +kernel
theorem dL_act_50 : decode cL_act 50 = .ok (.aload 9, 2) := by decide +kernel
theorem dL_act_52 : decode cL_act 52 = .ok (.aload 10, 2) := by decide +kernel
theorem dL_act_54 : decode cL_act 54 = .ok (.invokestatic 124, 3) := by decide +kernel
theorem dL_act_57 : decode cL_act 57 = .ok (.ireturn, 1) := by decide +kernel
theorem dL_act_58 : decode cL_act 58 = .ok (.iload_n 1, 1) := by decide +kernel
theorem dL_act_59 : decode cL_act 59 = .ok (.iconst 3, 1) := by decide +kernel
theorem dL_act_60 : decode cL_act 60 = .ok (.if_icmp .ne 148, 3) := by decide +kernel
theorem dL_act_63 : decode cL_act 63 = .ok (.iload_n 2, 1) := by decide +kernel
theorem dL_act_64 : decode cL_act 64 = .ok (.bipush 7, 2) := by decide +kernel
theorem dL_act_66 : decode cL_act 66 = .ok (.invokestatic 69, 3) := by decide +kernel
theorem dL_act_69 : decode cL_act 69 = .ok (.istore 11, 2) := by decide +kernel
theorem dL_act_71 : decode cL_act 71 = .ok (.iload 11, 2) := by decide +kernel
theorem dL_act_73 : decode cL_act 73 = .ok (.ifCond .ne 7, 3) := by decide +kernel
theorem dL_act_76 : decode cL_act 76 = .ok (.iconst 5, 1) := by decide +kernel
theorem dL_act_77 : decode cL_act 77 = .ok (.goto 21, 3) := by decide +kernel
theorem dL_act_80 : decode cL_act 80 = .ok (.iload 11, 2) := by decide +kernel
theorem dL_act_82 : decode cL_act 82 = .ok (.iconst 4, 1) := by decide +kernel
theorem dL_act_83 : decode cL_act 83 = .ok (.if_icmp .eq 10, 3) := by decide +kernel
theorem dL_act_86 : decode cL_act 86 = .ok (.iload 11, 2) := by decide +kernel
theorem dL_act_88 : decode cL_act 88 = .ok (.bipush 6, 2) := by decide +kernel
theorem dL_act_90 : decode cL_act 90 = .ok (.if_icmp .ne 7, 3) := by decide +kernel
theorem dL_act_93 : decode cL_act 93 = .ok (.iconst 0, 1) := by decide +kernel
theorem dL_act_94 : decode cL_act 94 = .ok (.goto 4, 3) := by decide +kernel
theorem dL_act_97 : decode cL_act 97 = .ok (.iconst 1, 1) := by decide +kernel
theorem dL_act_98 : decode cL_act 98 = .ok (.istore 12, 2) := by decide +kernel
theorem dL_act_100 : decode cL_act 100 = .ok (.aload 8, 2) := by decide +kernel
theorem dL_act_102 : decode cL_act 102 = .ok (.iload 11, 2) := by decide +kernel
theorem dL_act_104 : decode cL_act 104 = .ok (.iaload, 1) := by decide +kernel
theorem dL_act_105 : decode cL_act 105 = .ok (.istore 13, 2) := by decide +kernel
theorem dL_act_107 : decode cL_act 107 = .ok (.aload 8, 2) := by decide +kernel
theorem dL_act_109 : decode cL_act 109 = .ok (.iload 11, 2) := by decide +kernel
theorem dL_act_111 : decode cL_act 111 = .ok (.iload 12, 2) := by decide +kernel
theorem dL_act_113 : decode cL_act 113 = .ok (.iload_n 3, 1) := by decide +kernel
theorem dL_act_114 : decode cL_act 114 = .ok (.iload 11, 2) := by decide +kernel
theorem dL_act_116 : decode cL_act 116 = .ok (.ifCond .ne 8, 3) := by decide +kernel
theorem dL_act_119 : decode cL_act 119 = .ok (.bipush 21, 2) := by decide +kernel
theorem dL_act_121 : decode cL_act 121 = .ok (.goto 60, 3) := by decide +kernel
theorem dL_act_124 : decode cL_act 124 = .ok (.iload 11, 2) := by decide +kernel
theorem dL_act_126 : decode cL_act 126 = .ok (.iconst 1, 1) := by decide +kernel
theorem dL_act_127 : decode cL_act 127 = .ok (.if_icmp .ne 8, 3) := by decide +kernel
theorem dL_act_130 : decode cL_act 130 = .ok (.bipush 20, 2) := by decide +kernel
theorem dL_act_132 : decode cL_act 132 = .ok (.goto 49, 3) := by decide +kernel
theorem dL_act_135 : decode cL_act 135 = .ok (.iload 11, 2) := by decide +kernel
theorem dL_act_137 : decode cL_act 137 = .ok (.iconst 2, 1) := by decide +kernel
theorem dL_act_138 : decode cL_act 138 = .ok (.if_icmp .ne 8, 3) := by decide +kernel
theorem dL_act_141 : decode cL_act 141 = .ok (.bipush 6, 2) := by decide +kernel
theorem dL_act_143 : decode cL_act 143 = .ok (.goto 38, 3) := by decide +kernel
theorem dL_act_146 : decode cL_act 146 = .ok (.iload 11, 2) := by decide +kernel
theorem dL_act_148 : decode cL_act 148 = .ok (.iconst 3, 1) := by decide +kernel
theorem dL_act_149 : decode cL_act 149 = .ok (.if_icmp .ne 8, 3) := by decide +kernel
theorem dL_act_152 : decode cL_act 152 = .ok (.bipush 40, 2) := by decide +kernel
theorem dL_act_154 : decode cL_act 154 = .ok (.goto 27, 3) := by decide +kernel
theorem dL_act_157 : decode cL_act 157 = .ok (.iload 11, 2) := by decide +kernel
theorem dL_act_159 : decode cL_act 159 = .ok (.iconst 4, 1) := by decide +kernel
theorem dL_act_160 : decode cL_act 160 = .ok (.if_icmp .ne 8, 3) := by decide +kernel
theorem dL_act_163 : decode cL_act 163 = .ok (.bipush 11, 2) := by decide +kernel
theorem dL_act_165 : decode cL_act 165 = .ok (.goto 16, 3) := by decide +kernel
theorem dL_act_168 : decode cL_act 168 = .ok (.iload 11, 2) := by decide +kernel
theorem dL_act_170 : decode cL_act 170 = .ok (.iconst 5, 1) := by decide +kernel
theorem dL_act_171 : decode cL_act 171 = .ok (.if_icmp .ne 8, 3) := by decide +kernel
theorem dL_act_174 : decode cL_act 174 = .ok (.bipush 30, 2) := by decide +kernel
theorem dL_act_176 : decode cL_act 176 = .ok (.goto 5, 3) := by decide +kernel
theorem dL_act_179 : decode cL_act 179 = .ok (.bipush 30, 2) := by decide +kernel
theorem dL_act_181 : decode cL_act 181 = .ok (.invokestatic 69, 3) := by decide +kernel
theorem dL_act_184 : decode cL_act 184 = .ok (.iadd, 1) := by decide +kernel
theorem dL_act_185 : decode cL_act 185 = .ok (.iastore, 1) := by decide +kernel
theorem dL_act_186 : decode cL_act 186 = .ok (.aload_n 0, 1) := by decide +kernel
theorem dL_act_187 : decode cL_act 187 = .ok (.iload 11, 2) := by decide +kernel
theorem dL_act_189 : decode cL_act 189 = .ok (.aload 8, 2) := by decide +kernel
theorem dL_act_191 : decode cL_act 191 = .ok (.iload 11, 2) := by decide +kernel
theorem dL_act_193 : decode cL_act 193 = .ok (.iaload, 1) := by decide +kernel
theorem dL_act_194 : decode cL_act 194 = .ok (.invokevirtual 127, 3) := by decide +kernel
theorem dL_act_197 : decode cL_act 197 = .ok (.iload 13, 2) := by decide +kernel
theorem dL_act_199 : decode cL_act 199 = .ok (.if_icmp .ne 7, 3) := by decide +kernel
theorem dL_act_202 : decode cL_act 202 = .ok (.iconst 1, 1) := by decide +kernel
theorem dL_act_203 : decode cL_act 203 = .ok (.goto 4, 3) := by decide +kernel
theorem dL_act_206 : decode cL_act 206 = .ok (.iconst 0, 1) := by decide +kernel
theorem dL_act_207 : decode cL_act 207 = .ok (.ireturn, 1) := by decide +kernel
theorem dL_act_208 : decode cL_act 208 = .ok (.iload_n 1, 1) := by decide +kernel
theorem dL_act_209 : decode cL_act 209 = .ok (.bipush 6, 2) := by decide +kernel
theorem dL_act_211 : decode cL_act 211 = .ok (.if_icmp .ge 155, 3) := by decide +kernel
theorem dL_act_214 : decode cL_act 214 = .ok (.iconst 1, 1) := by decide +kernel
theorem dL_act_215 : decode cL_act 215 = .ok (.iload_n 2, 1) := by decide +kernel
theorem dL_act_216 : decode cL_act 216 = .ok (.bipush 60, 2) := by decide +kernel
theorem dL_act_218 : decode cL_act 218 = .ok (.invokestatic 69, 3) := by decide +kernel
theorem dL_act_221 : decode cL_act 221 = .ok (.iadd, 1) := by decide +kernel
theorem dL_act_222 : decode cL_act 222 = .ok (.istore 11, 2) := by decide +kernel
theorem dL_act_224 : decode cL_act 224 = .ok (.iconst 0, 1) := by decide +kernel
theorem dL_act_225 : decode cL_act 225 = .ok (.istore 12, 2) := by decide +kernel
theorem dL_act_227 : decode cL_act 227 = .ok (.iload 12, 2) := by decide +kernel
theorem dL_act_229 : decode cL_act 229 = .ok (.aload 10, 2) := by decide +kernel
theorem dL_act_231 : decode cL_act 231 = .ok (.bipush 6, 2) := by decide +kernel
theorem dL_act_233 : decode cL_act 233 = .ok (.iaload, 1) := by decide +kernel
theorem dL_act_234 : decode cL_act 234 = .ok (.if_icmp .ge 24, 3) := by decide +kernel
theorem dL_act_237 : decode cL_act 237 = .ok (.aload 4, 2) := by decide +kernel
theorem dL_act_239 : decode cL_act 239 = .ok (.bipush 7, 2) := by decide +kernel
theorem dL_act_241 : decode cL_act 241 = .ok (.iload 12, 2) := by decide +kernel
theorem dL_act_243 : decode cL_act 243 = .ok (.imul, 1) := by decide +kernel
theorem dL_act_244 : decode cL_act 244 = .ok (.iaload, 1) := by decide +kernel
theorem dL_act_245 : decode cL_act 245 = .ok (.iload 11, 2) := by decide +kernel
theorem dL_act_247 : decode cL_act 247 = .ok (.if_icmp .ne 5, 3) := by decide +kernel
theorem dL_act_250 : decode cL_act 250 = .ok (.iconst 1, 1) := by decide +kernel
theorem dL_act_251 : decode cL_act 251 = .ok (.ireturn, 1) := by decide +kernel
theorem dL_act_252 : decode cL_act 252 = .ok (.iinc 12 1, 3) := by decide +kernel
theorem dL_act_255 : decode cL_act 255 = .ok (.goto (-28), 3) := by decide +kernel
theorem dL_act_258 : decode cL_act 258 = .ok (.aload 10, 2) := by decide +kernel
theorem dL_act_260 : decode cL_act 260 = .ok (.bipush 6, 2) := by decide +kernel
theorem dL_act_262 : decode cL_act 262 = .ok (.iaload, 1) := by decide +kernel
theorem dL_act_263 : decode cL_act 263 = .ok (.bipush 6, 2) := by decide +kernel
theorem dL_act_265 : decode cL_act 265 = .ok (.if_icmp .ne 5, 3) := by decide +kernel
theorem dL_act_268 : decode cL_act 268 = .ok (.iconst 1, 1) := by decide +kernel
theorem dL_act_269 : decode cL_act 269 = .ok (.ireturn, 1) := by decide +kernel
theorem dL_act_270 : decode cL_act 270 = .ok (.bipush 7, 2) := by decide +kernel
theorem dL_act_272 : decode cL_act 272 = .ok (.aload 10, 2) := by decide +kernel
theorem dL_act_274 : decode cL_act 274 = .ok (.bipush 6, 2) := by decide +kernel
theorem dL_act_276 : decode cL_act 276 = .ok (.iaload, 1) := by decide +kernel
theorem dL_act_277 : decode cL_act 277 = .ok (.imul, 1) := by decide +kernel
theorem dL_act_278 : decode cL_act 278 = .ok (.istore 12, 2) := by decide +kernel
theorem dL_act_280 : decode cL_act 280 = .ok (.aload 4, 2) := by decide +kernel
theorem dL_act_282 : decode cL_act 282 = .ok (.iload 12, 2) := by decide +kernel
theorem dL_act_284 : decode cL_act 284 = .ok (.iload 11, 2) := by decide +kernel
theorem dL_act_286 : decode cL_act 286 = .ok (.iastore, 1) := by decide +kernel
theorem dL_act_287 : decode cL_act 287 = .ok (.aload 4, 2) := by decide +kernel
theorem dL_act_289 : decode cL_act 289 = .ok (.iload 12, 2) := by decide +kernel
theorem dL_act_291 : decode cL_act 291 = .ok (.iconst 1, 1) := by decide +kernel
theorem dL_act_292 : decode cL_act 292 = .ok (.iadd, 1) := by decide +kernel
theorem dL_act_293 : decode cL_act 293 = .ok (.bipush 50, 2) := by decide +kernel
theorem dL_act_295 : decode cL_act 295 = .ok (.iload_n 3, 1) := by decide +kernel
theorem dL_act_296 : decode cL_act 296 = .ok (.bipush 111, 2) := by decide +kernel
theorem dL_act_298 : decode cL_act 298 = .ok (.invokestatic 69, 3) := by decide +kernel
theorem dL_act_301 : decode cL_act 301 = .ok (.iadd, 1) := by decide +kernel
theorem dL_act_302 : decode cL_act 302 = .ok (.iastore, 1) := by decide +kernel
theorem dL_act_303 : decode cL_act 303 = .ok (.aload 4, 2) := by decide +kernel
theorem dL_act_305 : decode cL_act 305 = .ok (.iload 12, 2) := by decide +kernel
theorem dL_act_307 : decode cL_act 307 = .ok (.iconst 2, 1) := by decide +kernel
theorem dL_act_308 : decode cL_act 308 = .ok (.iadd, 1) := by decide +kernel
theorem dL_act_309 : decode cL_act 309 = .ok (.iconst 1, 1) := by decide +kernel
theorem dL_act_310 : decode cL_act 310 = .ok (.iload_n 3, 1) := by decide +kernel
theorem dL_act_311 : decode cL_act 311 = .ok (.bipush 7, 2) := by decide +kernel
theorem dL_act_313 : decode cL_act 313 = .ok (.ishr, 1) := by decide +kernel
theorem dL_act_314 : decode cL_act 314 = .ok (.bipush 50, 2) := by decide +kernel
theorem dL_act_316 : decode cL_act 316 = .ok (.invokestatic 69, 3) := by decide +kernel
theorem dL_act_319 : decode cL_act 319 = .ok (.iadd, 1) := by decide +kernel
theorem dL_act_320 : decode cL_act 320 = .ok (.iastore, 1) := by decide +kernel
theorem dL_act_321 : decode cL_act 321 = .ok (.aload 10, 2) := by decide +kernel
theorem dL_act_323 : decode cL_act 323 = .ok (.bipush 6, 2) := by decide +kernel
theorem dL_act_325 : decode cL_act 325 = .ok (.dup2, 1) := by decide +kernel
theorem dL_act_326 : decode cL_act 326 = .ok (.iaload, 1) := by decide +kernel
theorem dL_act_327 : decode cL_act 327 = .ok (.iconst 1, 1) := by decide +kernel
theorem dL_act_328 : decode cL_act 328 = .ok (.iadd, 1) := by decide +kernel
theorem dL_act_329 : decode cL_act 329 = .ok (.iastore, 1) := by decide +kernel
theorem dL_act_330 : decode cL_act 330 = .ok (.aload_n 0, 1) := by decide +kernel
theorem dL_act_331 : decode cL_act 331 = .ok (.iload 11, 2) := by decide +kernel
theorem dL_act_333 : decode cL_act 333 = .ok (.aload 4, 2) := by decide +kernel
theorem dL_act_335 : decode cL_act 335 = .ok (.iload 12, 2) := by decide +kernel
theorem dL_act_337 : decode cL_act 337 = .ok (.iconst 1, 1) := by decide +kernel
theorem dL_act_338 : decode cL_act 338 = .ok (.iadd, 1) := by decide +kernel
theorem dL_act_339 : decode cL_act 339 = .ok (.iaload, 1) := by decide +kernel
theorem dL_act_340 : decode cL_act 340 = .ok (.aload 4, 2) := by decide +kernel
theorem dL_act_342 : decode cL_act 342 = .ok (.iload 12, 2) := by decide +kernel
theorem dL_act_344 : decode cL_act 344 = .ok (.iconst 2, 1) := by decide +kernel
theorem dL_act_345 : decode cL_act 345 = .ok (.iadd, 1) := by decide +kernel
theorem dL_act_346 : decode cL_act 346 = .ok (.iaload, 1) := by decide +kernel
theorem dL_act_347 : decode cL_act 347 = .ok (.invokevirtual 130, 3) := by decide +kernel
theorem dL_act_350 : decode cL_act 350 = .ok (.aload 10, 2) := by decide +kernel
theorem dL_act_352 : decode cL_act 352 = .ok (.bipush 6, 2) := by decide +kernel
theorem dL_act_354 : decode cL_act 354 = .ok (.iaload, 1) := by decide +kernel
end
section
theorem dL_act_355 : decode cL_act 355 = .ok (.iconst 1, 1) := by decide +kernel
theorem dL_act_356 : decode cL_act 356 = .ok (.isub, 1) := by decide +kernel
theorem dL_act_357 : decode cL_act 357 = .ok (.if_icmp .ne 7, 3) := by decide +kernel
theorem dL_act_360 : decode cL_act 360 = .ok (.iconst 1, 1) := by decide +kernel
theorem dL_act_361 : decode cL_act 361 = .ok (.goto 4, 3) := by decide +kernel
theorem dL_act_364 : decode cL_act 364 = .ok (.iconst 0, 1) := by decide +kernel
theorem dL_act_365 : decode cL_act 365 = .ok (.ireturn, 1) := by decide +kernel
theorem dL_act_366 : decode cL_act 366 = .ok (.aload 10, 2) := by decide +kernel
theorem dL_act_368 : decode cL_act 368 = .ok (.bipush 6, 2) := by decide +kernel
theorem dL_act_370 : decode cL_act 370 = .ok (.iaload, 1) := by decide +kernel
theorem dL_act_371 : decode cL_act 371 = .ok (.ifCond .ne 5, 3) := by decide +kernel
theorem dL_act_374 : decode cL_act 374 = .ok (.iconst 1, 1) := by decide +kernel
theorem dL_act_375 : decode cL_act 375 = .ok (.ireturn, 1) := by decide +kernel
theorem dL_act_376 : decode cL_act 376 = .ok (.iload_n 3, 1) := by decide +kernel
theorem dL_act_377 : decode cL_act 377 = .ok (.aload 10, 2) := by decide +kernel
theorem dL_act_379 : decode cL_act 379 = .ok (.bipush 6, 2) := by decide +kernel
theorem dL_act_381 : decode cL_act 381 = .ok (.iaload, 1) := by decide +kernel
theorem dL_act_382 : decode cL_act 382 = .ok (.invokestatic 69, 3) := by decide +kernel
theorem dL_act_385 : decode cL_act 385 = .ok (.istore 11, 2) := by decide +kernel
theorem dL_act_387 : decode cL_act 387 = .ok (.iload_n 1, 1) := by decide +kernel
theorem dL_act_388 : decode cL_act 388 = .ok (.bipush 8, 2) := by decide +kernel
theorem dL_act_390 : decode cL_act 390 = .ok (.if_icmp .ge 68, 3) := by decide +kernel
theorem dL_act_393 : decode cL_act 393 = .ok (.aload 4, 2) := by decide +kernel
theorem dL_act_395 : decode cL_act 395 = .ok (.bipush 7, 2) := by decide +kernel
theorem dL_act_397 : decode cL_act 397 = .ok (.iload 11, 2) := by decide +kernel
theorem dL_act_399 : decode cL_act 399 = .ok (.imul, 1) := by decide +kernel
theorem dL_act_400 : decode cL_act 400 = .ok (.iconst 3, 1) := by decide +kernel
theorem dL_act_401 : decode cL_act 401 = .ok (.iadd, 1) := by decide +kernel
theorem dL_act_402 : decode cL_act 402 = .ok (.iaload, 1) := by decide +kernel
theorem dL_act_403 : decode cL_act 403 = .ok (.istore 12, 2) := by decide +kernel
theorem dL_act_405 : decode cL_act 405 = .ok (.aload 4, 2) := by decide +kernel
theorem dL_act_407 : decode cL_act 407 = .ok (.bipush 7, 2) := by decide +kernel
theorem dL_act_409 : decode cL_act 409 = .ok (.iload 11, 2) := by decide +kernel
theorem dL_act_411 : decode cL_act 411 = .ok (.imul, 1) := by decide +kernel
theorem dL_act_412 : decode cL_act 412 = .ok (.iconst 3, 1) := by decide +kernel
theorem dL_act_413 : decode cL_act 413 = .ok (.iadd, 1) := by decide +kernel
theorem dL_act_414 : decode cL_act 414 = .ok (.iload_n 2, 1) := by decide +kernel
theorem dL_act_415 : decode cL_act 415 = .ok (.iconst 5, 1) := by decide +kernel
theorem dL_act_416 : decode cL_act 416 = .ok (.invokestatic 69, 3) := by decide +kernel
theorem dL_act_419 : decode cL_act 419 = .ok (.iastore, 1) := by decide +kernel
theorem dL_act_420 : decode cL_act 420 = .ok (.aload 4, 2) := by decide +kernel
theorem dL_act_422 : decode cL_act 422 = .ok (.bipush 7, 2) := by decide +kernel
theorem dL_act_424 : decode cL_act 424 = .ok (.iload 11, 2) := by decide +kernel
theorem dL_act_426 : decode cL_act 426 = .ok (.imul, 1) := by decide +kernel
theorem dL_act_427 : decode cL_act 427 = .ok (.iconst 4, 1) := by decide +kernel
theorem dL_act_428 : decode cL_act 428 = .ok (.iadd, 1) := by decide +kernel
theorem dL_act_429 : decode cL_act 429 = .ok (.iconst 0, 1) := by decide +kernel
theorem dL_act_430 : decode cL_act 430 = .ok (.iastore, 1) := by decide +kernel
theorem dL_act_431 : decode cL_act 431 = .ok (.aload_n 0, 1) := by decide +kernel
theorem dL_act_432 : decode cL_act 432 = .ok (.iload 11, 2) := by decide +kernel
theorem dL_act_434 : decode cL_act 434 = .ok (.aload 4, 2) := by decide +kernel
theorem dL_act_436 : decode cL_act 436 = .ok (.bipush 7, 2) := by decide +kernel
theorem dL_act_438 : decode cL_act 438 = .ok (.iload 11, 2) := by decide +kernel
theorem dL_act_440 : decode cL_act 440 = .ok (.imul, 1) := by decide +kernel
theorem dL_act_441 : decode cL_act 441 = .ok (.iconst 3, 1) := by decide +kernel
theorem dL_act_442 : decode cL_act 442 = .ok (.iadd, 1) := by decide +kernel
theorem dL_act_443 : decode cL_act 443 = .ok (.iaload, 1) := by decide +kernel
theorem dL_act_444 : decode cL_act 444 = .ok (.invokevirtual 134, 3) := by decide +kernel
theorem dL_act_447 : decode cL_act 447 = .ok (.iload 12, 2) := by decide +kernel
theorem dL_act_449 : decode cL_act 449 = .ok (.if_icmp .ne 7, 3) := by decide +kernel
theorem dL_act_452 : decode cL_act 452 = .ok (.iconst 1, 1) := by decide +kernel
theorem dL_act_453 : decode cL_act 453 = .ok (.goto 4, 3) := by decide +kernel
theorem dL_act_456 : decode cL_act 456 = .ok (.iconst 0, 1) := by decide +kernel
theorem dL_act_457 : decode cL_act 457 = .ok (.ireturn, 1) := by decide +kernel
theorem dL_act_458 : decode cL_act 458 = .ok (.iload_n 1, 1) := by decide +kernel
theorem dL_act_459 : decode cL_act 459 = .ok (.bipush 11, 2) := by decide +kernel
theorem dL_act_461 : decode cL_act 461 = .ok (.if_icmp .ge 107, 3) := by decide +kernel
theorem dL_act_464 : decode cL_act 464 = .ok (.iload 11, 2) := by decide +kernel
theorem dL_act_466 : decode cL_act 466 = .ok (.aload 6, 2) := by decide +kernel
theorem dL_act_468 : decode cL_act 468 = .ok (.invokestatic 44, 3) := by decide +kernel
theorem dL_act_471 : decode cL_act 471 = .ok (.istore 12, 2) := by decide +kernel
theorem dL_act_473 : decode cL_act 473 = .ok (.iload 12, 2) := by decide +kernel
theorem dL_act_475 : decode cL_act 475 = .ok (.ifCond .lt 10, 3) := by decide +kernel
theorem dL_act_478 : decode cL_act 478 = .ok (.iload 12, 2) := by decide +kernel
theorem dL_act_480 : decode cL_act 480 = .ok (.aload 6, 2) := by decide +kernel
theorem dL_act_482 : decode cL_act 482 = .ok (.invokestatic 22, 3) := by decide +kernel
theorem dL_act_485 : decode cL_act 485 = .ok (.iload_n 2, 1) := by decide +kernel
theorem dL_act_486 : decode cL_act 486 = .ok (.aload 6, 2) := by decide +kernel
theorem dL_act_488 : decode cL_act 488 = .ok (.iconst 0, 1) := by decide +kernel
theorem dL_act_489 : decode cL_act 489 = .ok (.iaload, 1) := by decide +kernel
theorem dL_act_490 : decode cL_act 490 = .ok (.iconst 1, 1) := by decide +kernel
theorem dL_act_491 : decode cL_act 491 = .ok (.iadd, 1) := by decide +kernel
theorem dL_act_492 : decode cL_act 492 = .ok (.invokestatic 69, 3) := by decide +kernel
theorem dL_act_495 : decode cL_act 495 = .ok (.istore 13, 2) := by decide +kernel
theorem dL_act_497 : decode cL_act 497 = .ok (.aload 6, 2) := by decide +kernel
theorem dL_act_499 : decode cL_act 499 = .ok (.iconst 0, 1) := by decide +kernel
theorem dL_act_500 : decode cL_act 500 = .ok (.dup2, 1) := by decide +kernel
theorem dL_act_501 : decode cL_act 501 = .ok (.iaload, 1) := by decide +kernel
theorem dL_act_502 : decode cL_act 502 = .ok (.iconst 1, 1) := by decide +kernel
theorem dL_act_503 : decode cL_act 503 = .ok (.iadd, 1) := by decide +kernel
theorem dL_act_504 : decode cL_act 504 = .ok (.iastore, 1) := by decide +kernel
theorem dL_act_505 : decode cL_act 505 = .ok (.aload 6, 2) := by decide +kernel
theorem dL_act_507 : decode cL_act 507 = .ok (.iconst 0, 1) := by decide +kernel
theorem dL_act_508 : decode cL_act 508 = .ok (.iaload, 1) := by decide +kernel
theorem dL_act_509 : decode cL_act 509 = .ok (.istore 14, 2) := by decide +kernel
theorem dL_act_511 : decode cL_act 511 = .ok (.iload 14, 2) := by decide +kernel
theorem dL_act_513 : decode cL_act 513 = .ok (.iload 13, 2) := by decide +kernel
theorem dL_act_515 : decode cL_act 515 = .ok (.iconst 1, 1) := by decide +kernel
theorem dL_act_516 : decode cL_act 516 = .ok (.iadd, 1) := by decide +kernel
theorem dL_act_517 : decode cL_act 517 = .ok (.if_icmp .le 21, 3) := by decide +kernel
theorem dL_act_520 : decode cL_act 520 = .ok (.aload 6, 2) := by decide +kernel
theorem dL_act_522 : decode cL_act 522 = .ok (.iload 14, 2) := by decide +kernel
theorem dL_act_524 : decode cL_act 524 = .ok (.aload 6, 2) := by decide +kernel
theorem dL_act_526 : decode cL_act 526 = .ok (.iload 14, 2) := by decide +kernel
theorem dL_act_528 : decode cL_act 528 = .ok (.iconst 1, 1) := by decide +kernel
theorem dL_act_529 : decode cL_act 529 = .ok (.isub, 1) := by decide +kernel
theorem dL_act_530 : decode cL_act 530 = .ok (.iaload, 1) := by decide +kernel
theorem dL_act_531 : decode cL_act 531 = .ok (.iastore, 1) := by decide +kernel
theorem dL_act_532 : decode cL_act 532 = .ok (.iinc 14 (-1), 3) := by decide +kernel
theorem dL_act_535 : decode cL_act 535 = .ok (.goto (-24), 3) := by decide +kernel
theorem dL_act_538 : decode cL_act 538 = .ok (.aload 6, 2) := by decide +kernel
theorem dL_act_540 : decode cL_act 540 = .ok (.iload 13, 2) := by decide +kernel
theorem dL_act_542 : decode cL_act 542 = .ok (.iconst 1, 1) := by decide +kernel
theorem dL_act_543 : decode cL_act 543 = .ok (.iadd, 1) := by decide +kernel
theorem dL_act_544 : decode cL_act 544 = .ok (.iload 11, 2) := by decide +kernel
theorem dL_act_546 : decode cL_act 546 = .ok (.iastore, 1) := by decide +kernel
theorem dL_act_547 : decode cL_act 547 = .ok (.aload_n 0, 1) := by decide +kernel
theorem dL_act_548 : decode cL_act 548 = .ok (.iload 11, 2) := by decide +kernel
theorem dL_act_550 : decode cL_act 550 = .ok (.iload 13, 2) := by decide +kernel
theorem dL_act_552 : decode cL_act 552 = .ok (.invokevirtual 137, 3) := by decide +kernel
theorem dL_act_555 : decode cL_act 555 = .ok (.aload 6, 2) := by decide +kernel
theorem dL_act_557 : decode cL_act 557 = .ok (.iconst 0, 1) := by decide +kernel
theorem dL_act_558 : decode cL_act 558 = .ok (.iaload, 1) := by decide +kernel
theorem dL_act_559 : decode cL_act 559 = .ok (.if_icmp .ne 7, 3) := by decide +kernel
theorem dL_act_562 : decode cL_act 562 = .ok (.iconst 1, 1) := by decide +kernel
theorem dL_act_563 : decode cL_act 563 = .ok (.goto 4, 3) := by decide +kernel
theorem dL_act_566 : decode cL_act 566 = .ok (.iconst 0, 1) := by decide +kernel
theorem dL_act_567 : decode cL_act 567 = .ok (.ireturn, 1) := by decide +kernel
theorem dL_act_568 : decode cL_act 568 = .ok (.iload_n 1, 1) := by decide +kernel
theorem dL_act_569 : decode cL_act 569 = .ok (.bipush 11, 2) := by decide +kernel
theorem dL_act_571 : decode cL_act 571 = .ok (.if_icmp .ne 43, 3) := by decide +kernel
theorem dL_act_574 : decode cL_act 574 = .ok (.iload 11, 2) := by decide +kernel
theorem dL_act_576 : decode cL_act 576 = .ok (.aload 6, 2) := by decide +kernel
theorem dL_act_578 : decode cL_act 578 = .ok (.invokestatic 44, 3) := by decide +kernel
theorem dL_act_581 : decode cL_act 581 = .ok (.istore 12, 2) := by decide +kernel
theorem dL_act_583 : decode cL_act 583 = .ok (.iload 12, 2) := by decide +kernel
theorem dL_act_585 : decode cL_act 585 = .ok (.ifCond .ge 5, 3) := by decide +kernel
theorem dL_act_588 : decode cL_act 588 = .ok (.iconst 1, 1) := by decide +kernel
theorem dL_act_589 : decode cL_act 589 = .ok (.ireturn, 1) := by decide +kernel
theorem dL_act_590 : decode cL_act 590 = .ok (.iload 12, 2) := by decide +kernel
theorem dL_act_592 : decode cL_act 592 = .ok (.aload 6, 2) := by decide +kernel
theorem dL_act_594 : decode cL_act 594 = .ok (.invokestatic 22, 3) := by decide +kernel
theorem dL_act_597 : decode cL_act 597 = .ok (.aload_n 0, 1) := by decide +kernel
theorem dL_act_598 : decode cL_act 598 = .ok (.iload 11, 2) := by decide +kernel
theorem dL_act_600 : decode cL_act 600 = .ok (.invokevirtual 140, 3) := by decide +kernel
theorem dL_act_603 : decode cL_act 603 = .ok (.iload 12, 2) := by decide +kernel
theorem dL_act_605 : decode cL_act 605 = .ok (.if_icmp .ne 7, 3) := by decide +kernel
theorem dL_act_608 : decode cL_act 608 = .ok (.iconst 1, 1) := by decide +kernel
theorem dL_act_609 : decode cL_act 609 = .ok (.goto 4, 3) := by decide +kernel
theorem dL_act_612 : decode cL_act 612 = .ok (.iconst 0, 1) := by decide +kernel
theorem dL_act_613 : decode cL_act 613 = .ok (.ireturn, 1) := by decide +kernel
theorem dL_act_614 : decode cL_act 614 = .ok (.iload_n 1, 1) := by decide +kernel
theorem dL_act_615 : decode cL_act 615 = .ok (.bipush 14, 2) := by decide +kernel
theorem dL_act_617 : decode cL_act 617 = .ok (.if_icmp .ge 81, 3) := by decide +kernel
theorem dL_act_620 : decode cL_act 620 = .ok (.aload 10, 2) := by decide +kernel
theorem dL_act_622 : decode cL_act 622 = .ok (.bipush 7, 2) := by decide +kernel
theorem dL_act_624 : decode cL_act 624 = .ok (.iaload, 1) := by decide +kernel
theorem dL_act_625 : decode cL_act 625 = .ok (.bipush 10, 2) := by decide +kernel
theorem dL_act_627 : decode cL_act 627 = .ok (.if_icmp .ne 5, 3) := by decide +kernel
theorem dL_act_630 : decode cL_act 630 = .ok (.iconst 1, 1) := by decide +kernel
theorem dL_act_631 : decode cL_act 631 = .ok (.ireturn, 1) := by decide +kernel
theorem dL_act_632 : decode cL_act 632 = .ok (.aload 5, 2) := by decide +kernel
theorem dL_act_634 : decode cL_act 634 = .ok (.iconst 2, 1) := by decide +kernel
theorem dL_act_635 : decode cL_act 635 = .ok (.aload 10, 2) := by decide +kernel
theorem dL_act_637 : decode cL_act 637 = .ok (.bipush 7, 2) := by decide +kernel
theorem dL_act_639 : decode cL_act 639 = .ok (.iaload, 1) := by decide +kernel
theorem dL_act_640 : decode cL_act 640 = .ok (.imul, 1) := by decide +kernel
theorem dL_act_641 : decode cL_act 641 = .ok (.iload 11, 2) := by decide +kernel
theorem dL_act_643 : decode cL_act 643 = .ok (.iastore, 1) := by decide +kernel
theorem dL_act_644 : decode cL_act 644 = .ok (.aload 5, 2) := by decide +kernel
theorem dL_act_646 : decode cL_act 646 = .ok (.iconst 2, 1) := by decide +kernel
theorem dL_act_647 : decode cL_act 647 = .ok (.aload 10, 2) := by decide +kernel
theorem dL_act_649 : decode cL_act 649 = .ok (.bipush 7, 2) := by decide +kernel
theorem dL_act_651 : decode cL_act 651 = .ok (.iaload, 1) := by decide +kernel
theorem dL_act_652 : decode cL_act 652 = .ok (.imul, 1) := by decide +kernel
theorem dL_act_653 : decode cL_act 653 = .ok (.iconst 1, 1) := by decide +kernel
theorem dL_act_654 : decode cL_act 654 = .ok (.iadd, 1) := by decide +kernel
theorem dL_act_655 : decode cL_act 655 = .ok (.aload 4, 2) := by decide +kernel
theorem dL_act_657 : decode cL_act 657 = .ok (.bipush 7, 2) := by decide +kernel
theorem dL_act_659 : decode cL_act 659 = .ok (.iload 11, 2) := by decide +kernel
theorem dL_act_661 : decode cL_act 661 = .ok (.imul, 1) := by decide +kernel
theorem dL_act_662 : decode cL_act 662 = .ok (.iconst 1, 1) := by decide +kernel
theorem dL_act_663 : decode cL_act 663 = .ok (.iadd, 1) := by decide +kernel
theorem dL_act_664 : decode cL_act 664 = .ok (.iaload, 1) := by decide +kernel
theorem dL_act_665 : decode cL_act 665 = .ok (.bipush 10, 2) := by decide +kernel
theorem dL_act_667 : decode cL_act 667 = .ok (.idiv, 1) := by decide +kernel
theorem dL_act_668 : decode cL_act 668 = .ok (.iastore, 1) := by decide +kernel
theorem dL_act_669 : decode cL_act 669 = .ok (.aload 10, 2) := by decide +kernel
theorem dL_act_671 : decode cL_act 671 = .ok (.bipush 7, 2) := by decide +kernel
theorem dL_act_673 : decode cL_act 673 = .ok (.dup2, 1) := by decide +kernel
theorem dL_act_674 : decode cL_act 674 = .ok (.iaload, 1) := by decide +kernel
theorem dL_act_675 : decode cL_act 675 = .ok (.iconst 1, 1) := by decide +kernel
theorem dL_act_676 : decode cL_act 676 = .ok (.iadd, 1) := by decide +kernel
theorem dL_act_677 : decode cL_act 677 = .ok (.iastore, 1) := by decide +kernel
theorem dL_act_678 : decode cL_act 678 = .ok (.aload_n 0, 1) := by decide +kernel
theorem dL_act_679 : decode cL_act 679 = .ok (.iload 11, 2) := by decide +kernel
theorem dL_act_681 : decode cL_act 681 = .ok (.invokevirtual 143, 3) := by decide +kernel
theorem dL_act_684 : decode cL_act 684 = .ok (.aload 10, 2) := by decide +kernel
theorem dL_act_686 : decode cL_act 686 = .ok (.bipush 7, 2) := by decide +kernel
theorem dL_act_688 : decode cL_act 688 = .ok (.iaload, 1) := by decide +kernel
theorem dL_act_689 : decode cL_act 689 = .ok (.if_icmp .ne 7, 3) := by decide +kernel
theorem dL_act_692 : decode cL_act 692 = .ok (.iconst 1, 1) := by decide +kernel
theorem dL_act_693 : decode cL_act 693 = .ok (.goto 4, 3) := by decide +kernel
theorem dL_act_696 : decode cL_act 696 = .ok (.iconst 0, 1) := by decide +kernel
theorem dL_act_697 : decode cL_act 697 = .ok (.ireturn, 1) := by decide +kernel
theorem dL_act_698 : decode cL_act 698 = .ok (.iconst 1, 1) := by decide +kernel
theorem dL_act_699 : decode cL_act 699 = .ok (.iload_n 2, 1) := by decide +kernel
theorem dL_act_700 : decode cL_act 700 = .ok (.iload_n 1, 1) := by decide +kernel
theorem dL_act_701 : decode cL_act 701 = .ok (.bipush 14, 2) := by decide +kernel
theorem dL_act_703 : decode cL_act 703 = .ok (.if_icmp .ne 8, 3) := by decide +kernel
theorem dL_act_706 : decode cL_act 706 = .ok (.bipush 40, 2) := by decide +kernel
theorem dL_act_708 : decode cL_act 708 = .ok (.goto 5, 3) := by decide +kernel
theorem dL_act_711 : decode cL_act 711 = .ok (.bipush 6, 2) := by decide +kernel
theorem dL_act_713 : decode cL_act 713 = .ok (.invokestatic 69, 3) := by decide +kernel
theorem dL_act_716 : decode cL_act 716 = .ok (.iadd, 1) := by decide +kernel
theorem dL_act_717 : decode cL_act 717 = .ok (.istore 12, 2) := by decide +kernel
theorem dL_act_719 : decode cL_act 719 = .ok (.iconst 0, 1) := by decide +kernel
theorem dL_act_720 : decode cL_act 720 = .ok (.istore 13, 2) := by decide +kernel
theorem dL_act_722 : decode cL_act 722 = .ok (.iconst 0, 1) := by decide +kernel
theorem dL_act_723 : decode cL_act 723 = .ok (.istore 14, 2) := by decide +kernel
theorem dL_act_725 : decode cL_act 725 = .ok (.iload 14, 2) := by decide +kernel
theorem dL_act_727 : decode cL_act 727 = .ok (.iload 12, 2) := by decide +kernel
theorem dL_act_729 : decode cL_act 729 = .ok (.if_icmp .ge 31, 3) := by decide +kernel
theorem dL_act_732 : decode cL_act 732 = .ok (.iload 13, 2) := by decide +kernel
theorem dL_act_734 : decode cL_act 734 = .ok (.aload 4, 2) := by decide +kernel
theorem dL_act_736 : decode cL_act 736 = .ok (.aload 5, 2) := by decide +kernel
theorem dL_act_738 : decode cL_act 738 = .ok (.aload 6, 2) := by decide +kernel
theorem dL_act_740 : decode cL_act 740 = .ok (.aload 7, 2) := by decide +kernel
theorem dL_act_742 : decode cL_act 742 = .ok (.aload 8, 2) := by decide +kernel
theorem dL_act_744 : decode cL_act 744 = .ok (.aload 9, 2) := by decide +kernel
theorem dL_act_746 : decode cL_act 746 = .ok (.aload 10, 2) := by decide +kernel
theorem dL_act_748 : decode cL_act 748 = .ok (.invokestatic 87, 3) := by decide +kernel
theorem dL_act_751 : decode cL_act 751 = .ok (.iadd, 1) := by decide +kernel
theorem dL_act_752 : decode cL_act 752 = .ok (.istore 13, 2) := by decide +kernel
theorem dL_act_754 : decode cL_act 754 = .ok (.iinc 14 1, 3) := by decide +kernel
theorem dL_act_757 : decode cL_act 757 = .ok (.goto (-32), 3) := by decide +kernel
theorem dL_act_760 : decode cL_act 760 = .ok (.aload_n 0, 1) := by decide +kernel
theorem dL_act_761 : decode cL_act 761 = .ok (.iload 12, 2) := by decide +kernel
theorem dL_act_763 : decode cL_act 763 = .ok (.invokevirtual 146, 3) := by decide +kernel
theorem dL_act_766 : decode cL_act 766 = .ok (.iload 13, 2) := by decide +kernel
theorem dL_act_768 : decode cL_act 768 = .ok (.if_icmp .ne 7, 3) := by decide +kernel
theorem dL_act_771 : decode cL_act 771 = .ok (.iconst 1, 1) := by decide +kernel
theorem dL_act_772 : decode cL_act 772 = .ok (.goto 4, 3) := by decide +kernel
theorem dL_act_775 : decode cL_act 775 = .ok (.iconst 0, 1) := by decide +kernel
theorem dL_act_776 : decode cL_act 776 = .ok (.ireturn, 1) := by decide +kernel
theorem dL_law_0 : decode cL_law 0 = .ok (.new 39, 3) := by decide +kernel
theorem dL_law_3 : decode cL_law 3 = .ok (.dup, 1) := by decide +kernel
theorem dL_law_4 : decode cL_law 4 = .ok (.invokespecial 149, 3) := by decide +kernel
theorem dL_law_7 : decode cL_law 7 = .ok (.astore_n 1, 1) := by decide +kernel
theorem dL_law_8 : decode cL_law 8 = .ok (.bipush 42, 2) := by decide +kernel
theorem dL_law_10 : decode cL_law 10 = .ok (.newarray .int, 2) := by decide +kernel
theorem dL_law_12 : decode cL_law 12 = .ok (.astore_n 2, 1) := by decide +kernel
theorem dL_law_13 : decode cL_law 13 = .ok (.bipush 22, 2) := by decide +kernel
theorem dL_law_15 : decode cL_law 15 = .ok (.newarray .int, 2) := by decide +kernel
theorem dL_law_17 : decode cL_law 17 = .ok (.astore_n 3, 1) := by decide +kernel
theorem dL_law_18 : decode cL_law 18 = .ok (.bipush 9, 2) := by decide +kernel
theorem dL_law_20 : decode cL_law 20 = .ok (.newarray .int, 2) := by decide +kernel
theorem dL_law_22 : decode cL_law 22 = .ok (.astore 4, 2) := by decide +kernel
theorem dL_law_24 : decode cL_law 24 = .ok (.bipush 50, 2) := by decide +kernel
theorem dL_law_26 : decode cL_law 26 = .ok (.newarray .int, 2) := by decide +kernel
theorem dL_law_28 : decode cL_law 28 = .ok (.astore 5, 2) := by decide +kernel
theorem dL_law_30 : decode cL_law 30 = .ok (.bipush 7, 2) := by decide +kernel
theorem dL_law_32 : decode cL_law 32 = .ok (.newarray .int, 2) := by decide +kernel
theorem dL_law_34 : decode cL_law 34 = .ok (.astore 6, 2) := by decide +kernel
theorem dL_law_36 : decode cL_law 36 = .ok (.bipush 16, 2) := by decide +kernel
theorem dL_law_38 : decode cL_law 38 = .ok (.newarray .int, 2) := by decide +kernel
theorem dL_law_40 : decode cL_law 40 = .ok (.astore 7, 2) := by decide +kernel
theorem dL_law_42 : decode cL_law 42 = .ok (.bipush 14, 2) := by decide +kernel
theorem dL_law_44 : decode cL_law 44 = .ok (.newarray .int, 2) := by decide +kernel
theorem dL_law_46 : decode cL_law 46 = .ok (.astore 8, 2) := by decide +kernel
theorem dL_law_48 : decode cL_law 48 = .ok (.aload 6, 2) := by decide +kernel
theorem dL_law_50 : decode cL_law 50 = .ok (.iconst 0, 1) := by decide +kernel
theorem dL_law_51 : decode cL_law 51 = .ok (.bipush 16, 2) := by decide +kernel
theorem dL_law_53 : decode cL_law 53 = .ok (.iastore, 1) := by decide +kernel
theorem dL_law_54 : decode cL_law 54 = .ok (.aload 6, 2) := by decide +kernel
theorem dL_law_56 : decode cL_law 56 = .ok (.iconst 1, 1) := by decide +kernel
theorem dL_law_57 : decode cL_law 57 = .ok (.iconst 5, 1) := by decide +kernel
theorem dL_law_58 : decode cL_law 58 = .ok (.iastore, 1) := by decide +kernel
theorem dL_law_59 : decode cL_law 59 = .ok (.aload 6, 2) := by decide +kernel
theorem dL_law_61 : decode cL_law 61 = .ok (.iconst 2, 1) := by decide +kernel
theorem dL_law_62 : decode cL_law 62 = .ok (.iconst 3, 1) := by decide +kernel
theorem dL_law_63 : decode cL_law 63 = .ok (.iastore, 1) := by decide +kernel
theorem dL_law_64 : decode cL_law 64 = .ok (.aload 6, 2) := by decide +kernel
theorem dL_law_66 : decode cL_law 66 = .ok (.iconst 3, 1) := by decide +kernel
theorem dL_law_67 : decode cL_law 67 = .ok (.bipush 24, 2) := by decide +kernel
theorem dL_law_69 : decode cL_law 69 = .ok (.iastore, 1) := by decide +kernel
theorem dL_law_70 : decode cL_law 70 = .ok (.aload 6, 2) := by decide +kernel
theorem dL_law_72 : decode cL_law 72 = .ok (.iconst 4, 1) := by decide +kernel
theorem dL_law_73 : decode cL_law 73 = .ok (.iconst 2, 1) := by decide +kernel
theorem dL_law_74 : decode cL_law 74 = .ok (.iastore, 1) := by decide +kernel
theorem dL_law_75 : decode cL_law 75 = .ok (.aload 6, 2) := by decide +kernel
theorem dL_law_77 : decode cL_law 77 = .ok (.iconst 5, 1) := by decide +kernel
theorem dL_law_78 : decode cL_law 78 = .ok (.bipush 10, 2) := by decide +kernel
theorem dL_law_80 : decode cL_law 80 = .ok (.iastore, 1) := by decide +kernel
theorem dL_law_81 : decode cL_law 81 = .ok (.aload 8, 2) := by decide +kernel
theorem dL_law_83 : decode cL_law 83 = .ok (.iconst 1, 1) := by decide +kernel
theorem dL_law_84 : decode cL_law 84 = .ok (.iconst (-1), 1) := by decide +kernel
theorem dL_law_85 : decode cL_law 85 = .ok (.iastore, 1) := by decide +kernel
theorem dL_law_86 : decode cL_law 86 = .ok (.aload 8, 2) := by decide +kernel
theorem dL_law_88 : decode cL_law 88 = .ok (.iconst 4, 1) := by decide +kernel
theorem dL_law_89 : decode cL_law 89 = .ok (.iconst (-1), 1) := by decide +kernel
theorem dL_law_90 : decode cL_law 90 = .ok (.iastore, 1) := by decide +kernel
theorem dL_law_91 : decode cL_law 91 = .ok (.aload_n 1, 1) := by decide +kernel
theorem dL_law_92 : decode cL_law 92 = .ok (.iconst 5, 1) := by decide +kernel
theorem dL_law_93 : decode cL_law 93 = .ok (.aload_n 2, 1) := by decide +kernel
theorem dL_law_94 : decode cL_law 94 = .ok (.aload_n 3, 1) := by decide +kernel
theorem dL_law_95 : decode cL_law 95 = .ok (.aload 4, 2) := by decide +kernel
theorem dL_law_97 : decode cL_law 97 = .ok (.aload 5, 2) := by decide +kernel
theorem dL_law_99 : decode cL_law 99 = .ok (.aload 6, 2) := by decide +kernel
theorem dL_law_101 : decode cL_law 101 = .ok (.aload 7, 2) := by decide +kernel
theorem dL_law_103 : decode cL_law 103 = .ok (.aload 8, 2) := by decide +kernel
theorem dL_law_105 : decode cL_law 105 = .ok (.invokestatic 150, 3) := by decide +kernel
theorem dL_law_108 : decode cL_law 108 = .ok (.ifCond .eq 18, 3) := by decide +kernel
theorem dL_law_111 : decode cL_law 111 = .ok (.aload_n 1, 1) := by decide +kernel
theorem dL_law_112 : decode cL_law 112 = .ok (.invokevirtual 91, 3) := by decide +kernel
theorem dL_law_115 : decode cL_law 115 = .ok (.ifCond .ne 11, 3) := by decide +kernel
theorem dL_law_118 : decode cL_law 118 = .ok (.aload_n 1, 1) := by decide +kernel
theorem dL_law_119 : decode cL_law 119 = .ok (.invokevirtual 98, 3) := by decide +kernel
theorem dL_law_122 : decode cL_law 122 = .ok (.iconst (-1), 1) := by decide +kernel
theorem dL_law_123 : decode cL_law 123 = .ok (.if_icmp .eq 5, 3) := by decide +kernel
theorem dL_law_126 : decode cL_law 126 = .ok (.iconst 0, 1) := by decide +kernel
theorem dL_law_127 : decode cL_law 127 = .ok (.ireturn, 1) := by decide +kernel
theorem dL_law_128 : decode cL_law 128 = .ok (.iconst 0, 1) := by decide +kernel
theorem dL_law_129 : decode cL_law 129 = .ok (.istore 9, 2) := by decide +kernel
theorem dL_law_131 : decode cL_law 131 = .ok (.iload 9, 2) := by decide +kernel
theorem dL_law_133 : decode cL_law 133 = .ok (.bipush 26, 2) := by decide +kernel
theorem dL_law_135 : decode cL_law 135 = .ok (.if_icmp .ge 175, 3) := by decide +kernel
theorem dL_law_138 : decode cL_law 138 = .ok (.aload_n 0, 1) := by decide +kernel
theorem dL_law_139 : decode cL_law 139 = .ok (.iconst 2, 1) := by decide +kernel
theorem dL_law_140 : decode cL_law 140 = .ok (.iload 9, 2) := by decide +kernel
theorem dL_law_142 : decode cL_law 142 = .ok (.imul, 1) := by decide +kernel
theorem dL_law_143 : decode cL_law 143 = .ok (.invokestatic 154, 3) := by decide +kernel
theorem dL_law_146 : decode cL_law 146 = .ok (.ldc 158, 2) := by decide +kernel
theorem dL_law_148 : decode cL_law 148 = .ok (.iand, 1) := by decide +kernel
theorem dL_law_149 : decode cL_law 149 = .ok (.istore 10, 2) := by decide +kernel
theorem dL_law_151 : decode cL_law 151 = .ok (.aload_n 0, 1) := by decide +kernel
theorem dL_law_152 : decode cL_law 152 = .ok (.iconst 2, 1) := by decide +kernel
theorem dL_law_153 : decode cL_law 153 = .ok (.iload 9, 2) := by decide +kernel
theorem dL_law_155 : decode cL_law 155 = .ok (.imul, 1) := by decide +kernel
theorem dL_law_156 : decode cL_law 156 = .ok (.iconst 1, 1) := by decide +kernel
theorem dL_law_157 : decode cL_law 157 = .ok (.iadd, 1) := by decide +kernel
theorem dL_law_158 : decode cL_law 158 = .ok (.invokestatic 154, 3) := by decide +kernel
theorem dL_law_161 : decode cL_law 161 = .ok (.ldc 158, 2) := by decide +kernel
theorem dL_law_163 : decode cL_law 163 = .ok (.iand, 1) := by decide +kernel
theorem dL_law_164 : decode cL_law 164 = .ok (.istore 11, 2) := by decide +kernel
theorem dL_law_166 : decode cL_law 166 = .ok (.iload 9, 2) := by decide +kernel
theorem dL_law_168 : decode cL_law 168 = .ok (.iconst 3, 1) := by decide +kernel
theorem dL_law_169 : decode cL_law 169 = .ok (.if_icmp .ge 7, 3) := by decide +kernel
theorem dL_law_172 : decode cL_law 172 = .ok (.iconst 4, 1) := by decide +kernel
theorem dL_law_173 : decode cL_law 173 = .ok (.goto 46, 3) := by decide +kernel
theorem dL_law_176 : decode cL_law 176 = .ok (.iload 9, 2) := by decide +kernel
theorem dL_law_178 : decode cL_law 178 = .ok (.iconst 3, 1) := by decide +kernel
theorem dL_law_179 : decode cL_law 179 = .ok (.if_icmp .ne 8, 3) := by decide +kernel
theorem dL_law_182 : decode cL_law 182 = .ok (.bipush 6, 2) := by decide +kernel
theorem dL_law_184 : decode cL_law 184 = .ok (.goto 35, 3) := by decide +kernel
theorem dL_law_187 : decode cL_law 187 = .ok (.iload 9, 2) := by decide +kernel
theorem dL_law_189 : decode cL_law 189 = .ok (.iconst 4, 1) := by decide +kernel
theorem dL_law_190 : decode cL_law 190 = .ok (.if_icmp .ne 8, 3) := by decide +kernel
theorem dL_law_193 : decode cL_law 193 = .ok (.bipush 8, 2) := by decide +kernel
theorem dL_law_195 : decode cL_law 195 = .ok (.goto 24, 3) := by decide +kernel
theorem dL_law_198 : decode cL_law 198 = .ok (.iload 9, 2) := by decide +kernel
theorem dL_law_200 : decode cL_law 200 = .ok (.iconst 5, 1) := by decide +kernel
theorem dL_law_201 : decode cL_law 201 = .ok (.if_icmp .ne 8, 3) := by decide +kernel
theorem dL_law_204 : decode cL_law 204 = .ok (.bipush 12, 2) := by decide +kernel
theorem dL_law_206 : decode cL_law 206 = .ok (.goto 13, 3) := by decide +kernel
theorem dL_law_209 : decode cL_law 209 = .ok (.iload 10, 2) := by decide +kernel
theorem dL_law_211 : decode cL_law 211 = .ok (.bipush 13, 2) := by decide +kernel
theorem dL_law_213 : decode cL_law 213 = .ok (.ishr, 1) := by decide +kernel
theorem dL_law_214 : decode cL_law 214 = .ok (.bipush 18, 2) := by decide +kernel
theorem dL_law_216 : decode cL_law 216 = .ok (.invokestatic 69, 3) := by decide +kernel
theorem dL_law_219 : decode cL_law 219 = .ok (.istore 12, 2) := by decide +kernel
theorem dL_law_221 : decode cL_law 221 = .ok (.aload_n 1, 1) := by decide +kernel
theorem dL_law_222 : decode cL_law 222 = .ok (.iload 12, 2) := by decide +kernel
theorem dL_law_224 : decode cL_law 224 = .ok (.iload 10, 2) := by decide +kernel
theorem dL_law_226 : decode cL_law 226 = .ok (.iload 11, 2) := by decide +kernel
theorem dL_law_228 : decode cL_law 228 = .ok (.aload_n 2, 1) := by decide +kernel
theorem dL_law_229 : decode cL_law 229 = .ok (.aload_n 3, 1) := by decide +kernel
theorem dL_law_230 : decode cL_law 230 = .ok (.aload 4, 2) := by decide +kernel
theorem dL_law_232 : decode cL_law 232 = .ok (.aload 5, 2) := by decide +kernel
theorem dL_law_234 : decode cL_law 234 = .ok (.aload 6, 2) := by decide +kernel
theorem dL_law_236 : decode cL_law 236 = .ok (.aload 7, 2) := by decide +kernel
theorem dL_law_238 : decode cL_law 238 = .ok (.aload 8, 2) := by decide +kernel
theorem dL_law_240 : decode cL_law 240 = .ok (.invokestatic 159, 3) := by decide +kernel
theorem dL_law_243 : decode cL_law 243 = .ok (.ifCond .eq 26, 3) := by decide +kernel
theorem dL_law_246 : decode cL_law 246 = .ok (.aload_n 1, 1) := by decide +kernel
theorem dL_law_247 : decode cL_law 247 = .ok (.iload 11, 2) := by decide +kernel
theorem dL_law_249 : decode cL_law 249 = .ok (.iconst 2, 1) := by decide +kernel
theorem dL_law_250 : decode cL_law 250 = .ok (.ishr, 1) := by decide +kernel
theorem dL_law_251 : decode cL_law 251 = .ok (.aload_n 2, 1) := by decide +kernel
theorem dL_law_252 : decode cL_law 252 = .ok (.aload_n 3, 1) := by decide +kernel
theorem dL_law_253 : decode cL_law 253 = .ok (.aload 4, 2) := by decide +kernel
theorem dL_law_255 : decode cL_law 255 = .ok (.aload 5, 2) := by decide +kernel
theorem dL_law_257 : decode cL_law 257 = .ok (.aload 6, 2) := by decide +kernel
theorem dL_law_259 : decode cL_law 259 = .ok (.aload 7, 2) := by decide +kernel
theorem dL_law_261 : decode cL_law 261 = .ok (.aload 8, 2) := by decide +kernel
theorem dL_law_263 : decode cL_law 263 = .ok (.invokestatic 150, 3) := by decide +kernel
theorem dL_law_266 : decode cL_law 266 = .ok (.ifCond .ne 5, 3) := by decide +kernel
theorem dL_law_269 : decode cL_law 269 = .ok (.iconst 0, 1) := by decide +kernel
theorem dL_law_270 : decode cL_law 270 = .ok (.ireturn, 1) := by decide +kernel
theorem dL_law_271 : decode cL_law 271 = .ok (.iload 9, 2) := by decide +kernel
theorem dL_law_273 : decode cL_law 273 = .ok (.iconst 4, 1) := by decide +kernel
theorem dL_law_274 : decode cL_law 274 = .ok (.irem, 1) := by decide +kernel
theorem dL_law_275 : decode cL_law 275 = .ok (.iconst 3, 1) := by decide +kernel
theorem dL_law_276 : decode cL_law 276 = .ok (.if_icmp .ne 28, 3) := by decide +kernel
theorem dL_law_279 : decode cL_law 279 = .ok (.aload_n 1, 1) := by decide +kernel
theorem dL_law_280 : decode cL_law 280 = .ok (.iload 11, 2) := by decide +kernel
theorem dL_law_282 : decode cL_law 282 = .ok (.iconst 3, 1) := by decide +kernel
theorem dL_law_283 : decode cL_law 283 = .ok (.ishr, 1) := by decide +kernel
theorem dL_law_284 : decode cL_law 284 = .ok (.aload_n 2, 1) := by decide +kernel
theorem dL_law_285 : decode cL_law 285 = .ok (.aload_n 3, 1) := by decide +kernel
theorem dL_law_286 : decode cL_law 286 = .ok (.aload 4, 2) := by decide +kernel
theorem dL_law_288 : decode cL_law 288 = .ok (.aload 5, 2) := by decide +kernel
theorem dL_law_290 : decode cL_law 290 = .ok (.aload 6, 2) := by decide +kernel
theorem dL_law_292 : decode cL_law 292 = .ok (.aload 7, 2) := by decide +kernel
theorem dL_law_294 : decode cL_law 294 = .ok (.aload 8, 2) := by decide +kernel
theorem dL_law_296 : decode cL_law 296 = .ok (.invokestatic 163, 3) := by decide +kernel
theorem dL_law_299 : decode cL_law 299 = .ok (.ifCond .ne 5, 3) := by decide +kernel
theorem dL_law_302 : decode cL_law 302 = .ok (.iconst 0, 1) := by decide +kernel
theorem dL_law_303 : decode cL_law 303 = .ok (.ireturn, 1) := by decide +kernel
theorem dL_law_304 : decode cL_law 304 = .ok (.iinc 9 1, 3) := by decide +kernel
theorem dL_law_307 : decode cL_law 307 = .ok (.goto (-176), 3) := by decide +kernel
theorem dL_law_310 : decode cL_law 310 = .ok (.aload_n 1, 1) := by decide +kernel
theorem dL_law_311 : decode cL_law 311 = .ok (.bipush 14, 2) := by decide +kernel
theorem dL_law_313 : decode cL_law 313 = .ok (.invokevirtual 63, 3) := by decide +kernel
theorem dL_law_316 : decode cL_law 316 = .ok (.ifCond .le 7, 3) := by decide +kernel
theorem dL_law_319 : decode cL_law 319 = .ok (.iconst 1, 1) := by decide +kernel
theorem dL_law_320 : decode cL_law 320 = .ok (.goto 4, 3) := by decide +kernel
theorem dL_law_323 : decode cL_law 323 = .ok (.iconst 0, 1) := by decide +kernel
theorem dL_law_324 : decode cL_law 324 = .ok (.ireturn, 1) := by decide +kernel
end
section
theorem dX0_init_0 : decode cX0_init 0 = .ok (.aload_n 0, 1) := by decide +kernel
theorem dX0_init_1 : decode cX0_init 1 = .ok (.invokespecial 3, 3) := by decide +kernel
theorem dX0_init_4 : decode cX0_init 4 = .ok (.aload_n 0, 1) := by decide +kernel
theorem dX0_init_5 : decode cX0_init 5 = .ok (.bipush 6, 2) := by decide +kernel
theorem dX0_init_7 : decode cX0_init 7 = .ok (.newarray .int, 2) := by decide +kernel
theorem dX0_init_9 : decode cX0_init 9 = .ok (.putfield 9, 3) := by decide +kernel
theorem dX0_init_12 : decode cX0_init 12 = .ok (.aload_n 0, 1) := by decide +kernel
theorem dX0_init_13 : decode cX0_init 13 = .ok (.bipush 6, 2) := by decide +kernel
theorem dX0_init_15 : decode cX0_init 15 = .ok (.newarray .int, 2) := by decide +kernel
theorem dX0_init_17 : decode cX0_init 17 = .ok (.putfield 15, 3) := by decide +kernel
theorem dX0_init_20 : decode cX0_init 20 = .ok (.aload_n 0, 1) := by decide +kernel
theorem dX0_init_21 : decode cX0_init 21 = .ok (.iconst 0, 1) := by decide +kernel
theorem dX0_init_22 : decode cX0_init 22 = .ok (.putfield 18, 3) := by decide +kernel
theorem dX0_init_25 : decode cX0_init 25 = .ok (.return_, 1) := by decide +kernel
theorem dX0_copyFrom_0 : decode cX0_copyFrom 0 = .ok (.aload_n 1, 1) := by decide +kernel
theorem dX0_copyFrom_1 : decode cX0_copyFrom 1 = .ok (.getfield 9, 3) := by decide +kernel
theorem dX0_copyFrom_4 : decode cX0_copyFrom 4 = .ok (.iconst 0, 1) := by decide +kernel
theorem dX0_copyFrom_5 : decode cX0_copyFrom 5 = .ok (.aload_n 0, 1) := by decide +kernel
theorem dX0_copyFrom_6 : decode cX0_copyFrom 6 = .ok (.getfield 9, 3) := by decide +kernel
theorem dX0_copyFrom_9 : decode cX0_copyFrom 9 = .ok (.iconst 0, 1) := by decide +kernel
theorem dX0_copyFrom_10 : decode cX0_copyFrom 10 = .ok (.bipush 6, 2) := by decide +kernel
theorem dX0_copyFrom_12 : decode cX0_copyFrom 12 = .ok (.invokestatic 22, 3) := by decide +kernel
theorem dX0_copyFrom_15 : decode cX0_copyFrom 15 = .ok (.aload_n 1, 1) := by decide +kernel
theorem dX0_copyFrom_16 : decode cX0_copyFrom 16 = .ok (.getfield 15, 3) := by decide +kernel
theorem dX0_copyFrom_19 : decode cX0_copyFrom 19 = .ok (.iconst 0, 1) := by decide +kernel
theorem dX0_copyFrom_20 : decode cX0_copyFrom 20 = .ok (.aload_n 0, 1) := by decide +kernel
theorem dX0_copyFrom_21 : decode cX0_copyFrom 21 = .ok (.getfield 15, 3) := by decide +kernel
theorem dX0_copyFrom_24 : decode cX0_copyFrom 24 = .ok (.iconst 0, 1) := by decide +kernel
theorem dX0_copyFrom_25 : decode cX0_copyFrom 25 = .ok (.bipush 6, 2) := by decide +kernel
theorem dX0_copyFrom_27 : decode cX0_copyFrom 27 = .ok (.invokestatic 22, 3) := by decide +kernel
theorem dX0_copyFrom_30 : decode cX0_copyFrom 30 = .ok (.aload_n 0, 1) := by decide +kernel
theorem dX0_copyFrom_31 : decode cX0_copyFrom 31 = .ok (.aload_n 1, 1) := by decide +kernel
theorem dX0_copyFrom_32 : decode cX0_copyFrom 32 = .ok (.getfield 18, 3) := by decide +kernel
theorem dX0_copyFrom_35 : decode cX0_copyFrom 35 = .ok (.putfield 18, 3) := by decide +kernel
theorem dX0_copyFrom_38 : decode cX0_copyFrom 38 = .ok (.return_, 1) := by decide +kernel
theorem dX0_isFull_0 : decode cX0_isFull 0 = .ok (.aload_n 0, 1) := by decide +kernel
theorem dX0_isFull_1 : decode cX0_isFull 1 = .ok (.getfield 18, 3) := by decide +kernel
theorem dX0_isFull_4 : decode cX0_isFull 4 = .ok (.bipush 6, 2) := by decide +kernel
theorem dX0_isFull_6 : decode cX0_isFull 6 = .ok (.if_icmp .lt 7, 3) := by decide +kernel
theorem dX0_isFull_9 : decode cX0_isFull 9 = .ok (.iconst 1, 1) := by decide +kernel
theorem dX0_isFull_10 : decode cX0_isFull 10 = .ok (.goto 4, 3) := by decide +kernel
theorem dX0_isFull_13 : decode cX0_isFull 13 = .ok (.iconst 0, 1) := by decide +kernel
theorem dX0_isFull_14 : decode cX0_isFull 14 = .ok (.ireturn, 1) := by decide +kernel
theorem dX0_indexAt_0 : decode cX0_indexAt 0 = .ok (.iconst 0, 1) := by decide +kernel
theorem dX0_indexAt_1 : decode cX0_indexAt 1 = .ok (.istore_n 2, 1) := by decide +kernel
theorem dX0_indexAt_2 : decode cX0_indexAt 2 = .ok (.iload_n 2, 1) := by decide +kernel
theorem dX0_indexAt_3 : decode cX0_indexAt 3 = .ok (.aload_n 0, 1) := by decide +kernel
theorem dX0_indexAt_4 : decode cX0_indexAt 4 = .ok (.getfield 18, 3) := by decide +kernel
theorem dX0_indexAt_7 : decode cX0_indexAt 7 = .ok (.if_icmp .ge 21, 3) := by decide +kernel
theorem dX0_indexAt_10 : decode cX0_indexAt 10 = .ok (.aload_n 0, 1) := by decide +kernel
theorem dX0_indexAt_11 : decode cX0_indexAt 11 = .ok (.getfield 9, 3) := by decide +kernel
theorem dX0_indexAt_14 : decode cX0_indexAt 14 = .ok (.iload_n 2, 1) := by decide +kernel
theorem dX0_indexAt_15 : decode cX0_indexAt 15 = .ok (.iaload, 1) := by decide +kernel
theorem dX0_indexAt_16 : decode cX0_indexAt 16 = .ok (.iload_n 1, 1) := by decide +kernel
theorem dX0_indexAt_17 : decode cX0_indexAt 17 = .ok (.if_icmp .ne 5, 3) := by decide +kernel
theorem dX0_indexAt_20 : decode cX0_indexAt 20 = .ok (.iload_n 2, 1) := by decide +kernel
theorem dX0_indexAt_21 : decode cX0_indexAt 21 = .ok (.ireturn, 1) := by decide +kernel
theorem dX0_indexAt_22 : decode cX0_indexAt 22 = .ok (.iinc 2 1, 3) := by decide +kernel
theorem dX0_indexAt_25 : decode cX0_indexAt 25 = .ok (.goto (-23), 3) := by decide +kernel
theorem dX0_indexAt_28 : decode cX0_indexAt 28 = .ok (.iconst (-1), 1) := by decide +kernel
theorem dX0_indexAt_29 : decode cX0_indexAt 29 = .ok (.ireturn, 1) := by decide +kernel
set_option maxRecDepth 20000 in
theorem ggX0_put_X0_indexAt : GoodIn wsX0_put wsX0_indexAt := goodIn_r _ [6, 7, 8, 21, 22, 23] (by decide +kernel) (by decide +kernel)
set_option maxRecDepth 20000 in
theorem gX0_put_X0_indexAt : GoodIn wsX0_put (wsV RX0 28 RX0 yX0_indexAt wsX0_indexAt) := goodIn_app (goodIn_of _ (by decide +kernel)) ggX0_put_X0_indexAt
set_option maxRecDepth 20000 in
theorem ggX0_put_X0_removeAt : GoodIn wsX0_put wsX0_removeAt := goodIn_r _ [12, 7, 8, 1, 21, 22, 23] (by decide +kernel) (by decide +kernel)
set_option maxRecDepth 20000 in
theorem gX0_put_X0_removeAt : GoodIn wsX0_put (wsV RX0 32 RX0 yX0_removeAt wsX0_removeAt) := goodIn_app (goodIn_of _ (by decide +kernel)) ggX0_put_X0_removeAt
set_option maxRecDepth 20000 in
theorem ggX0_put_X0_insert : GoodIn wsX0_put wsX0_insert := goodIn_r _ [16, 7, 8, 1, 17, 18, 19, 5, 20, 21, 22, 23] (by decide +kernel) (by decide +kernel)
set_option maxRecDepth 20000 in
theorem gX0_put_X0_insert : GoodIn wsX0_put (wsV RX0 36 RX0 yX0_insert wsX0_insert) := goodIn_app (goodIn_of _ (by decide +kernel)) ggX0_put_X0_insert
theorem dX0_put_0 : decode cX0_put 0 = .ok (.aload_n 0, 1) := by decide +kernel
theorem dX0_put_1 : decode cX0_put 1 = .ok (.iload_n 1, 1) := by decide +kernel
theorem dX0_put_2 : decode cX0_put 2 = .ok (.invokevirtual 28, 3) := by decide +kernel
theorem dX0_put_5 : decode cX0_put 5 = .ok (.istore_n 3, 1) := by decide +kernel
theorem dX0_put_6 : decode cX0_put 6 = .ok (.iload_n 2, 1) := by decide +kernel
theorem dX0_put_7 : decode cX0_put 7 = .ok (.ifCond .ne 11, 3) := by decide +kernel
theorem dX0_put_10 : decode cX0_put 10 = .ok (.aload_n 0, 1) := by decide +kernel
theorem dX0_put_11 : decode cX0_put 11 = .ok (.iload_n 3, 1) := by decide +kernel
theorem dX0_put_12 : decode cX0_put 12 = .ok (.invokevirtual 32, 3) := by decide +kernel
theorem dX0_put_15 : decode cX0_put 15 = .ok (.goto 24, 3) := by decide +kernel
theorem dX0_put_18 : decode cX0_put 18 = .ok (.iload_n 3, 1) := by decide +kernel
theorem dX0_put_19 : decode cX0_put 19 = .ok (.iconst (-1), 1) := by decide +kernel
theorem dX0_put_20 : decode cX0_put 20 = .ok (.if_icmp .ne 12, 3) := by decide +kernel
theorem dX0_put_23 : decode cX0_put 23 = .ok (.aload_n 0, 1) := by decide +kernel
theorem dX0_put_24 : decode cX0_put 24 = .ok (.iload_n 1, 1) := by decide +kernel
theorem dX0_put_25 : decode cX0_put 25 = .ok (.iload_n 2, 1) := by decide +kernel
theorem dX0_put_26 : decode cX0_put 26 = .ok (.invokevirtual 36, 3) := by decide +kernel
theorem dX0_put_29 : decode cX0_put 29 = .ok (.goto 10, 3) := by decide +kernel
theorem dX0_put_32 : decode cX0_put 32 = .ok (.aload_n 0, 1) := by decide +kernel
theorem dX0_put_33 : decode cX0_put 33 = .ok (.getfield 15, 3) := by decide +kernel
theorem dX0_put_36 : decode cX0_put 36 = .ok (.iload_n 3, 1) := by decide +kernel
theorem dX0_put_37 : decode cX0_put 37 = .ok (.iload_n 2, 1) := by decide +kernel
theorem dX0_put_38 : decode cX0_put 38 = .ok (.iastore, 1) := by decide +kernel
theorem dX0_put_39 : decode cX0_put 39 = .ok (.return_, 1) := by decide +kernel
theorem dX0_removeAt_0 : decode cX0_removeAt 0 = .ok (.iload_n 1, 1) := by decide +kernel
theorem dX0_removeAt_1 : decode cX0_removeAt 1 = .ok (.ifCond .lt 11, 3) := by decide +kernel
theorem dX0_removeAt_4 : decode cX0_removeAt 4 = .ok (.iload_n 1, 1) := by decide +kernel
theorem dX0_removeAt_5 : decode cX0_removeAt 5 = .ok (.aload_n 0, 1) := by decide +kernel
theorem dX0_removeAt_6 : decode cX0_removeAt 6 = .ok (.getfield 18, 3) := by decide +kernel
theorem dX0_removeAt_9 : decode cX0_removeAt 9 = .ok (.if_icmp .lt 4, 3) := by decide +kernel
theorem dX0_removeAt_12 : decode cX0_removeAt 12 = .ok (.return_, 1) := by decide +kernel
theorem dX0_removeAt_13 : decode cX0_removeAt 13 = .ok (.aload_n 0, 1) := by decide +kernel
theorem dX0_removeAt_14 : decode cX0_removeAt 14 = .ok (.dup, 1) := by decide +kernel
theorem dX0_removeAt_15 : decode cX0_removeAt 15 = .ok (.getfield 18, 3) := by decide +kernel
theorem dX0_removeAt_18 : decode cX0_removeAt 18 = .ok (.iconst 1, 1) := by decide +kernel
theorem dX0_removeAt_19 : decode cX0_removeAt 19 = .ok (.isub, 1) := by decide +kernel
theorem dX0_removeAt_20 : decode cX0_removeAt 20 = .ok (.putfield 18, 3) := by decide +kernel
theorem dX0_removeAt_23 : decode cX0_removeAt 23 = .ok (.iload_n 1, 1) := by decide +kernel
theorem dX0_removeAt_24 : decode cX0_removeAt 24 = .ok (.istore_n 2, 1) := by decide +kernel
theorem dX0_removeAt_25 : decode cX0_removeAt 25 = .ok (.iload_n 2, 1) := by decide +kernel
theorem dX0_removeAt_26 : decode cX0_removeAt 26 = .ok (.aload_n 0, 1) := by decide +kernel
theorem dX0_removeAt_27 : decode cX0_removeAt 27 = .ok (.getfield 18, 3) := by decide +kernel
theorem dX0_removeAt_30 : decode cX0_removeAt 30 = .ok (.if_icmp .ge 37, 3) := by decide +kernel
theorem dX0_removeAt_33 : decode cX0_removeAt 33 = .ok (.aload_n 0, 1) := by decide +kernel
theorem dX0_removeAt_34 : decode cX0_removeAt 34 = .ok (.getfield 9, 3) := by decide +kernel
theorem dX0_removeAt_37 : decode cX0_removeAt 37 = .ok (.iload_n 2, 1) := by decide +kernel
theorem dX0_removeAt_38 : decode cX0_removeAt 38 = .ok (.aload_n 0, 1) := by decide +kernel
theorem dX0_removeAt_39 : decode cX0_removeAt 39 = .ok (.getfield 9, 3) := by decide +kernel
theorem dX0_removeAt_42 : decode cX0_removeAt 42 = .ok (.iload_n 2, 1) := by decide +kernel
theorem dX0_removeAt_43 : decode cX0_removeAt 43 = .ok (.iconst 1, 1) := by decide +kernel
theorem dX0_removeAt_44 : decode cX0_removeAt 44 = .ok (.iadd, 1) := by decide +kernel
theorem dX0_removeAt_45 : decode cX0_removeAt 45 = .ok (.iaload, 1) := by decide +kernel
theorem dX0_removeAt_46 : decode cX0_removeAt 46 = .ok (.iastore, 1) := by decide +kernel
theorem dX0_removeAt_47 : decode cX0_removeAt 47 = .ok (.aload_n 0, 1) := by decide +kernel
theorem dX0_removeAt_48 : decode cX0_removeAt 48 = .ok (.getfield 15, 3) := by decide +kernel
theorem dX0_removeAt_51 : decode cX0_removeAt 51 = .ok (.iload_n 2, 1) := by decide +kernel
theorem dX0_removeAt_52 : decode cX0_removeAt 52 = .ok (.aload_n 0, 1) := by decide +kernel
theorem dX0_removeAt_53 : decode cX0_removeAt 53 = .ok (.getfield 15, 3) := by decide +kernel
theorem dX0_removeAt_56 : decode cX0_removeAt 56 = .ok (.iload_n 2, 1) := by decide +kernel
theorem dX0_removeAt_57 : decode cX0_removeAt 57 = .ok (.iconst 1, 1) := by decide +kernel
theorem dX0_removeAt_58 : decode cX0_removeAt 58 = .ok (.iadd, 1) := by decide +kernel
theorem dX0_removeAt_59 : decode cX0_removeAt 59 = .ok (.iaload, 1) := by decide +kernel
theorem dX0_removeAt_60 : decode cX0_removeAt 60 = .ok (.iastore, 1) := by decide +kernel
theorem dX0_removeAt_61 : decode cX0_removeAt 61 = .ok (.iinc 2 1, 3) := by decide +kernel
theorem dX0_removeAt_64 : decode cX0_removeAt 64 = .ok (.goto (-39), 3) := by decide +kernel
theorem dX0_removeAt_67 : decode cX0_removeAt 67 = .ok (.return_, 1) := by decide +kernel
set_option maxRecDepth 20000 in
theorem ggX0_insert_X0_isFull : GoodIn wsX0_insert wsX0_isFull := goodIn_r _ [8, 1, 9, 10, 11] (by decide +kernel) (by decide +kernel)
set_option maxRecDepth 20000 in
theorem gX0_insert_X0_isFull : GoodIn wsX0_insert (wsV RX0 40 RX0 yX0_isFull wsX0_isFull) := goodIn_app (goodIn_of _ (by decide +kernel)) ggX0_insert_X0_isFull
theorem dX0_insert_0 : decode cX0_insert 0 = .ok (.aload_n 0, 1) := by decide +kernel
theorem dX0_insert_1 : decode cX0_insert 1 = .ok (.invokevirtual 40, 3) := by decide +kernel
theorem dX0_insert_4 : decode cX0_insert 4 = .ok (.ifCond .eq 4, 3) := by decide +kernel
theorem dX0_insert_7 : decode cX0_insert 7 = .ok (.return_, 1) := by decide +kernel
theorem dX0_insert_8 : decode cX0_insert 8 = .ok (.aload_n 0, 1) := by decide +kernel
theorem dX0_insert_9 : decode cX0_insert 9 = .ok (.getfield 18, 3) := by decide +kernel
theorem dX0_insert_12 : decode cX0_insert 12 = .ok (.istore_n 3, 1) := by decide +kernel
theorem dX0_insert_13 : decode cX0_insert 13 = .ok (.aload_n 0, 1) := by decide +kernel
theorem dX0_insert_14 : decode cX0_insert 14 = .ok (.getfield 18, 3) := by decide +kernel
theorem dX0_insert_17 : decode cX0_insert 17 = .ok (.istore 4, 2) := by decide +kernel
theorem dX0_insert_19 : decode cX0_insert 19 = .ok (.iload 4, 2) := by decide +kernel
theorem dX0_insert_21 : decode cX0_insert 21 = .ok (.ifCond .le 59, 3) := by decide +kernel
theorem dX0_insert_24 : decode cX0_insert 24 = .ok (.aload_n 0, 1) := by decide +kernel
theorem dX0_insert_25 : decode cX0_insert 25 = .ok (.getfield 9, 3) := by decide +kernel
theorem dX0_insert_28 : decode cX0_insert 28 = .ok (.iload 4, 2) := by decide +kernel
theorem dX0_insert_30 : decode cX0_insert 30 = .ok (.iconst 1, 1) := by decide +kernel
theorem dX0_insert_31 : decode cX0_insert 31 = .ok (.isub, 1) := by decide +kernel
theorem dX0_insert_32 : decode cX0_insert 32 = .ok (.iaload, 1) := by decide +kernel
theorem dX0_insert_33 : decode cX0_insert 33 = .ok (.iload_n 1, 1) := by decide +kernel
theorem dX0_insert_34 : decode cX0_insert 34 = .ok (.if_icmp .le 46, 3) := by decide +kernel
theorem dX0_insert_37 : decode cX0_insert 37 = .ok (.aload_n 0, 1) := by decide +kernel
theorem dX0_insert_38 : decode cX0_insert 38 = .ok (.getfield 9, 3) := by decide +kernel
theorem dX0_insert_41 : decode cX0_insert 41 = .ok (.iload 4, 2) := by decide +kernel
theorem dX0_insert_43 : decode cX0_insert 43 = .ok (.aload_n 0, 1) := by decide +kernel
theorem dX0_insert_44 : decode cX0_insert 44 = .ok (.getfield 9, 3) := by decide +kernel
theorem dX0_insert_47 : decode cX0_insert 47 = .ok (.iload 4, 2) := by decide +kernel
theorem dX0_insert_49 : decode cX0_insert 49 = .ok (.iconst 1, 1) := by decide +kernel
theorem dX0_insert_50 : decode cX0_insert 50 = .ok (.isub, 1) := by decide +kernel
theorem dX0_insert_51 : decode cX0_insert 51 = .ok (.iaload, 1) := by decide +kernel
theorem dX0_insert_52 : decode cX0_insert 52 = .ok (.iastore, 1) := by decide +kernel
theorem dX0_insert_53 : decode cX0_insert 53 = .ok (.aload_n 0, 1) := by decide +kernel
theorem dX0_insert_54 : decode cX0_insert 54 = .ok (.getfield 15, 3) := by decide +kernel
theorem dX0_insert_57 : decode cX0_insert 57 = .ok (.iload 4, 2) := by decide +kernel
theorem dX0_insert_59 : decode cX0_insert 59 = .ok (.aload_n 0, 1) := by decide +kernel
theorem dX0_insert_60 : decode cX0_insert 60 = .ok (.getfield 15, 3) := by decide +kernel
theorem dX0_insert_63 : decode cX0_insert 63 = .ok (.iload 4, 2) := by decide +kernel
theorem dX0_insert_65 : decode cX0_insert 65 = .ok (.iconst 1, 1) := by decide +kernel
theorem dX0_insert_66 : decode cX0_insert 66 = .ok (.isub, 1) := by decide +kernel
theorem dX0_insert_67 : decode cX0_insert 67 = .ok (.iaload, 1) := by decide +kernel
theorem dX0_insert_68 : decode cX0_insert 68 = .ok (.iastore, 1) := by decide +kernel
theorem dX0_insert_69 : decode cX0_insert 69 = .ok (.iload 4, 2) := by decide +kernel
theorem dX0_insert_71 : decode cX0_insert 71 = .ok (.iconst 1, 1) := by decide +kernel
theorem dX0_insert_72 : decode cX0_insert 72 = .ok (.isub, 1) := by decide +kernel
theorem dX0_insert_73 : decode cX0_insert 73 = .ok (.istore_n 3, 1) := by decide +kernel
theorem dX0_insert_74 : decode cX0_insert 74 = .ok (.iinc 4 (-1), 3) := by decide +kernel
theorem dX0_insert_77 : decode cX0_insert 77 = .ok (.goto (-58), 3) := by decide +kernel
theorem dX0_insert_80 : decode cX0_insert 80 = .ok (.aload_n 0, 1) := by decide +kernel
theorem dX0_insert_81 : decode cX0_insert 81 = .ok (.getfield 9, 3) := by decide +kernel
theorem dX0_insert_84 : decode cX0_insert 84 = .ok (.iload_n 3, 1) := by decide +kernel
theorem dX0_insert_85 : decode cX0_insert 85 = .ok (.iload_n 1, 1) := by decide +kernel
theorem dX0_insert_86 : decode cX0_insert 86 = .ok (.iastore, 1) := by decide +kernel
theorem dX0_insert_87 : decode cX0_insert 87 = .ok (.aload_n 0, 1) := by decide +kernel
theorem dX0_insert_88 : decode cX0_insert 88 = .ok (.getfield 15, 3) := by decide +kernel
theorem dX0_insert_91 : decode cX0_insert 91 = .ok (.iload_n 3, 1) := by decide +kernel
theorem dX0_insert_92 : decode cX0_insert 92 = .ok (.iload_n 2, 1) := by decide +kernel
theorem dX0_insert_93 : decode cX0_insert 93 = .ok (.iastore, 1) := by decide +kernel
theorem dX0_insert_94 : decode cX0_insert 94 = .ok (.aload_n 0, 1) := by decide +kernel
theorem dX0_insert_95 : decode cX0_insert 95 = .ok (.dup, 1) := by decide +kernel
theorem dX0_insert_96 : decode cX0_insert 96 = .ok (.getfield 18, 3) := by decide +kernel
theorem dX0_insert_99 : decode cX0_insert 99 = .ok (.iconst 1, 1) := by decide +kernel
theorem dX0_insert_100 : decode cX0_insert 100 = .ok (.iadd, 1) := by decide +kernel
theorem dX0_insert_101 : decode cX0_insert 101 = .ok (.putfield 18, 3) := by decide +kernel
theorem dX0_insert_104 : decode cX0_insert 104 = .ok (.return_, 1) := by decide +kernel
theorem dX0_countBetween_0 : decode cX0_countBetween 0 = .ok (.iconst 0, 1) := by decide +kernel
theorem dX0_countBetween_1 : decode cX0_countBetween 1 = .ok (.istore 4, 2) := by decide +kernel
theorem dX0_countBetween_3 : decode cX0_countBetween 3 = .ok (.iconst 0, 1) := by decide +kernel
theorem dX0_countBetween_4 : decode cX0_countBetween 4 = .ok (.istore 5, 2) := by decide +kernel
theorem dX0_countBetween_6 : decode cX0_countBetween 6 = .ok (.iload 5, 2) := by decide +kernel
theorem dX0_countBetween_8 : decode cX0_countBetween 8 = .ok (.aload_n 0, 1) := by decide +kernel
theorem dX0_countBetween_9 : decode cX0_countBetween 9 = .ok (.getfield 18, 3) := by decide +kernel
theorem dX0_countBetween_12 : decode cX0_countBetween 12 = .ok (.if_icmp .ge 45, 3) := by decide +kernel
theorem dX0_countBetween_15 : decode cX0_countBetween 15 = .ok (.aload_n 0, 1) := by decide +kernel
theorem dX0_countBetween_16 : decode cX0_countBetween 16 = .ok (.getfield 9, 3) := by decide +kernel
theorem dX0_countBetween_19 : decode cX0_countBetween 19 = .ok (.iload 5, 2) := by decide +kernel
theorem dX0_countBetween_21 : decode cX0_countBetween 21 = .ok (.iaload, 1) := by decide +kernel
theorem dX0_countBetween_22 : decode cX0_countBetween 22 = .ok (.iload_n 1, 1) := by decide +kernel
theorem dX0_countBetween_23 : decode cX0_countBetween 23 = .ok (.if_icmp .le 28, 3) := by decide +kernel
theorem dX0_countBetween_26 : decode cX0_countBetween 26 = .ok (.aload_n 0, 1) := by decide +kernel
theorem dX0_countBetween_27 : decode cX0_countBetween 27 = .ok (.getfield 9, 3) := by decide +kernel
theorem dX0_countBetween_30 : decode cX0_countBetween 30 = .ok (.iload 5, 2) := by decide +kernel
theorem dX0_countBetween_32 : decode cX0_countBetween 32 = .ok (.iaload, 1) := by decide +kernel
theorem dX0_countBetween_33 : decode cX0_countBetween 33 = .ok (.iload_n 2, 1) := by decide +kernel
theorem dX0_countBetween_34 : decode cX0_countBetween 34 = .ok (.if_icmp .ge 17, 3) := by decide +kernel
theorem dX0_countBetween_37 : decode cX0_countBetween 37 = .ok (.aload_n 0, 1) := by decide +kernel
theorem dX0_countBetween_38 : decode cX0_countBetween 38 = .ok (.getfield 15, 3) := by decide +kernel
theorem dX0_countBetween_41 : decode cX0_countBetween 41 = .ok (.iload 5, 2) := by decide +kernel
theorem dX0_countBetween_43 : decode cX0_countBetween 43 = .ok (.iaload, 1) := by decide +kernel
theorem dX0_countBetween_44 : decode cX0_countBetween 44 = .ok (.iload_n 3, 1) := by decide +kernel
theorem dX0_countBetween_45 : decode cX0_countBetween 45 = .ok (.if_icmp .le 6, 3) := by decide +kernel
theorem dX0_countBetween_48 : decode cX0_countBetween 48 = .ok (.iinc 4 1, 3) := by decide +kernel
theorem dX0_countBetween_51 : decode cX0_countBetween 51 = .ok (.iinc 5 1, 3) := by decide +kernel
theorem dX0_countBetween_54 : decode cX0_countBetween 54 = .ok (.goto (-48), 3) := by decide +kernel
theorem dX0_countBetween_57 : decode cX0_countBetween 57 = .ok (.iload 4, 2) := by decide +kernel
theorem dX0_countBetween_59 : decode cX0_countBetween 59 = .ok (.ireturn, 1) := by decide +kernel
theorem dX1_init_0 : decode cX1_init 0 = .ok (.aload_n 0, 1) := by decide +kernel
theorem dX1_init_1 : decode cX1_init 1 = .ok (.invokespecial 3, 3) := by decide +kernel
theorem dX1_init_4 : decode cX1_init 4 = .ok (.aload_n 0, 1) := by decide +kernel
theorem dX1_init_5 : decode cX1_init 5 = .ok (.iconst 0, 1) := by decide +kernel
theorem dX1_init_6 : decode cX1_init 6 = .ok (.putfield 9, 3) := by decide +kernel
theorem dX1_init_9 : decode cX1_init 9 = .ok (.aload_n 0, 1) := by decide +kernel
theorem dX1_init_10 : decode cX1_init 10 = .ok (.iconst 0, 1) := by decide +kernel
theorem dX1_init_11 : decode cX1_init 11 = .ok (.putfield 15, 3) := by decide +kernel
theorem dX1_init_14 : decode cX1_init 14 = .ok (.aload_n 0, 1) := by decide +kernel
theorem dX1_init_15 : decode cX1_init 15 = .ok (.iconst (-1), 1) := by decide +kernel
theorem dX1_init_16 : decode cX1_init 16 = .ok (.putfield 18, 3) := by decide +kernel
theorem dX1_init_19 : decode cX1_init 19 = .ok (.aload_n 0, 1) := by decide +kernel
theorem dX1_init_20 : decode cX1_init 20 = .ok (.iconst 0, 1) := by decide +kernel
theorem dX1_init_21 : decode cX1_init 21 = .ok (.putfield 21, 3) := by decide +kernel
theorem dX1_init_24 : decode cX1_init 24 = .ok (.aload_n 0, 1) := by decide +kernel
theorem dX1_init_25 : decode cX1_init 25 = .ok (.iconst (-1), 1) := by decide +kernel
theorem dX1_init_26 : decode cX1_init 26 = .ok (.putfield 24, 3) := by decide +kernel
theorem dX1_init_29 : decode cX1_init 29 = .ok (.return_, 1) := by decide +kernel
theorem dX1_copyFrom_0 : decode cX1_copyFrom 0 = .ok (.aload_n 0, 1) := by decide +kernel
theorem dX1_copyFrom_1 : decode cX1_copyFrom 1 = .ok (.aload_n 1, 1) := by decide +kernel
theorem dX1_copyFrom_2 : decode cX1_copyFrom 2 = .ok (.getfield 9, 3) := by decide +kernel
theorem dX1_copyFrom_5 : decode cX1_copyFrom 5 = .ok (.putfield 9, 3) := by decide +kernel
theorem dX1_copyFrom_8 : decode cX1_copyFrom 8 = .ok (.aload_n 0, 1) := by decide +kernel
theorem dX1_copyFrom_9 : decode cX1_copyFrom 9 = .ok (.aload_n 1, 1) := by decide +kernel
theorem dX1_copyFrom_10 : decode cX1_copyFrom 10 = .ok (.getfield 15, 3) := by decide +kernel
theorem dX1_copyFrom_13 : decode cX1_copyFrom 13 = .ok (.putfield 15, 3) := by decide +kernel
theorem dX1_copyFrom_16 : decode cX1_copyFrom 16 = .ok (.aload_n 0, 1) := by decide +kernel
theorem dX1_copyFrom_17 : decode cX1_copyFrom 17 = .ok (.aload_n 1, 1) := by decide +kernel
theorem dX1_copyFrom_18 : decode cX1_copyFrom 18 = .ok (.getfield 18, 3) := by decide +kernel
theorem dX1_copyFrom_21 : decode cX1_copyFrom 21 = .ok (.putfield 18, 3) := by decide +kernel
theorem dX1_copyFrom_24 : decode cX1_copyFrom 24 = .ok (.aload_n 0, 1) := by decide +kernel
theorem dX1_copyFrom_25 : decode cX1_copyFrom 25 = .ok (.aload_n 1, 1) := by decide +kernel
theorem dX1_copyFrom_26 : decode cX1_copyFrom 26 = .ok (.getfield 21, 3) := by decide +kernel
theorem dX1_copyFrom_29 : decode cX1_copyFrom 29 = .ok (.putfield 21, 3) := by decide +kernel
theorem dX1_copyFrom_32 : decode cX1_copyFrom 32 = .ok (.aload_n 0, 1) := by decide +kernel
theorem dX1_copyFrom_33 : decode cX1_copyFrom 33 = .ok (.aload_n 1, 1) := by decide +kernel
theorem dX1_copyFrom_34 : decode cX1_copyFrom 34 = .ok (.getfield 24, 3) := by decide +kernel
theorem dX1_copyFrom_37 : decode cX1_copyFrom 37 = .ok (.putfield 24, 3) := by decide +kernel
theorem dX1_copyFrom_40 : decode cX1_copyFrom 40 = .ok (.return_, 1) := by decide +kernel
theorem dX1_isOnWay_0 : decode cX1_isOnWay 0 = .ok (.aload_n 0, 1) := by decide +kernel
theorem dX1_isOnWay_1 : decode cX1_isOnWay 1 = .ok (.getfield 18, 3) := by decide +kernel
theorem dX1_isOnWay_4 : decode cX1_isOnWay 4 = .ok (.iconst (-1), 1) := by decide +kernel
theorem dX1_isOnWay_5 : decode cX1_isOnWay 5 = .ok (.if_icmp .eq 7, 3) := by decide +kernel
theorem dX1_isOnWay_8 : decode cX1_isOnWay 8 = .ok (.iconst 1, 1) := by decide +kernel
theorem dX1_isOnWay_9 : decode cX1_isOnWay 9 = .ok (.goto 4, 3) := by decide +kernel
theorem dX1_isOnWay_12 : decode cX1_isOnWay 12 = .ok (.iconst 0, 1) := by decide +kernel
theorem dX1_isOnWay_13 : decode cX1_isOnWay 13 = .ok (.ireturn, 1) := by decide +kernel
theorem dX1_driveTo_0 : decode cX1_driveTo 0 = .ok (.aload_n 0, 1) := by decide +kernel
theorem dX1_driveTo_1 : decode cX1_driveTo 1 = .ok (.iconst 0, 1) := by decide +kernel
theorem dX1_driveTo_2 : decode cX1_driveTo 2 = .ok (.aload_n 0, 1) := by decide +kernel
theorem dX1_driveTo_3 : decode cX1_driveTo 3 = .ok (.getfield 18, 3) := by decide +kernel
theorem dX1_driveTo_6 : decode cX1_driveTo 6 = .ok (.iload_n 1, 1) := by decide +kernel
theorem dX1_driveTo_7 : decode cX1_driveTo 7 = .ok (.if_icmp .ne 10, 3) := by decide +kernel
theorem dX1_driveTo_10 : decode cX1_driveTo 10 = .ok (.aload_n 0, 1) := by decide +kernel
theorem dX1_driveTo_11 : decode cX1_driveTo 11 = .ok (.getfield 15, 3) := by decide +kernel
theorem dX1_driveTo_14 : decode cX1_driveTo 14 = .ok (.goto 4, 3) := by decide +kernel
theorem dX1_driveTo_17 : decode cX1_driveTo 17 = .ok (.iload_n 3, 1) := by decide +kernel
theorem dX1_driveTo_18 : decode cX1_driveTo 18 = .ok (.iconst 1, 1) := by decide +kernel
theorem dX1_driveTo_19 : decode cX1_driveTo 19 = .ok (.isub, 1) := by decide +kernel
theorem dX1_driveTo_20 : decode cX1_driveTo 20 = .ok (.invokestatic 27, 3) := by decide +kernel
theorem dX1_driveTo_23 : decode cX1_driveTo 23 = .ok (.putfield 15, 3) := by decide +kernel
theorem dX1_driveTo_26 : decode cX1_driveTo 26 = .ok (.aload_n 0, 1) := by decide +kernel
theorem dX1_driveTo_27 : decode cX1_driveTo 27 = .ok (.iload_n 1, 1) := by decide +kernel
theorem dX1_driveTo_28 : decode cX1_driveTo 28 = .ok (.putfield 18, 3) := by decide +kernel
theorem dX1_driveTo_31 : decode cX1_driveTo 31 = .ok (.aload_n 0, 1) := by decide +kernel
theorem dX1_driveTo_32 : decode cX1_driveTo 32 = .ok (.getfield 15, 3) := by decide +kernel
theorem dX1_driveTo_35 : decode cX1_driveTo 35 = .ok (.ifCond .ne 13, 3) := by decide +kernel
theorem dX1_driveTo_38 : decode cX1_driveTo 38 = .ok (.aload_n 0, 1) := by decide +kernel
theorem dX1_driveTo_39 : decode cX1_driveTo 39 = .ok (.iload_n 2, 1) := by decide +kernel
theorem dX1_driveTo_40 : decode cX1_driveTo 40 = .ok (.putfield 9, 3) := by decide +kernel
theorem dX1_driveTo_43 : decode cX1_driveTo 43 = .ok (.aload_n 0, 1) := by decide +kernel
theorem dX1_driveTo_44 : decode cX1_driveTo 44 = .ok (.iconst (-1), 1) := by decide +kernel
theorem dX1_driveTo_45 : decode cX1_driveTo 45 = .ok (.putfield 18, 3) := by decide +kernel
theorem dX1_driveTo_48 : decode cX1_driveTo 48 = .ok (.return_, 1) := by decide +kernel
theorem dX1_workAnHourOn_0 : decode cX1_workAnHourOn 0 = .ok (.aload_n 0, 1) := by decide +kernel
theorem dX1_workAnHourOn_1 : decode cX1_workAnHourOn 1 = .ok (.iload_n 1, 1) := by decide +kernel
theorem dX1_workAnHourOn_2 : decode cX1_workAnHourOn 2 = .ok (.putfield 24, 3) := by decide +kernel
theorem dX1_workAnHourOn_5 : decode cX1_workAnHourOn 5 = .ok (.aload_n 0, 1) := by decide +kernel
theorem dX1_workAnHourOn_6 : decode cX1_workAnHourOn 6 = .ok (.dup, 1) := by decide +kernel
theorem dX1_workAnHourOn_7 : decode cX1_workAnHourOn 7 = .ok (.getfield 21, 3) := by decide +kernel
theorem dX1_workAnHourOn_10 : decode cX1_workAnHourOn 10 = .ok (.iconst 1, 1) := by decide +kernel
theorem dX1_workAnHourOn_11 : decode cX1_workAnHourOn 11 = .ok (.iadd, 1) := by decide +kernel
theorem dX1_workAnHourOn_12 : decode cX1_workAnHourOn 12 = .ok (.putfield 21, 3) := by decide +kernel
theorem dX1_workAnHourOn_15 : decode cX1_workAnHourOn 15 = .ok (.return_, 1) := by decide +kernel
theorem dX1_forgetWork_0 : decode cX1_forgetWork 0 = .ok (.aload_n 0, 1) := by decide +kernel
theorem dX1_forgetWork_1 : decode cX1_forgetWork 1 = .ok (.iconst (-1), 1) := by decide +kernel
theorem dX1_forgetWork_2 : decode cX1_forgetWork 2 = .ok (.putfield 24, 3) := by decide +kernel
theorem dX1_forgetWork_5 : decode cX1_forgetWork 5 = .ok (.aload_n 0, 1) := by decide +kernel
theorem dX1_forgetWork_6 : decode cX1_forgetWork 6 = .ok (.iconst 0, 1) := by decide +kernel
theorem dX1_forgetWork_7 : decode cX1_forgetWork 7 = .ok (.putfield 21, 3) := by decide +kernel
theorem dX1_forgetWork_10 : decode cX1_forgetWork 10 = .ok (.return_, 1) := by decide +kernel
theorem dX1_workOn_0 : decode cX1_workOn 0 = .ok (.iload_n 1, 1) := by decide +kernel
theorem dX1_workOn_1 : decode cX1_workOn 1 = .ok (.aload_n 0, 1) := by decide +kernel
theorem dX1_workOn_2 : decode cX1_workOn 2 = .ok (.getfield 24, 3) := by decide +kernel
theorem dX1_workOn_5 : decode cX1_workOn 5 = .ok (.if_icmp .ne 10, 3) := by decide +kernel
theorem dX1_workOn_8 : decode cX1_workOn 8 = .ok (.aload_n 0, 1) := by decide +kernel
theorem dX1_workOn_9 : decode cX1_workOn 9 = .ok (.getfield 21, 3) := by decide +kernel
theorem dX1_workOn_12 : decode cX1_workOn 12 = .ok (.goto 4, 3) := by decide +kernel
theorem dX1_workOn_15 : decode cX1_workOn 15 = .ok (.iconst 0, 1) := by decide +kernel
theorem dX1_workOn_16 : decode cX1_workOn 16 = .ok (.ireturn, 1) := by decide +kernel
set_option maxRecDepth 20000 in
theorem ggX2_init_X0_init : GoodIn wsX2_init wsX0_init := goodIn_r _ [38, 39, 2, 3, 27, 40, 41, 42, 80, 81, 82] (by decide +kernel) (by decide +kernel)
set_option maxRecDepth 20000 in
theorem gX2_init_X0_init_n23 : GoodIn wsX2_init (wsX0_init) := ggX2_init_X0_init
set_option maxRecDepth 20000 in
theorem ggX2_init_X3_init : GoodIn wsX2_init wsX3_init := goodIn_r _ [44, 45, 2, 3, 27, 46, 47, 48, 83, 84, 85] (by decide +kernel) (by decide +kernel)
set_option maxRecDepth 20000 in
theorem gX2_init_X3_init_n30 : GoodIn wsX2_init (wsX3_init) := ggX2_init_X3_init
set_option maxRecDepth 20000 in
theorem ggX2_init_X4_init : GoodIn wsX2_init wsX4_init := goodIn_r _ [50, 51, 2, 3, 27, 52, 53, 86, 87] (by decide +kernel) (by decide +kernel)
set_option maxRecDepth 20000 in
theorem gX2_init_X4_init_n37 : GoodIn wsX2_init (wsX4_init) := ggX2_init_X4_init
set_option maxRecDepth 20000 in
theorem ggX2_init_X1_init : GoodIn wsX2_init wsX1_init := goodIn_r _ [55, 56, 2, 3, 57, 58, 59, 60, 61, 88, 89, 90, 91, 92] (by decide +kernel) (by decide +kernel)
set_option maxRecDepth 20000 in
theorem gX2_init_X1_init_n44 : GoodIn wsX2_init (wsX1_init) := ggX2_init_X1_init
set_option maxRecDepth 20000 in
theorem ggX2_init_X7_init : GoodIn wsX2_init wsX7_init := goodIn_r _ [63, 64, 2, 3, 27, 65, 66, 93, 94] (by decide +kernel) (by decide +kernel)
set_option maxRecDepth 20000 in
theorem gX2_init_X7_init_n51 : GoodIn wsX2_init (wsX7_init) := ggX2_init_X7_init
set_option maxRecDepth 20000 in
theorem ggX2_init_X5_init : GoodIn wsX2_init wsX5_init := goodIn_r _ [68, 69, 2, 3] (by decide +kernel) (by decide +kernel)
set_option maxRecDepth 20000 in
theorem gX2_init_X5_init_n66 : GoodIn wsX2_init (wsX5_init) := ggX2_init_X5_init
theorem dX2_init_0 : decode cX2_init 0 = .ok (.aload_n 0, 1) := by decide +kernel
theorem dX2_init_1 : decode cX2_init 1 = .ok (.invokespecial 3, 3) := by decide +kernel
theorem dX2_init_4 : decode cX2_init 4 = .ok (.aload_n 0, 1) := by decide +kernel
theorem dX2_init_5 : decode cX2_init 5 = .ok (.bipush 10, 2) := by decide +kernel
theorem dX2_init_7 : decode cX2_init 7 = .ok (.anewarray 9, 3) := by decide +kernel
theorem dX2_init_10 : decode cX2_init 10 = .ok (.putfield 11, 3) := by decide +kernel
theorem dX2_init_13 : decode cX2_init 13 = .ok (.aload_n 0, 1) := by decide +kernel
theorem dX2_init_14 : decode cX2_init 14 = .ok (.iconst 0, 1) := by decide +kernel
theorem dX2_init_15 : decode cX2_init 15 = .ok (.putfield 17, 3) := by decide +kernel
theorem dX2_init_18 : decode cX2_init 18 = .ok (.aload_n 0, 1) := by decide +kernel
theorem dX2_init_19 : decode cX2_init 19 = .ok (.new 21, 3) := by decide +kernel
theorem dX2_init_22 : decode cX2_init 22 = .ok (.dup, 1) := by decide +kernel
theorem dX2_init_23 : decode cX2_init 23 = .ok (.invokespecial 23, 3) := by decide +kernel
theorem dX2_init_26 : decode cX2_init 26 = .ok (.putfield 24, 3) := by decide +kernel
theorem dX2_init_29 : decode cX2_init 29 = .ok (.aload_n 0, 1) := by decide +kernel
theorem dX2_init_30 : decode cX2_init 30 = .ok (.new 28, 3) := by decide +kernel
theorem dX2_init_33 : decode cX2_init 33 = .ok (.dup, 1) := by decide +kernel
theorem dX2_init_34 : decode cX2_init 34 = .ok (.invokespecial 30, 3) := by decide +kernel
theorem dX2_init_37 : decode cX2_init 37 = .ok (.putfield 31, 3) := by decide +kernel
theorem dX2_init_40 : decode cX2_init 40 = .ok (.aload_n 0, 1) := by decide +kernel
theorem dX2_init_41 : decode cX2_init 41 = .ok (.new 35, 3) := by decide +kernel
theorem dX2_init_44 : decode cX2_init 44 = .ok (.dup, 1) := by decide +kernel
theorem dX2_init_45 : decode cX2_init 45 = .ok (.invokespecial 37, 3) := by decide +kernel
theorem dX2_init_48 : decode cX2_init 48 = .ok (.putfield 38, 3) := by decide +kernel
theorem dX2_init_51 : decode cX2_init 51 = .ok (.aload_n 0, 1) := by decide +kernel
theorem dX2_init_52 : decode cX2_init 52 = .ok (.new 42, 3) := by decide +kernel
theorem dX2_init_55 : decode cX2_init 55 = .ok (.dup, 1) := by decide +kernel
theorem dX2_init_56 : decode cX2_init 56 = .ok (.invokespecial 44, 3) := by decide +kernel
theorem dX2_init_59 : decode cX2_init 59 = .ok (.putfield 45, 3) := by decide +kernel
theorem dX2_init_62 : decode cX2_init 62 = .ok (.aload_n 0, 1) := by decide +kernel
theorem dX2_init_63 : decode cX2_init 63 = .ok (.new 49, 3) := by decide +kernel
theorem dX2_init_66 : decode cX2_init 66 = .ok (.dup, 1) := by decide +kernel
theorem dX2_init_67 : decode cX2_init 67 = .ok (.invokespecial 51, 3) := by decide +kernel
theorem dX2_init_70 : decode cX2_init 70 = .ok (.putfield 52, 3) := by decide +kernel
theorem dX2_init_73 : decode cX2_init 73 = .ok (.aload_n 0, 1) := by decide +kernel
theorem dX2_init_74 : decode cX2_init 74 = .ok (.bipush 7, 2) := by decide +kernel
theorem dX2_init_76 : decode cX2_init 76 = .ok (.newarray .int, 2) := by decide +kernel
theorem dX2_init_78 : decode cX2_init 78 = .ok (.putfield 56, 3) := by decide +kernel
theorem dX2_init_81 : decode cX2_init 81 = .ok (.aload_n 0, 1) := by decide +kernel
theorem dX2_init_82 : decode cX2_init 82 = .ok (.iconst 5, 1) := by decide +kernel
theorem dX2_init_83 : decode cX2_init 83 = .ok (.newarray .int, 2) := by decide +kernel
theorem dX2_init_85 : decode cX2_init 85 = .ok (.putfield 60, 3) := by decide +kernel
theorem dX2_init_88 : decode cX2_init 88 = .ok (.aload_n 0, 1) := by decide +kernel
theorem dX2_init_89 : decode cX2_init 89 = .ok (.iconst 0, 1) := by decide +kernel
theorem dX2_init_90 : decode cX2_init 90 = .ok (.putfield 63, 3) := by decide +kernel
theorem dX2_init_93 : decode cX2_init 93 = .ok (.iconst 0, 1) := by decide +kernel
theorem dX2_init_94 : decode cX2_init 94 = .ok (.istore_n 1, 1) := by decide +kernel
theorem dX2_init_95 : decode cX2_init 95 = .ok (.iload_n 1, 1) := by decide +kernel
theorem dX2_init_96 : decode cX2_init 96 = .ok (.bipush 10, 2) := by decide +kernel
theorem dX2_init_98 : decode cX2_init 98 = .ok (.if_icmp .ge 22, 3) := by decide +kernel
theorem dX2_init_101 : decode cX2_init 101 = .ok (.aload_n 0, 1) := by decide +kernel
theorem dX2_init_102 : decode cX2_init 102 = .ok (.getfield 11, 3) := by decide +kernel
theorem dX2_init_105 : decode cX2_init 105 = .ok (.iload_n 1, 1) := by decide +kernel
theorem dX2_init_106 : decode cX2_init 106 = .ok (.new 9, 3) := by decide +kernel
theorem dX2_init_109 : decode cX2_init 109 = .ok (.dup, 1) := by decide +kernel
theorem dX2_init_110 : decode cX2_init 110 = .ok (.invokespecial 66, 3) := by decide +kernel
theorem dX2_init_113 : decode cX2_init 113 = .ok (.aastore, 1) := by decide +kernel
theorem dX2_init_114 : decode cX2_init 114 = .ok (.iinc 1 1, 3) := by decide +kernel
theorem dX2_init_117 : decode cX2_init 117 = .ok (.goto (-22), 3) := by decide +kernel
theorem dX2_init_120 : decode cX2_init 120 = .ok (.getstatic 67, 3) := by decide +kernel
theorem dX2_init_123 : decode cX2_init 123 = .ok (.iconst 0, 1) := by decide +kernel
theorem dX2_init_124 : decode cX2_init 124 = .ok (.aload_n 0, 1) := by decide +kernel
theorem dX2_init_125 : decode cX2_init 125 = .ok (.getfield 56, 3) := by decide +kernel
theorem dX2_init_128 : decode cX2_init 128 = .ok (.iconst 0, 1) := by decide +kernel
theorem dX2_init_129 : decode cX2_init 129 = .ok (.bipush 7, 2) := by decide +kernel
theorem dX2_init_131 : decode cX2_init 131 = .ok (.invokestatic 70, 3) := by decide +kernel
theorem dX2_init_134 : decode cX2_init 134 = .ok (.return_, 1) := by decide +kernel
set_option maxRecDepth 20000 in
theorem ggX2_copyFrom_X5_copyFrom : GoodIn wsX2_copyFrom wsX5_copyFrom := goodIn_r _ [19, 20, 21, 22, 23, 24, 25, 26, 81, 82, 83, 84, 85, 86, 87] (by decide +kernel) (by decide +kernel)
set_option maxRecDepth 20000 in
theorem gX2_copyFrom_X5_copyFrom : GoodIn wsX2_copyFrom (wsV RX2 76 RX5 yX5_copyFrom wsX5_copyFrom) := goodIn_app (goodIn_of _ (by decide +kernel)) ggX2_copyFrom_X5_copyFrom
set_option maxRecDepth 20000 in
theorem ggX2_copyFrom_X0_copyFrom : GoodIn wsX2_copyFrom wsX0_copyFrom := goodIn_r _ [31, 32, 33, 10, 11, 12, 34, 35, 88, 89, 90] (by decide +kernel) (by decide +kernel)
set_option maxRecDepth 20000 in
theorem gX2_copyFrom_X0_copyFrom : GoodIn wsX2_copyFrom (wsV RX2 80 RX0 yX0_copyFrom wsX0_copyFrom) := goodIn_app (goodIn_of _ (by decide +kernel)) ggX2_copyFrom_X0_copyFrom
set_option maxRecDepth 20000 in
theorem ggX2_copyFrom_X3_copyFrom : GoodIn wsX2_copyFrom wsX3_copyFrom := goodIn_r _ [40, 41, 42, 10, 11, 12, 43, 44, 91, 92, 93] (by decide +kernel) (by decide +kernel)
set_option maxRecDepth 20000 in
theorem gX2_copyFrom_X3_copyFrom : GoodIn wsX2_copyFrom (wsV RX2 83 RX3 yX3_copyFrom wsX3_copyFrom) := goodIn_app (goodIn_of _ (by decide +kernel)) ggX2_copyFrom_X3_copyFrom
set_option maxRecDepth 20000 in
theorem ggX2_copyFrom_X4_copyFrom : GoodIn wsX2_copyFrom wsX4_copyFrom := goodIn_r _ [49, 50, 51, 10, 11, 12, 52, 94, 95] (by decide +kernel) (by decide +kernel)
set_option maxRecDepth 20000 in
theorem gX2_copyFrom_X4_copyFrom : GoodIn wsX2_copyFrom (wsV RX2 86 RX4 yX4_copyFrom wsX4_copyFrom) := goodIn_app (goodIn_of _ (by decide +kernel)) ggX2_copyFrom_X4_copyFrom
set_option maxRecDepth 20000 in
theorem ggX2_copyFrom_X1_copyFrom : GoodIn wsX2_copyFrom wsX1_copyFrom := goodIn_r _ [57, 58, 59, 60, 61, 62, 96, 97, 98, 99, 100] (by decide +kernel) (by decide +kernel)
set_option maxRecDepth 20000 in
theorem gX2_copyFrom_X1_copyFrom : GoodIn wsX2_copyFrom (wsV RX2 89 RX1 yX1_copyFrom wsX1_copyFrom) := goodIn_app (goodIn_of _ (by decide +kernel)) ggX2_copyFrom_X1_copyFrom
set_option maxRecDepth 20000 in
theorem ggX2_copyFrom_X7_copyFrom : GoodIn wsX2_copyFrom wsX7_copyFrom := goodIn_r _ [67, 68, 69, 10, 11, 12, 70, 101, 102] (by decide +kernel) (by decide +kernel)
set_option maxRecDepth 20000 in
theorem gX2_copyFrom_X7_copyFrom : GoodIn wsX2_copyFrom (wsV RX2 92 RX7 yX7_copyFrom wsX7_copyFrom) := goodIn_app (goodIn_of _ (by decide +kernel)) ggX2_copyFrom_X7_copyFrom
theorem dX2_copyFrom_0 : decode cX2_copyFrom 0 = .ok (.iconst 0, 1) := by decide +kernel
theorem dX2_copyFrom_1 : decode cX2_copyFrom 1 = .ok (.istore_n 2, 1) := by decide +kernel
theorem dX2_copyFrom_2 : decode cX2_copyFrom 2 = .ok (.iload_n 2, 1) := by decide +kernel
theorem dX2_copyFrom_3 : decode cX2_copyFrom 3 = .ok (.aload_n 1, 1) := by decide +kernel
theorem dX2_copyFrom_4 : decode cX2_copyFrom 4 = .ok (.getfield 17, 3) := by decide +kernel
theorem dX2_copyFrom_7 : decode cX2_copyFrom 7 = .ok (.if_icmp .ge 24, 3) := by decide +kernel
theorem dX2_copyFrom_10 : decode cX2_copyFrom 10 = .ok (.aload_n 0, 1) := by decide +kernel
theorem dX2_copyFrom_11 : decode cX2_copyFrom 11 = .ok (.getfield 11, 3) := by decide +kernel
theorem dX2_copyFrom_14 : decode cX2_copyFrom 14 = .ok (.iload_n 2, 1) := by decide +kernel
theorem dX2_copyFrom_15 : decode cX2_copyFrom 15 = .ok (.aaload, 1) := by decide +kernel
theorem dX2_copyFrom_16 : decode cX2_copyFrom 16 = .ok (.aload_n 1, 1) := by decide +kernel
theorem dX2_copyFrom_17 : decode cX2_copyFrom 17 = .ok (.getfield 11, 3) := by decide +kernel
theorem dX2_copyFrom_20 : decode cX2_copyFrom 20 = .ok (.iload_n 2, 1) := by decide +kernel
theorem dX2_copyFrom_21 : decode cX2_copyFrom 21 = .ok (.aaload, 1) := by decide +kernel
theorem dX2_copyFrom_22 : decode cX2_copyFrom 22 = .ok (.invokevirtual 76, 3) := by decide +kernel
theorem dX2_copyFrom_25 : decode cX2_copyFrom 25 = .ok (.iinc 2 1, 3) := by decide +kernel
theorem dX2_copyFrom_28 : decode cX2_copyFrom 28 = .ok (.goto (-26), 3) := by decide +kernel
theorem dX2_copyFrom_31 : decode cX2_copyFrom 31 = .ok (.aload_n 0, 1) := by decide +kernel
theorem dX2_copyFrom_32 : decode cX2_copyFrom 32 = .ok (.aload_n 1, 1) := by decide +kernel
theorem dX2_copyFrom_33 : decode cX2_copyFrom 33 = .ok (.getfield 17, 3) := by decide +kernel
theorem dX2_copyFrom_36 : decode cX2_copyFrom 36 = .ok (.putfield 17, 3) := by decide +kernel
theorem dX2_copyFrom_39 : decode cX2_copyFrom 39 = .ok (.aload_n 0, 1) := by decide +kernel
theorem dX2_copyFrom_40 : decode cX2_copyFrom 40 = .ok (.getfield 24, 3) := by decide +kernel
theorem dX2_copyFrom_43 : decode cX2_copyFrom 43 = .ok (.aload_n 1, 1) := by decide +kernel
theorem dX2_copyFrom_44 : decode cX2_copyFrom 44 = .ok (.getfield 24, 3) := by decide +kernel
theorem dX2_copyFrom_47 : decode cX2_copyFrom 47 = .ok (.invokevirtual 80, 3) := by decide +kernel
theorem dX2_copyFrom_50 : decode cX2_copyFrom 50 = .ok (.aload_n 0, 1) := by decide +kernel
theorem dX2_copyFrom_51 : decode cX2_copyFrom 51 = .ok (.getfield 31, 3) := by decide +kernel
theorem dX2_copyFrom_54 : decode cX2_copyFrom 54 = .ok (.aload_n 1, 1) := by decide +kernel
theorem dX2_copyFrom_55 : decode cX2_copyFrom 55 = .ok (.getfield 31, 3) := by decide +kernel
theorem dX2_copyFrom_58 : decode cX2_copyFrom 58 = .ok (.invokevirtual 83, 3) := by decide +kernel
theorem dX2_copyFrom_61 : decode cX2_copyFrom 61 = .ok (.aload_n 0, 1) := by decide +kernel
theorem dX2_copyFrom_62 : decode cX2_copyFrom 62 = .ok (.getfield 38, 3) := by decide +kernel
theorem dX2_copyFrom_65 : decode cX2_copyFrom 65 = .ok (.aload_n 1, 1) := by decide +kernel
theorem dX2_copyFrom_66 : decode cX2_copyFrom 66 = .ok (.getfield 38, 3) := by decide +kernel
theorem dX2_copyFrom_69 : decode cX2_copyFrom 69 = .ok (.invokevirtual 86, 3) := by decide +kernel
theorem dX2_copyFrom_72 : decode cX2_copyFrom 72 = .ok (.aload_n 0, 1) := by decide +kernel
theorem dX2_copyFrom_73 : decode cX2_copyFrom 73 = .ok (.getfield 45, 3) := by decide +kernel
theorem dX2_copyFrom_76 : decode cX2_copyFrom 76 = .ok (.aload_n 1, 1) := by decide +kernel
theorem dX2_copyFrom_77 : decode cX2_copyFrom 77 = .ok (.getfield 45, 3) := by decide +kernel
theorem dX2_copyFrom_80 : decode cX2_copyFrom 80 = .ok (.invokevirtual 89, 3) := by decide +kernel
theorem dX2_copyFrom_83 : decode cX2_copyFrom 83 = .ok (.aload_n 0, 1) := by decide +kernel
theorem dX2_copyFrom_84 : decode cX2_copyFrom 84 = .ok (.getfield 52, 3) := by decide +kernel
theorem dX2_copyFrom_87 : decode cX2_copyFrom 87 = .ok (.aload_n 1, 1) := by decide +kernel
theorem dX2_copyFrom_88 : decode cX2_copyFrom 88 = .ok (.getfield 52, 3) := by decide +kernel
theorem dX2_copyFrom_91 : decode cX2_copyFrom 91 = .ok (.invokevirtual 92, 3) := by decide +kernel
theorem dX2_copyFrom_94 : decode cX2_copyFrom 94 = .ok (.aload_n 1, 1) := by decide +kernel
theorem dX2_copyFrom_95 : decode cX2_copyFrom 95 = .ok (.getfield 56, 3) := by decide +kernel
theorem dX2_copyFrom_98 : decode cX2_copyFrom 98 = .ok (.iconst 0, 1) := by decide +kernel
theorem dX2_copyFrom_99 : decode cX2_copyFrom 99 = .ok (.aload_n 0, 1) := by decide +kernel
theorem dX2_copyFrom_100 : decode cX2_copyFrom 100 = .ok (.getfield 56, 3) := by decide +kernel
theorem dX2_copyFrom_103 : decode cX2_copyFrom 103 = .ok (.iconst 0, 1) := by decide +kernel
theorem dX2_copyFrom_104 : decode cX2_copyFrom 104 = .ok (.bipush 7, 2) := by decide +kernel
theorem dX2_copyFrom_106 : decode cX2_copyFrom 106 = .ok (.invokestatic 70, 3) := by decide +kernel
theorem dX2_copyFrom_109 : decode cX2_copyFrom 109 = .ok (.aload_n 1, 1) := by decide +kernel
theorem dX2_copyFrom_110 : decode cX2_copyFrom 110 = .ok (.getfield 60, 3) := by decide +kernel
theorem dX2_copyFrom_113 : decode cX2_copyFrom 113 = .ok (.iconst 0, 1) := by decide +kernel
theorem dX2_copyFrom_114 : decode cX2_copyFrom 114 = .ok (.aload_n 0, 1) := by decide +kernel
theorem dX2_copyFrom_115 : decode cX2_copyFrom 115 = .ok (.getfield 60, 3) := by decide +kernel
theorem dX2_copyFrom_118 : decode cX2_copyFrom 118 = .ok (.iconst 0, 1) := by decide +kernel
theorem dX2_copyFrom_119 : decode cX2_copyFrom 119 = .ok (.iconst 5, 1) := by decide +kernel
theorem dX2_copyFrom_120 : decode cX2_copyFrom 120 = .ok (.invokestatic 70, 3) := by decide +kernel
theorem dX2_copyFrom_123 : decode cX2_copyFrom 123 = .ok (.aload_n 0, 1) := by decide +kernel
theorem dX2_copyFrom_124 : decode cX2_copyFrom 124 = .ok (.aload_n 1, 1) := by decide +kernel
theorem dX2_copyFrom_125 : decode cX2_copyFrom 125 = .ok (.getfield 63, 3) := by decide +kernel
theorem dX2_copyFrom_128 : decode cX2_copyFrom 128 = .ok (.putfield 63, 3) := by decide +kernel
theorem dX2_copyFrom_131 : decode cX2_copyFrom 131 = .ok (.return_, 1) := by decide +kernel
theorem dX2_hasTurbine_0 : decode cX2_hasTurbine 0 = .ok (.iload_n 1, 1) := by decide +kernel
theorem dX2_hasTurbine_1 : decode cX2_hasTurbine 1 = .ok (.ifCond .lt 15, 3) := by decide +kernel
theorem dX2_hasTurbine_4 : decode cX2_hasTurbine 4 = .ok (.iload_n 1, 1) := by decide +kernel
theorem dX2_hasTurbine_5 : decode cX2_hasTurbine 5 = .ok (.aload_n 0, 1) := by decide +kernel
theorem dX2_hasTurbine_6 : decode cX2_hasTurbine 6 = .ok (.getfield 17, 3) := by decide +kernel
theorem dX2_hasTurbine_9 : decode cX2_hasTurbine 9 = .ok (.if_icmp .ge 7, 3) := by decide +kernel
theorem dX2_hasTurbine_12 : decode cX2_hasTurbine 12 = .ok (.iconst 1, 1) := by decide +kernel
theorem dX2_hasTurbine_13 : decode cX2_hasTurbine 13 = .ok (.goto 4, 3) := by decide +kernel
theorem dX2_hasTurbine_16 : decode cX2_hasTurbine 16 = .ok (.iconst 0, 1) := by decide +kernel
theorem dX2_hasTurbine_17 : decode cX2_hasTurbine 17 = .ok (.ireturn, 1) := by decide +kernel
theorem dX2_hasTurbineAt_0 : decode cX2_hasTurbineAt 0 = .ok (.iconst 0, 1) := by decide +kernel
theorem dX2_hasTurbineAt_1 : decode cX2_hasTurbineAt 1 = .ok (.istore_n 2, 1) := by decide +kernel
theorem dX2_hasTurbineAt_2 : decode cX2_hasTurbineAt 2 = .ok (.iload_n 2, 1) := by decide +kernel
theorem dX2_hasTurbineAt_3 : decode cX2_hasTurbineAt 3 = .ok (.aload_n 0, 1) := by decide +kernel
theorem dX2_hasTurbineAt_4 : decode cX2_hasTurbineAt 4 = .ok (.getfield 17, 3) := by decide +kernel
theorem dX2_hasTurbineAt_7 : decode cX2_hasTurbineAt 7 = .ok (.if_icmp .ge 24, 3) := by decide +kernel
theorem dX2_hasTurbineAt_10 : decode cX2_hasTurbineAt 10 = .ok (.aload_n 0, 1) := by decide +kernel
theorem dX2_hasTurbineAt_11 : decode cX2_hasTurbineAt 11 = .ok (.getfield 11, 3) := by decide +kernel
theorem dX2_hasTurbineAt_14 : decode cX2_hasTurbineAt 14 = .ok (.iload_n 2, 1) := by decide +kernel
theorem dX2_hasTurbineAt_15 : decode cX2_hasTurbineAt 15 = .ok (.aaload, 1) := by decide +kernel
theorem dX2_hasTurbineAt_16 : decode cX2_hasTurbineAt 16 = .ok (.getfield 95, 3) := by decide +kernel
theorem dX2_hasTurbineAt_19 : decode cX2_hasTurbineAt 19 = .ok (.iload_n 1, 1) := by decide +kernel
theorem dX2_hasTurbineAt_20 : decode cX2_hasTurbineAt 20 = .ok (.if_icmp .ne 5, 3) := by decide +kernel
theorem dX2_hasTurbineAt_23 : decode cX2_hasTurbineAt 23 = .ok (.iconst 1, 1) := by decide +kernel
theorem dX2_hasTurbineAt_24 : decode cX2_hasTurbineAt 24 = .ok (.ireturn, 1) := by decide +kernel
theorem dX2_hasTurbineAt_25 : decode cX2_hasTurbineAt 25 = .ok (.iinc 2 1, 3) := by decide +kernel
theorem dX2_hasTurbineAt_28 : decode cX2_hasTurbineAt 28 = .ok (.goto (-26), 3) := by decide +kernel
theorem dX2_hasTurbineAt_31 : decode cX2_hasTurbineAt 31 = .ok (.iconst 0, 1) := by decide +kernel
theorem dX2_hasTurbineAt_32 : decode cX2_hasTurbineAt 32 = .ok (.ireturn, 1) := by decide +kernel
set_option maxRecDepth 20000 in
theorem ggX2_buildTurbine_X5_begin : GoodIn wsX2_buildTurbine wsX5_begin := goodIn_r _ [7, 8, 9, 10, 11, 12, 13, 14, 25, 26, 27, 28, 29, 30, 31] (by decide +kernel) (by decide +kernel)
set_option maxRecDepth 20000 in
theorem gX2_buildTurbine_X5_begin : GoodIn wsX2_buildTurbine (wsV RX2 98 RX5 yX5_begin wsX5_begin) := goodIn_app (goodIn_of _ (by decide +kernel)) ggX2_buildTurbine_X5_begin
theorem dX2_buildTurbine_0 : decode cX2_buildTurbine 0 = .ok (.aload_n 0, 1) := by decide +kernel
theorem dX2_buildTurbine_1 : decode cX2_buildTurbine 1 = .ok (.getfield 17, 3) := by decide +kernel
theorem dX2_buildTurbine_4 : decode cX2_buildTurbine 4 = .ok (.bipush 10, 2) := by decide +kernel
theorem dX2_buildTurbine_6 : decode cX2_buildTurbine 6 = .ok (.if_icmp .lt 5, 3) := by decide +kernel
theorem dX2_buildTurbine_9 : decode cX2_buildTurbine 9 = .ok (.iconst (-1), 1) := by decide +kernel
theorem dX2_buildTurbine_10 : decode cX2_buildTurbine 10 = .ok (.ireturn, 1) := by decide +kernel
theorem dX2_buildTurbine_11 : decode cX2_buildTurbine 11 = .ok (.aload_n 0, 1) := by decide +kernel
theorem dX2_buildTurbine_12 : decode cX2_buildTurbine 12 = .ok (.getfield 11, 3) := by decide +kernel
theorem dX2_buildTurbine_15 : decode cX2_buildTurbine 15 = .ok (.aload_n 0, 1) := by decide +kernel
theorem dX2_buildTurbine_16 : decode cX2_buildTurbine 16 = .ok (.getfield 17, 3) := by decide +kernel
theorem dX2_buildTurbine_19 : decode cX2_buildTurbine 19 = .ok (.aaload, 1) := by decide +kernel
theorem dX2_buildTurbine_20 : decode cX2_buildTurbine 20 = .ok (.iload_n 1, 1) := by decide +kernel
theorem dX2_buildTurbine_21 : decode cX2_buildTurbine 21 = .ok (.iload_n 2, 1) := by decide +kernel
theorem dX2_buildTurbine_22 : decode cX2_buildTurbine 22 = .ok (.iload_n 3, 1) := by decide +kernel
theorem dX2_buildTurbine_23 : decode cX2_buildTurbine 23 = .ok (.invokevirtual 98, 3) := by decide +kernel
theorem dX2_buildTurbine_26 : decode cX2_buildTurbine 26 = .ok (.aload_n 0, 1) := by decide +kernel
theorem dX2_buildTurbine_27 : decode cX2_buildTurbine 27 = .ok (.dup, 1) := by decide +kernel
theorem dX2_buildTurbine_28 : decode cX2_buildTurbine 28 = .ok (.getfield 17, 3) := by decide +kernel
theorem dX2_buildTurbine_31 : decode cX2_buildTurbine 31 = .ok (.iconst 1, 1) := by decide +kernel
theorem dX2_buildTurbine_32 : decode cX2_buildTurbine 32 = .ok (.iadd, 1) := by decide +kernel
theorem dX2_buildTurbine_33 : decode cX2_buildTurbine 33 = .ok (.putfield 17, 3) := by decide +kernel
theorem dX2_buildTurbine_36 : decode cX2_buildTurbine 36 = .ok (.aload_n 0, 1) := by decide +kernel
theorem dX2_buildTurbine_37 : decode cX2_buildTurbine 37 = .ok (.getfield 17, 3) := by decide +kernel
theorem dX2_buildTurbine_40 : decode cX2_buildTurbine 40 = .ok (.iconst 1, 1) := by decide +kernel
theorem dX2_buildTurbine_41 : decode cX2_buildTurbine 41 = .ok (.isub, 1) := by decide +kernel
theorem dX2_buildTurbine_42 : decode cX2_buildTurbine 42 = .ok (.ireturn, 1) := by decide +kernel
theorem dX2_faultCount_0 : decode cX2_faultCount 0 = .ok (.iconst 0, 1) := by decide +kernel
theorem dX2_faultCount_1 : decode cX2_faultCount 1 = .ok (.istore_n 1, 1) := by decide +kernel
theorem dX2_faultCount_2 : decode cX2_faultCount 2 = .ok (.iconst 0, 1) := by decide +kernel
theorem dX2_faultCount_3 : decode cX2_faultCount 3 = .ok (.istore_n 2, 1) := by decide +kernel
theorem dX2_faultCount_4 : decode cX2_faultCount 4 = .ok (.iload_n 2, 1) := by decide +kernel
theorem dX2_faultCount_5 : decode cX2_faultCount 5 = .ok (.aload_n 0, 1) := by decide +kernel
theorem dX2_faultCount_6 : decode cX2_faultCount 6 = .ok (.getfield 17, 3) := by decide +kernel
theorem dX2_faultCount_9 : decode cX2_faultCount 9 = .ok (.if_icmp .ge 24, 3) := by decide +kernel
theorem dX2_faultCount_12 : decode cX2_faultCount 12 = .ok (.aload_n 0, 1) := by decide +kernel
theorem dX2_faultCount_13 : decode cX2_faultCount 13 = .ok (.getfield 11, 3) := by decide +kernel
theorem dX2_faultCount_16 : decode cX2_faultCount 16 = .ok (.iload_n 2, 1) := by decide +kernel
theorem dX2_faultCount_17 : decode cX2_faultCount 17 = .ok (.aaload, 1) := by decide +kernel
theorem dX2_faultCount_18 : decode cX2_faultCount 18 = .ok (.getfield 102, 3) := by decide +kernel
theorem dX2_faultCount_21 : decode cX2_faultCount 21 = .ok (.ifCond .eq 6, 3) := by decide +kernel
theorem dX2_faultCount_24 : decode cX2_faultCount 24 = .ok (.iinc 1 1, 3) := by decide +kernel
theorem dX2_faultCount_27 : decode cX2_faultCount 27 = .ok (.iinc 2 1, 3) := by decide +kernel
theorem dX2_faultCount_30 : decode cX2_faultCount 30 = .ok (.goto (-26), 3) := by decide +kernel
theorem dX2_faultCount_33 : decode cX2_faultCount 33 = .ok (.iload_n 1, 1) := by decide +kernel
theorem dX2_faultCount_34 : decode cX2_faultCount 34 = .ok (.ireturn, 1) := by decide +kernel
theorem dX2_lostPower_0 : decode cX2_lostPower 0 = .ok (.iconst 0, 1) := by decide +kernel
theorem dX2_lostPower_1 : decode cX2_lostPower 1 = .ok (.istore_n 1, 1) := by decide +kernel
theorem dX2_lostPower_2 : decode cX2_lostPower 2 = .ok (.iconst 0, 1) := by decide +kernel
theorem dX2_lostPower_3 : decode cX2_lostPower 3 = .ok (.istore_n 2, 1) := by decide +kernel
theorem dX2_lostPower_4 : decode cX2_lostPower 4 = .ok (.iload_n 2, 1) := by decide +kernel
theorem dX2_lostPower_5 : decode cX2_lostPower 5 = .ok (.iconst 5, 1) := by decide +kernel
theorem dX2_lostPower_6 : decode cX2_lostPower 6 = .ok (.if_icmp .ge 18, 3) := by decide +kernel
theorem dX2_lostPower_9 : decode cX2_lostPower 9 = .ok (.iload_n 1, 1) := by decide +kernel
theorem dX2_lostPower_10 : decode cX2_lostPower 10 = .ok (.aload_n 0, 1) := by decide +kernel
theorem dX2_lostPower_11 : decode cX2_lostPower 11 = .ok (.getfield 60, 3) := by decide +kernel
theorem dX2_lostPower_14 : decode cX2_lostPower 14 = .ok (.iload_n 2, 1) := by decide +kernel
theorem dX2_lostPower_15 : decode cX2_lostPower 15 = .ok (.iaload, 1) := by decide +kernel
theorem dX2_lostPower_16 : decode cX2_lostPower 16 = .ok (.iadd, 1) := by decide +kernel
theorem dX2_lostPower_17 : decode cX2_lostPower 17 = .ok (.istore_n 1, 1) := by decide +kernel
theorem dX2_lostPower_18 : decode cX2_lostPower 18 = .ok (.iinc 2 1, 3) := by decide +kernel
theorem dX2_lostPower_21 : decode cX2_lostPower 21 = .ok (.goto (-17), 3) := by decide +kernel
theorem dX2_lostPower_24 : decode cX2_lostPower 24 = .ok (.iload_n 1, 1) := by decide +kernel
theorem dX2_lostPower_25 : decode cX2_lostPower 25 = .ok (.ireturn, 1) := by decide +kernel
theorem dX2_wonPower_0 : decode cX2_wonPower 0 = .ok (.iconst 0, 1) := by decide +kernel
theorem dX2_wonPower_1 : decode cX2_wonPower 1 = .ok (.istore_n 1, 1) := by decide +kernel
theorem dX2_wonPower_2 : decode cX2_wonPower 2 = .ok (.iconst 0, 1) := by decide +kernel
theorem dX2_wonPower_3 : decode cX2_wonPower 3 = .ok (.istore_n 2, 1) := by decide +kernel
theorem dX2_wonPower_4 : decode cX2_wonPower 4 = .ok (.iload_n 2, 1) := by decide +kernel
theorem dX2_wonPower_5 : decode cX2_wonPower 5 = .ok (.aload_n 0, 1) := by decide +kernel
theorem dX2_wonPower_6 : decode cX2_wonPower 6 = .ok (.getfield 17, 3) := by decide +kernel
theorem dX2_wonPower_9 : decode cX2_wonPower 9 = .ok (.if_icmp .ge 21, 3) := by decide +kernel
theorem dX2_wonPower_12 : decode cX2_wonPower 12 = .ok (.iload_n 1, 1) := by decide +kernel
theorem dX2_wonPower_13 : decode cX2_wonPower 13 = .ok (.aload_n 0, 1) := by decide +kernel
theorem dX2_wonPower_14 : decode cX2_wonPower 14 = .ok (.getfield 11, 3) := by decide +kernel
theorem dX2_wonPower_17 : decode cX2_wonPower 17 = .ok (.iload_n 2, 1) := by decide +kernel
theorem dX2_wonPower_18 : decode cX2_wonPower 18 = .ok (.aaload, 1) := by decide +kernel
theorem dX2_wonPower_19 : decode cX2_wonPower 19 = .ok (.getfield 105, 3) := by decide +kernel
theorem dX2_wonPower_22 : decode cX2_wonPower 22 = .ok (.iadd, 1) := by decide +kernel
theorem dX2_wonPower_23 : decode cX2_wonPower 23 = .ok (.istore_n 1, 1) := by decide +kernel
theorem dX2_wonPower_24 : decode cX2_wonPower 24 = .ok (.iinc 2 1, 3) := by decide +kernel
theorem dX2_wonPower_27 : decode cX2_wonPower 27 = .ok (.goto (-23), 3) := by decide +kernel
theorem dX2_wonPower_30 : decode cX2_wonPower 30 = .ok (.iload_n 1, 1) := by decide +kernel
theorem dX2_wonPower_31 : decode cX2_wonPower 31 = .ok (.ireturn, 1) := by decide +kernel
set_option maxRecDepth 20000 in
theorem ggX2_windNow_X7_at : GoodIn wsX2_windNow wsX7_at := goodIn_r _ [7, 8, 9, 20, 21] (by decide +kernel) (by decide +kernel)
set_option maxRecDepth 20000 in
theorem gX2_windNow_X7_at : GoodIn wsX2_windNow (wsV RX2 108 RX7 yX7_at wsX7_at) := goodIn_app (goodIn_of _ (by decide +kernel)) ggX2_windNow_X7_at
theorem dX2_windNow_0 : decode cX2_windNow 0 = .ok (.aload_n 0, 1) := by decide +kernel
theorem dX2_windNow_1 : decode cX2_windNow 1 = .ok (.getfield 52, 3) := by decide +kernel
theorem dX2_windNow_4 : decode cX2_windNow 4 = .ok (.aload_n 0, 1) := by decide +kernel
theorem dX2_windNow_5 : decode cX2_windNow 5 = .ok (.getfield 63, 3) := by decide +kernel
theorem dX2_windNow_8 : decode cX2_windNow 8 = .ok (.invokevirtual 108, 3) := by decide +kernel
theorem dX2_windNow_11 : decode cX2_windNow 11 = .ok (.ireturn, 1) := by decide +kernel
set_option maxRecDepth 20000 in
theorem ggX2_turbineProperty_X2_hasTurbine : GoodIn wsX2_turbineProperty wsX2_hasTurbine := goodIn_r _ [16, 17, 61, 62, 63, 64, 65, 66, 67, 68, 69, 70] (by decide +kernel) (by decide +kernel)
set_option maxRecDepth 20000 in
theorem gX2_turbineProperty_X2_hasTurbine : GoodIn wsX2_turbineProperty (wsV RX2 112 RX2 yX2_hasTurbine wsX2_hasTurbine) := goodIn_app (goodIn_of _ (by decide +kernel)) ggX2_turbineProperty_X2_hasTurbine
set_option maxRecDepth 20000 in
theorem ggX2_turbineProperty_X5_limit : GoodIn wsX2_turbineProperty wsX5_limit := goodIn_r _ [22, 23, 71, 72, 73, 74, 75, 76, 77] (by decide +kernel) (by decide +kernel)
set_option maxRecDepth 20000 in
theorem gX2_turbineProperty_X5_limit : GoodIn wsX2_turbineProperty (wsV RX2 125 RX5 yX5_limit wsX5_limit) := goodIn_app (goodIn_of _ (by decide +kernel)) ggX2_turbineProperty_X5_limit
set_option maxRecDepth 20000 in
theorem ggX2_turbineProperty_X4_placeOf : GoodIn wsX2_turbineProperty wsX4_placeOf := goodIn_r _ [28, 29, 30, 78, 79] (by decide +kernel) (by decide +kernel)
set_option maxRecDepth 20000 in
theorem gX2_turbineProperty_X4_placeOf : GoodIn wsX2_turbineProperty (wsV RX2 128 RX4 yX4_placeOf wsX4_placeOf) := goodIn_app (goodIn_of _ (by decide +kernel)) ggX2_turbineProperty_X4_placeOf
set_option maxRecDepth 20000 in
theorem ggX2_turbineProperty_X3_unloadedFor : GoodIn wsX2_turbineProperty wsX3_unloadedFor := goodIn_r _ [35, 36, 37, 38, 80, 81, 82] (by decide +kernel) (by decide +kernel)
set_option maxRecDepth 20000 in
theorem gX2_turbineProperty_X3_unloadedFor : GoodIn wsX2_turbineProperty (wsV RX2 131 RX3 yX3_unloadedFor wsX3_unloadedFor) := goodIn_app (goodIn_of _ (by decide +kernel)) ggX2_turbineProperty_X3_unloadedFor
set_option maxRecDepth 20000 in
theorem ggX2_turbineProperty_X2_windNow : GoodIn wsX2_turbineProperty wsX2_windNow := goodIn_r _ [42, 43, 44, 45, 46, 47, 48, 49, 50, 51, 61, 62, 63, 64, 65, 66, 67, 68, 69, 70, 83, 84] (by decide +kernel) (by decide +kernel)
set_option maxRecDepth 20000 in
theorem gX2_turbineProperty_X2_windNow : GoodIn wsX2_turbineProperty (wsV RX2 137 RX2 yX2_windNow wsX2_windNow) := goodIn_app (goodIn_of _ (by decide +kernel)) ggX2_turbineProperty_X2_windNow
set_option maxRecDepth 20000 in
theorem ggX2_turbineProperty_X5_fullPower : GoodIn wsX2_turbineProperty wsX5_fullPower := goodIn_r _ [55, 56, 57, 58, 59, 60, 71, 72, 73, 74, 75, 76, 77] (by decide +kernel) (by decide +kernel)
set_option maxRecDepth 20000 in
theorem gX2_turbineProperty_X5_fullPower : GoodIn wsX2_turbineProperty (wsV RX2 141 RX5 yX5_fullPower wsX5_fullPower) := goodIn_app (goodIn_of _ (by decide +kernel)) ggX2_turbineProperty_X5_fullPower
theorem dX2_turbineProperty_0 : decode cX2_turbineProperty 0 = .ok (.aload_n 0, 1) := by decide +kernel
theorem dX2_turbineProperty_1 : decode cX2_turbineProperty 1 = .ok (.iload_n 1, 1) := by decide +kernel
theorem dX2_turbineProperty_2 : decode cX2_turbineProperty 2 = .ok (.invokevirtual 112, 3) := by decide +kernel
theorem dX2_turbineProperty_5 : decode cX2_turbineProperty 5 = .ok (.ifCond .ne 5, 3) := by decide +kernel
theorem dX2_turbineProperty_8 : decode cX2_turbineProperty 8 = .ok (.iconst (-1), 1) := by decide +kernel
theorem dX2_turbineProperty_9 : decode cX2_turbineProperty 9 = .ok (.ireturn, 1) := by decide +kernel
theorem dX2_turbineProperty_10 : decode cX2_turbineProperty 10 = .ok (.aload_n 0, 1) := by decide +kernel
theorem dX2_turbineProperty_11 : decode cX2_turbineProperty 11 = .ok (.getfield 11, 3) := by decide +kernel
theorem dX2_turbineProperty_14 : decode cX2_turbineProperty 14 = .ok (.iload_n 1, 1) := by decide +kernel
theorem dX2_turbineProperty_15 : decode cX2_turbineProperty 15 = .ok (.aaload, 1) := by decide +kernel
theorem dX2_turbineProperty_16 : decode cX2_turbineProperty 16 = .ok (.astore_n 3, 1) := by decide +kernel
theorem dX2_turbineProperty_17 : decode cX2_turbineProperty 17 = .ok (.iload_n 2, 1) := by decide +kernel
theorem dX2_turbineProperty_18 : decode cX2_turbineProperty 18 = .ok (.tableswitch 118 0 9 #[54, 59, 64, 69, 74, 79, 90, 99, 108, 113], 54) := by decide +kernel
theorem dX2_turbineProperty_72 : decode cX2_turbineProperty 72 = .ok (.aload_n 3, 1) := by decide +kernel
theorem dX2_turbineProperty_73 : decode cX2_turbineProperty 73 = .ok (.getfield 95, 3) := by decide +kernel
theorem dX2_turbineProperty_76 : decode cX2_turbineProperty 76 = .ok (.ireturn, 1) := by decide +kernel
theorem dX2_turbineProperty_77 : decode cX2_turbineProperty 77 = .ok (.aload_n 3, 1) := by decide +kernel
theorem dX2_turbineProperty_78 : decode cX2_turbineProperty 78 = .ok (.getfield 116, 3) := by decide +kernel
theorem dX2_turbineProperty_81 : decode cX2_turbineProperty 81 = .ok (.ireturn, 1) := by decide +kernel
theorem dX2_turbineProperty_82 : decode cX2_turbineProperty 82 = .ok (.aload_n 3, 1) := by decide +kernel
theorem dX2_turbineProperty_83 : decode cX2_turbineProperty 83 = .ok (.getfield 119, 3) := by decide +kernel
theorem dX2_turbineProperty_86 : decode cX2_turbineProperty 86 = .ok (.ireturn, 1) := by decide +kernel
theorem dX2_turbineProperty_87 : decode cX2_turbineProperty 87 = .ok (.aload_n 3, 1) := by decide +kernel
theorem dX2_turbineProperty_88 : decode cX2_turbineProperty 88 = .ok (.getfield 102, 3) := by decide +kernel
theorem dX2_turbineProperty_91 : decode cX2_turbineProperty 91 = .ok (.ireturn, 1) := by decide +kernel
theorem dX2_turbineProperty_92 : decode cX2_turbineProperty 92 = .ok (.aload_n 3, 1) := by decide +kernel
theorem dX2_turbineProperty_93 : decode cX2_turbineProperty 93 = .ok (.getfield 122, 3) := by decide +kernel
theorem dX2_turbineProperty_96 : decode cX2_turbineProperty 96 = .ok (.ireturn, 1) := by decide +kernel
theorem dX2_turbineProperty_97 : decode cX2_turbineProperty 97 = .ok (.aload_n 3, 1) := by decide +kernel
theorem dX2_turbineProperty_98 : decode cX2_turbineProperty 98 = .ok (.aload_n 0, 1) := by decide +kernel
theorem dX2_turbineProperty_99 : decode cX2_turbineProperty 99 = .ok (.getfield 56, 3) := by decide +kernel
theorem dX2_turbineProperty_102 : decode cX2_turbineProperty 102 = .ok (.iconst 0, 1) := by decide +kernel
theorem dX2_turbineProperty_103 : decode cX2_turbineProperty 103 = .ok (.iaload, 1) := by decide +kernel
theorem dX2_turbineProperty_104 : decode cX2_turbineProperty 104 = .ok (.invokevirtual 125, 3) := by decide +kernel
theorem dX2_turbineProperty_107 : decode cX2_turbineProperty 107 = .ok (.ireturn, 1) := by decide +kernel
theorem dX2_turbineProperty_108 : decode cX2_turbineProperty 108 = .ok (.aload_n 0, 1) := by decide +kernel
theorem dX2_turbineProperty_109 : decode cX2_turbineProperty 109 = .ok (.getfield 38, 3) := by decide +kernel
theorem dX2_turbineProperty_112 : decode cX2_turbineProperty 112 = .ok (.iload_n 1, 1) := by decide +kernel
theorem dX2_turbineProperty_113 : decode cX2_turbineProperty 113 = .ok (.invokevirtual 128, 3) := by decide +kernel
theorem dX2_turbineProperty_116 : decode cX2_turbineProperty 116 = .ok (.ireturn, 1) := by decide +kernel
theorem dX2_turbineProperty_117 : decode cX2_turbineProperty 117 = .ok (.aload_n 0, 1) := by decide +kernel
theorem dX2_turbineProperty_118 : decode cX2_turbineProperty 118 = .ok (.getfield 31, 3) := by decide +kernel
theorem dX2_turbineProperty_121 : decode cX2_turbineProperty 121 = .ok (.iload_n 1, 1) := by decide +kernel
theorem dX2_turbineProperty_122 : decode cX2_turbineProperty 122 = .ok (.invokevirtual 131, 3) := by decide +kernel
theorem dX2_turbineProperty_125 : decode cX2_turbineProperty 125 = .ok (.ireturn, 1) := by decide +kernel
theorem dX2_turbineProperty_126 : decode cX2_turbineProperty 126 = .ok (.aload_n 3, 1) := by decide +kernel
theorem dX2_turbineProperty_127 : decode cX2_turbineProperty 127 = .ok (.getfield 134, 3) := by decide +kernel
theorem dX2_turbineProperty_130 : decode cX2_turbineProperty 130 = .ok (.ireturn, 1) := by decide +kernel
theorem dX2_turbineProperty_131 : decode cX2_turbineProperty 131 = .ok (.aload_n 3, 1) := by decide +kernel
theorem dX2_turbineProperty_132 : decode cX2_turbineProperty 132 = .ok (.getfield 105, 3) := by decide +kernel
theorem dX2_turbineProperty_135 : decode cX2_turbineProperty 135 = .ok (.ireturn, 1) := by decide +kernel
theorem dX2_turbineProperty_136 : decode cX2_turbineProperty 136 = .ok (.aload_n 3, 1) := by decide +kernel
theorem dX2_turbineProperty_137 : decode cX2_turbineProperty 137 = .ok (.aload_n 0, 1) := by decide +kernel
theorem dX2_turbineProperty_138 : decode cX2_turbineProperty 138 = .ok (.invokevirtual 137, 3) := by decide +kernel
theorem dX2_turbineProperty_141 : decode cX2_turbineProperty 141 = .ok (.invokevirtual 141, 3) := by decide +kernel
theorem dX2_turbineProperty_144 : decode cX2_turbineProperty 144 = .ok (.ireturn, 1) := by decide +kernel
set_option maxRecDepth 20000 in
theorem ggX2_outcome_X2_lostPower : GoodIn wsX2_outcome wsX2_lostPower := goodIn_r _ [8, 3, 21, 22, 23, 24, 25, 26, 27, 28, 29, 30] (by decide +kernel) (by decide +kernel)
set_option maxRecDepth 20000 in
theorem gX2_outcome_X2_lostPower : GoodIn wsX2_outcome (wsV RX2 144 RX2 yX2_lostPower wsX2_lostPower) := goodIn_app (goodIn_of _ (by decide +kernel)) ggX2_outcome_X2_lostPower
set_option maxRecDepth 20000 in
theorem ggX2_outcome_X2_wonPower : GoodIn wsX2_outcome wsX2_wonPower := goodIn_r _ [12, 13, 14, 15, 21, 22, 23, 24, 25, 26, 27, 28, 29, 30, 33, 34, 35, 36, 37, 38, 39] (by decide +kernel) (by decide +kernel)
set_option maxRecDepth 20000 in
theorem gX2_outcome_X2_wonPower : GoodIn wsX2_outcome (wsV RX2 147 RX2 yX2_wonPower wsX2_wonPower) := goodIn_app (goodIn_of _ (by decide +kernel)) ggX2_outcome_X2_wonPower
set_option maxRecDepth 20000 in
theorem ggX2_outcome_X2_faultCount : GoodIn wsX2_outcome wsX2_faultCount := goodIn_r _ [19, 13, 14, 20, 21, 22, 23, 24, 25, 26, 27, 28, 29, 30, 33, 34, 35, 36, 37, 38, 39] (by decide +kernel) (by decide +kernel)
set_option maxRecDepth 20000 in
theorem gX2_outcome_X2_faultCount : GoodIn wsX2_outcome (wsV RX2 150 RX2 yX2_faultCount wsX2_faultCount) := goodIn_app (goodIn_of _ (by decide +kernel)) ggX2_outcome_X2_faultCount
theorem dX2_outcome_0 : decode cX2_outcome 0 = .ok (.iload_n 1, 1) := by decide +kernel
theorem dX2_outcome_1 : decode cX2_outcome 1 = .ok (.tableswitch 54 5 8 #[31, 36, 41, 46], 31) := by decide +kernel
theorem dX2_outcome_32 : decode cX2_outcome 32 = .ok (.aload_n 0, 1) := by decide +kernel
theorem dX2_outcome_33 : decode cX2_outcome 33 = .ok (.invokevirtual 144, 3) := by decide +kernel
theorem dX2_outcome_36 : decode cX2_outcome 36 = .ok (.ireturn, 1) := by decide +kernel
theorem dX2_outcome_37 : decode cX2_outcome 37 = .ok (.aload_n 0, 1) := by decide +kernel
theorem dX2_outcome_38 : decode cX2_outcome 38 = .ok (.invokevirtual 147, 3) := by decide +kernel
theorem dX2_outcome_41 : decode cX2_outcome 41 = .ok (.ireturn, 1) := by decide +kernel
theorem dX2_outcome_42 : decode cX2_outcome 42 = .ok (.aload_n 0, 1) := by decide +kernel
theorem dX2_outcome_43 : decode cX2_outcome 43 = .ok (.invokevirtual 150, 3) := by decide +kernel
theorem dX2_outcome_46 : decode cX2_outcome 46 = .ok (.ireturn, 1) := by decide +kernel
theorem dX2_outcome_47 : decode cX2_outcome 47 = .ok (.aload_n 0, 1) := by decide +kernel
theorem dX2_outcome_48 : decode cX2_outcome 48 = .ok (.getfield 38, 3) := by decide +kernel
theorem dX2_outcome_51 : decode cX2_outcome 51 = .ok (.getfield 153, 3) := by decide +kernel
theorem dX2_outcome_54 : decode cX2_outcome 54 = .ok (.ireturn, 1) := by decide +kernel
theorem dX2_outcome_55 : decode cX2_outcome 55 = .ok (.iload_n 1, 1) := by decide +kernel
theorem dX2_outcome_56 : decode cX2_outcome 56 = .ok (.ifCond .lt 17, 3) := by decide +kernel
theorem dX2_outcome_59 : decode cX2_outcome 59 = .ok (.iload_n 1, 1) := by decide +kernel
theorem dX2_outcome_60 : decode cX2_outcome 60 = .ok (.iconst 5, 1) := by decide +kernel
theorem dX2_outcome_61 : decode cX2_outcome 61 = .ok (.if_icmp .ge 12, 3) := by decide +kernel
theorem dX2_outcome_64 : decode cX2_outcome 64 = .ok (.aload_n 0, 1) := by decide +kernel
theorem dX2_outcome_65 : decode cX2_outcome 65 = .ok (.getfield 60, 3) := by decide +kernel
theorem dX2_outcome_68 : decode cX2_outcome 68 = .ok (.iload_n 1, 1) := by decide +kernel
theorem dX2_outcome_69 : decode cX2_outcome 69 = .ok (.iaload, 1) := by decide +kernel
theorem dX2_outcome_70 : decode cX2_outcome 70 = .ok (.goto 4, 3) := by decide +kernel
theorem dX2_outcome_73 : decode cX2_outcome 73 = .ok (.iconst 0, 1) := by decide +kernel
theorem dX2_outcome_74 : decode cX2_outcome 74 = .ok (.ireturn, 1) := by decide +kernel
set_option maxRecDepth 20000 in
theorem ggX2_hoursBetween_X0_countBetween : GoodIn wsX2_hoursBetween wsX0_countBetween := goodIn_r _ [17, 18, 19, 20, 31, 32, 33] (by decide +kernel) (by decide +kernel)
set_option maxRecDepth 20000 in
theorem gX2_hoursBetween_X0_countBetween : GoodIn wsX2_hoursBetween (wsV RX2 168 RX0 yX0_countBetween wsX0_countBetween) := goodIn_app (goodIn_of _ (by decide +kernel)) ggX2_hoursBetween_X0_countBetween
theorem dX2_hoursBetween_0 : decode cX2_hoursBetween 0 = .ok (.iconst 1, 1) := by decide +kernel
theorem dX2_hoursBetween_1 : decode cX2_hoursBetween 1 = .ok (.aload_n 0, 1) := by decide +kernel
theorem dX2_hoursBetween_2 : decode cX2_hoursBetween 2 = .ok (.getfield 56, 3) := by decide +kernel
theorem dX2_hoursBetween_5 : decode cX2_hoursBetween 5 = .ok (.iconst 1, 1) := by decide +kernel
theorem dX2_hoursBetween_6 : decode cX2_hoursBetween 6 = .ok (.iaload, 1) := by decide +kernel
theorem dX2_hoursBetween_7 : decode cX2_hoursBetween 7 = .ok (.invokestatic 156, 3) := by decide +kernel
theorem dX2_hoursBetween_10 : decode cX2_hoursBetween 10 = .ok (.istore_n 3, 1) := by decide +kernel
theorem dX2_hoursBetween_11 : decode cX2_hoursBetween 11 = .ok (.iload_n 1, 1) := by decide +kernel
theorem dX2_hoursBetween_12 : decode cX2_hoursBetween 12 = .ok (.iload_n 2, 1) := by decide +kernel
theorem dX2_hoursBetween_13 : decode cX2_hoursBetween 13 = .ok (.isub, 1) := by decide +kernel
theorem dX2_hoursBetween_14 : decode cX2_hoursBetween 14 = .ok (.invokestatic 162, 3) := by decide +kernel
theorem dX2_hoursBetween_17 : decode cX2_hoursBetween 17 = .ok (.istore 4, 2) := by decide +kernel
theorem dX2_hoursBetween_19 : decode cX2_hoursBetween 19 = .ok (.aload_n 0, 1) := by decide +kernel
theorem dX2_hoursBetween_20 : decode cX2_hoursBetween 20 = .ok (.getfield 24, 3) := by decide +kernel
theorem dX2_hoursBetween_23 : decode cX2_hoursBetween 23 = .ok (.iload_n 1, 1) := by decide +kernel
theorem dX2_hoursBetween_24 : decode cX2_hoursBetween 24 = .ok (.iload_n 2, 1) := by decide +kernel
theorem dX2_hoursBetween_25 : decode cX2_hoursBetween 25 = .ok (.invokestatic 165, 3) := by decide +kernel
theorem dX2_hoursBetween_28 : decode cX2_hoursBetween 28 = .ok (.iload_n 1, 1) := by decide +kernel
theorem dX2_hoursBetween_29 : decode cX2_hoursBetween 29 = .ok (.iload_n 2, 1) := by decide +kernel
theorem dX2_hoursBetween_30 : decode cX2_hoursBetween 30 = .ok (.invokestatic 156, 3) := by decide +kernel
theorem dX2_hoursBetween_33 : decode cX2_hoursBetween 33 = .ok (.aload_n 0, 1) := by decide +kernel
theorem dX2_hoursBetween_34 : decode cX2_hoursBetween 34 = .ok (.getfield 56, 3) := by decide +kernel
theorem dX2_hoursBetween_37 : decode cX2_hoursBetween 37 = .ok (.bipush 6, 2) := by decide +kernel
theorem dX2_hoursBetween_39 : decode cX2_hoursBetween 39 = .ok (.iaload, 1) := by decide +kernel
theorem dX2_hoursBetween_40 : decode cX2_hoursBetween 40 = .ok (.invokevirtual 168, 3) := by decide +kernel
theorem dX2_hoursBetween_43 : decode cX2_hoursBetween 43 = .ok (.istore 5, 2) := by decide +kernel
theorem dX2_hoursBetween_45 : decode cX2_hoursBetween 45 = .ok (.iload 4, 2) := by decide +kernel
theorem dX2_hoursBetween_47 : decode cX2_hoursBetween 47 = .ok (.iload_n 3, 1) := by decide +kernel
theorem dX2_hoursBetween_48 : decode cX2_hoursBetween 48 = .ok (.iadd, 1) := by decide +kernel
theorem dX2_hoursBetween_49 : decode cX2_hoursBetween 49 = .ok (.iconst 1, 1) := by decide +kernel
theorem dX2_hoursBetween_50 : decode cX2_hoursBetween 50 = .ok (.isub, 1) := by decide +kernel
theorem dX2_hoursBetween_51 : decode cX2_hoursBetween 51 = .ok (.iload_n 3, 1) := by decide +kernel
theorem dX2_hoursBetween_52 : decode cX2_hoursBetween 52 = .ok (.idiv, 1) := by decide +kernel
theorem dX2_hoursBetween_53 : decode cX2_hoursBetween 53 = .ok (.iload 5, 2) := by decide +kernel
theorem dX2_hoursBetween_55 : decode cX2_hoursBetween 55 = .ok (.aload_n 0, 1) := by decide +kernel
theorem dX2_hoursBetween_56 : decode cX2_hoursBetween 56 = .ok (.getfield 56, 3) := by decide +kernel
theorem dX2_hoursBetween_59 : decode cX2_hoursBetween 59 = .ok (.iconst 4, 1) := by decide +kernel
theorem dX2_hoursBetween_60 : decode cX2_hoursBetween 60 = .ok (.iaload, 1) := by decide +kernel
theorem dX2_hoursBetween_61 : decode cX2_hoursBetween 61 = .ok (.imul, 1) := by decide +kernel
theorem dX2_hoursBetween_62 : decode cX2_hoursBetween 62 = .ok (.iadd, 1) := by decide +kernel
theorem dX2_hoursBetween_63 : decode cX2_hoursBetween 63 = .ok (.ireturn, 1) := by decide +kernel
set_option maxRecDepth 20000 in
theorem ggX2_hoursUntilCalm_X2_hasTurbine : GoodIn wsX2_hoursUntilCalm wsX2_hasTurbine := goodIn_r _ [9, 10, 24, 25, 26, 27, 28, 29, 30, 31, 32, 33] (by decide +kernel) (by decide +kernel)
set_option maxRecDepth 20000 in
theorem gX2_hoursUntilCalm_X2_hasTurbine : GoodIn wsX2_hoursUntilCalm (wsV RX2 112 RX2 yX2_hasTurbine wsX2_hasTurbine) := goodIn_app (goodIn_of _ (by decide +kernel)) ggX2_hoursUntilCalm_X2_hasTurbine
set_option maxRecDepth 20000 in
theorem ggX2_hoursUntilCalm_X5_limit : GoodIn wsX2_hoursUntilCalm wsX5_limit := goodIn_r _ [15, 16, 34, 35, 36, 37, 38, 39, 40] (by decide +kernel) (by decide +kernel)
set_option maxRecDepth 20000 in
theorem gX2_hoursUntilCalm_X5_limit : GoodIn wsX2_hoursUntilCalm (wsV RX2 125 RX5 yX5_limit wsX5_limit) := goodIn_app (goodIn_of _ (by decide +kernel)) ggX2_hoursUntilCalm_X5_limit
set_option maxRecDepth 20000 in
theorem ggX2_hoursUntilCalm_X7_at : GoodIn wsX2_hoursUntilCalm wsX7_at := goodIn_r _ [21, 22, 23, 41, 42] (by decide +kernel) (by decide +kernel)
set_option maxRecDepth 20000 in
theorem gX2_hoursUntilCalm_X7_at : GoodIn wsX2_hoursUntilCalm (wsV RX2 108 RX7 yX7_at wsX7_at) := goodIn_app (goodIn_of _ (by decide +kernel)) ggX2_hoursUntilCalm_X7_at
theorem dX2_hoursUntilCalm_0 : decode cX2_hoursUntilCalm 0 = .ok (.aload_n 0, 1) := by decide +kernel
theorem dX2_hoursUntilCalm_1 : decode cX2_hoursUntilCalm 1 = .ok (.iload_n 1, 1) := by decide +kernel
theorem dX2_hoursUntilCalm_2 : decode cX2_hoursUntilCalm 2 = .ok (.invokevirtual 112, 3) := by decide +kernel
theorem dX2_hoursUntilCalm_5 : decode cX2_hoursUntilCalm 5 = .ok (.ifCond .ne 5, 3) := by decide +kernel
theorem dX2_hoursUntilCalm_8 : decode cX2_hoursUntilCalm 8 = .ok (.iconst (-1), 1) := by decide +kernel
theorem dX2_hoursUntilCalm_9 : decode cX2_hoursUntilCalm 9 = .ok (.ireturn, 1) := by decide +kernel
theorem dX2_hoursUntilCalm_10 : decode cX2_hoursUntilCalm 10 = .ok (.aload_n 0, 1) := by decide +kernel
theorem dX2_hoursUntilCalm_11 : decode cX2_hoursUntilCalm 11 = .ok (.getfield 11, 3) := by decide +kernel
theorem dX2_hoursUntilCalm_14 : decode cX2_hoursUntilCalm 14 = .ok (.iload_n 1, 1) := by decide +kernel
theorem dX2_hoursUntilCalm_15 : decode cX2_hoursUntilCalm 15 = .ok (.aaload, 1) := by decide +kernel
theorem dX2_hoursUntilCalm_16 : decode cX2_hoursUntilCalm 16 = .ok (.aload_n 0, 1) := by decide +kernel
theorem dX2_hoursUntilCalm_17 : decode cX2_hoursUntilCalm 17 = .ok (.getfield 56, 3) := by decide +kernel
theorem dX2_hoursUntilCalm_20 : decode cX2_hoursUntilCalm 20 = .ok (.iconst 0, 1) := by decide +kernel
theorem dX2_hoursUntilCalm_21 : decode cX2_hoursUntilCalm 21 = .ok (.iaload, 1) := by decide +kernel
theorem dX2_hoursUntilCalm_22 : decode cX2_hoursUntilCalm 22 = .ok (.invokevirtual 125, 3) := by decide +kernel
theorem dX2_hoursUntilCalm_25 : decode cX2_hoursUntilCalm 25 = .ok (.istore_n 3, 1) := by decide +kernel
theorem dX2_hoursUntilCalm_26 : decode cX2_hoursUntilCalm 26 = .ok (.iconst 0, 1) := by decide +kernel
theorem dX2_hoursUntilCalm_27 : decode cX2_hoursUntilCalm 27 = .ok (.istore 4, 2) := by decide +kernel
theorem dX2_hoursUntilCalm_29 : decode cX2_hoursUntilCalm 29 = .ok (.iconst 0, 1) := by decide +kernel
theorem dX2_hoursUntilCalm_30 : decode cX2_hoursUntilCalm 30 = .ok (.istore 5, 2) := by decide +kernel
theorem dX2_hoursUntilCalm_32 : decode cX2_hoursUntilCalm 32 = .ok (.iload 5, 2) := by decide +kernel
theorem dX2_hoursUntilCalm_34 : decode cX2_hoursUntilCalm 34 = .ok (.bipush 96, 2) := by decide +kernel
theorem dX2_hoursUntilCalm_36 : decode cX2_hoursUntilCalm 36 = .ok (.iload_n 2, 1) := by decide +kernel
theorem dX2_hoursUntilCalm_37 : decode cX2_hoursUntilCalm 37 = .ok (.iadd, 1) := by decide +kernel
theorem dX2_hoursUntilCalm_38 : decode cX2_hoursUntilCalm 38 = .ok (.if_icmp .ge 50, 3) := by decide +kernel
theorem dX2_hoursUntilCalm_41 : decode cX2_hoursUntilCalm 41 = .ok (.aload_n 0, 1) := by decide +kernel
theorem dX2_hoursUntilCalm_42 : decode cX2_hoursUntilCalm 42 = .ok (.getfield 52, 3) := by decide +kernel
theorem dX2_hoursUntilCalm_45 : decode cX2_hoursUntilCalm 45 = .ok (.aload_n 0, 1) := by decide +kernel
theorem dX2_hoursUntilCalm_46 : decode cX2_hoursUntilCalm 46 = .ok (.getfield 63, 3) := by decide +kernel
theorem dX2_hoursUntilCalm_49 : decode cX2_hoursUntilCalm 49 = .ok (.iload 5, 2) := by decide +kernel
theorem dX2_hoursUntilCalm_51 : decode cX2_hoursUntilCalm 51 = .ok (.iadd, 1) := by decide +kernel
end
section
theorem dX2_hoursUntilCalm_52 : decode cX2_hoursUntilCalm 52 = .ok (.invokevirtual 108, 3) := by decide +kernel
theorem dX2_hoursUntilCalm_55 : decode cX2_hoursUntilCalm 55 = .ok (.iload_n 3, 1) := by decide +kernel
theorem dX2_hoursUntilCalm_56 : decode cX2_hoursUntilCalm 56 = .ok (.if_icmp .gt 10, 3) := by decide +kernel
theorem dX2_hoursUntilCalm_59 : decode cX2_hoursUntilCalm 59 = .ok (.iload 4, 2) := by decide +kernel
theorem dX2_hoursUntilCalm_61 : decode cX2_hoursUntilCalm 61 = .ok (.iconst 1, 1) := by decide +kernel
theorem dX2_hoursUntilCalm_62 : decode cX2_hoursUntilCalm 62 = .ok (.iadd, 1) := by decide +kernel
theorem dX2_hoursUntilCalm_63 : decode cX2_hoursUntilCalm 63 = .ok (.goto 4, 3) := by decide +kernel
theorem dX2_hoursUntilCalm_66 : decode cX2_hoursUntilCalm 66 = .ok (.iconst 0, 1) := by decide +kernel
theorem dX2_hoursUntilCalm_67 : decode cX2_hoursUntilCalm 67 = .ok (.istore 4, 2) := by decide +kernel
theorem dX2_hoursUntilCalm_69 : decode cX2_hoursUntilCalm 69 = .ok (.iload 4, 2) := by decide +kernel
theorem dX2_hoursUntilCalm_71 : decode cX2_hoursUntilCalm 71 = .ok (.iload_n 2, 1) := by decide +kernel
theorem dX2_hoursUntilCalm_72 : decode cX2_hoursUntilCalm 72 = .ok (.if_icmp .ne 10, 3) := by decide +kernel
theorem dX2_hoursUntilCalm_75 : decode cX2_hoursUntilCalm 75 = .ok (.iload 5, 2) := by decide +kernel
theorem dX2_hoursUntilCalm_77 : decode cX2_hoursUntilCalm 77 = .ok (.iconst 1, 1) := by decide +kernel
theorem dX2_hoursUntilCalm_78 : decode cX2_hoursUntilCalm 78 = .ok (.iadd, 1) := by decide +kernel
theorem dX2_hoursUntilCalm_79 : decode cX2_hoursUntilCalm 79 = .ok (.iload_n 2, 1) := by decide +kernel
theorem dX2_hoursUntilCalm_80 : decode cX2_hoursUntilCalm 80 = .ok (.isub, 1) := by decide +kernel
theorem dX2_hoursUntilCalm_81 : decode cX2_hoursUntilCalm 81 = .ok (.ireturn, 1) := by decide +kernel
theorem dX2_hoursUntilCalm_82 : decode cX2_hoursUntilCalm 82 = .ok (.iinc 5 1, 3) := by decide +kernel
theorem dX2_hoursUntilCalm_85 : decode cX2_hoursUntilCalm 85 = .ok (.goto (-53), 3) := by decide +kernel
theorem dX2_hoursUntilCalm_88 : decode cX2_hoursUntilCalm 88 = .ok (.iconst (-1), 1) := by decide +kernel
theorem dX2_hoursUntilCalm_89 : decode cX2_hoursUntilCalm 89 = .ok (.ireturn, 1) := by decide +kernel
set_option maxRecDepth 20000 in
theorem ggX2_runHours_X2_runHour : GoodIn wsX2_runHours wsX2_runHour := goodIn_r _ [5, 6, 7, 8, 9, 10, 11, 12, 13, 14, 15, 16, 17, 18, 19, 20, 21, 22, 23, 4, 24, 25, 26, 27, 28, 29, 30, 31, 32, 33, 34, 35, 36, 37, 38, 39, 40, 41, 42, 43, 44, 45, 46, 47, 48, 49, 50, 51, 52, 53, 54, 55, 56, 57, 58, 59, 60, 61, 62, 63, 64, 65, 66, 67, 68, 69, 70, 71, 72, 73, 74, 75, 76, 77, 78, 79, 80, 81, 82, 83, 84, 85, 86, 87, 88, 89, 90, 91, 92, 93, 94, 95, 96, 97, 98, 99, 100, 101, 102, 103, 104, 105, 106, 107, 108, 109, 110, 111, 112, 113, 114, 115, 116, 117, 118, 119, 120, 121, 122, 123, 124, 125, 126, 127, 128, 129, 130, 131, 132, 133, 134, 135, 136, 137, 138, 139, 140, 141, 142, 143, 144, 145, 146, 147, 148, 149, 150, 151, 152, 153, 154, 155, 156, 157, 158, 159, 160, 161, 162, 163, 164, 165, 166, 167, 168, 169, 170, 171, 172, 173, 174, 175, 176, 177, 178, 179, 180, 181, 182, 183, 184, 185, 186, 187, 188, 189, 190] (by decide +kernel) (by decide +kernel)
set_option maxRecDepth 20000 in
theorem gX2_runHours_X2_runHour : GoodIn wsX2_runHours (wsV RX2 172 RX2 yX2_runHour wsX2_runHour) := goodIn_app (goodIn_of _ (by decide +kernel)) ggX2_runHours_X2_runHour
theorem dX2_runHours_0 : decode cX2_runHours 0 = .ok (.iconst 0, 1) := by decide +kernel
theorem dX2_runHours_1 : decode cX2_runHours 1 = .ok (.istore_n 2, 1) := by decide +kernel
theorem dX2_runHours_2 : decode cX2_runHours 2 = .ok (.iconst 0, 1) := by decide +kernel
theorem dX2_runHours_3 : decode cX2_runHours 3 = .ok (.istore_n 3, 1) := by decide +kernel
theorem dX2_runHours_4 : decode cX2_runHours 4 = .ok (.iload_n 3, 1) := by decide +kernel
theorem dX2_runHours_5 : decode cX2_runHours 5 = .ok (.iload_n 1, 1) := by decide +kernel
theorem dX2_runHours_6 : decode cX2_runHours 6 = .ok (.if_icmp .ge 16, 3) := by decide +kernel
theorem dX2_runHours_9 : decode cX2_runHours 9 = .ok (.iload_n 2, 1) := by decide +kernel
theorem dX2_runHours_10 : decode cX2_runHours 10 = .ok (.aload_n 0, 1) := by decide +kernel
theorem dX2_runHours_11 : decode cX2_runHours 11 = .ok (.invokevirtual 172, 3) := by decide +kernel
theorem dX2_runHours_14 : decode cX2_runHours 14 = .ok (.iadd, 1) := by decide +kernel
theorem dX2_runHours_15 : decode cX2_runHours 15 = .ok (.istore_n 2, 1) := by decide +kernel
theorem dX2_runHours_16 : decode cX2_runHours 16 = .ok (.iinc 3 1, 3) := by decide +kernel
theorem dX2_runHours_19 : decode cX2_runHours 19 = .ok (.goto (-15), 3) := by decide +kernel
theorem dX2_runHours_22 : decode cX2_runHours 22 = .ok (.iload_n 2, 1) := by decide +kernel
theorem dX2_runHours_23 : decode cX2_runHours 23 = .ok (.ireturn, 1) := by decide +kernel
set_option maxRecDepth 20000 in
theorem ggX2_runHour_X3_unload : GoodIn wsX2_runHour wsX3_unload := goodIn_r _ [9, 10, 11, 12, 13, 14, 15, 165, 166, 167] (by decide +kernel) (by decide +kernel)
set_option maxRecDepth 20000 in
theorem gX2_runHour_X3_unload : GoodIn wsX2_runHour (wsV RX2 175 RX3 yX3_unload wsX3_unload) := goodIn_app (goodIn_of _ (by decide +kernel)) ggX2_runHour_X3_unload
set_option maxRecDepth 20000 in
theorem ggX2_runHour_X2_dropFaultless : GoodIn wsX2_runHour wsX2_dropFaultless := goodIn_r _ [20, 3, 21, 22, 23, 24, 25, 26, 27, 28, 29, 30, 31, 32, 33, 34, 35, 36, 37, 38, 39, 40, 41, 42, 19, 43, 44, 45, 46, 47, 48, 155, 156, 157, 158, 159, 160, 161, 162, 163, 164, 168, 169, 170, 171, 172, 173, 174, 175, 176, 177, 178, 179, 180, 181] (by decide +kernel) (by decide +kernel)
set_option maxRecDepth 20000 in
theorem gX2_runHour_X2_dropFaultless : GoodIn wsX2_runHour (wsV RX2 179 RX2 yX2_dropFaultless wsX2_dropFaultless) := goodIn_app (goodIn_of _ (by decide +kernel)) ggX2_runHour_X2_dropFaultless
set_option maxRecDepth 20000 in
theorem ggX2_runHour_X4_first : GoodIn wsX2_runHour wsX4_first := goodIn_r _ [30, 31, 32, 168, 169] (by decide +kernel) (by decide +kernel)
set_option maxRecDepth 20000 in
theorem gX2_runHour_X4_first : GoodIn wsX2_runHour (wsV RX2 182 RX4 yX4_first wsX4_first) := goodIn_app (goodIn_of _ (by decide +kernel)) ggX2_runHour_X4_first
set_option maxRecDepth 20000 in
theorem ggX2_runHour_X2_serve : GoodIn wsX2_runHour wsX2_serve := goodIn_r _ [52, 24, 22, 53, 54, 1, 2, 40, 41, 42, 19, 43, 44, 55, 56, 57, 36, 58, 59, 60, 61, 62, 63, 64, 65, 14, 66, 67, 68, 69, 70, 71, 13, 15, 72, 73, 74, 75, 76, 77, 78, 79, 80, 81, 82, 83, 84, 85, 86, 87, 88, 89, 8, 90, 10, 91, 11, 92, 93, 94, 95, 96, 4, 97, 98, 99, 100, 101, 102, 103, 104, 105, 106, 107, 108, 109, 110, 111, 112, 113, 38, 39, 155, 156, 157, 158, 159, 160, 161, 162, 163, 164, 170, 171, 172, 173, 174, 175, 176, 177, 178, 179, 180, 181, 182, 183, 184, 165, 166, 167, 185, 186] (by decide +kernel) (by decide +kernel)
set_option maxRecDepth 20000 in
theorem gX2_runHour_X2_serve : GoodIn wsX2_runHour (wsV RX2 185 RX2 yX2_serve wsX2_serve) := goodIn_app (goodIn_of _ (by decide +kernel)) ggX2_runHour_X2_serve
set_option maxRecDepth 20000 in
theorem ggX2_runHour_X2_sharePower : GoodIn wsX2_runHour wsX2_sharePower := goodIn_r _ [117, 44, 24, 25, 118, 119, 120, 92, 93, 94, 19, 95, 96, 4, 97, 98, 99, 100, 101, 102, 103, 121, 122, 123, 107, 124, 125, 126, 13, 14, 15, 155, 156, 157, 158, 159, 160, 161, 162, 163, 164, 175, 176, 177, 178, 179, 180, 181, 185, 186] (by decide +kernel) (by decide +kernel)
set_option maxRecDepth 20000 in
theorem gX2_runHour_X2_sharePower : GoodIn wsX2_runHour (wsV RX2 188 RX2 yX2_sharePower wsX2_sharePower) := goodIn_app (goodIn_of _ (by decide +kernel)) ggX2_runHour_X2_sharePower
set_option maxRecDepth 20000 in
theorem ggX2_runHour_X2_finishIfDone : GoodIn wsX2_runHour wsX2_finishIfDone := goodIn_r _ [130, 22, 131, 2, 24, 25, 132, 1, 3, 40, 41, 42, 19, 43, 44, 133, 134, 135, 8, 136, 10, 91, 11, 137, 138, 139, 140, 33, 34, 35, 36, 37, 38, 39, 141, 142, 143, 29, 144, 31, 32, 45, 46, 47, 48, 155, 156, 157, 158, 159, 160, 161, 162, 163, 164, 170, 171, 172, 173, 174, 175, 176, 177, 178, 179, 180, 181, 165, 166, 167, 168, 169] (by decide +kernel) (by decide +kernel)
set_option maxRecDepth 20000 in
theorem gX2_runHour_X2_finishIfDone : GoodIn wsX2_runHour (wsV RX2 191 RX2 yX2_finishIfDone wsX2_finishIfDone) := goodIn_app (goodIn_of _ (by decide +kernel)) ggX2_runHour_X2_finishIfDone
set_option maxRecDepth 20000 in
theorem ggX2_runHour_X2_worsen : GoodIn wsX2_runHour wsX2_worsen := goodIn_r _ [148, 44, 24, 2, 149, 150, 151, 107, 152, 153, 154, 155, 156, 157, 158, 159, 160, 161, 162, 163, 164, 175, 176, 177, 178, 179, 180, 181] (by decide +kernel) (by decide +kernel)
set_option maxRecDepth 20000 in
theorem gX2_runHour_X2_worsen : GoodIn wsX2_runHour (wsV RX2 194 RX2 yX2_worsen wsX2_worsen) := goodIn_app (goodIn_of _ (by decide +kernel)) ggX2_runHour_X2_worsen
theorem dX2_runHour_0 : decode cX2_runHour 0 = .ok (.aload_n 0, 1) := by decide +kernel
theorem dX2_runHour_1 : decode cX2_runHour 1 = .ok (.getfield 31, 3) := by decide +kernel
theorem dX2_runHour_4 : decode cX2_runHour 4 = .ok (.aload_n 0, 1) := by decide +kernel
theorem dX2_runHour_5 : decode cX2_runHour 5 = .ok (.getfield 56, 3) := by decide +kernel
theorem dX2_runHour_8 : decode cX2_runHour 8 = .ok (.iconst 5, 1) := by decide +kernel
theorem dX2_runHour_9 : decode cX2_runHour 9 = .ok (.iaload, 1) := by decide +kernel
theorem dX2_runHour_10 : decode cX2_runHour 10 = .ok (.invokevirtual 175, 3) := by decide +kernel
theorem dX2_runHour_13 : decode cX2_runHour 13 = .ok (.aload_n 0, 1) := by decide +kernel
theorem dX2_runHour_14 : decode cX2_runHour 14 = .ok (.invokevirtual 179, 3) := by decide +kernel
theorem dX2_runHour_17 : decode cX2_runHour 17 = .ok (.aload_n 0, 1) := by decide +kernel
theorem dX2_runHour_18 : decode cX2_runHour 18 = .ok (.getfield 38, 3) := by decide +kernel
theorem dX2_runHour_21 : decode cX2_runHour 21 = .ok (.invokevirtual 182, 3) := by decide +kernel
theorem dX2_runHour_24 : decode cX2_runHour 24 = .ok (.istore_n 1, 1) := by decide +kernel
theorem dX2_runHour_25 : decode cX2_runHour 25 = .ok (.aload_n 0, 1) := by decide +kernel
theorem dX2_runHour_26 : decode cX2_runHour 26 = .ok (.iload_n 1, 1) := by decide +kernel
theorem dX2_runHour_27 : decode cX2_runHour 27 = .ok (.invokevirtual 185, 3) := by decide +kernel
theorem dX2_runHour_30 : decode cX2_runHour 30 = .ok (.istore_n 2, 1) := by decide +kernel
theorem dX2_runHour_31 : decode cX2_runHour 31 = .ok (.aload_n 0, 1) := by decide +kernel
theorem dX2_runHour_32 : decode cX2_runHour 32 = .ok (.iload_n 1, 1) := by decide +kernel
theorem dX2_runHour_33 : decode cX2_runHour 33 = .ok (.iload_n 2, 1) := by decide +kernel
theorem dX2_runHour_34 : decode cX2_runHour 34 = .ok (.invokevirtual 188, 3) := by decide +kernel
theorem dX2_runHour_37 : decode cX2_runHour 37 = .ok (.istore_n 3, 1) := by decide +kernel
theorem dX2_runHour_38 : decode cX2_runHour 38 = .ok (.iload_n 2, 1) := by decide +kernel
theorem dX2_runHour_39 : decode cX2_runHour 39 = .ok (.iconst 4, 1) := by decide +kernel
theorem dX2_runHour_40 : decode cX2_runHour 40 = .ok (.if_icmp .ne 8, 3) := by decide +kernel
theorem dX2_runHour_43 : decode cX2_runHour 43 = .ok (.aload_n 0, 1) := by decide +kernel
theorem dX2_runHour_44 : decode cX2_runHour 44 = .ok (.iload_n 1, 1) := by decide +kernel
theorem dX2_runHour_45 : decode cX2_runHour 45 = .ok (.invokevirtual 191, 3) := by decide +kernel
theorem dX2_runHour_48 : decode cX2_runHour 48 = .ok (.aload_n 0, 1) := by decide +kernel
theorem dX2_runHour_49 : decode cX2_runHour 49 = .ok (.iload_n 2, 1) := by decide +kernel
theorem dX2_runHour_50 : decode cX2_runHour 50 = .ok (.iconst 4, 1) := by decide +kernel
theorem dX2_runHour_51 : decode cX2_runHour 51 = .ok (.if_icmp .ne 7, 3) := by decide +kernel
theorem dX2_runHour_54 : decode cX2_runHour 54 = .ok (.iload_n 1, 1) := by decide +kernel
theorem dX2_runHour_55 : decode cX2_runHour 55 = .ok (.goto 4, 3) := by decide +kernel
theorem dX2_runHour_58 : decode cX2_runHour 58 = .ok (.iconst (-1), 1) := by decide +kernel
theorem dX2_runHour_59 : decode cX2_runHour 59 = .ok (.invokevirtual 194, 3) := by decide +kernel
theorem dX2_runHour_62 : decode cX2_runHour 62 = .ok (.aload_n 0, 1) := by decide +kernel
theorem dX2_runHour_63 : decode cX2_runHour 63 = .ok (.dup, 1) := by decide +kernel
theorem dX2_runHour_64 : decode cX2_runHour 64 = .ok (.getfield 63, 3) := by decide +kernel
theorem dX2_runHour_67 : decode cX2_runHour 67 = .ok (.iconst 1, 1) := by decide +kernel
theorem dX2_runHour_68 : decode cX2_runHour 68 = .ok (.iadd, 1) := by decide +kernel
theorem dX2_runHour_69 : decode cX2_runHour 69 = .ok (.putfield 63, 3) := by decide +kernel
theorem dX2_runHour_72 : decode cX2_runHour 72 = .ok (.iload_n 3, 1) := by decide +kernel
theorem dX2_runHour_73 : decode cX2_runHour 73 = .ok (.ireturn, 1) := by decide +kernel
set_option maxRecDepth 20000 in
theorem ggX2_dropFaultless_X4_first : GoodIn wsX2_dropFaultless wsX4_first := goodIn_r _ [11, 12, 13, 41, 42] (by decide +kernel) (by decide +kernel)
set_option maxRecDepth 20000 in
theorem gX2_dropFaultless_X4_first : GoodIn wsX2_dropFaultless (wsV RX2 182 RX4 yX4_first wsX4_first) := goodIn_app (goodIn_of _ (by decide +kernel)) ggX2_dropFaultless_X4_first
set_option maxRecDepth 20000 in
theorem ggX2_dropFaultless_X1_forgetWork : GoodIn wsX2_dropFaultless wsX1_forgetWork := goodIn_r _ [18, 19, 20, 43, 44, 45, 46, 47] (by decide +kernel) (by decide +kernel)
set_option maxRecDepth 20000 in
theorem gX2_dropFaultless_X1_forgetWork : GoodIn wsX2_dropFaultless (wsV RX2 200 RX1 yX1_forgetWork wsX1_forgetWork) := goodIn_app (goodIn_of _ (by decide +kernel)) ggX2_dropFaultless_X1_forgetWork
set_option maxRecDepth 20000 in
theorem ggX2_dropFaultless_X2_hasTurbine : GoodIn wsX2_dropFaultless wsX2_hasTurbine := goodIn_r _ [25, 26, 31, 32, 33, 34, 35, 36, 37, 38, 39, 40] (by decide +kernel) (by decide +kernel)
set_option maxRecDepth 20000 in
theorem gX2_dropFaultless_X2_hasTurbine : GoodIn wsX2_dropFaultless (wsV RX2 112 RX2 yX2_hasTurbine wsX2_hasTurbine) := goodIn_app (goodIn_of _ (by decide +kernel)) ggX2_dropFaultless_X2_hasTurbine
set_option maxRecDepth 20000 in
theorem ggX2_dropFaultless_X4_removeAt : GoodIn wsX2_dropFaultless wsX4_removeAt := goodIn_r _ [30, 12, 13, 41, 42] (by decide +kernel) (by decide +kernel)
set_option maxRecDepth 20000 in
theorem gX2_dropFaultless_X4_removeAt : GoodIn wsX2_dropFaultless (wsV RX2 203 RX4 yX4_removeAt wsX4_removeAt) := goodIn_app (goodIn_of _ (by decide +kernel)) ggX2_dropFaultless_X4_removeAt
theorem dX2_dropFaultless_0 : decode cX2_dropFaultless 0 = .ok (.aload_n 0, 1) := by decide +kernel
theorem dX2_dropFaultless_1 : decode cX2_dropFaultless 1 = .ok (.getfield 38, 3) := by decide +kernel
theorem dX2_dropFaultless_4 : decode cX2_dropFaultless 4 = .ok (.getfield 153, 3) := by decide +kernel
theorem dX2_dropFaultless_7 : decode cX2_dropFaultless 7 = .ok (.ifCond .le 27, 3) := by decide +kernel
theorem dX2_dropFaultless_10 : decode cX2_dropFaultless 10 = .ok (.aload_n 0, 1) := by decide +kernel
theorem dX2_dropFaultless_11 : decode cX2_dropFaultless 11 = .ok (.getfield 38, 3) := by decide +kernel
theorem dX2_dropFaultless_14 : decode cX2_dropFaultless 14 = .ok (.invokevirtual 182, 3) := by decide +kernel
theorem dX2_dropFaultless_17 : decode cX2_dropFaultless 17 = .ok (.aload_n 0, 1) := by decide +kernel
theorem dX2_dropFaultless_18 : decode cX2_dropFaultless 18 = .ok (.getfield 45, 3) := by decide +kernel
theorem dX2_dropFaultless_21 : decode cX2_dropFaultless 21 = .ok (.getfield 197, 3) := by decide +kernel
theorem dX2_dropFaultless_24 : decode cX2_dropFaultless 24 = .ok (.if_icmp .eq 10, 3) := by decide +kernel
theorem dX2_dropFaultless_27 : decode cX2_dropFaultless 27 = .ok (.aload_n 0, 1) := by decide +kernel
theorem dX2_dropFaultless_28 : decode cX2_dropFaultless 28 = .ok (.getfield 45, 3) := by decide +kernel
theorem dX2_dropFaultless_31 : decode cX2_dropFaultless 31 = .ok (.invokevirtual 200, 3) := by decide +kernel
theorem dX2_dropFaultless_34 : decode cX2_dropFaultless 34 = .ok (.iconst 0, 1) := by decide +kernel
theorem dX2_dropFaultless_35 : decode cX2_dropFaultless 35 = .ok (.istore_n 1, 1) := by decide +kernel
theorem dX2_dropFaultless_36 : decode cX2_dropFaultless 36 = .ok (.iload_n 1, 1) := by decide +kernel
theorem dX2_dropFaultless_37 : decode cX2_dropFaultless 37 = .ok (.bipush 10, 2) := by decide +kernel
theorem dX2_dropFaultless_39 : decode cX2_dropFaultless 39 = .ok (.if_icmp .ge 53, 3) := by decide +kernel
theorem dX2_dropFaultless_42 : decode cX2_dropFaultless 42 = .ok (.aload_n 0, 1) := by decide +kernel
theorem dX2_dropFaultless_43 : decode cX2_dropFaultless 43 = .ok (.getfield 38, 3) := by decide +kernel
theorem dX2_dropFaultless_46 : decode cX2_dropFaultless 46 = .ok (.invokevirtual 182, 3) := by decide +kernel
theorem dX2_dropFaultless_49 : decode cX2_dropFaultless 49 = .ok (.istore_n 2, 1) := by decide +kernel
theorem dX2_dropFaultless_50 : decode cX2_dropFaultless 50 = .ok (.aload_n 0, 1) := by decide +kernel
theorem dX2_dropFaultless_51 : decode cX2_dropFaultless 51 = .ok (.iload_n 2, 1) := by decide +kernel
theorem dX2_dropFaultless_52 : decode cX2_dropFaultless 52 = .ok (.invokevirtual 112, 3) := by decide +kernel
theorem dX2_dropFaultless_55 : decode cX2_dropFaultless 55 = .ok (.ifCond .eq 15, 3) := by decide +kernel
theorem dX2_dropFaultless_58 : decode cX2_dropFaultless 58 = .ok (.aload_n 0, 1) := by decide +kernel
theorem dX2_dropFaultless_59 : decode cX2_dropFaultless 59 = .ok (.getfield 11, 3) := by decide +kernel
theorem dX2_dropFaultless_62 : decode cX2_dropFaultless 62 = .ok (.iload_n 2, 1) := by decide +kernel
theorem dX2_dropFaultless_63 : decode cX2_dropFaultless 63 = .ok (.aaload, 1) := by decide +kernel
theorem dX2_dropFaultless_64 : decode cX2_dropFaultless 64 = .ok (.getfield 102, 3) := by decide +kernel
theorem dX2_dropFaultless_67 : decode cX2_dropFaultless 67 = .ok (.ifCond .eq 4, 3) := by decide +kernel
theorem dX2_dropFaultless_70 : decode cX2_dropFaultless 70 = .ok (.return_, 1) := by decide +kernel
theorem dX2_dropFaultless_71 : decode cX2_dropFaultless 71 = .ok (.aload_n 0, 1) := by decide +kernel
theorem dX2_dropFaultless_72 : decode cX2_dropFaultless 72 = .ok (.getfield 38, 3) := by decide +kernel
theorem dX2_dropFaultless_75 : decode cX2_dropFaultless 75 = .ok (.iconst 0, 1) := by decide +kernel
theorem dX2_dropFaultless_76 : decode cX2_dropFaultless 76 = .ok (.invokevirtual 203, 3) := by decide +kernel
theorem dX2_dropFaultless_79 : decode cX2_dropFaultless 79 = .ok (.aload_n 0, 1) := by decide +kernel
theorem dX2_dropFaultless_80 : decode cX2_dropFaultless 80 = .ok (.getfield 45, 3) := by decide +kernel
theorem dX2_dropFaultless_83 : decode cX2_dropFaultless 83 = .ok (.invokevirtual 200, 3) := by decide +kernel
theorem dX2_dropFaultless_86 : decode cX2_dropFaultless 86 = .ok (.iinc 1 1, 3) := by decide +kernel
theorem dX2_dropFaultless_89 : decode cX2_dropFaultless 89 = .ok (.goto (-53), 3) := by decide +kernel
theorem dX2_dropFaultless_92 : decode cX2_dropFaultless 92 = .ok (.return_, 1) := by decide +kernel
set_option maxRecDepth 20000 in
theorem ggX2_serve_X2_hasTurbine : GoodIn wsX2_serve wsX2_hasTurbine := goodIn_r _ [11, 12, 82, 83, 84, 85, 86, 87, 88, 89, 90, 91] (by decide +kernel) (by decide +kernel)
set_option maxRecDepth 20000 in
theorem gX2_serve_X2_hasTurbine : GoodIn wsX2_serve (wsV RX2 112 RX2 yX2_hasTurbine wsX2_hasTurbine) := goodIn_app (goodIn_of _ (by decide +kernel)) ggX2_serve_X2_hasTurbine
set_option maxRecDepth 20000 in
theorem ggX2_serve_X1_isOnWay : GoodIn wsX2_serve wsX1_isOnWay := goodIn_r _ [17, 18, 92, 93, 94, 95, 96] (by decide +kernel) (by decide +kernel)
set_option maxRecDepth 20000 in
theorem gX2_serve_X1_isOnWay : GoodIn wsX2_serve (wsV RX2 206 RX1 yX1_isOnWay wsX1_isOnWay) := goodIn_app (goodIn_of _ (by decide +kernel)) ggX2_serve_X1_isOnWay
set_option maxRecDepth 20000 in
theorem ggX2_serve_X2_hoursBetween : GoodIn wsX2_serve wsX2_hoursBetween := goodIn_r _ [22, 6, 23, 24, 25, 26, 27, 28, 29, 30, 31, 32, 33, 34, 35, 36, 37, 38, 39, 40, 41, 82, 83, 84, 85, 86, 87, 88, 89, 90, 91, 104, 105, 106] (by decide +kernel) (by decide +kernel)
set_option maxRecDepth 20000 in
theorem gX2_serve_X2_hoursBetween : GoodIn wsX2_serve (wsV RX2 211 RX2 yX2_hoursBetween wsX2_hoursBetween) := goodIn_app (goodIn_of _ (by decide +kernel)) ggX2_serve_X2_hoursBetween
set_option maxRecDepth 20000 in
theorem ggX2_serve_X1_driveTo : GoodIn wsX2_serve wsX1_driveTo := goodIn_r _ [45, 18, 46, 47, 24, 25, 26, 48, 92, 93, 94, 95, 96] (by decide +kernel) (by decide +kernel)
set_option maxRecDepth 20000 in
theorem gX2_serve_X1_driveTo : GoodIn wsX2_serve (wsV RX2 214 RX1 yX1_driveTo wsX1_driveTo) := goodIn_app (goodIn_of _ (by decide +kernel)) ggX2_serve_X1_driveTo
set_option maxRecDepth 20000 in
theorem ggX2_serve_X3_unloadedFor : GoodIn wsX2_serve wsX3_unloadedFor := goodIn_r _ [53, 54, 55, 56, 107, 108, 109] (by decide +kernel) (by decide +kernel)
set_option maxRecDepth 20000 in
theorem gX2_serve_X3_unloadedFor : GoodIn wsX2_serve (wsV RX2 131 RX3 yX3_unloadedFor wsX3_unloadedFor) := goodIn_app (goodIn_of _ (by decide +kernel)) ggX2_serve_X3_unloadedFor
set_option maxRecDepth 20000 in
theorem ggX2_serve_X2_windNow : GoodIn wsX2_serve wsX2_windNow := goodIn_r _ [60, 61, 62, 63, 64, 65, 66, 67, 68, 69, 82, 83, 84, 85, 86, 87, 88, 89, 90, 91, 110, 111] (by decide +kernel) (by decide +kernel)
set_option maxRecDepth 20000 in
theorem gX2_serve_X2_windNow : GoodIn wsX2_serve (wsV RX2 137 RX2 yX2_windNow wsX2_windNow) := goodIn_app (goodIn_of _ (by decide +kernel)) ggX2_serve_X2_windNow
set_option maxRecDepth 20000 in
theorem ggX2_serve_X5_limit : GoodIn wsX2_serve wsX5_limit := goodIn_r _ [74, 75, 97, 98, 99, 100, 101, 102, 103] (by decide +kernel) (by decide +kernel)
set_option maxRecDepth 20000 in
theorem gX2_serve_X5_limit : GoodIn wsX2_serve (wsV RX2 125 RX5 yX5_limit wsX5_limit) := goodIn_app (goodIn_of _ (by decide +kernel)) ggX2_serve_X5_limit
set_option maxRecDepth 20000 in
theorem ggX2_serve_X1_workAnHourOn : GoodIn wsX2_serve wsX1_workAnHourOn := goodIn_r _ [79, 80, 81, 92, 93, 94, 95, 96] (by decide +kernel) (by decide +kernel)
set_option maxRecDepth 20000 in
theorem gX2_serve_X1_workAnHourOn : GoodIn wsX2_serve (wsV RX2 217 RX1 yX1_workAnHourOn wsX1_workAnHourOn) := goodIn_app (goodIn_of _ (by decide +kernel)) ggX2_serve_X1_workAnHourOn
theorem dX2_serve_0 : decode cX2_serve 0 = .ok (.aload_n 0, 1) := by decide +kernel
theorem dX2_serve_1 : decode cX2_serve 1 = .ok (.iload_n 1, 1) := by decide +kernel
theorem dX2_serve_2 : decode cX2_serve 2 = .ok (.invokevirtual 112, 3) := by decide +kernel
theorem dX2_serve_5 : decode cX2_serve 5 = .ok (.ifCond .ne 5, 3) := by decide +kernel
theorem dX2_serve_8 : decode cX2_serve 8 = .ok (.iconst 0, 1) := by decide +kernel
theorem dX2_serve_9 : decode cX2_serve 9 = .ok (.ireturn, 1) := by decide +kernel
theorem dX2_serve_10 : decode cX2_serve 10 = .ok (.aload_n 0, 1) := by decide +kernel
theorem dX2_serve_11 : decode cX2_serve 11 = .ok (.getfield 11, 3) := by decide +kernel
theorem dX2_serve_14 : decode cX2_serve 14 = .ok (.iload_n 1, 1) := by decide +kernel
theorem dX2_serve_15 : decode cX2_serve 15 = .ok (.aaload, 1) := by decide +kernel
theorem dX2_serve_16 : decode cX2_serve 16 = .ok (.astore_n 2, 1) := by decide +kernel
theorem dX2_serve_17 : decode cX2_serve 17 = .ok (.aload_n 0, 1) := by decide +kernel
theorem dX2_serve_18 : decode cX2_serve 18 = .ok (.getfield 45, 3) := by decide +kernel
theorem dX2_serve_21 : decode cX2_serve 21 = .ok (.invokevirtual 206, 3) := by decide +kernel
theorem dX2_serve_24 : decode cX2_serve 24 = .ok (.ifCond .ne 17, 3) := by decide +kernel
theorem dX2_serve_27 : decode cX2_serve 27 = .ok (.aload_n 0, 1) := by decide +kernel
theorem dX2_serve_28 : decode cX2_serve 28 = .ok (.getfield 45, 3) := by decide +kernel
theorem dX2_serve_31 : decode cX2_serve 31 = .ok (.getfield 210, 3) := by decide +kernel
theorem dX2_serve_34 : decode cX2_serve 34 = .ok (.aload_n 2, 1) := by decide +kernel
theorem dX2_serve_35 : decode cX2_serve 35 = .ok (.getfield 95, 3) := by decide +kernel
theorem dX2_serve_38 : decode cX2_serve 38 = .ok (.if_icmp .eq 32, 3) := by decide +kernel
theorem dX2_serve_41 : decode cX2_serve 41 = .ok (.aload_n 0, 1) := by decide +kernel
theorem dX2_serve_42 : decode cX2_serve 42 = .ok (.getfield 45, 3) := by decide +kernel
theorem dX2_serve_45 : decode cX2_serve 45 = .ok (.iload_n 1, 1) := by decide +kernel
theorem dX2_serve_46 : decode cX2_serve 46 = .ok (.aload_n 2, 1) := by decide +kernel
theorem dX2_serve_47 : decode cX2_serve 47 = .ok (.getfield 95, 3) := by decide +kernel
theorem dX2_serve_50 : decode cX2_serve 50 = .ok (.aload_n 0, 1) := by decide +kernel
theorem dX2_serve_51 : decode cX2_serve 51 = .ok (.aload_n 0, 1) := by decide +kernel
theorem dX2_serve_52 : decode cX2_serve 52 = .ok (.getfield 45, 3) := by decide +kernel
theorem dX2_serve_55 : decode cX2_serve 55 = .ok (.getfield 210, 3) := by decide +kernel
theorem dX2_serve_58 : decode cX2_serve 58 = .ok (.aload_n 2, 1) := by decide +kernel
theorem dX2_serve_59 : decode cX2_serve 59 = .ok (.getfield 95, 3) := by decide +kernel
theorem dX2_serve_62 : decode cX2_serve 62 = .ok (.invokevirtual 211, 3) := by decide +kernel
theorem dX2_serve_65 : decode cX2_serve 65 = .ok (.invokevirtual 214, 3) := by decide +kernel
theorem dX2_serve_68 : decode cX2_serve 68 = .ok (.iconst 1, 1) := by decide +kernel
theorem dX2_serve_69 : decode cX2_serve 69 = .ok (.ireturn, 1) := by decide +kernel
theorem dX2_serve_70 : decode cX2_serve 70 = .ok (.aload_n 0, 1) := by decide +kernel
theorem dX2_serve_71 : decode cX2_serve 71 = .ok (.getfield 31, 3) := by decide +kernel
theorem dX2_serve_74 : decode cX2_serve 74 = .ok (.iload_n 1, 1) := by decide +kernel
theorem dX2_serve_75 : decode cX2_serve 75 = .ok (.invokevirtual 131, 3) := by decide +kernel
theorem dX2_serve_78 : decode cX2_serve 78 = .ok (.ifCond .ne 5, 3) := by decide +kernel
theorem dX2_serve_81 : decode cX2_serve 81 = .ok (.iconst 2, 1) := by decide +kernel
theorem dX2_serve_82 : decode cX2_serve 82 = .ok (.ireturn, 1) := by decide +kernel
theorem dX2_serve_83 : decode cX2_serve 83 = .ok (.aload_n 0, 1) := by decide +kernel
theorem dX2_serve_84 : decode cX2_serve 84 = .ok (.invokevirtual 137, 3) := by decide +kernel
theorem dX2_serve_87 : decode cX2_serve 87 = .ok (.aload_n 2, 1) := by decide +kernel
theorem dX2_serve_88 : decode cX2_serve 88 = .ok (.aload_n 0, 1) := by decide +kernel
theorem dX2_serve_89 : decode cX2_serve 89 = .ok (.getfield 56, 3) := by decide +kernel
theorem dX2_serve_92 : decode cX2_serve 92 = .ok (.iconst 0, 1) := by decide +kernel
theorem dX2_serve_93 : decode cX2_serve 93 = .ok (.iaload, 1) := by decide +kernel
theorem dX2_serve_94 : decode cX2_serve 94 = .ok (.invokevirtual 125, 3) := by decide +kernel
theorem dX2_serve_97 : decode cX2_serve 97 = .ok (.if_icmp .le 5, 3) := by decide +kernel
theorem dX2_serve_100 : decode cX2_serve 100 = .ok (.iconst 3, 1) := by decide +kernel
theorem dX2_serve_101 : decode cX2_serve 101 = .ok (.ireturn, 1) := by decide +kernel
theorem dX2_serve_102 : decode cX2_serve 102 = .ok (.aload_n 0, 1) := by decide +kernel
theorem dX2_serve_103 : decode cX2_serve 103 = .ok (.getfield 45, 3) := by decide +kernel
theorem dX2_serve_106 : decode cX2_serve 106 = .ok (.iload_n 1, 1) := by decide +kernel
theorem dX2_serve_107 : decode cX2_serve 107 = .ok (.invokevirtual 217, 3) := by decide +kernel
theorem dX2_serve_110 : decode cX2_serve 110 = .ok (.iconst 4, 1) := by decide +kernel
theorem dX2_serve_111 : decode cX2_serve 111 = .ok (.ireturn, 1) := by decide +kernel
set_option maxRecDepth 20000 in
theorem ggX2_sharePower_X2_windNow : GoodIn wsX2_sharePower wsX2_windNow := goodIn_r _ [11, 12, 13, 14, 15, 16, 17, 18, 19, 20, 31, 32, 33, 34, 35, 36, 37, 38, 39, 40, 48, 49] (by decide +kernel) (by decide +kernel)
set_option maxRecDepth 20000 in
theorem gX2_sharePower_X2_windNow : GoodIn wsX2_sharePower (wsV RX2 137 RX2 yX2_windNow wsX2_windNow) := goodIn_app (goodIn_of _ (by decide +kernel)) ggX2_sharePower_X2_windNow
set_option maxRecDepth 20000 in
theorem ggX2_sharePower_X5_fullPower : GoodIn wsX2_sharePower wsX5_fullPower := goodIn_r _ [25, 26, 27, 28, 29, 30, 41, 42, 43, 44, 45, 46, 47] (by decide +kernel) (by decide +kernel)
set_option maxRecDepth 20000 in
theorem gX2_sharePower_X5_fullPower : GoodIn wsX2_sharePower (wsV RX2 141 RX5 yX5_fullPower wsX5_fullPower) := goodIn_app (goodIn_of _ (by decide +kernel)) ggX2_sharePower_X5_fullPower
theorem dX2_sharePower_0 : decode cX2_sharePower 0 = .ok (.aload_n 0, 1) := by decide +kernel
theorem dX2_sharePower_1 : decode cX2_sharePower 1 = .ok (.invokevirtual 137, 3) := by decide +kernel
theorem dX2_sharePower_4 : decode cX2_sharePower 4 = .ok (.istore_n 3, 1) := by decide +kernel
theorem dX2_sharePower_5 : decode cX2_sharePower 5 = .ok (.iconst 0, 1) := by decide +kernel
theorem dX2_sharePower_6 : decode cX2_sharePower 6 = .ok (.istore 4, 2) := by decide +kernel
theorem dX2_sharePower_8 : decode cX2_sharePower 8 = .ok (.iconst 0, 1) := by decide +kernel
theorem dX2_sharePower_9 : decode cX2_sharePower 9 = .ok (.istore 5, 2) := by decide +kernel
theorem dX2_sharePower_11 : decode cX2_sharePower 11 = .ok (.iload 5, 2) := by decide +kernel
theorem dX2_sharePower_13 : decode cX2_sharePower 13 = .ok (.aload_n 0, 1) := by decide +kernel
theorem dX2_sharePower_14 : decode cX2_sharePower 14 = .ok (.getfield 17, 3) := by decide +kernel
theorem dX2_sharePower_17 : decode cX2_sharePower 17 = .ok (.if_icmp .ge 130, 3) := by decide +kernel
theorem dX2_sharePower_20 : decode cX2_sharePower 20 = .ok (.aload_n 0, 1) := by decide +kernel
theorem dX2_sharePower_21 : decode cX2_sharePower 21 = .ok (.getfield 11, 3) := by decide +kernel
theorem dX2_sharePower_24 : decode cX2_sharePower 24 = .ok (.iload 5, 2) := by decide +kernel
theorem dX2_sharePower_26 : decode cX2_sharePower 26 = .ok (.aaload, 1) := by decide +kernel
theorem dX2_sharePower_27 : decode cX2_sharePower 27 = .ok (.iload_n 3, 1) := by decide +kernel
theorem dX2_sharePower_28 : decode cX2_sharePower 28 = .ok (.invokevirtual 141, 3) := by decide +kernel
theorem dX2_sharePower_31 : decode cX2_sharePower 31 = .ok (.istore 6, 2) := by decide +kernel
theorem dX2_sharePower_33 : decode cX2_sharePower 33 = .ok (.iload 5, 2) := by decide +kernel
theorem dX2_sharePower_35 : decode cX2_sharePower 35 = .ok (.iload_n 1, 1) := by decide +kernel
theorem dX2_sharePower_36 : decode cX2_sharePower 36 = .ok (.if_icmp .ne 7, 3) := by decide +kernel
theorem dX2_sharePower_39 : decode cX2_sharePower 39 = .ok (.iload_n 2, 1) := by decide +kernel
theorem dX2_sharePower_40 : decode cX2_sharePower 40 = .ok (.goto 4, 3) := by decide +kernel
theorem dX2_sharePower_43 : decode cX2_sharePower 43 = .ok (.iconst 0, 1) := by decide +kernel
theorem dX2_sharePower_44 : decode cX2_sharePower 44 = .ok (.istore 7, 2) := by decide +kernel
theorem dX2_sharePower_46 : decode cX2_sharePower 46 = .ok (.iload 7, 2) := by decide +kernel
theorem dX2_sharePower_48 : decode cX2_sharePower 48 = .ok (.iconst 4, 1) := by decide +kernel
theorem dX2_sharePower_49 : decode cX2_sharePower 49 = .ok (.if_icmp .ne 8, 3) := by decide +kernel
theorem dX2_sharePower_52 : decode cX2_sharePower 52 = .ok (.iload 6, 2) := by decide +kernel
theorem dX2_sharePower_54 : decode cX2_sharePower 54 = .ok (.goto 18, 3) := by decide +kernel
theorem dX2_sharePower_57 : decode cX2_sharePower 57 = .ok (.iload 6, 2) := by decide +kernel
theorem dX2_sharePower_59 : decode cX2_sharePower 59 = .ok (.aload_n 0, 1) := by decide +kernel
theorem dX2_sharePower_60 : decode cX2_sharePower 60 = .ok (.getfield 11, 3) := by decide +kernel
theorem dX2_sharePower_63 : decode cX2_sharePower 63 = .ok (.iload 5, 2) := by decide +kernel
theorem dX2_sharePower_65 : decode cX2_sharePower 65 = .ok (.aaload, 1) := by decide +kernel
theorem dX2_sharePower_66 : decode cX2_sharePower 66 = .ok (.getfield 102, 3) := by decide +kernel
theorem dX2_sharePower_69 : decode cX2_sharePower 69 = .ok (.imul, 1) := by decide +kernel
theorem dX2_sharePower_70 : decode cX2_sharePower 70 = .ok (.iconst 4, 1) := by decide +kernel
theorem dX2_sharePower_71 : decode cX2_sharePower 71 = .ok (.idiv, 1) := by decide +kernel
theorem dX2_sharePower_72 : decode cX2_sharePower 72 = .ok (.istore 8, 2) := by decide +kernel
theorem dX2_sharePower_74 : decode cX2_sharePower 74 = .ok (.aload_n 0, 1) := by decide +kernel
theorem dX2_sharePower_75 : decode cX2_sharePower 75 = .ok (.getfield 11, 3) := by decide +kernel
theorem dX2_sharePower_78 : decode cX2_sharePower 78 = .ok (.iload 5, 2) := by decide +kernel
theorem dX2_sharePower_80 : decode cX2_sharePower 80 = .ok (.aaload, 1) := by decide +kernel
theorem dX2_sharePower_81 : decode cX2_sharePower 81 = .ok (.dup, 1) := by decide +kernel
theorem dX2_sharePower_82 : decode cX2_sharePower 82 = .ok (.getfield 134, 3) := by decide +kernel
theorem dX2_sharePower_85 : decode cX2_sharePower 85 = .ok (.iload 8, 2) := by decide +kernel
theorem dX2_sharePower_87 : decode cX2_sharePower 87 = .ok (.iadd, 1) := by decide +kernel
theorem dX2_sharePower_88 : decode cX2_sharePower 88 = .ok (.putfield 134, 3) := by decide +kernel
theorem dX2_sharePower_91 : decode cX2_sharePower 91 = .ok (.aload_n 0, 1) := by decide +kernel
theorem dX2_sharePower_92 : decode cX2_sharePower 92 = .ok (.getfield 11, 3) := by decide +kernel
theorem dX2_sharePower_95 : decode cX2_sharePower 95 = .ok (.iload 5, 2) := by decide +kernel
theorem dX2_sharePower_97 : decode cX2_sharePower 97 = .ok (.aaload, 1) := by decide +kernel
theorem dX2_sharePower_98 : decode cX2_sharePower 98 = .ok (.dup, 1) := by decide +kernel
theorem dX2_sharePower_99 : decode cX2_sharePower 99 = .ok (.getfield 105, 3) := by decide +kernel
theorem dX2_sharePower_102 : decode cX2_sharePower 102 = .ok (.iload 6, 2) := by decide +kernel
theorem dX2_sharePower_104 : decode cX2_sharePower 104 = .ok (.iload 8, 2) := by decide +kernel
theorem dX2_sharePower_106 : decode cX2_sharePower 106 = .ok (.isub, 1) := by decide +kernel
theorem dX2_sharePower_107 : decode cX2_sharePower 107 = .ok (.iadd, 1) := by decide +kernel
theorem dX2_sharePower_108 : decode cX2_sharePower 108 = .ok (.putfield 105, 3) := by decide +kernel
theorem dX2_sharePower_111 : decode cX2_sharePower 111 = .ok (.iload 7, 2) := by decide +kernel
theorem dX2_sharePower_113 : decode cX2_sharePower 113 = .ok (.ifCond .lt 21, 3) := by decide +kernel
theorem dX2_sharePower_116 : decode cX2_sharePower 116 = .ok (.iload 7, 2) := by decide +kernel
theorem dX2_sharePower_118 : decode cX2_sharePower 118 = .ok (.iconst 5, 1) := by decide +kernel
theorem dX2_sharePower_119 : decode cX2_sharePower 119 = .ok (.if_icmp .ge 15, 3) := by decide +kernel
theorem dX2_sharePower_122 : decode cX2_sharePower 122 = .ok (.aload_n 0, 1) := by decide +kernel
theorem dX2_sharePower_123 : decode cX2_sharePower 123 = .ok (.getfield 60, 3) := by decide +kernel
theorem dX2_sharePower_126 : decode cX2_sharePower 126 = .ok (.iload 7, 2) := by decide +kernel
theorem dX2_sharePower_128 : decode cX2_sharePower 128 = .ok (.dup2, 1) := by decide +kernel
theorem dX2_sharePower_129 : decode cX2_sharePower 129 = .ok (.iaload, 1) := by decide +kernel
theorem dX2_sharePower_130 : decode cX2_sharePower 130 = .ok (.iload 8, 2) := by decide +kernel
theorem dX2_sharePower_132 : decode cX2_sharePower 132 = .ok (.iadd, 1) := by decide +kernel
theorem dX2_sharePower_133 : decode cX2_sharePower 133 = .ok (.iastore, 1) := by decide +kernel
theorem dX2_sharePower_134 : decode cX2_sharePower 134 = .ok (.iload 4, 2) := by decide +kernel
theorem dX2_sharePower_136 : decode cX2_sharePower 136 = .ok (.iload 8, 2) := by decide +kernel
theorem dX2_sharePower_138 : decode cX2_sharePower 138 = .ok (.iadd, 1) := by decide +kernel
theorem dX2_sharePower_139 : decode cX2_sharePower 139 = .ok (.istore 4, 2) := by decide +kernel
theorem dX2_sharePower_141 : decode cX2_sharePower 141 = .ok (.iinc 5 1, 3) := by decide +kernel
theorem dX2_sharePower_144 : decode cX2_sharePower 144 = .ok (.goto (-133), 3) := by decide +kernel
theorem dX2_sharePower_147 : decode cX2_sharePower 147 = .ok (.iload 4, 2) := by decide +kernel
theorem dX2_sharePower_149 : decode cX2_sharePower 149 = .ok (.ireturn, 1) := by decide +kernel
set_option maxRecDepth 20000 in
theorem ggX2_finishIfDone_X2_hasTurbine : GoodIn wsX2_finishIfDone wsX2_hasTurbine := goodIn_r _ [13, 14, 45, 46, 47, 48, 49, 50, 51, 52, 53, 54] (by decide +kernel) (by decide +kernel)
set_option maxRecDepth 20000 in
theorem gX2_finishIfDone_X2_hasTurbine : GoodIn wsX2_finishIfDone (wsV RX2 112 RX2 yX2_hasTurbine wsX2_hasTurbine) := goodIn_app (goodIn_of _ (by decide +kernel)) ggX2_finishIfDone_X2_hasTurbine
set_option maxRecDepth 20000 in
theorem ggX2_finishIfDone_X3_useBladeFor : GoodIn wsX2_finishIfDone wsX3_useBladeFor := goodIn_r _ [19, 20, 21, 22, 23, 24, 25, 18, 26, 67, 68, 69] (by decide +kernel) (by decide +kernel)
set_option maxRecDepth 20000 in
theorem gX2_finishIfDone_X3_useBladeFor : GoodIn wsX2_finishIfDone (wsV RX2 223 RX3 yX3_useBladeFor wsX3_useBladeFor) := goodIn_app (goodIn_of _ (by decide +kernel)) ggX2_finishIfDone_X3_useBladeFor
set_option maxRecDepth 20000 in
theorem ggX2_finishIfDone_X1_forgetWork : GoodIn wsX2_finishIfDone wsX1_forgetWork := goodIn_r _ [31, 32, 33, 55, 56, 57, 58, 59] (by decide +kernel) (by decide +kernel)
set_option maxRecDepth 20000 in
theorem gX2_finishIfDone_X1_forgetWork : GoodIn wsX2_finishIfDone (wsV RX2 200 RX1 yX1_forgetWork wsX1_forgetWork) := goodIn_app (goodIn_of _ (by decide +kernel)) ggX2_finishIfDone_X1_forgetWork
set_option maxRecDepth 20000 in
theorem ggX2_finishIfDone_X4_placeOf : GoodIn wsX2_finishIfDone wsX4_placeOf := goodIn_r _ [38, 39, 40, 70, 71] (by decide +kernel) (by decide +kernel)
set_option maxRecDepth 20000 in
theorem gX2_finishIfDone_X4_placeOf : GoodIn wsX2_finishIfDone (wsV RX2 128 RX4 yX4_placeOf wsX4_placeOf) := goodIn_app (goodIn_of _ (by decide +kernel)) ggX2_finishIfDone_X4_placeOf
set_option maxRecDepth 20000 in
theorem ggX2_finishIfDone_X4_removeAt : GoodIn wsX2_finishIfDone wsX4_removeAt := goodIn_r _ [44, 39, 40, 70, 71] (by decide +kernel) (by decide +kernel)
set_option maxRecDepth 20000 in
theorem gX2_finishIfDone_X4_removeAt : GoodIn wsX2_finishIfDone (wsV RX2 203 RX4 yX4_removeAt wsX4_removeAt) := goodIn_app (goodIn_of _ (by decide +kernel)) ggX2_finishIfDone_X4_removeAt
theorem dX2_finishIfDone_0 : decode cX2_finishIfDone 0 = .ok (.aload_n 0, 1) := by decide +kernel
theorem dX2_finishIfDone_1 : decode cX2_finishIfDone 1 = .ok (.iload_n 1, 1) := by decide +kernel
theorem dX2_finishIfDone_2 : decode cX2_finishIfDone 2 = .ok (.invokevirtual 112, 3) := by decide +kernel
theorem dX2_finishIfDone_5 : decode cX2_finishIfDone 5 = .ok (.ifCond .eq 29, 3) := by decide +kernel
theorem dX2_finishIfDone_8 : decode cX2_finishIfDone 8 = .ok (.aload_n 0, 1) := by decide +kernel
theorem dX2_finishIfDone_9 : decode cX2_finishIfDone 9 = .ok (.getfield 45, 3) := by decide +kernel
theorem dX2_finishIfDone_12 : decode cX2_finishIfDone 12 = .ok (.getfield 220, 3) := by decide +kernel
theorem dX2_finishIfDone_15 : decode cX2_finishIfDone 15 = .ok (.aload_n 0, 1) := by decide +kernel
theorem dX2_finishIfDone_16 : decode cX2_finishIfDone 16 = .ok (.getfield 56, 3) := by decide +kernel
theorem dX2_finishIfDone_19 : decode cX2_finishIfDone 19 = .ok (.iconst 2, 1) := by decide +kernel
theorem dX2_finishIfDone_20 : decode cX2_finishIfDone 20 = .ok (.iaload, 1) := by decide +kernel
theorem dX2_finishIfDone_21 : decode cX2_finishIfDone 21 = .ok (.aload_n 0, 1) := by decide +kernel
theorem dX2_finishIfDone_22 : decode cX2_finishIfDone 22 = .ok (.getfield 11, 3) := by decide +kernel
theorem dX2_finishIfDone_25 : decode cX2_finishIfDone 25 = .ok (.iload_n 1, 1) := by decide +kernel
theorem dX2_finishIfDone_26 : decode cX2_finishIfDone 26 = .ok (.aaload, 1) := by decide +kernel
theorem dX2_finishIfDone_27 : decode cX2_finishIfDone 27 = .ok (.getfield 102, 3) := by decide +kernel
theorem dX2_finishIfDone_30 : decode cX2_finishIfDone 30 = .ok (.imul, 1) := by decide +kernel
theorem dX2_finishIfDone_31 : decode cX2_finishIfDone 31 = .ok (.if_icmp .ge 4, 3) := by decide +kernel
theorem dX2_finishIfDone_34 : decode cX2_finishIfDone 34 = .ok (.return_, 1) := by decide +kernel
theorem dX2_finishIfDone_35 : decode cX2_finishIfDone 35 = .ok (.aload_n 0, 1) := by decide +kernel
theorem dX2_finishIfDone_36 : decode cX2_finishIfDone 36 = .ok (.getfield 11, 3) := by decide +kernel
theorem dX2_finishIfDone_39 : decode cX2_finishIfDone 39 = .ok (.iload_n 1, 1) := by decide +kernel
theorem dX2_finishIfDone_40 : decode cX2_finishIfDone 40 = .ok (.aaload, 1) := by decide +kernel
theorem dX2_finishIfDone_41 : decode cX2_finishIfDone 41 = .ok (.iconst 0, 1) := by decide +kernel
theorem dX2_finishIfDone_42 : decode cX2_finishIfDone 42 = .ok (.putfield 102, 3) := by decide +kernel
theorem dX2_finishIfDone_45 : decode cX2_finishIfDone 45 = .ok (.aload_n 0, 1) := by decide +kernel
theorem dX2_finishIfDone_46 : decode cX2_finishIfDone 46 = .ok (.getfield 11, 3) := by decide +kernel
theorem dX2_finishIfDone_49 : decode cX2_finishIfDone 49 = .ok (.iload_n 1, 1) := by decide +kernel
theorem dX2_finishIfDone_50 : decode cX2_finishIfDone 50 = .ok (.aaload, 1) := by decide +kernel
theorem dX2_finishIfDone_51 : decode cX2_finishIfDone 51 = .ok (.iconst 0, 1) := by decide +kernel
theorem dX2_finishIfDone_52 : decode cX2_finishIfDone 52 = .ok (.putfield 122, 3) := by decide +kernel
theorem dX2_finishIfDone_55 : decode cX2_finishIfDone 55 = .ok (.aload_n 0, 1) := by decide +kernel
theorem dX2_finishIfDone_56 : decode cX2_finishIfDone 56 = .ok (.getfield 31, 3) := by decide +kernel
theorem dX2_finishIfDone_59 : decode cX2_finishIfDone 59 = .ok (.iload_n 1, 1) := by decide +kernel
theorem dX2_finishIfDone_60 : decode cX2_finishIfDone 60 = .ok (.invokevirtual 223, 3) := by decide +kernel
theorem dX2_finishIfDone_63 : decode cX2_finishIfDone 63 = .ok (.aload_n 0, 1) := by decide +kernel
theorem dX2_finishIfDone_64 : decode cX2_finishIfDone 64 = .ok (.getfield 45, 3) := by decide +kernel
theorem dX2_finishIfDone_67 : decode cX2_finishIfDone 67 = .ok (.invokevirtual 200, 3) := by decide +kernel
theorem dX2_finishIfDone_70 : decode cX2_finishIfDone 70 = .ok (.aload_n 0, 1) := by decide +kernel
theorem dX2_finishIfDone_71 : decode cX2_finishIfDone 71 = .ok (.getfield 38, 3) := by decide +kernel
theorem dX2_finishIfDone_74 : decode cX2_finishIfDone 74 = .ok (.aload_n 0, 1) := by decide +kernel
theorem dX2_finishIfDone_75 : decode cX2_finishIfDone 75 = .ok (.getfield 38, 3) := by decide +kernel
theorem dX2_finishIfDone_78 : decode cX2_finishIfDone 78 = .ok (.iload_n 1, 1) := by decide +kernel
theorem dX2_finishIfDone_79 : decode cX2_finishIfDone 79 = .ok (.invokevirtual 128, 3) := by decide +kernel
theorem dX2_finishIfDone_82 : decode cX2_finishIfDone 82 = .ok (.invokevirtual 203, 3) := by decide +kernel
theorem dX2_finishIfDone_85 : decode cX2_finishIfDone 85 = .ok (.return_, 1) := by decide +kernel
set_option maxRecDepth 20000 in
theorem ggX2_worsen_X5_growOlder : GoodIn wsX2_worsen wsX5_growOlder := goodIn_r _ [8, 9, 10, 21, 22, 23, 24, 25, 26, 27] (by decide +kernel) (by decide +kernel)
set_option maxRecDepth 20000 in
theorem gX2_worsen_X5_growOlder : GoodIn wsX2_worsen (wsV RX2 226 RX5 yX5_growOlder wsX5_growOlder) := goodIn_app (goodIn_of _ (by decide +kernel)) ggX2_worsen_X5_growOlder
theorem dX2_worsen_0 : decode cX2_worsen 0 = .ok (.iconst 0, 1) := by decide +kernel
theorem dX2_worsen_1 : decode cX2_worsen 1 = .ok (.istore_n 2, 1) := by decide +kernel
theorem dX2_worsen_2 : decode cX2_worsen 2 = .ok (.iload_n 2, 1) := by decide +kernel
theorem dX2_worsen_3 : decode cX2_worsen 3 = .ok (.aload_n 0, 1) := by decide +kernel
theorem dX2_worsen_4 : decode cX2_worsen 4 = .ok (.getfield 17, 3) := by decide +kernel
theorem dX2_worsen_7 : decode cX2_worsen 7 = .ok (.if_icmp .ge 29, 3) := by decide +kernel
theorem dX2_worsen_10 : decode cX2_worsen 10 = .ok (.iload_n 2, 1) := by decide +kernel
theorem dX2_worsen_11 : decode cX2_worsen 11 = .ok (.iload_n 1, 1) := by decide +kernel
theorem dX2_worsen_12 : decode cX2_worsen 12 = .ok (.if_icmp .eq 18, 3) := by decide +kernel
theorem dX2_worsen_15 : decode cX2_worsen 15 = .ok (.aload_n 0, 1) := by decide +kernel
theorem dX2_worsen_16 : decode cX2_worsen 16 = .ok (.getfield 11, 3) := by decide +kernel
theorem dX2_worsen_19 : decode cX2_worsen 19 = .ok (.iload_n 2, 1) := by decide +kernel
theorem dX2_worsen_20 : decode cX2_worsen 20 = .ok (.aaload, 1) := by decide +kernel
theorem dX2_worsen_21 : decode cX2_worsen 21 = .ok (.aload_n 0, 1) := by decide +kernel
theorem dX2_worsen_22 : decode cX2_worsen 22 = .ok (.getfield 56, 3) := by decide +kernel
theorem dX2_worsen_25 : decode cX2_worsen 25 = .ok (.iconst 3, 1) := by decide +kernel
theorem dX2_worsen_26 : decode cX2_worsen 26 = .ok (.iaload, 1) := by decide +kernel
theorem dX2_worsen_27 : decode cX2_worsen 27 = .ok (.invokevirtual 226, 3) := by decide +kernel
theorem dX2_worsen_30 : decode cX2_worsen 30 = .ok (.iinc 2 1, 3) := by decide +kernel
theorem dX2_worsen_33 : decode cX2_worsen 33 = .ok (.goto (-31), 3) := by decide +kernel
theorem dX2_worsen_36 : decode cX2_worsen 36 = .ok (.return_, 1) := by decide +kernel
theorem dX3_init_0 : decode cX3_init 0 = .ok (.aload_n 0, 1) := by decide +kernel
theorem dX3_init_1 : decode cX3_init 1 = .ok (.invokespecial 3, 3) := by decide +kernel
theorem dX3_init_4 : decode cX3_init 4 = .ok (.aload_n 0, 1) := by decide +kernel
theorem dX3_init_5 : decode cX3_init 5 = .ok (.bipush 10, 2) := by decide +kernel
theorem dX3_init_7 : decode cX3_init 7 = .ok (.newarray .int, 2) := by decide +kernel
theorem dX3_init_9 : decode cX3_init 9 = .ok (.putfield 9, 3) := by decide +kernel
theorem dX3_init_12 : decode cX3_init 12 = .ok (.aload_n 0, 1) := by decide +kernel
theorem dX3_init_13 : decode cX3_init 13 = .ok (.bipush 10, 2) := by decide +kernel
theorem dX3_init_15 : decode cX3_init 15 = .ok (.newarray .int, 2) := by decide +kernel
theorem dX3_init_17 : decode cX3_init 17 = .ok (.putfield 15, 3) := by decide +kernel
theorem dX3_init_20 : decode cX3_init 20 = .ok (.aload_n 0, 1) := by decide +kernel
theorem dX3_init_21 : decode cX3_init 21 = .ok (.iconst 0, 1) := by decide +kernel
theorem dX3_init_22 : decode cX3_init 22 = .ok (.putfield 18, 3) := by decide +kernel
theorem dX3_init_25 : decode cX3_init 25 = .ok (.return_, 1) := by decide +kernel
theorem dX3_copyFrom_0 : decode cX3_copyFrom 0 = .ok (.aload_n 1, 1) := by decide +kernel
theorem dX3_copyFrom_1 : decode cX3_copyFrom 1 = .ok (.getfield 9, 3) := by decide +kernel
theorem dX3_copyFrom_4 : decode cX3_copyFrom 4 = .ok (.iconst 0, 1) := by decide +kernel
theorem dX3_copyFrom_5 : decode cX3_copyFrom 5 = .ok (.aload_n 0, 1) := by decide +kernel
theorem dX3_copyFrom_6 : decode cX3_copyFrom 6 = .ok (.getfield 9, 3) := by decide +kernel
theorem dX3_copyFrom_9 : decode cX3_copyFrom 9 = .ok (.iconst 0, 1) := by decide +kernel
theorem dX3_copyFrom_10 : decode cX3_copyFrom 10 = .ok (.bipush 10, 2) := by decide +kernel
theorem dX3_copyFrom_12 : decode cX3_copyFrom 12 = .ok (.invokestatic 22, 3) := by decide +kernel
theorem dX3_copyFrom_15 : decode cX3_copyFrom 15 = .ok (.aload_n 1, 1) := by decide +kernel
theorem dX3_copyFrom_16 : decode cX3_copyFrom 16 = .ok (.getfield 15, 3) := by decide +kernel
theorem dX3_copyFrom_19 : decode cX3_copyFrom 19 = .ok (.iconst 0, 1) := by decide +kernel
theorem dX3_copyFrom_20 : decode cX3_copyFrom 20 = .ok (.aload_n 0, 1) := by decide +kernel
theorem dX3_copyFrom_21 : decode cX3_copyFrom 21 = .ok (.getfield 15, 3) := by decide +kernel
theorem dX3_copyFrom_24 : decode cX3_copyFrom 24 = .ok (.iconst 0, 1) := by decide +kernel
theorem dX3_copyFrom_25 : decode cX3_copyFrom 25 = .ok (.bipush 10, 2) := by decide +kernel
theorem dX3_copyFrom_27 : decode cX3_copyFrom 27 = .ok (.invokestatic 22, 3) := by decide +kernel
theorem dX3_copyFrom_30 : decode cX3_copyFrom 30 = .ok (.aload_n 0, 1) := by decide +kernel
theorem dX3_copyFrom_31 : decode cX3_copyFrom 31 = .ok (.aload_n 1, 1) := by decide +kernel
theorem dX3_copyFrom_32 : decode cX3_copyFrom 32 = .ok (.getfield 18, 3) := by decide +kernel
theorem dX3_copyFrom_35 : decode cX3_copyFrom 35 = .ok (.putfield 18, 3) := by decide +kernel
theorem dX3_copyFrom_38 : decode cX3_copyFrom 38 = .ok (.return_, 1) := by decide +kernel
theorem dX3_isFull_0 : decode cX3_isFull 0 = .ok (.aload_n 0, 1) := by decide +kernel
theorem dX3_isFull_1 : decode cX3_isFull 1 = .ok (.getfield 18, 3) := by decide +kernel
theorem dX3_isFull_4 : decode cX3_isFull 4 = .ok (.bipush 10, 2) := by decide +kernel
theorem dX3_isFull_6 : decode cX3_isFull 6 = .ok (.if_icmp .lt 7, 3) := by decide +kernel
theorem dX3_isFull_9 : decode cX3_isFull 9 = .ok (.iconst 1, 1) := by decide +kernel
theorem dX3_isFull_10 : decode cX3_isFull 10 = .ok (.goto 4, 3) := by decide +kernel
theorem dX3_isFull_13 : decode cX3_isFull 13 = .ok (.iconst 0, 1) := by decide +kernel
theorem dX3_isFull_14 : decode cX3_isFull 14 = .ok (.ireturn, 1) := by decide +kernel
set_option maxRecDepth 20000 in
theorem ggX3_take_X3_isFull : GoodIn wsX3_take wsX3_isFull := goodIn_r _ [8, 2, 9, 10, 11] (by decide +kernel) (by decide +kernel)
set_option maxRecDepth 20000 in
theorem gX3_take_X3_isFull : GoodIn wsX3_take (wsV RX3 28 RX3 yX3_isFull wsX3_isFull) := goodIn_app (goodIn_of _ (by decide +kernel)) ggX3_take_X3_isFull
theorem dX3_take_0 : decode cX3_take 0 = .ok (.aload_n 0, 1) := by decide +kernel
theorem dX3_take_1 : decode cX3_take 1 = .ok (.invokevirtual 28, 3) := by decide +kernel
theorem dX3_take_4 : decode cX3_take 4 = .ok (.ifCond .eq 4, 3) := by decide +kernel
theorem dX3_take_7 : decode cX3_take 7 = .ok (.return_, 1) := by decide +kernel
theorem dX3_take_8 : decode cX3_take 8 = .ok (.aload_n 0, 1) := by decide +kernel
theorem dX3_take_9 : decode cX3_take 9 = .ok (.getfield 9, 3) := by decide +kernel
theorem dX3_take_12 : decode cX3_take 12 = .ok (.aload_n 0, 1) := by decide +kernel
theorem dX3_take_13 : decode cX3_take 13 = .ok (.getfield 18, 3) := by decide +kernel
theorem dX3_take_16 : decode cX3_take 16 = .ok (.iload_n 1, 1) := by decide +kernel
theorem dX3_take_17 : decode cX3_take 17 = .ok (.iastore, 1) := by decide +kernel
theorem dX3_take_18 : decode cX3_take 18 = .ok (.aload_n 0, 1) := by decide +kernel
theorem dX3_take_19 : decode cX3_take 19 = .ok (.getfield 15, 3) := by decide +kernel
theorem dX3_take_22 : decode cX3_take 22 = .ok (.aload_n 0, 1) := by decide +kernel
theorem dX3_take_23 : decode cX3_take 23 = .ok (.getfield 18, 3) := by decide +kernel
theorem dX3_take_26 : decode cX3_take 26 = .ok (.iload_n 2, 1) := by decide +kernel
theorem dX3_take_27 : decode cX3_take 27 = .ok (.iastore, 1) := by decide +kernel
theorem dX3_take_28 : decode cX3_take 28 = .ok (.aload_n 0, 1) := by decide +kernel
theorem dX3_take_29 : decode cX3_take 29 = .ok (.dup, 1) := by decide +kernel
theorem dX3_take_30 : decode cX3_take 30 = .ok (.getfield 18, 3) := by decide +kernel
theorem dX3_take_33 : decode cX3_take 33 = .ok (.iconst 1, 1) := by decide +kernel
theorem dX3_take_34 : decode cX3_take 34 = .ok (.iadd, 1) := by decide +kernel
theorem dX3_take_35 : decode cX3_take 35 = .ok (.putfield 18, 3) := by decide +kernel
theorem dX3_take_38 : decode cX3_take 38 = .ok (.return_, 1) := by decide +kernel
theorem dX3_unload_0 : decode cX3_unload 0 = .ok (.iload_n 1, 1) := by decide +kernel
theorem dX3_unload_1 : decode cX3_unload 1 = .ok (.istore_n 2, 1) := by decide +kernel
theorem dX3_unload_2 : decode cX3_unload 2 = .ok (.iconst 0, 1) := by decide +kernel
theorem dX3_unload_3 : decode cX3_unload 3 = .ok (.istore_n 3, 1) := by decide +kernel
theorem dX3_unload_4 : decode cX3_unload 4 = .ok (.iload_n 3, 1) := by decide +kernel
theorem dX3_unload_5 : decode cX3_unload 5 = .ok (.aload_n 0, 1) := by decide +kernel
theorem dX3_unload_6 : decode cX3_unload 6 = .ok (.getfield 18, 3) := by decide +kernel
theorem dX3_unload_9 : decode cX3_unload 9 = .ok (.if_icmp .ge 37, 3) := by decide +kernel
theorem dX3_unload_12 : decode cX3_unload 12 = .ok (.iload_n 2, 1) := by decide +kernel
theorem dX3_unload_13 : decode cX3_unload 13 = .ok (.aload_n 0, 1) := by decide +kernel
theorem dX3_unload_14 : decode cX3_unload 14 = .ok (.getfield 15, 3) := by decide +kernel
theorem dX3_unload_17 : decode cX3_unload 17 = .ok (.iload_n 3, 1) := by decide +kernel
theorem dX3_unload_18 : decode cX3_unload 18 = .ok (.iaload, 1) := by decide +kernel
theorem dX3_unload_19 : decode cX3_unload 19 = .ok (.invokestatic 32, 3) := by decide +kernel
theorem dX3_unload_22 : decode cX3_unload 22 = .ok (.istore 4, 2) := by decide +kernel
theorem dX3_unload_24 : decode cX3_unload 24 = .ok (.aload_n 0, 1) := by decide +kernel
theorem dX3_unload_25 : decode cX3_unload 25 = .ok (.getfield 15, 3) := by decide +kernel
theorem dX3_unload_28 : decode cX3_unload 28 = .ok (.iload_n 3, 1) := by decide +kernel
theorem dX3_unload_29 : decode cX3_unload 29 = .ok (.dup2, 1) := by decide +kernel
theorem dX3_unload_30 : decode cX3_unload 30 = .ok (.iaload, 1) := by decide +kernel
theorem dX3_unload_31 : decode cX3_unload 31 = .ok (.iload 4, 2) := by decide +kernel
theorem dX3_unload_33 : decode cX3_unload 33 = .ok (.isub, 1) := by decide +kernel
theorem dX3_unload_34 : decode cX3_unload 34 = .ok (.iastore, 1) := by decide +kernel
theorem dX3_unload_35 : decode cX3_unload 35 = .ok (.iload_n 2, 1) := by decide +kernel
theorem dX3_unload_36 : decode cX3_unload 36 = .ok (.iload 4, 2) := by decide +kernel
theorem dX3_unload_38 : decode cX3_unload 38 = .ok (.isub, 1) := by decide +kernel
theorem dX3_unload_39 : decode cX3_unload 39 = .ok (.istore_n 2, 1) := by decide +kernel
theorem dX3_unload_40 : decode cX3_unload 40 = .ok (.iinc 3 1, 3) := by decide +kernel
theorem dX3_unload_43 : decode cX3_unload 43 = .ok (.goto (-39), 3) := by decide +kernel
theorem dX3_unload_46 : decode cX3_unload 46 = .ok (.return_, 1) := by decide +kernel
theorem dX3_unloadedFor_0 : decode cX3_unloadedFor 0 = .ok (.iconst 0, 1) := by decide +kernel
theorem dX3_unloadedFor_1 : decode cX3_unloadedFor 1 = .ok (.istore_n 2, 1) := by decide +kernel
theorem dX3_unloadedFor_2 : decode cX3_unloadedFor 2 = .ok (.iconst 0, 1) := by decide +kernel
theorem dX3_unloadedFor_3 : decode cX3_unloadedFor 3 = .ok (.istore_n 3, 1) := by decide +kernel
theorem dX3_unloadedFor_4 : decode cX3_unloadedFor 4 = .ok (.iload_n 3, 1) := by decide +kernel
theorem dX3_unloadedFor_5 : decode cX3_unloadedFor 5 = .ok (.aload_n 0, 1) := by decide +kernel
theorem dX3_unloadedFor_6 : decode cX3_unloadedFor 6 = .ok (.getfield 18, 3) := by decide +kernel
theorem dX3_unloadedFor_9 : decode cX3_unloadedFor 9 = .ok (.if_icmp .ge 31, 3) := by decide +kernel
theorem dX3_unloadedFor_12 : decode cX3_unloadedFor 12 = .ok (.aload_n 0, 1) := by decide +kernel
theorem dX3_unloadedFor_13 : decode cX3_unloadedFor 13 = .ok (.getfield 9, 3) := by decide +kernel
theorem dX3_unloadedFor_16 : decode cX3_unloadedFor 16 = .ok (.iload_n 3, 1) := by decide +kernel
theorem dX3_unloadedFor_17 : decode cX3_unloadedFor 17 = .ok (.iaload, 1) := by decide +kernel
theorem dX3_unloadedFor_18 : decode cX3_unloadedFor 18 = .ok (.iload_n 1, 1) := by decide +kernel
theorem dX3_unloadedFor_19 : decode cX3_unloadedFor 19 = .ok (.if_icmp .ne 15, 3) := by decide +kernel
theorem dX3_unloadedFor_22 : decode cX3_unloadedFor 22 = .ok (.aload_n 0, 1) := by decide +kernel
theorem dX3_unloadedFor_23 : decode cX3_unloadedFor 23 = .ok (.getfield 15, 3) := by decide +kernel
theorem dX3_unloadedFor_26 : decode cX3_unloadedFor 26 = .ok (.iload_n 3, 1) := by decide +kernel
theorem dX3_unloadedFor_27 : decode cX3_unloadedFor 27 = .ok (.iaload, 1) := by decide +kernel
theorem dX3_unloadedFor_28 : decode cX3_unloadedFor 28 = .ok (.ifCond .ne 6, 3) := by decide +kernel
theorem dX3_unloadedFor_31 : decode cX3_unloadedFor 31 = .ok (.iinc 2 1, 3) := by decide +kernel
theorem dX3_unloadedFor_34 : decode cX3_unloadedFor 34 = .ok (.iinc 3 1, 3) := by decide +kernel
theorem dX3_unloadedFor_37 : decode cX3_unloadedFor 37 = .ok (.goto (-33), 3) := by decide +kernel
theorem dX3_unloadedFor_40 : decode cX3_unloadedFor 40 = .ok (.iload_n 2, 1) := by decide +kernel
theorem dX3_unloadedFor_41 : decode cX3_unloadedFor 41 = .ok (.ireturn, 1) := by decide +kernel
set_option maxRecDepth 20000 in
theorem ggX3_useBladeFor_X3_removeAt : GoodIn wsX3_useBladeFor wsX3_removeAt := goodIn_r _ [8, 1, 2, 3, 9, 10, 11] (by decide +kernel) (by decide +kernel)
set_option maxRecDepth 20000 in
theorem gX3_useBladeFor_X3_removeAt : GoodIn wsX3_useBladeFor (wsV RX3 38 RX3 yX3_removeAt wsX3_removeAt) := goodIn_app (goodIn_of _ (by decide +kernel)) ggX3_useBladeFor_X3_removeAt
theorem dX3_useBladeFor_0 : decode cX3_useBladeFor 0 = .ok (.iconst 0, 1) := by decide +kernel
theorem dX3_useBladeFor_1 : decode cX3_useBladeFor 1 = .ok (.istore_n 2, 1) := by decide +kernel
theorem dX3_useBladeFor_2 : decode cX3_useBladeFor 2 = .ok (.iload_n 2, 1) := by decide +kernel
theorem dX3_useBladeFor_3 : decode cX3_useBladeFor 3 = .ok (.aload_n 0, 1) := by decide +kernel
theorem dX3_useBladeFor_4 : decode cX3_useBladeFor 4 = .ok (.getfield 18, 3) := by decide +kernel
theorem dX3_useBladeFor_7 : decode cX3_useBladeFor 7 = .ok (.if_icmp .ge 34, 3) := by decide +kernel
theorem dX3_useBladeFor_10 : decode cX3_useBladeFor 10 = .ok (.aload_n 0, 1) := by decide +kernel
theorem dX3_useBladeFor_11 : decode cX3_useBladeFor 11 = .ok (.getfield 9, 3) := by decide +kernel
theorem dX3_useBladeFor_14 : decode cX3_useBladeFor 14 = .ok (.iload_n 2, 1) := by decide +kernel
theorem dX3_useBladeFor_15 : decode cX3_useBladeFor 15 = .ok (.iaload, 1) := by decide +kernel
theorem dX3_useBladeFor_16 : decode cX3_useBladeFor 16 = .ok (.iload_n 1, 1) := by decide +kernel
theorem dX3_useBladeFor_17 : decode cX3_useBladeFor 17 = .ok (.if_icmp .ne 18, 3) := by decide +kernel
theorem dX3_useBladeFor_20 : decode cX3_useBladeFor 20 = .ok (.aload_n 0, 1) := by decide +kernel
theorem dX3_useBladeFor_21 : decode cX3_useBladeFor 21 = .ok (.getfield 15, 3) := by decide +kernel
theorem dX3_useBladeFor_24 : decode cX3_useBladeFor 24 = .ok (.iload_n 2, 1) := by decide +kernel
theorem dX3_useBladeFor_25 : decode cX3_useBladeFor 25 = .ok (.iaload, 1) := by decide +kernel
theorem dX3_useBladeFor_26 : decode cX3_useBladeFor 26 = .ok (.ifCond .ne 9, 3) := by decide +kernel
theorem dX3_useBladeFor_29 : decode cX3_useBladeFor 29 = .ok (.aload_n 0, 1) := by decide +kernel
theorem dX3_useBladeFor_30 : decode cX3_useBladeFor 30 = .ok (.iload_n 2, 1) := by decide +kernel
theorem dX3_useBladeFor_31 : decode cX3_useBladeFor 31 = .ok (.invokevirtual 38, 3) := by decide +kernel
theorem dX3_useBladeFor_34 : decode cX3_useBladeFor 34 = .ok (.return_, 1) := by decide +kernel
theorem dX3_useBladeFor_35 : decode cX3_useBladeFor 35 = .ok (.iinc 2 1, 3) := by decide +kernel
theorem dX3_useBladeFor_38 : decode cX3_useBladeFor 38 = .ok (.goto (-36), 3) := by decide +kernel
theorem dX3_useBladeFor_41 : decode cX3_useBladeFor 41 = .ok (.return_, 1) := by decide +kernel
theorem dX3_removeAt_0 : decode cX3_removeAt 0 = .ok (.iload_n 1, 1) := by decide +kernel
theorem dX3_removeAt_1 : decode cX3_removeAt 1 = .ok (.ifCond .lt 11, 3) := by decide +kernel
theorem dX3_removeAt_4 : decode cX3_removeAt 4 = .ok (.iload_n 1, 1) := by decide +kernel
theorem dX3_removeAt_5 : decode cX3_removeAt 5 = .ok (.aload_n 0, 1) := by decide +kernel
theorem dX3_removeAt_6 : decode cX3_removeAt 6 = .ok (.getfield 18, 3) := by decide +kernel
theorem dX3_removeAt_9 : decode cX3_removeAt 9 = .ok (.if_icmp .lt 4, 3) := by decide +kernel
theorem dX3_removeAt_12 : decode cX3_removeAt 12 = .ok (.return_, 1) := by decide +kernel
theorem dX3_removeAt_13 : decode cX3_removeAt 13 = .ok (.aload_n 0, 1) := by decide +kernel
theorem dX3_removeAt_14 : decode cX3_removeAt 14 = .ok (.dup, 1) := by decide +kernel
theorem dX3_removeAt_15 : decode cX3_removeAt 15 = .ok (.getfield 18, 3) := by decide +kernel
theorem dX3_removeAt_18 : decode cX3_removeAt 18 = .ok (.iconst 1, 1) := by decide +kernel
theorem dX3_removeAt_19 : decode cX3_removeAt 19 = .ok (.isub, 1) := by decide +kernel
theorem dX3_removeAt_20 : decode cX3_removeAt 20 = .ok (.putfield 18, 3) := by decide +kernel
theorem dX3_removeAt_23 : decode cX3_removeAt 23 = .ok (.iload_n 1, 1) := by decide +kernel
theorem dX3_removeAt_24 : decode cX3_removeAt 24 = .ok (.istore_n 2, 1) := by decide +kernel
theorem dX3_removeAt_25 : decode cX3_removeAt 25 = .ok (.iload_n 2, 1) := by decide +kernel
theorem dX3_removeAt_26 : decode cX3_removeAt 26 = .ok (.aload_n 0, 1) := by decide +kernel
theorem dX3_removeAt_27 : decode cX3_removeAt 27 = .ok (.getfield 18, 3) := by decide +kernel
theorem dX3_removeAt_30 : decode cX3_removeAt 30 = .ok (.if_icmp .ge 37, 3) := by decide +kernel
theorem dX3_removeAt_33 : decode cX3_removeAt 33 = .ok (.aload_n 0, 1) := by decide +kernel
theorem dX3_removeAt_34 : decode cX3_removeAt 34 = .ok (.getfield 9, 3) := by decide +kernel
theorem dX3_removeAt_37 : decode cX3_removeAt 37 = .ok (.iload_n 2, 1) := by decide +kernel
theorem dX3_removeAt_38 : decode cX3_removeAt 38 = .ok (.aload_n 0, 1) := by decide +kernel
theorem dX3_removeAt_39 : decode cX3_removeAt 39 = .ok (.getfield 9, 3) := by decide +kernel
theorem dX3_removeAt_42 : decode cX3_removeAt 42 = .ok (.iload_n 2, 1) := by decide +kernel
theorem dX3_removeAt_43 : decode cX3_removeAt 43 = .ok (.iconst 1, 1) := by decide +kernel
theorem dX3_removeAt_44 : decode cX3_removeAt 44 = .ok (.iadd, 1) := by decide +kernel
theorem dX3_removeAt_45 : decode cX3_removeAt 45 = .ok (.iaload, 1) := by decide +kernel
theorem dX3_removeAt_46 : decode cX3_removeAt 46 = .ok (.iastore, 1) := by decide +kernel
theorem dX3_removeAt_47 : decode cX3_removeAt 47 = .ok (.aload_n 0, 1) := by decide +kernel
theorem dX3_removeAt_48 : decode cX3_removeAt 48 = .ok (.getfield 15, 3) := by decide +kernel
theorem dX3_removeAt_51 : decode cX3_removeAt 51 = .ok (.iload_n 2, 1) := by decide +kernel
theorem dX3_removeAt_52 : decode cX3_removeAt 52 = .ok (.aload_n 0, 1) := by decide +kernel
theorem dX3_removeAt_53 : decode cX3_removeAt 53 = .ok (.getfield 15, 3) := by decide +kernel
theorem dX3_removeAt_56 : decode cX3_removeAt 56 = .ok (.iload_n 2, 1) := by decide +kernel
theorem dX3_removeAt_57 : decode cX3_removeAt 57 = .ok (.iconst 1, 1) := by decide +kernel
theorem dX3_removeAt_58 : decode cX3_removeAt 58 = .ok (.iadd, 1) := by decide +kernel
theorem dX3_removeAt_59 : decode cX3_removeAt 59 = .ok (.iaload, 1) := by decide +kernel
theorem dX3_removeAt_60 : decode cX3_removeAt 60 = .ok (.iastore, 1) := by decide +kernel
theorem dX3_removeAt_61 : decode cX3_removeAt 61 = .ok (.iinc 2 1, 3) := by decide +kernel
theorem dX3_removeAt_64 : decode cX3_removeAt 64 = .ok (.goto (-39), 3) := by decide +kernel
theorem dX3_removeAt_67 : decode cX3_removeAt 67 = .ok (.return_, 1) := by decide +kernel
theorem dX4_init_0 : decode cX4_init 0 = .ok (.aload_n 0, 1) := by decide +kernel
theorem dX4_init_1 : decode cX4_init 1 = .ok (.invokespecial 3, 3) := by decide +kernel
theorem dX4_init_4 : decode cX4_init 4 = .ok (.aload_n 0, 1) := by decide +kernel
theorem dX4_init_5 : decode cX4_init 5 = .ok (.bipush 10, 2) := by decide +kernel
theorem dX4_init_7 : decode cX4_init 7 = .ok (.newarray .int, 2) := by decide +kernel
theorem dX4_init_9 : decode cX4_init 9 = .ok (.putfield 9, 3) := by decide +kernel
theorem dX4_init_12 : decode cX4_init 12 = .ok (.aload_n 0, 1) := by decide +kernel
theorem dX4_init_13 : decode cX4_init 13 = .ok (.iconst 0, 1) := by decide +kernel
theorem dX4_init_14 : decode cX4_init 14 = .ok (.putfield 15, 3) := by decide +kernel
theorem dX4_init_17 : decode cX4_init 17 = .ok (.return_, 1) := by decide +kernel
theorem dX4_copyFrom_0 : decode cX4_copyFrom 0 = .ok (.aload_n 1, 1) := by decide +kernel
theorem dX4_copyFrom_1 : decode cX4_copyFrom 1 = .ok (.getfield 9, 3) := by decide +kernel
theorem dX4_copyFrom_4 : decode cX4_copyFrom 4 = .ok (.iconst 0, 1) := by decide +kernel
theorem dX4_copyFrom_5 : decode cX4_copyFrom 5 = .ok (.aload_n 0, 1) := by decide +kernel
theorem dX4_copyFrom_6 : decode cX4_copyFrom 6 = .ok (.getfield 9, 3) := by decide +kernel
theorem dX4_copyFrom_9 : decode cX4_copyFrom 9 = .ok (.iconst 0, 1) := by decide +kernel
theorem dX4_copyFrom_10 : decode cX4_copyFrom 10 = .ok (.bipush 10, 2) := by decide +kernel
theorem dX4_copyFrom_12 : decode cX4_copyFrom 12 = .ok (.invokestatic 19, 3) := by decide +kernel
theorem dX4_copyFrom_15 : decode cX4_copyFrom 15 = .ok (.aload_n 0, 1) := by decide +kernel
theorem dX4_copyFrom_16 : decode cX4_copyFrom 16 = .ok (.aload_n 1, 1) := by decide +kernel
theorem dX4_copyFrom_17 : decode cX4_copyFrom 17 = .ok (.getfield 15, 3) := by decide +kernel
theorem dX4_copyFrom_20 : decode cX4_copyFrom 20 = .ok (.putfield 15, 3) := by decide +kernel
theorem dX4_copyFrom_23 : decode cX4_copyFrom 23 = .ok (.return_, 1) := by decide +kernel
theorem dX4_first_0 : decode cX4_first 0 = .ok (.aload_n 0, 1) := by decide +kernel
theorem dX4_first_1 : decode cX4_first 1 = .ok (.getfield 15, 3) := by decide +kernel
theorem dX4_first_4 : decode cX4_first 4 = .ok (.ifCond .le 12, 3) := by decide +kernel
theorem dX4_first_7 : decode cX4_first 7 = .ok (.aload_n 0, 1) := by decide +kernel
theorem dX4_first_8 : decode cX4_first 8 = .ok (.getfield 9, 3) := by decide +kernel
theorem dX4_first_11 : decode cX4_first 11 = .ok (.iconst 0, 1) := by decide +kernel
theorem dX4_first_12 : decode cX4_first 12 = .ok (.iaload, 1) := by decide +kernel
theorem dX4_first_13 : decode cX4_first 13 = .ok (.goto 4, 3) := by decide +kernel
theorem dX4_first_16 : decode cX4_first 16 = .ok (.iconst (-1), 1) := by decide +kernel
theorem dX4_first_17 : decode cX4_first 17 = .ok (.ireturn, 1) := by decide +kernel
theorem dX4_placeOf_0 : decode cX4_placeOf 0 = .ok (.iconst 0, 1) := by decide +kernel
theorem dX4_placeOf_1 : decode cX4_placeOf 1 = .ok (.istore_n 2, 1) := by decide +kernel
theorem dX4_placeOf_2 : decode cX4_placeOf 2 = .ok (.iload_n 2, 1) := by decide +kernel
theorem dX4_placeOf_3 : decode cX4_placeOf 3 = .ok (.aload_n 0, 1) := by decide +kernel
theorem dX4_placeOf_4 : decode cX4_placeOf 4 = .ok (.getfield 15, 3) := by decide +kernel
theorem dX4_placeOf_7 : decode cX4_placeOf 7 = .ok (.if_icmp .ge 21, 3) := by decide +kernel
theorem dX4_placeOf_10 : decode cX4_placeOf 10 = .ok (.aload_n 0, 1) := by decide +kernel
theorem dX4_placeOf_11 : decode cX4_placeOf 11 = .ok (.getfield 9, 3) := by decide +kernel
theorem dX4_placeOf_14 : decode cX4_placeOf 14 = .ok (.iload_n 2, 1) := by decide +kernel
theorem dX4_placeOf_15 : decode cX4_placeOf 15 = .ok (.iaload, 1) := by decide +kernel
theorem dX4_placeOf_16 : decode cX4_placeOf 16 = .ok (.iload_n 1, 1) := by decide +kernel
theorem dX4_placeOf_17 : decode cX4_placeOf 17 = .ok (.if_icmp .ne 5, 3) := by decide +kernel
theorem dX4_placeOf_20 : decode cX4_placeOf 20 = .ok (.iload_n 2, 1) := by decide +kernel
theorem dX4_placeOf_21 : decode cX4_placeOf 21 = .ok (.ireturn, 1) := by decide +kernel
theorem dX4_placeOf_22 : decode cX4_placeOf 22 = .ok (.iinc 2 1, 3) := by decide +kernel
theorem dX4_placeOf_25 : decode cX4_placeOf 25 = .ok (.goto (-23), 3) := by decide +kernel
theorem dX4_placeOf_28 : decode cX4_placeOf 28 = .ok (.iconst (-1), 1) := by decide +kernel
theorem dX4_placeOf_29 : decode cX4_placeOf 29 = .ok (.ireturn, 1) := by decide +kernel
set_option maxRecDepth 20000 in
theorem ggX4_countWithout_X4_placeOf : GoodIn wsX4_countWithout wsX4_placeOf := goodIn_r _ [6, 1, 7, 8, 9] (by decide +kernel) (by decide +kernel)
set_option maxRecDepth 20000 in
theorem gX4_countWithout_X4_placeOf : GoodIn wsX4_countWithout (wsV RX4 25 RX4 yX4_placeOf wsX4_placeOf) := goodIn_app (goodIn_of _ (by decide +kernel)) ggX4_countWithout_X4_placeOf
theorem dX4_countWithout_0 : decode cX4_countWithout 0 = .ok (.aload_n 0, 1) := by decide +kernel
theorem dX4_countWithout_1 : decode cX4_countWithout 1 = .ok (.iload_n 1, 1) := by decide +kernel
theorem dX4_countWithout_2 : decode cX4_countWithout 2 = .ok (.invokevirtual 25, 3) := by decide +kernel
theorem dX4_countWithout_5 : decode cX4_countWithout 5 = .ok (.iconst (-1), 1) := by decide +kernel
theorem dX4_countWithout_6 : decode cX4_countWithout 6 = .ok (.if_icmp .ne 10, 3) := by decide +kernel
theorem dX4_countWithout_9 : decode cX4_countWithout 9 = .ok (.aload_n 0, 1) := by decide +kernel
theorem dX4_countWithout_10 : decode cX4_countWithout 10 = .ok (.getfield 15, 3) := by decide +kernel
theorem dX4_countWithout_13 : decode cX4_countWithout 13 = .ok (.goto 9, 3) := by decide +kernel
theorem dX4_countWithout_16 : decode cX4_countWithout 16 = .ok (.aload_n 0, 1) := by decide +kernel
theorem dX4_countWithout_17 : decode cX4_countWithout 17 = .ok (.getfield 15, 3) := by decide +kernel
theorem dX4_countWithout_20 : decode cX4_countWithout 20 = .ok (.iconst 1, 1) := by decide +kernel
theorem dX4_countWithout_21 : decode cX4_countWithout 21 = .ok (.isub, 1) := by decide +kernel
theorem dX4_countWithout_22 : decode cX4_countWithout 22 = .ok (.ireturn, 1) := by decide +kernel
set_option maxRecDepth 20000 in
theorem ggX4_moveTo_X4_placeOf : GoodIn wsX4_moveTo wsX4_placeOf := goodIn_r _ [7, 1, 2, 12, 13] (by decide +kernel) (by decide +kernel)
set_option maxRecDepth 20000 in
theorem gX4_moveTo_X4_placeOf : GoodIn wsX4_moveTo (wsV RX4 25 RX4 yX4_placeOf wsX4_placeOf) := goodIn_app (goodIn_of _ (by decide +kernel)) ggX4_moveTo_X4_placeOf
set_option maxRecDepth 20000 in
theorem ggX4_moveTo_X4_removeAt : GoodIn wsX4_moveTo wsX4_removeAt := goodIn_r _ [11, 1, 2, 12, 13] (by decide +kernel) (by decide +kernel)
set_option maxRecDepth 20000 in
theorem gX4_moveTo_X4_removeAt : GoodIn wsX4_moveTo (wsV RX4 29 RX4 yX4_removeAt wsX4_removeAt) := goodIn_app (goodIn_of _ (by decide +kernel)) ggX4_moveTo_X4_removeAt
theorem dX4_moveTo_0 : decode cX4_moveTo 0 = .ok (.aload_n 0, 1) := by decide +kernel
theorem dX4_moveTo_1 : decode cX4_moveTo 1 = .ok (.aload_n 0, 1) := by decide +kernel
theorem dX4_moveTo_2 : decode cX4_moveTo 2 = .ok (.iload_n 1, 1) := by decide +kernel
theorem dX4_moveTo_3 : decode cX4_moveTo 3 = .ok (.invokevirtual 25, 3) := by decide +kernel
theorem dX4_moveTo_6 : decode cX4_moveTo 6 = .ok (.invokevirtual 29, 3) := by decide +kernel
theorem dX4_moveTo_9 : decode cX4_moveTo 9 = .ok (.iload_n 2, 1) := by decide +kernel
theorem dX4_moveTo_10 : decode cX4_moveTo 10 = .ok (.ifCond .lt 20, 3) := by decide +kernel
theorem dX4_moveTo_13 : decode cX4_moveTo 13 = .ok (.iload_n 2, 1) := by decide +kernel
theorem dX4_moveTo_14 : decode cX4_moveTo 14 = .ok (.aload_n 0, 1) := by decide +kernel
theorem dX4_moveTo_15 : decode cX4_moveTo 15 = .ok (.getfield 15, 3) := by decide +kernel
theorem dX4_moveTo_18 : decode cX4_moveTo 18 = .ok (.if_icmp .gt 12, 3) := by decide +kernel
theorem dX4_moveTo_21 : decode cX4_moveTo 21 = .ok (.aload_n 0, 1) := by decide +kernel
theorem dX4_moveTo_22 : decode cX4_moveTo 22 = .ok (.getfield 15, 3) := by decide +kernel
theorem dX4_moveTo_25 : decode cX4_moveTo 25 = .ok (.bipush 10, 2) := by decide +kernel
theorem dX4_moveTo_27 : decode cX4_moveTo 27 = .ok (.if_icmp .lt 4, 3) := by decide +kernel
theorem dX4_moveTo_30 : decode cX4_moveTo 30 = .ok (.return_, 1) := by decide +kernel
theorem dX4_moveTo_31 : decode cX4_moveTo 31 = .ok (.aload_n 0, 1) := by decide +kernel
theorem dX4_moveTo_32 : decode cX4_moveTo 32 = .ok (.getfield 15, 3) := by decide +kernel
theorem dX4_moveTo_35 : decode cX4_moveTo 35 = .ok (.istore_n 3, 1) := by decide +kernel
theorem dX4_moveTo_36 : decode cX4_moveTo 36 = .ok (.iload_n 3, 1) := by decide +kernel
theorem dX4_moveTo_37 : decode cX4_moveTo 37 = .ok (.iload_n 2, 1) := by decide +kernel
theorem dX4_moveTo_38 : decode cX4_moveTo 38 = .ok (.if_icmp .le 23, 3) := by decide +kernel
theorem dX4_moveTo_41 : decode cX4_moveTo 41 = .ok (.aload_n 0, 1) := by decide +kernel
theorem dX4_moveTo_42 : decode cX4_moveTo 42 = .ok (.getfield 9, 3) := by decide +kernel
theorem dX4_moveTo_45 : decode cX4_moveTo 45 = .ok (.iload_n 3, 1) := by decide +kernel
theorem dX4_moveTo_46 : decode cX4_moveTo 46 = .ok (.aload_n 0, 1) := by decide +kernel
theorem dX4_moveTo_47 : decode cX4_moveTo 47 = .ok (.getfield 9, 3) := by decide +kernel
theorem dX4_moveTo_50 : decode cX4_moveTo 50 = .ok (.iload_n 3, 1) := by decide +kernel
theorem dX4_moveTo_51 : decode cX4_moveTo 51 = .ok (.iconst 1, 1) := by decide +kernel
theorem dX4_moveTo_52 : decode cX4_moveTo 52 = .ok (.isub, 1) := by decide +kernel
theorem dX4_moveTo_53 : decode cX4_moveTo 53 = .ok (.iaload, 1) := by decide +kernel
theorem dX4_moveTo_54 : decode cX4_moveTo 54 = .ok (.iastore, 1) := by decide +kernel
theorem dX4_moveTo_55 : decode cX4_moveTo 55 = .ok (.iinc 3 (-1), 3) := by decide +kernel
theorem dX4_moveTo_58 : decode cX4_moveTo 58 = .ok (.goto (-22), 3) := by decide +kernel
theorem dX4_moveTo_61 : decode cX4_moveTo 61 = .ok (.aload_n 0, 1) := by decide +kernel
theorem dX4_moveTo_62 : decode cX4_moveTo 62 = .ok (.getfield 9, 3) := by decide +kernel
theorem dX4_moveTo_65 : decode cX4_moveTo 65 = .ok (.iload_n 2, 1) := by decide +kernel
theorem dX4_moveTo_66 : decode cX4_moveTo 66 = .ok (.iload_n 1, 1) := by decide +kernel
theorem dX4_moveTo_67 : decode cX4_moveTo 67 = .ok (.iastore, 1) := by decide +kernel
theorem dX4_moveTo_68 : decode cX4_moveTo 68 = .ok (.aload_n 0, 1) := by decide +kernel
theorem dX4_moveTo_69 : decode cX4_moveTo 69 = .ok (.dup, 1) := by decide +kernel
theorem dX4_moveTo_70 : decode cX4_moveTo 70 = .ok (.getfield 15, 3) := by decide +kernel
theorem dX4_moveTo_73 : decode cX4_moveTo 73 = .ok (.iconst 1, 1) := by decide +kernel
theorem dX4_moveTo_74 : decode cX4_moveTo 74 = .ok (.iadd, 1) := by decide +kernel
theorem dX4_moveTo_75 : decode cX4_moveTo 75 = .ok (.putfield 15, 3) := by decide +kernel
theorem dX4_moveTo_78 : decode cX4_moveTo 78 = .ok (.return_, 1) := by decide +kernel
theorem dX4_removeAt_0 : decode cX4_removeAt 0 = .ok (.iload_n 1, 1) := by decide +kernel
theorem dX4_removeAt_1 : decode cX4_removeAt 1 = .ok (.ifCond .lt 11, 3) := by decide +kernel
theorem dX4_removeAt_4 : decode cX4_removeAt 4 = .ok (.iload_n 1, 1) := by decide +kernel
theorem dX4_removeAt_5 : decode cX4_removeAt 5 = .ok (.aload_n 0, 1) := by decide +kernel
theorem dX4_removeAt_6 : decode cX4_removeAt 6 = .ok (.getfield 15, 3) := by decide +kernel
theorem dX4_removeAt_9 : decode cX4_removeAt 9 = .ok (.if_icmp .lt 4, 3) := by decide +kernel
theorem dX4_removeAt_12 : decode cX4_removeAt 12 = .ok (.return_, 1) := by decide +kernel
theorem dX4_removeAt_13 : decode cX4_removeAt 13 = .ok (.aload_n 0, 1) := by decide +kernel
theorem dX4_removeAt_14 : decode cX4_removeAt 14 = .ok (.dup, 1) := by decide +kernel
theorem dX4_removeAt_15 : decode cX4_removeAt 15 = .ok (.getfield 15, 3) := by decide +kernel
theorem dX4_removeAt_18 : decode cX4_removeAt 18 = .ok (.iconst 1, 1) := by decide +kernel
theorem dX4_removeAt_19 : decode cX4_removeAt 19 = .ok (.isub, 1) := by decide +kernel
theorem dX4_removeAt_20 : decode cX4_removeAt 20 = .ok (.putfield 15, 3) := by decide +kernel
theorem dX4_removeAt_23 : decode cX4_removeAt 23 = .ok (.iload_n 1, 1) := by decide +kernel
theorem dX4_removeAt_24 : decode cX4_removeAt 24 = .ok (.istore_n 2, 1) := by decide +kernel
theorem dX4_removeAt_25 : decode cX4_removeAt 25 = .ok (.iload_n 2, 1) := by decide +kernel
theorem dX4_removeAt_26 : decode cX4_removeAt 26 = .ok (.aload_n 0, 1) := by decide +kernel
theorem dX4_removeAt_27 : decode cX4_removeAt 27 = .ok (.getfield 15, 3) := by decide +kernel
theorem dX4_removeAt_30 : decode cX4_removeAt 30 = .ok (.if_icmp .ge 23, 3) := by decide +kernel
theorem dX4_removeAt_33 : decode cX4_removeAt 33 = .ok (.aload_n 0, 1) := by decide +kernel
theorem dX4_removeAt_34 : decode cX4_removeAt 34 = .ok (.getfield 9, 3) := by decide +kernel
theorem dX4_removeAt_37 : decode cX4_removeAt 37 = .ok (.iload_n 2, 1) := by decide +kernel
theorem dX4_removeAt_38 : decode cX4_removeAt 38 = .ok (.aload_n 0, 1) := by decide +kernel
theorem dX4_removeAt_39 : decode cX4_removeAt 39 = .ok (.getfield 9, 3) := by decide +kernel
theorem dX4_removeAt_42 : decode cX4_removeAt 42 = .ok (.iload_n 2, 1) := by decide +kernel
theorem dX4_removeAt_43 : decode cX4_removeAt 43 = .ok (.iconst 1, 1) := by decide +kernel
theorem dX4_removeAt_44 : decode cX4_removeAt 44 = .ok (.iadd, 1) := by decide +kernel
theorem dX4_removeAt_45 : decode cX4_removeAt 45 = .ok (.iaload, 1) := by decide +kernel
theorem dX4_removeAt_46 : decode cX4_removeAt 46 = .ok (.iastore, 1) := by decide +kernel
theorem dX4_removeAt_47 : decode cX4_removeAt 47 = .ok (.iinc 2 1, 3) := by decide +kernel
theorem dX4_removeAt_50 : decode cX4_removeAt 50 = .ok (.goto (-25), 3) := by decide +kernel
theorem dX4_removeAt_53 : decode cX4_removeAt 53 = .ok (.return_, 1) := by decide +kernel
theorem dX5_init_0 : decode cX5_init 0 = .ok (.aload_n 0, 1) := by decide +kernel
theorem dX5_init_1 : decode cX5_init 1 = .ok (.invokespecial 3, 3) := by decide +kernel
theorem dX5_init_4 : decode cX5_init 4 = .ok (.return_, 1) := by decide +kernel
theorem dX5_begin_0 : decode cX5_begin 0 = .ok (.aload_n 0, 1) := by decide +kernel
theorem dX5_begin_1 : decode cX5_begin 1 = .ok (.iload_n 1, 1) := by decide +kernel
theorem dX5_begin_2 : decode cX5_begin 2 = .ok (.putfield 9, 3) := by decide +kernel
theorem dX5_begin_5 : decode cX5_begin 5 = .ok (.aload_n 0, 1) := by decide +kernel
theorem dX5_begin_6 : decode cX5_begin 6 = .ok (.iload_n 2, 1) := by decide +kernel
theorem dX5_begin_7 : decode cX5_begin 7 = .ok (.putfield 15, 3) := by decide +kernel
theorem dX5_begin_10 : decode cX5_begin 10 = .ok (.aload_n 0, 1) := by decide +kernel
theorem dX5_begin_11 : decode cX5_begin 11 = .ok (.iload_n 3, 1) := by decide +kernel
theorem dX5_begin_12 : decode cX5_begin 12 = .ok (.putfield 18, 3) := by decide +kernel
theorem dX5_begin_15 : decode cX5_begin 15 = .ok (.aload_n 0, 1) := by decide +kernel
theorem dX5_begin_16 : decode cX5_begin 16 = .ok (.iconst 0, 1) := by decide +kernel
theorem dX5_begin_17 : decode cX5_begin 17 = .ok (.putfield 21, 3) := by decide +kernel
theorem dX5_begin_20 : decode cX5_begin 20 = .ok (.aload_n 0, 1) := by decide +kernel
theorem dX5_begin_21 : decode cX5_begin 21 = .ok (.iconst 0, 1) := by decide +kernel
theorem dX5_begin_22 : decode cX5_begin 22 = .ok (.putfield 24, 3) := by decide +kernel
theorem dX5_begin_25 : decode cX5_begin 25 = .ok (.aload_n 0, 1) := by decide +kernel
theorem dX5_begin_26 : decode cX5_begin 26 = .ok (.iconst 0, 1) := by decide +kernel
theorem dX5_begin_27 : decode cX5_begin 27 = .ok (.putfield 27, 3) := by decide +kernel
theorem dX5_begin_30 : decode cX5_begin 30 = .ok (.aload_n 0, 1) := by decide +kernel
theorem dX5_begin_31 : decode cX5_begin 31 = .ok (.iconst 0, 1) := by decide +kernel
theorem dX5_begin_32 : decode cX5_begin 32 = .ok (.putfield 30, 3) := by decide +kernel
theorem dX5_begin_35 : decode cX5_begin 35 = .ok (.return_, 1) := by decide +kernel
theorem dX5_copyFrom_0 : decode cX5_copyFrom 0 = .ok (.aload_n 0, 1) := by decide +kernel
theorem dX5_copyFrom_1 : decode cX5_copyFrom 1 = .ok (.aload_n 1, 1) := by decide +kernel
theorem dX5_copyFrom_2 : decode cX5_copyFrom 2 = .ok (.getfield 9, 3) := by decide +kernel
theorem dX5_copyFrom_5 : decode cX5_copyFrom 5 = .ok (.putfield 9, 3) := by decide +kernel
theorem dX5_copyFrom_8 : decode cX5_copyFrom 8 = .ok (.aload_n 0, 1) := by decide +kernel
theorem dX5_copyFrom_9 : decode cX5_copyFrom 9 = .ok (.aload_n 1, 1) := by decide +kernel
theorem dX5_copyFrom_10 : decode cX5_copyFrom 10 = .ok (.getfield 15, 3) := by decide +kernel
theorem dX5_copyFrom_13 : decode cX5_copyFrom 13 = .ok (.putfield 15, 3) := by decide +kernel
theorem dX5_copyFrom_16 : decode cX5_copyFrom 16 = .ok (.aload_n 0, 1) := by decide +kernel
theorem dX5_copyFrom_17 : decode cX5_copyFrom 17 = .ok (.aload_n 1, 1) := by decide +kernel
end
section
theorem dX5_copyFrom_18 : decode cX5_copyFrom 18 = .ok (.getfield 18, 3) := by decide +kernel
theorem dX5_copyFrom_21 : decode cX5_copyFrom 21 = .ok (.putfield 18, 3) := by decide +kernel
theorem dX5_copyFrom_24 : decode cX5_copyFrom 24 = .ok (.aload_n 0, 1) := by decide +kernel
theorem dX5_copyFrom_25 : decode cX5_copyFrom 25 = .ok (.aload_n 1, 1) := by decide +kernel
theorem dX5_copyFrom_26 : decode cX5_copyFrom 26 = .ok (.getfield 21, 3) := by decide +kernel
theorem dX5_copyFrom_29 : decode cX5_copyFrom 29 = .ok (.putfield 21, 3) := by decide +kernel
theorem dX5_copyFrom_32 : decode cX5_copyFrom 32 = .ok (.aload_n 0, 1) := by decide +kernel
theorem dX5_copyFrom_33 : decode cX5_copyFrom 33 = .ok (.aload_n 1, 1) := by decide +kernel
theorem dX5_copyFrom_34 : decode cX5_copyFrom 34 = .ok (.getfield 24, 3) := by decide +kernel
theorem dX5_copyFrom_37 : decode cX5_copyFrom 37 = .ok (.putfield 24, 3) := by decide +kernel
theorem dX5_copyFrom_40 : decode cX5_copyFrom 40 = .ok (.aload_n 0, 1) := by decide +kernel
theorem dX5_copyFrom_41 : decode cX5_copyFrom 41 = .ok (.aload_n 1, 1) := by decide +kernel
theorem dX5_copyFrom_42 : decode cX5_copyFrom 42 = .ok (.getfield 27, 3) := by decide +kernel
theorem dX5_copyFrom_45 : decode cX5_copyFrom 45 = .ok (.putfield 27, 3) := by decide +kernel
theorem dX5_copyFrom_48 : decode cX5_copyFrom 48 = .ok (.aload_n 0, 1) := by decide +kernel
theorem dX5_copyFrom_49 : decode cX5_copyFrom 49 = .ok (.aload_n 1, 1) := by decide +kernel
theorem dX5_copyFrom_50 : decode cX5_copyFrom 50 = .ok (.getfield 30, 3) := by decide +kernel
theorem dX5_copyFrom_53 : decode cX5_copyFrom 53 = .ok (.putfield 30, 3) := by decide +kernel
theorem dX5_copyFrom_56 : decode cX5_copyFrom 56 = .ok (.return_, 1) := by decide +kernel
theorem dX5_limit_0 : decode cX5_limit 0 = .ok (.iload_n 1, 1) := by decide +kernel
theorem dX5_limit_1 : decode cX5_limit 1 = .ok (.aload_n 0, 1) := by decide +kernel
theorem dX5_limit_2 : decode cX5_limit 2 = .ok (.getfield 15, 3) := by decide +kernel
theorem dX5_limit_5 : decode cX5_limit 5 = .ok (.bipush 25, 2) := by decide +kernel
theorem dX5_limit_7 : decode cX5_limit 7 = .ok (.idiv, 1) := by decide +kernel
theorem dX5_limit_8 : decode cX5_limit 8 = .ok (.isub, 1) := by decide +kernel
theorem dX5_limit_9 : decode cX5_limit 9 = .ok (.ireturn, 1) := by decide +kernel
theorem dX5_bladeWeight_0 : decode cX5_bladeWeight 0 = .ok (.aload_n 0, 1) := by decide +kernel
theorem dX5_bladeWeight_1 : decode cX5_bladeWeight 1 = .ok (.getfield 15, 3) := by decide +kernel
theorem dX5_bladeWeight_4 : decode cX5_bladeWeight 4 = .ok (.bipush 10, 2) := by decide +kernel
theorem dX5_bladeWeight_6 : decode cX5_bladeWeight 6 = .ok (.idiv, 1) := by decide +kernel
theorem dX5_bladeWeight_7 : decode cX5_bladeWeight 7 = .ok (.ireturn, 1) := by decide +kernel
theorem dX5_fullPower_0 : decode cX5_fullPower 0 = .ok (.iload_n 1, 1) := by decide +kernel
theorem dX5_fullPower_1 : decode cX5_fullPower 1 = .ok (.iconst 3, 1) := by decide +kernel
theorem dX5_fullPower_2 : decode cX5_fullPower 2 = .ok (.if_icmp .lt 9, 3) := by decide +kernel
theorem dX5_fullPower_5 : decode cX5_fullPower 5 = .ok (.iload_n 1, 1) := by decide +kernel
theorem dX5_fullPower_6 : decode cX5_fullPower 6 = .ok (.bipush 25, 2) := by decide +kernel
theorem dX5_fullPower_8 : decode cX5_fullPower 8 = .ok (.if_icmp .le 7, 3) := by decide +kernel
theorem dX5_fullPower_11 : decode cX5_fullPower 11 = .ok (.iconst 0, 1) := by decide +kernel
theorem dX5_fullPower_12 : decode cX5_fullPower 12 = .ok (.goto 17, 3) := by decide +kernel
theorem dX5_fullPower_15 : decode cX5_fullPower 15 = .ok (.aload_n 0, 1) := by decide +kernel
theorem dX5_fullPower_16 : decode cX5_fullPower 16 = .ok (.getfield 18, 3) := by decide +kernel
theorem dX5_fullPower_19 : decode cX5_fullPower 19 = .ok (.iload_n 1, 1) := by decide +kernel
theorem dX5_fullPower_20 : decode cX5_fullPower 20 = .ok (.bipush 12, 2) := by decide +kernel
theorem dX5_fullPower_22 : decode cX5_fullPower 22 = .ok (.invokestatic 33, 3) := by decide +kernel
theorem dX5_fullPower_25 : decode cX5_fullPower 25 = .ok (.imul, 1) := by decide +kernel
theorem dX5_fullPower_26 : decode cX5_fullPower 26 = .ok (.bipush 12, 2) := by decide +kernel
theorem dX5_fullPower_28 : decode cX5_fullPower 28 = .ok (.idiv, 1) := by decide +kernel
theorem dX5_fullPower_29 : decode cX5_fullPower 29 = .ok (.ireturn, 1) := by decide +kernel
theorem dX5_growOlder_0 : decode cX5_growOlder 0 = .ok (.aload_n 0, 1) := by decide +kernel
theorem dX5_growOlder_1 : decode cX5_growOlder 1 = .ok (.getfield 21, 3) := by decide +kernel
theorem dX5_growOlder_4 : decode cX5_growOlder 4 = .ok (.ifCond .eq 11, 3) := by decide +kernel
theorem dX5_growOlder_7 : decode cX5_growOlder 7 = .ok (.aload_n 0, 1) := by decide +kernel
theorem dX5_growOlder_8 : decode cX5_growOlder 8 = .ok (.getfield 21, 3) := by decide +kernel
theorem dX5_growOlder_11 : decode cX5_growOlder 11 = .ok (.iconst 4, 1) := by decide +kernel
theorem dX5_growOlder_12 : decode cX5_growOlder 12 = .ok (.if_icmp .ne 4, 3) := by decide +kernel
theorem dX5_growOlder_15 : decode cX5_growOlder 15 = .ok (.return_, 1) := by decide +kernel
theorem dX5_growOlder_16 : decode cX5_growOlder 16 = .ok (.aload_n 0, 1) := by decide +kernel
theorem dX5_growOlder_17 : decode cX5_growOlder 17 = .ok (.dup, 1) := by decide +kernel
theorem dX5_growOlder_18 : decode cX5_growOlder 18 = .ok (.getfield 24, 3) := by decide +kernel
theorem dX5_growOlder_21 : decode cX5_growOlder 21 = .ok (.iconst 1, 1) := by decide +kernel
theorem dX5_growOlder_22 : decode cX5_growOlder 22 = .ok (.iadd, 1) := by decide +kernel
theorem dX5_growOlder_23 : decode cX5_growOlder 23 = .ok (.putfield 24, 3) := by decide +kernel
theorem dX5_growOlder_26 : decode cX5_growOlder 26 = .ok (.aload_n 0, 1) := by decide +kernel
theorem dX5_growOlder_27 : decode cX5_growOlder 27 = .ok (.getfield 24, 3) := by decide +kernel
theorem dX5_growOlder_30 : decode cX5_growOlder 30 = .ok (.iload_n 1, 1) := by decide +kernel
theorem dX5_growOlder_31 : decode cX5_growOlder 31 = .ok (.if_icmp .lt 18, 3) := by decide +kernel
theorem dX5_growOlder_34 : decode cX5_growOlder 34 = .ok (.aload_n 0, 1) := by decide +kernel
theorem dX5_growOlder_35 : decode cX5_growOlder 35 = .ok (.dup, 1) := by decide +kernel
theorem dX5_growOlder_36 : decode cX5_growOlder 36 = .ok (.getfield 21, 3) := by decide +kernel
theorem dX5_growOlder_39 : decode cX5_growOlder 39 = .ok (.iconst 1, 1) := by decide +kernel
theorem dX5_growOlder_40 : decode cX5_growOlder 40 = .ok (.iadd, 1) := by decide +kernel
theorem dX5_growOlder_41 : decode cX5_growOlder 41 = .ok (.putfield 21, 3) := by decide +kernel
theorem dX5_growOlder_44 : decode cX5_growOlder 44 = .ok (.aload_n 0, 1) := by decide +kernel
theorem dX5_growOlder_45 : decode cX5_growOlder 45 = .ok (.iconst 0, 1) := by decide +kernel
theorem dX5_growOlder_46 : decode cX5_growOlder 46 = .ok (.putfield 24, 3) := by decide +kernel
theorem dX5_growOlder_49 : decode cX5_growOlder 49 = .ok (.return_, 1) := by decide +kernel
theorem dX6_init_0 : decode cX6_init 0 = .ok (.aload_n 0, 1) := by decide +kernel
theorem dX6_init_1 : decode cX6_init 1 = .ok (.invokespecial 3, 3) := by decide +kernel
theorem dX6_init_4 : decode cX6_init 4 = .ok (.aload_n 0, 1) := by decide +kernel
theorem dX6_init_5 : decode cX6_init 5 = .ok (.bipush 60, 2) := by decide +kernel
theorem dX6_init_7 : decode cX6_init 7 = .ok (.newarray .int, 2) := by decide +kernel
theorem dX6_init_9 : decode cX6_init 9 = .ok (.putfield 9, 3) := by decide +kernel
theorem dX6_init_12 : decode cX6_init 12 = .ok (.aload_n 0, 1) := by decide +kernel
theorem dX6_init_13 : decode cX6_init 13 = .ok (.iconst 0, 1) := by decide +kernel
theorem dX6_init_14 : decode cX6_init 14 = .ok (.putfield 15, 3) := by decide +kernel
theorem dX6_init_17 : decode cX6_init 17 = .ok (.return_, 1) := by decide +kernel
theorem dX6_isFull_0 : decode cX6_isFull 0 = .ok (.aload_n 0, 1) := by decide +kernel
theorem dX6_isFull_1 : decode cX6_isFull 1 = .ok (.getfield 15, 3) := by decide +kernel
theorem dX6_isFull_4 : decode cX6_isFull 4 = .ok (.bipush 60, 2) := by decide +kernel
theorem dX6_isFull_6 : decode cX6_isFull 6 = .ok (.if_icmp .lt 7, 3) := by decide +kernel
theorem dX6_isFull_9 : decode cX6_isFull 9 = .ok (.iconst 1, 1) := by decide +kernel
theorem dX6_isFull_10 : decode cX6_isFull 10 = .ok (.goto 4, 3) := by decide +kernel
theorem dX6_isFull_13 : decode cX6_isFull 13 = .ok (.iconst 0, 1) := by decide +kernel
theorem dX6_isFull_14 : decode cX6_isFull 14 = .ok (.ireturn, 1) := by decide +kernel
set_option maxRecDepth 20000 in
theorem ggX6_add_X6_isFull : GoodIn wsX6_add wsX6_isFull := goodIn_r _ [7, 2, 8, 9] (by decide +kernel) (by decide +kernel)
set_option maxRecDepth 20000 in
theorem gX6_add_X6_isFull : GoodIn wsX6_add (wsV RX6 19 RX6 yX6_isFull wsX6_isFull) := goodIn_app (goodIn_of _ (by decide +kernel)) ggX6_add_X6_isFull
theorem dX6_add_0 : decode cX6_add 0 = .ok (.aload_n 0, 1) := by decide +kernel
theorem dX6_add_1 : decode cX6_add 1 = .ok (.invokevirtual 19, 3) := by decide +kernel
theorem dX6_add_4 : decode cX6_add 4 = .ok (.ifCond .ne 23, 3) := by decide +kernel
theorem dX6_add_7 : decode cX6_add 7 = .ok (.aload_n 0, 1) := by decide +kernel
theorem dX6_add_8 : decode cX6_add 8 = .ok (.getfield 9, 3) := by decide +kernel
theorem dX6_add_11 : decode cX6_add 11 = .ok (.aload_n 0, 1) := by decide +kernel
theorem dX6_add_12 : decode cX6_add 12 = .ok (.getfield 15, 3) := by decide +kernel
theorem dX6_add_15 : decode cX6_add 15 = .ok (.iload_n 1, 1) := by decide +kernel
theorem dX6_add_16 : decode cX6_add 16 = .ok (.iastore, 1) := by decide +kernel
theorem dX6_add_17 : decode cX6_add 17 = .ok (.aload_n 0, 1) := by decide +kernel
theorem dX6_add_18 : decode cX6_add 18 = .ok (.dup, 1) := by decide +kernel
theorem dX6_add_19 : decode cX6_add 19 = .ok (.getfield 15, 3) := by decide +kernel
theorem dX6_add_22 : decode cX6_add 22 = .ok (.iconst 1, 1) := by decide +kernel
theorem dX6_add_23 : decode cX6_add 23 = .ok (.iadd, 1) := by decide +kernel
theorem dX6_add_24 : decode cX6_add 24 = .ok (.putfield 15, 3) := by decide +kernel
theorem dX6_add_27 : decode cX6_add 27 = .ok (.return_, 1) := by decide +kernel
set_option maxRecDepth 20000 in
theorem ggX6_isComplete_X6_after : GoodIn wsX6_isComplete wsX6_after := goodIn_r _ [6, 7, 8, 5, 9, 10, 11, 12, 13, 14, 15, 16, 17, 18, 19, 20, 21] (by decide +kernel) (by decide +kernel)
set_option maxRecDepth 20000 in
theorem gX6_isComplete_X6_after : GoodIn wsX6_isComplete (va_wsS RX6 23 yX6_after wsX6_after) := goodIn_app (goodIn_of _ (by decide +kernel)) ggX6_isComplete_X6_after
set_option maxRecDepth 20000 in
theorem ggX6_isComplete_X6_isEndOfPart : GoodIn wsX6_isComplete wsX6_isEndOfPart := goodIn_r _ [9, 10, 11, 5, 12] (by decide +kernel) (by decide +kernel)
set_option maxRecDepth 20000 in
theorem gX6_isComplete_X6_isEndOfPart : GoodIn wsX6_isComplete (va_wsS RX6 27 yX6_isEndOfPart wsX6_isEndOfPart) := goodIn_app (goodIn_of _ (by decide +kernel)) ggX6_isComplete_X6_isEndOfPart
theorem dX6_isComplete_0 : decode cX6_isComplete 0 = .ok (.iconst 1, 1) := by decide +kernel
theorem dX6_isComplete_1 : decode cX6_isComplete 1 = .ok (.istore_n 1, 1) := by decide +kernel
theorem dX6_isComplete_2 : decode cX6_isComplete 2 = .ok (.iconst 0, 1) := by decide +kernel
theorem dX6_isComplete_3 : decode cX6_isComplete 3 = .ok (.istore_n 2, 1) := by decide +kernel
theorem dX6_isComplete_4 : decode cX6_isComplete 4 = .ok (.iload_n 2, 1) := by decide +kernel
theorem dX6_isComplete_5 : decode cX6_isComplete 5 = .ok (.aload_n 0, 1) := by decide +kernel
theorem dX6_isComplete_6 : decode cX6_isComplete 6 = .ok (.getfield 15, 3) := by decide +kernel
theorem dX6_isComplete_9 : decode cX6_isComplete 9 = .ok (.if_icmp .ge 20, 3) := by decide +kernel
theorem dX6_isComplete_12 : decode cX6_isComplete 12 = .ok (.iload_n 1, 1) := by decide +kernel
theorem dX6_isComplete_13 : decode cX6_isComplete 13 = .ok (.aload_n 0, 1) := by decide +kernel
theorem dX6_isComplete_14 : decode cX6_isComplete 14 = .ok (.getfield 9, 3) := by decide +kernel
theorem dX6_isComplete_17 : decode cX6_isComplete 17 = .ok (.iload_n 2, 1) := by decide +kernel
theorem dX6_isComplete_18 : decode cX6_isComplete 18 = .ok (.iaload, 1) := by decide +kernel
theorem dX6_isComplete_19 : decode cX6_isComplete 19 = .ok (.invokestatic 23, 3) := by decide +kernel
theorem dX6_isComplete_22 : decode cX6_isComplete 22 = .ok (.istore_n 1, 1) := by decide +kernel
theorem dX6_isComplete_23 : decode cX6_isComplete 23 = .ok (.iinc 2 1, 3) := by decide +kernel
theorem dX6_isComplete_26 : decode cX6_isComplete 26 = .ok (.goto (-22), 3) := by decide +kernel
theorem dX6_isComplete_29 : decode cX6_isComplete 29 = .ok (.iload_n 1, 1) := by decide +kernel
theorem dX6_isComplete_30 : decode cX6_isComplete 30 = .ok (.invokestatic 27, 3) := by decide +kernel
theorem dX6_isComplete_33 : decode cX6_isComplete 33 = .ok (.ireturn, 1) := by decide +kernel
set_option maxRecDepth 20000 in
theorem ggX6_isEndOfPart_X6_isNumber : GoodIn wsX6_isEndOfPart wsX6_isNumber := goodIn_r _ [4] (by decide +kernel) (by decide +kernel)
set_option maxRecDepth 20000 in
theorem gX6_isEndOfPart_X6_isNumber : GoodIn wsX6_isEndOfPart (va_wsS RX6 31 yX6_isNumber wsX6_isNumber) := goodIn_app (goodIn_of _ (by decide +kernel)) ggX6_isEndOfPart_X6_isNumber
theorem dX6_isEndOfPart_0 : decode cX6_isEndOfPart 0 = .ok (.iload_n 0, 1) := by decide +kernel
theorem dX6_isEndOfPart_1 : decode cX6_isEndOfPart 1 = .ok (.invokestatic 31, 3) := by decide +kernel
theorem dX6_isEndOfPart_4 : decode cX6_isEndOfPart 4 = .ok (.ifCond .ne 21, 3) := by decide +kernel
theorem dX6_isEndOfPart_7 : decode cX6_isEndOfPart 7 = .ok (.iload_n 0, 1) := by decide +kernel
theorem dX6_isEndOfPart_8 : decode cX6_isEndOfPart 8 = .ok (.bipush 7, 2) := by decide +kernel
theorem dX6_isEndOfPart_10 : decode cX6_isEndOfPart 10 = .ok (.if_icmp .eq 15, 3) := by decide +kernel
theorem dX6_isEndOfPart_13 : decode cX6_isEndOfPart 13 = .ok (.iload_n 0, 1) := by decide +kernel
theorem dX6_isEndOfPart_14 : decode cX6_isEndOfPart 14 = .ok (.bipush 8, 2) := by decide +kernel
theorem dX6_isEndOfPart_16 : decode cX6_isEndOfPart 16 = .ok (.if_icmp .eq 9, 3) := by decide +kernel
theorem dX6_isEndOfPart_19 : decode cX6_isEndOfPart 19 = .ok (.iload_n 0, 1) := by decide +kernel
theorem dX6_isEndOfPart_20 : decode cX6_isEndOfPart 20 = .ok (.bipush 9, 2) := by decide +kernel
theorem dX6_isEndOfPart_22 : decode cX6_isEndOfPart 22 = .ok (.if_icmp .ne 7, 3) := by decide +kernel
theorem dX6_isEndOfPart_25 : decode cX6_isEndOfPart 25 = .ok (.iconst 1, 1) := by decide +kernel
theorem dX6_isEndOfPart_26 : decode cX6_isEndOfPart 26 = .ok (.goto 4, 3) := by decide +kernel
theorem dX6_isEndOfPart_29 : decode cX6_isEndOfPart 29 = .ok (.iconst 0, 1) := by decide +kernel
theorem dX6_isEndOfPart_30 : decode cX6_isEndOfPart 30 = .ok (.ireturn, 1) := by decide +kernel
theorem dX6_isNumber_0 : decode cX6_isNumber 0 = .ok (.iload_n 0, 1) := by decide +kernel
theorem dX6_isNumber_1 : decode cX6_isNumber 1 = .ok (.iconst 2, 1) := by decide +kernel
theorem dX6_isNumber_2 : decode cX6_isNumber 2 = .ok (.if_icmp .eq 13, 3) := by decide +kernel
theorem dX6_isNumber_5 : decode cX6_isNumber 5 = .ok (.iload_n 0, 1) := by decide +kernel
theorem dX6_isNumber_6 : decode cX6_isNumber 6 = .ok (.iconst 3, 1) := by decide +kernel
theorem dX6_isNumber_7 : decode cX6_isNumber 7 = .ok (.if_icmp .eq 8, 3) := by decide +kernel
theorem dX6_isNumber_10 : decode cX6_isNumber 10 = .ok (.iload_n 0, 1) := by decide +kernel
theorem dX6_isNumber_11 : decode cX6_isNumber 11 = .ok (.iconst 4, 1) := by decide +kernel
theorem dX6_isNumber_12 : decode cX6_isNumber 12 = .ok (.if_icmp .ne 7, 3) := by decide +kernel
theorem dX6_isNumber_15 : decode cX6_isNumber 15 = .ok (.iconst 1, 1) := by decide +kernel
theorem dX6_isNumber_16 : decode cX6_isNumber 16 = .ok (.goto 4, 3) := by decide +kernel
theorem dX6_isNumber_19 : decode cX6_isNumber 19 = .ok (.iconst 0, 1) := by decide +kernel
theorem dX6_isNumber_20 : decode cX6_isNumber 20 = .ok (.ireturn, 1) := by decide +kernel
set_option maxRecDepth 20000 in
theorem ggX6_after_X6_isEndOfPart : GoodIn wsX6_after wsX6_isEndOfPart := goodIn_r _ [4, 5, 6, 3, 7] (by decide +kernel) (by decide +kernel)
set_option maxRecDepth 20000 in
theorem gX6_after_X6_isEndOfPart : GoodIn wsX6_after (va_wsS RX6 27 yX6_isEndOfPart wsX6_isEndOfPart) := goodIn_app (goodIn_of _ (by decide +kernel)) ggX6_after_X6_isEndOfPart
set_option maxRecDepth 20000 in
theorem ggX6_after_X6_isNumber : GoodIn wsX6_after wsX6_isNumber := goodIn_r _ [7] (by decide +kernel) (by decide +kernel)
set_option maxRecDepth 20000 in
theorem gX6_after_X6_isNumber : GoodIn wsX6_after (va_wsS RX6 31 yX6_isNumber wsX6_isNumber) := goodIn_app (goodIn_of _ (by decide +kernel)) ggX6_after_X6_isNumber
set_option maxRecDepth 20000 in
theorem ggX6_after_X6_afterDigit : GoodIn wsX6_after wsX6_afterDigit := goodIn_r _ [10, 11, 12, 3, 13, 14, 15, 16] (by decide +kernel) (by decide +kernel)
set_option maxRecDepth 20000 in
theorem gX6_after_X6_afterDigit : GoodIn wsX6_after (va_wsS RX6 34 yX6_afterDigit wsX6_afterDigit) := goodIn_app (goodIn_of _ (by decide +kernel)) ggX6_after_X6_afterDigit
theorem dX6_after_0 : decode cX6_after 0 = .ok (.iload_n 1, 1) := by decide +kernel
theorem dX6_after_1 : decode cX6_after 1 = .ok (.bipush 44, 2) := by decide +kernel
theorem dX6_after_3 : decode cX6_after 3 = .ok (.if_icmp .ne 16, 3) := by decide +kernel
theorem dX6_after_6 : decode cX6_after 6 = .ok (.iload_n 0, 1) := by decide +kernel
theorem dX6_after_7 : decode cX6_after 7 = .ok (.invokestatic 27, 3) := by decide +kernel
theorem dX6_after_10 : decode cX6_after 10 = .ok (.ifCond .eq 7, 3) := by decide +kernel
theorem dX6_after_13 : decode cX6_after 13 = .ok (.iconst 1, 1) := by decide +kernel
theorem dX6_after_14 : decode cX6_after 14 = .ok (.goto 4, 3) := by decide +kernel
theorem dX6_after_17 : decode cX6_after 17 = .ok (.iconst 0, 1) := by decide +kernel
theorem dX6_after_18 : decode cX6_after 18 = .ok (.ireturn, 1) := by decide +kernel
theorem dX6_after_19 : decode cX6_after 19 = .ok (.iload_n 1, 1) := by decide +kernel
theorem dX6_after_20 : decode cX6_after 20 = .ok (.bipush 42, 2) := by decide +kernel
theorem dX6_after_22 : decode cX6_after 22 = .ok (.if_icmp .ne 16, 3) := by decide +kernel
theorem dX6_after_25 : decode cX6_after 25 = .ok (.iload_n 0, 1) := by decide +kernel
theorem dX6_after_26 : decode cX6_after 26 = .ok (.invokestatic 31, 3) := by decide +kernel
theorem dX6_after_29 : decode cX6_after 29 = .ok (.ifCond .eq 7, 3) := by decide +kernel
theorem dX6_after_32 : decode cX6_after 32 = .ok (.iconst 5, 1) := by decide +kernel
theorem dX6_after_33 : decode cX6_after 33 = .ok (.goto 4, 3) := by decide +kernel
theorem dX6_after_36 : decode cX6_after 36 = .ok (.iconst 0, 1) := by decide +kernel
theorem dX6_after_37 : decode cX6_after 37 = .ok (.ireturn, 1) := by decide +kernel
theorem dX6_after_38 : decode cX6_after 38 = .ok (.iload_n 1, 1) := by decide +kernel
theorem dX6_after_39 : decode cX6_after 39 = .ok (.bipush 48, 2) := by decide +kernel
theorem dX6_after_41 : decode cX6_after 41 = .ok (.if_icmp .lt 20, 3) := by decide +kernel
theorem dX6_after_44 : decode cX6_after 44 = .ok (.iload_n 1, 1) := by decide +kernel
theorem dX6_after_45 : decode cX6_after 45 = .ok (.bipush 57, 2) := by decide +kernel
theorem dX6_after_47 : decode cX6_after 47 = .ok (.if_icmp .gt 14, 3) := by decide +kernel
theorem dX6_after_50 : decode cX6_after 50 = .ok (.iload_n 0, 1) := by decide +kernel
theorem dX6_after_51 : decode cX6_after 51 = .ok (.iload_n 1, 1) := by decide +kernel
theorem dX6_after_52 : decode cX6_after 52 = .ok (.bipush 48, 2) := by decide +kernel
theorem dX6_after_54 : decode cX6_after 54 = .ok (.isub, 1) := by decide +kernel
theorem dX6_after_55 : decode cX6_after 55 = .ok (.invokestatic 34, 3) := by decide +kernel
theorem dX6_after_58 : decode cX6_after 58 = .ok (.goto 4, 3) := by decide +kernel
theorem dX6_after_61 : decode cX6_after 61 = .ok (.iconst 0, 1) := by decide +kernel
theorem dX6_after_62 : decode cX6_after 62 = .ok (.ireturn, 1) := by decide +kernel
set_option maxRecDepth 20000 in
theorem ggX6_afterDigit_X6_afterFirstOfNumber : GoodIn wsX6_afterDigit wsX6_afterFirstOfNumber := goodIn_r _ [4] (by decide +kernel) (by decide +kernel)
set_option maxRecDepth 20000 in
theorem gX6_afterDigit_X6_afterFirstOfNumber : GoodIn wsX6_afterDigit (va_wsS RX6 37 yX6_afterFirstOfNumber wsX6_afterFirstOfNumber) := goodIn_app (goodIn_of _ (by decide +kernel)) ggX6_afterDigit_X6_afterFirstOfNumber
set_option maxRecDepth 20000 in
theorem ggX6_afterDigit_X6_afterFirstOfTimes : GoodIn wsX6_afterDigit wsX6_afterFirstOfTimes := goodIn_r _ [7] (by decide +kernel) (by decide +kernel)
set_option maxRecDepth 20000 in
theorem gX6_afterDigit_X6_afterFirstOfTimes : GoodIn wsX6_afterDigit (va_wsS RX6 41 yX6_afterFirstOfTimes wsX6_afterFirstOfTimes) := goodIn_app (goodIn_of _ (by decide +kernel)) ggX6_afterDigit_X6_afterFirstOfTimes
theorem dX6_afterDigit_0 : decode cX6_afterDigit 0 = .ok (.iload_n 0, 1) := by decide +kernel
theorem dX6_afterDigit_1 : decode cX6_afterDigit 1 = .ok (.tableswitch 85 1 8 #[47, 52, 54, 85, 64, 69, 69, 72], 47) := by decide +kernel
theorem dX6_afterDigit_48 : decode cX6_afterDigit 48 = .ok (.iload_n 1, 1) := by decide +kernel
theorem dX6_afterDigit_49 : decode cX6_afterDigit 49 = .ok (.invokestatic 37, 3) := by decide +kernel
theorem dX6_afterDigit_52 : decode cX6_afterDigit 52 = .ok (.ireturn, 1) := by decide +kernel
theorem dX6_afterDigit_53 : decode cX6_afterDigit 53 = .ok (.iconst 4, 1) := by decide +kernel
theorem dX6_afterDigit_54 : decode cX6_afterDigit 54 = .ok (.ireturn, 1) := by decide +kernel
theorem dX6_afterDigit_55 : decode cX6_afterDigit 55 = .ok (.iload_n 1, 1) := by decide +kernel
theorem dX6_afterDigit_56 : decode cX6_afterDigit 56 = .ok (.ifCond .ne 7, 3) := by decide +kernel
theorem dX6_afterDigit_59 : decode cX6_afterDigit 59 = .ok (.iconst 4, 1) := by decide +kernel
theorem dX6_afterDigit_60 : decode cX6_afterDigit 60 = .ok (.goto 4, 3) := by decide +kernel
theorem dX6_afterDigit_63 : decode cX6_afterDigit 63 = .ok (.iconst 0, 1) := by decide +kernel
theorem dX6_afterDigit_64 : decode cX6_afterDigit 64 = .ok (.ireturn, 1) := by decide +kernel
theorem dX6_afterDigit_65 : decode cX6_afterDigit 65 = .ok (.iload_n 1, 1) := by decide +kernel
theorem dX6_afterDigit_66 : decode cX6_afterDigit 66 = .ok (.invokestatic 41, 3) := by decide +kernel
theorem dX6_afterDigit_69 : decode cX6_afterDigit 69 = .ok (.ireturn, 1) := by decide +kernel
theorem dX6_afterDigit_70 : decode cX6_afterDigit 70 = .ok (.bipush 9, 2) := by decide +kernel
theorem dX6_afterDigit_72 : decode cX6_afterDigit 72 = .ok (.ireturn, 1) := by decide +kernel
theorem dX6_afterDigit_73 : decode cX6_afterDigit 73 = .ok (.iload_n 1, 1) := by decide +kernel
theorem dX6_afterDigit_74 : decode cX6_afterDigit 74 = .ok (.bipush 8, 2) := by decide +kernel
theorem dX6_afterDigit_76 : decode cX6_afterDigit 76 = .ok (.if_icmp .gt 8, 3) := by decide +kernel
theorem dX6_afterDigit_79 : decode cX6_afterDigit 79 = .ok (.bipush 9, 2) := by decide +kernel
theorem dX6_afterDigit_81 : decode cX6_afterDigit 81 = .ok (.goto 4, 3) := by decide +kernel
theorem dX6_afterDigit_84 : decode cX6_afterDigit 84 = .ok (.iconst 0, 1) := by decide +kernel
theorem dX6_afterDigit_85 : decode cX6_afterDigit 85 = .ok (.ireturn, 1) := by decide +kernel
theorem dX6_afterDigit_86 : decode cX6_afterDigit 86 = .ok (.iconst 0, 1) := by decide +kernel
theorem dX6_afterDigit_87 : decode cX6_afterDigit 87 = .ok (.ireturn, 1) := by decide +kernel
theorem dX6_afterFirstOfNumber_0 : decode cX6_afterFirstOfNumber 0 = .ok (.iload_n 0, 1) := by decide +kernel
theorem dX6_afterFirstOfNumber_1 : decode cX6_afterFirstOfNumber 1 = .ok (.tableswitch 31 1 3 #[27, 27, 29], 27) := by decide +kernel
theorem dX6_afterFirstOfNumber_28 : decode cX6_afterFirstOfNumber 28 = .ok (.iconst 2, 1) := by decide +kernel
theorem dX6_afterFirstOfNumber_29 : decode cX6_afterFirstOfNumber 29 = .ok (.ireturn, 1) := by decide +kernel
theorem dX6_afterFirstOfNumber_30 : decode cX6_afterFirstOfNumber 30 = .ok (.iconst 3, 1) := by decide +kernel
theorem dX6_afterFirstOfNumber_31 : decode cX6_afterFirstOfNumber 31 = .ok (.ireturn, 1) := by decide +kernel
theorem dX6_afterFirstOfNumber_32 : decode cX6_afterFirstOfNumber 32 = .ok (.iconst 4, 1) := by decide +kernel
theorem dX6_afterFirstOfNumber_33 : decode cX6_afterFirstOfNumber 33 = .ok (.ireturn, 1) := by decide +kernel
theorem dX6_afterFirstOfTimes_0 : decode cX6_afterFirstOfTimes 0 = .ok (.iload_n 0, 1) := by decide +kernel
theorem dX6_afterFirstOfTimes_1 : decode cX6_afterFirstOfTimes 1 = .ok (.tableswitch 46 0 4 #[35, 37, 40, 40, 43], 35) := by decide +kernel
theorem dX6_afterFirstOfTimes_36 : decode cX6_afterFirstOfTimes 36 = .ok (.iconst 0, 1) := by decide +kernel
theorem dX6_afterFirstOfTimes_37 : decode cX6_afterFirstOfTimes 37 = .ok (.ireturn, 1) := by decide +kernel
theorem dX6_afterFirstOfTimes_38 : decode cX6_afterFirstOfTimes 38 = .ok (.bipush 6, 2) := by decide +kernel
theorem dX6_afterFirstOfTimes_40 : decode cX6_afterFirstOfTimes 40 = .ok (.ireturn, 1) := by decide +kernel
theorem dX6_afterFirstOfTimes_41 : decode cX6_afterFirstOfTimes 41 = .ok (.bipush 7, 2) := by decide +kernel
theorem dX6_afterFirstOfTimes_43 : decode cX6_afterFirstOfTimes 43 = .ok (.ireturn, 1) := by decide +kernel
theorem dX6_afterFirstOfTimes_44 : decode cX6_afterFirstOfTimes 44 = .ok (.bipush 8, 2) := by decide +kernel
theorem dX6_afterFirstOfTimes_46 : decode cX6_afterFirstOfTimes 46 = .ok (.ireturn, 1) := by decide +kernel
theorem dX6_afterFirstOfTimes_47 : decode cX6_afterFirstOfTimes 47 = .ok (.bipush 9, 2) := by decide +kernel
theorem dX6_afterFirstOfTimes_49 : decode cX6_afterFirstOfTimes 49 = .ok (.ireturn, 1) := by decide +kernel
set_option maxRecDepth 20000 in
theorem ggX6_numberCount_X6_timesFrom : GoodIn wsX6_numberCount wsX6_timesFrom := goodIn_r _ [7, 1, 2, 8, 9, 10, 6, 11, 12, 13] (by decide +kernel) (by decide +kernel)
set_option maxRecDepth 20000 in
theorem gX6_numberCount_X6_timesFrom : GoodIn wsX6_numberCount (wsV RX6 44 RX6 yX6_timesFrom wsX6_timesFrom) := goodIn_app (goodIn_of _ (by decide +kernel)) ggX6_numberCount_X6_timesFrom
theorem dX6_numberCount_0 : decode cX6_numberCount 0 = .ok (.iconst 0, 1) := by decide +kernel
theorem dX6_numberCount_1 : decode cX6_numberCount 1 = .ok (.istore_n 1, 1) := by decide +kernel
theorem dX6_numberCount_2 : decode cX6_numberCount 2 = .ok (.iconst 0, 1) := by decide +kernel
theorem dX6_numberCount_3 : decode cX6_numberCount 3 = .ok (.istore_n 2, 1) := by decide +kernel
theorem dX6_numberCount_4 : decode cX6_numberCount 4 = .ok (.iload_n 2, 1) := by decide +kernel
theorem dX6_numberCount_5 : decode cX6_numberCount 5 = .ok (.aload_n 0, 1) := by decide +kernel
theorem dX6_numberCount_6 : decode cX6_numberCount 6 = .ok (.getfield 15, 3) := by decide +kernel
theorem dX6_numberCount_9 : decode cX6_numberCount 9 = .ok (.if_icmp .ge 34, 3) := by decide +kernel
theorem dX6_numberCount_12 : decode cX6_numberCount 12 = .ok (.iload_n 2, 1) := by decide +kernel
theorem dX6_numberCount_13 : decode cX6_numberCount 13 = .ok (.ifCond .eq 16, 3) := by decide +kernel
theorem dX6_numberCount_16 : decode cX6_numberCount 16 = .ok (.aload_n 0, 1) := by decide +kernel
theorem dX6_numberCount_17 : decode cX6_numberCount 17 = .ok (.getfield 9, 3) := by decide +kernel
theorem dX6_numberCount_20 : decode cX6_numberCount 20 = .ok (.iload_n 2, 1) := by decide +kernel
theorem dX6_numberCount_21 : decode cX6_numberCount 21 = .ok (.iconst 1, 1) := by decide +kernel
theorem dX6_numberCount_22 : decode cX6_numberCount 22 = .ok (.isub, 1) := by decide +kernel
theorem dX6_numberCount_23 : decode cX6_numberCount 23 = .ok (.iaload, 1) := by decide +kernel
theorem dX6_numberCount_24 : decode cX6_numberCount 24 = .ok (.bipush 44, 2) := by decide +kernel
theorem dX6_numberCount_26 : decode cX6_numberCount 26 = .ok (.if_icmp .ne 11, 3) := by decide +kernel
theorem dX6_numberCount_29 : decode cX6_numberCount 29 = .ok (.iload_n 1, 1) := by decide +kernel
theorem dX6_numberCount_30 : decode cX6_numberCount 30 = .ok (.aload_n 0, 1) := by decide +kernel
theorem dX6_numberCount_31 : decode cX6_numberCount 31 = .ok (.iload_n 2, 1) := by decide +kernel
theorem dX6_numberCount_32 : decode cX6_numberCount 32 = .ok (.invokevirtual 44, 3) := by decide +kernel
theorem dX6_numberCount_35 : decode cX6_numberCount 35 = .ok (.iadd, 1) := by decide +kernel
theorem dX6_numberCount_36 : decode cX6_numberCount 36 = .ok (.istore_n 1, 1) := by decide +kernel
theorem dX6_numberCount_37 : decode cX6_numberCount 37 = .ok (.iinc 2 1, 3) := by decide +kernel
theorem dX6_numberCount_40 : decode cX6_numberCount 40 = .ok (.goto (-36), 3) := by decide +kernel
theorem dX6_numberCount_43 : decode cX6_numberCount 43 = .ok (.iload_n 1, 1) := by decide +kernel
theorem dX6_numberCount_44 : decode cX6_numberCount 44 = .ok (.ireturn, 1) := by decide +kernel
set_option maxRecDepth 20000 in
theorem ggX6_writeTo_X6_valueFrom : GoodIn wsX6_writeTo wsX6_valueFrom := goodIn_r _ [8, 2, 3, 22, 23] (by decide +kernel) (by decide +kernel)
set_option maxRecDepth 20000 in
theorem gX6_writeTo_X6_valueFrom : GoodIn wsX6_writeTo (wsV RX6 52 RX6 yX6_valueFrom wsX6_valueFrom) := goodIn_app (goodIn_of _ (by decide +kernel)) ggX6_writeTo_X6_valueFrom
set_option maxRecDepth 20000 in
theorem ggX6_writeTo_X6_timesFrom : GoodIn wsX6_writeTo wsX6_timesFrom := goodIn_r _ [12, 2, 3, 4, 5, 6, 7, 8, 22, 23] (by decide +kernel) (by decide +kernel)
set_option maxRecDepth 20000 in
theorem gX6_writeTo_X6_timesFrom : GoodIn wsX6_writeTo (wsV RX6 44 RX6 yX6_timesFrom wsX6_timesFrom) := goodIn_app (goodIn_of _ (by decide +kernel)) ggX6_writeTo_X6_timesFrom
set_option maxRecDepth 20000 in
theorem ggX6_writeTo_X7_add : GoodIn wsX6_writeTo wsX7_add := goodIn_r _ [17, 18, 19, 20, 21] (by decide +kernel) (by decide +kernel)
set_option maxRecDepth 20000 in
theorem gX6_writeTo_X7_add : GoodIn wsX6_writeTo (wsV RX6 55 RX7 yX7_add wsX7_add) := goodIn_app (goodIn_of _ (by decide +kernel)) ggX6_writeTo_X7_add
theorem dX6_writeTo_0 : decode cX6_writeTo 0 = .ok (.aload_n 1, 1) := by decide +kernel
theorem dX6_writeTo_1 : decode cX6_writeTo 1 = .ok (.iconst 0, 1) := by decide +kernel
theorem dX6_writeTo_2 : decode cX6_writeTo 2 = .ok (.putfield 47, 3) := by decide +kernel
theorem dX6_writeTo_5 : decode cX6_writeTo 5 = .ok (.iconst 0, 1) := by decide +kernel
theorem dX6_writeTo_6 : decode cX6_writeTo 6 = .ok (.istore_n 2, 1) := by decide +kernel
theorem dX6_writeTo_7 : decode cX6_writeTo 7 = .ok (.iload_n 2, 1) := by decide +kernel
theorem dX6_writeTo_8 : decode cX6_writeTo 8 = .ok (.aload_n 0, 1) := by decide +kernel
theorem dX6_writeTo_9 : decode cX6_writeTo 9 = .ok (.getfield 15, 3) := by decide +kernel
theorem dX6_writeTo_12 : decode cX6_writeTo 12 = .ok (.if_icmp .ge 60, 3) := by decide +kernel
theorem dX6_writeTo_15 : decode cX6_writeTo 15 = .ok (.iload_n 2, 1) := by decide +kernel
theorem dX6_writeTo_16 : decode cX6_writeTo 16 = .ok (.ifCond .eq 16, 3) := by decide +kernel
theorem dX6_writeTo_19 : decode cX6_writeTo 19 = .ok (.aload_n 0, 1) := by decide +kernel
theorem dX6_writeTo_20 : decode cX6_writeTo 20 = .ok (.getfield 9, 3) := by decide +kernel
theorem dX6_writeTo_23 : decode cX6_writeTo 23 = .ok (.iload_n 2, 1) := by decide +kernel
theorem dX6_writeTo_24 : decode cX6_writeTo 24 = .ok (.iconst 1, 1) := by decide +kernel
theorem dX6_writeTo_25 : decode cX6_writeTo 25 = .ok (.isub, 1) := by decide +kernel
theorem dX6_writeTo_26 : decode cX6_writeTo 26 = .ok (.iaload, 1) := by decide +kernel
theorem dX6_writeTo_27 : decode cX6_writeTo 27 = .ok (.bipush 44, 2) := by decide +kernel
theorem dX6_writeTo_29 : decode cX6_writeTo 29 = .ok (.if_icmp .ne 37, 3) := by decide +kernel
theorem dX6_writeTo_32 : decode cX6_writeTo 32 = .ok (.aload_n 0, 1) := by decide +kernel
theorem dX6_writeTo_33 : decode cX6_writeTo 33 = .ok (.iload_n 2, 1) := by decide +kernel
theorem dX6_writeTo_34 : decode cX6_writeTo 34 = .ok (.invokevirtual 52, 3) := by decide +kernel
theorem dX6_writeTo_37 : decode cX6_writeTo 37 = .ok (.istore_n 3, 1) := by decide +kernel
theorem dX6_writeTo_38 : decode cX6_writeTo 38 = .ok (.aload_n 0, 1) := by decide +kernel
theorem dX6_writeTo_39 : decode cX6_writeTo 39 = .ok (.iload_n 2, 1) := by decide +kernel
theorem dX6_writeTo_40 : decode cX6_writeTo 40 = .ok (.invokevirtual 44, 3) := by decide +kernel
theorem dX6_writeTo_43 : decode cX6_writeTo 43 = .ok (.istore 4, 2) := by decide +kernel
theorem dX6_writeTo_45 : decode cX6_writeTo 45 = .ok (.iconst 0, 1) := by decide +kernel
theorem dX6_writeTo_46 : decode cX6_writeTo 46 = .ok (.istore 5, 2) := by decide +kernel
theorem dX6_writeTo_48 : decode cX6_writeTo 48 = .ok (.iload 5, 2) := by decide +kernel
theorem dX6_writeTo_50 : decode cX6_writeTo 50 = .ok (.iload 4, 2) := by decide +kernel
theorem dX6_writeTo_52 : decode cX6_writeTo 52 = .ok (.if_icmp .ge 14, 3) := by decide +kernel
theorem dX6_writeTo_55 : decode cX6_writeTo 55 = .ok (.aload_n 1, 1) := by decide +kernel
theorem dX6_writeTo_56 : decode cX6_writeTo 56 = .ok (.iload_n 3, 1) := by decide +kernel
theorem dX6_writeTo_57 : decode cX6_writeTo 57 = .ok (.invokevirtual 55, 3) := by decide +kernel
theorem dX6_writeTo_60 : decode cX6_writeTo 60 = .ok (.iinc 5 1, 3) := by decide +kernel
theorem dX6_writeTo_63 : decode cX6_writeTo 63 = .ok (.goto (-15), 3) := by decide +kernel
theorem dX6_writeTo_66 : decode cX6_writeTo 66 = .ok (.iinc 2 1, 3) := by decide +kernel
theorem dX6_writeTo_69 : decode cX6_writeTo 69 = .ok (.goto (-62), 3) := by decide +kernel
theorem dX6_writeTo_72 : decode cX6_writeTo 72 = .ok (.return_, 1) := by decide +kernel
set_option maxRecDepth 20000 in
theorem ggX6_timesFrom_X6_valueFrom : GoodIn wsX6_timesFrom wsX6_valueFrom := goodIn_r _ [7, 1, 2, 8, 9] (by decide +kernel) (by decide +kernel)
set_option maxRecDepth 20000 in
theorem gX6_timesFrom_X6_valueFrom : GoodIn wsX6_timesFrom (wsV RX6 52 RX6 yX6_valueFrom wsX6_valueFrom) := goodIn_app (goodIn_of _ (by decide +kernel)) ggX6_timesFrom_X6_valueFrom
theorem dX6_timesFrom_0 : decode cX6_timesFrom 0 = .ok (.iload_n 1, 1) := by decide +kernel
theorem dX6_timesFrom_1 : decode cX6_timesFrom 1 = .ok (.istore_n 2, 1) := by decide +kernel
theorem dX6_timesFrom_2 : decode cX6_timesFrom 2 = .ok (.iload_n 2, 1) := by decide +kernel
theorem dX6_timesFrom_3 : decode cX6_timesFrom 3 = .ok (.aload_n 0, 1) := by decide +kernel
theorem dX6_timesFrom_4 : decode cX6_timesFrom 4 = .ok (.getfield 15, 3) := by decide +kernel
theorem dX6_timesFrom_7 : decode cX6_timesFrom 7 = .ok (.if_icmp .ge 39, 3) := by decide +kernel
theorem dX6_timesFrom_10 : decode cX6_timesFrom 10 = .ok (.aload_n 0, 1) := by decide +kernel
theorem dX6_timesFrom_11 : decode cX6_timesFrom 11 = .ok (.getfield 9, 3) := by decide +kernel
theorem dX6_timesFrom_14 : decode cX6_timesFrom 14 = .ok (.iload_n 2, 1) := by decide +kernel
theorem dX6_timesFrom_15 : decode cX6_timesFrom 15 = .ok (.iaload, 1) := by decide +kernel
theorem dX6_timesFrom_16 : decode cX6_timesFrom 16 = .ok (.bipush 44, 2) := by decide +kernel
theorem dX6_timesFrom_18 : decode cX6_timesFrom 18 = .ok (.if_icmp .eq 28, 3) := by decide +kernel
theorem dX6_timesFrom_21 : decode cX6_timesFrom 21 = .ok (.aload_n 0, 1) := by decide +kernel
theorem dX6_timesFrom_22 : decode cX6_timesFrom 22 = .ok (.getfield 9, 3) := by decide +kernel
theorem dX6_timesFrom_25 : decode cX6_timesFrom 25 = .ok (.iload_n 2, 1) := by decide +kernel
theorem dX6_timesFrom_26 : decode cX6_timesFrom 26 = .ok (.iaload, 1) := by decide +kernel
theorem dX6_timesFrom_27 : decode cX6_timesFrom 27 = .ok (.bipush 42, 2) := by decide +kernel
theorem dX6_timesFrom_29 : decode cX6_timesFrom 29 = .ok (.if_icmp .ne 11, 3) := by decide +kernel
theorem dX6_timesFrom_32 : decode cX6_timesFrom 32 = .ok (.aload_n 0, 1) := by decide +kernel
theorem dX6_timesFrom_33 : decode cX6_timesFrom 33 = .ok (.iload_n 2, 1) := by decide +kernel
theorem dX6_timesFrom_34 : decode cX6_timesFrom 34 = .ok (.iconst 1, 1) := by decide +kernel
theorem dX6_timesFrom_35 : decode cX6_timesFrom 35 = .ok (.iadd, 1) := by decide +kernel
theorem dX6_timesFrom_36 : decode cX6_timesFrom 36 = .ok (.invokevirtual 52, 3) := by decide +kernel
theorem dX6_timesFrom_39 : decode cX6_timesFrom 39 = .ok (.ireturn, 1) := by decide +kernel
theorem dX6_timesFrom_40 : decode cX6_timesFrom 40 = .ok (.iinc 2 1, 3) := by decide +kernel
theorem dX6_timesFrom_43 : decode cX6_timesFrom 43 = .ok (.goto (-41), 3) := by decide +kernel
theorem dX6_timesFrom_46 : decode cX6_timesFrom 46 = .ok (.iconst 1, 1) := by decide +kernel
theorem dX6_timesFrom_47 : decode cX6_timesFrom 47 = .ok (.ireturn, 1) := by decide +kernel
theorem dX6_valueFrom_0 : decode cX6_valueFrom 0 = .ok (.iconst 0, 1) := by decide +kernel
theorem dX6_valueFrom_1 : decode cX6_valueFrom 1 = .ok (.istore_n 2, 1) := by decide +kernel
theorem dX6_valueFrom_2 : decode cX6_valueFrom 2 = .ok (.iload_n 1, 1) := by decide +kernel
theorem dX6_valueFrom_3 : decode cX6_valueFrom 3 = .ok (.istore_n 3, 1) := by decide +kernel
theorem dX6_valueFrom_4 : decode cX6_valueFrom 4 = .ok (.iload_n 3, 1) := by decide +kernel
theorem dX6_valueFrom_5 : decode cX6_valueFrom 5 = .ok (.aload_n 0, 1) := by decide +kernel
theorem dX6_valueFrom_6 : decode cX6_valueFrom 6 = .ok (.getfield 15, 3) := by decide +kernel
theorem dX6_valueFrom_9 : decode cX6_valueFrom 9 = .ok (.if_icmp .ge 46, 3) := by decide +kernel
theorem dX6_valueFrom_12 : decode cX6_valueFrom 12 = .ok (.aload_n 0, 1) := by decide +kernel
theorem dX6_valueFrom_13 : decode cX6_valueFrom 13 = .ok (.getfield 9, 3) := by decide +kernel
theorem dX6_valueFrom_16 : decode cX6_valueFrom 16 = .ok (.iload_n 3, 1) := by decide +kernel
theorem dX6_valueFrom_17 : decode cX6_valueFrom 17 = .ok (.iaload, 1) := by decide +kernel
theorem dX6_valueFrom_18 : decode cX6_valueFrom 18 = .ok (.bipush 48, 2) := by decide +kernel
theorem dX6_valueFrom_20 : decode cX6_valueFrom 20 = .ok (.if_icmp .lt 35, 3) := by decide +kernel
theorem dX6_valueFrom_23 : decode cX6_valueFrom 23 = .ok (.aload_n 0, 1) := by decide +kernel
theorem dX6_valueFrom_24 : decode cX6_valueFrom 24 = .ok (.getfield 9, 3) := by decide +kernel
theorem dX6_valueFrom_27 : decode cX6_valueFrom 27 = .ok (.iload_n 3, 1) := by decide +kernel
theorem dX6_valueFrom_28 : decode cX6_valueFrom 28 = .ok (.iaload, 1) := by decide +kernel
theorem dX6_valueFrom_29 : decode cX6_valueFrom 29 = .ok (.bipush 57, 2) := by decide +kernel
theorem dX6_valueFrom_31 : decode cX6_valueFrom 31 = .ok (.if_icmp .gt 24, 3) := by decide +kernel
theorem dX6_valueFrom_34 : decode cX6_valueFrom 34 = .ok (.bipush 10, 2) := by decide +kernel
theorem dX6_valueFrom_36 : decode cX6_valueFrom 36 = .ok (.iload_n 2, 1) := by decide +kernel
theorem dX6_valueFrom_37 : decode cX6_valueFrom 37 = .ok (.imul, 1) := by decide +kernel
theorem dX6_valueFrom_38 : decode cX6_valueFrom 38 = .ok (.aload_n 0, 1) := by decide +kernel
theorem dX6_valueFrom_39 : decode cX6_valueFrom 39 = .ok (.getfield 9, 3) := by decide +kernel
theorem dX6_valueFrom_42 : decode cX6_valueFrom 42 = .ok (.iload_n 3, 1) := by decide +kernel
theorem dX6_valueFrom_43 : decode cX6_valueFrom 43 = .ok (.iaload, 1) := by decide +kernel
theorem dX6_valueFrom_44 : decode cX6_valueFrom 44 = .ok (.iadd, 1) := by decide +kernel
theorem dX6_valueFrom_45 : decode cX6_valueFrom 45 = .ok (.bipush 48, 2) := by decide +kernel
theorem dX6_valueFrom_47 : decode cX6_valueFrom 47 = .ok (.isub, 1) := by decide +kernel
theorem dX6_valueFrom_48 : decode cX6_valueFrom 48 = .ok (.istore_n 2, 1) := by decide +kernel
theorem dX6_valueFrom_49 : decode cX6_valueFrom 49 = .ok (.iinc 3 1, 3) := by decide +kernel
theorem dX6_valueFrom_52 : decode cX6_valueFrom 52 = .ok (.goto (-48), 3) := by decide +kernel
theorem dX6_valueFrom_55 : decode cX6_valueFrom 55 = .ok (.iload_n 2, 1) := by decide +kernel
theorem dX6_valueFrom_56 : decode cX6_valueFrom 56 = .ok (.ireturn, 1) := by decide +kernel
theorem dX7_init_0 : decode cX7_init 0 = .ok (.aload_n 0, 1) := by decide +kernel
theorem dX7_init_1 : decode cX7_init 1 = .ok (.invokespecial 3, 3) := by decide +kernel
theorem dX7_init_4 : decode cX7_init 4 = .ok (.aload_n 0, 1) := by decide +kernel
theorem dX7_init_5 : decode cX7_init 5 = .ok (.bipush 48, 2) := by decide +kernel
theorem dX7_init_7 : decode cX7_init 7 = .ok (.newarray .int, 2) := by decide +kernel
theorem dX7_init_9 : decode cX7_init 9 = .ok (.putfield 9, 3) := by decide +kernel
theorem dX7_init_12 : decode cX7_init 12 = .ok (.aload_n 0, 1) := by decide +kernel
theorem dX7_init_13 : decode cX7_init 13 = .ok (.iconst 0, 1) := by decide +kernel
theorem dX7_init_14 : decode cX7_init 14 = .ok (.putfield 15, 3) := by decide +kernel
theorem dX7_init_17 : decode cX7_init 17 = .ok (.return_, 1) := by decide +kernel
theorem dX7_copyFrom_0 : decode cX7_copyFrom 0 = .ok (.aload_n 1, 1) := by decide +kernel
theorem dX7_copyFrom_1 : decode cX7_copyFrom 1 = .ok (.getfield 9, 3) := by decide +kernel
theorem dX7_copyFrom_4 : decode cX7_copyFrom 4 = .ok (.iconst 0, 1) := by decide +kernel
theorem dX7_copyFrom_5 : decode cX7_copyFrom 5 = .ok (.aload_n 0, 1) := by decide +kernel
theorem dX7_copyFrom_6 : decode cX7_copyFrom 6 = .ok (.getfield 9, 3) := by decide +kernel
theorem dX7_copyFrom_9 : decode cX7_copyFrom 9 = .ok (.iconst 0, 1) := by decide +kernel
theorem dX7_copyFrom_10 : decode cX7_copyFrom 10 = .ok (.bipush 48, 2) := by decide +kernel
theorem dX7_copyFrom_12 : decode cX7_copyFrom 12 = .ok (.invokestatic 19, 3) := by decide +kernel
theorem dX7_copyFrom_15 : decode cX7_copyFrom 15 = .ok (.aload_n 0, 1) := by decide +kernel
theorem dX7_copyFrom_16 : decode cX7_copyFrom 16 = .ok (.aload_n 1, 1) := by decide +kernel
theorem dX7_copyFrom_17 : decode cX7_copyFrom 17 = .ok (.getfield 15, 3) := by decide +kernel
theorem dX7_copyFrom_20 : decode cX7_copyFrom 20 = .ok (.putfield 15, 3) := by decide +kernel
theorem dX7_copyFrom_23 : decode cX7_copyFrom 23 = .ok (.return_, 1) := by decide +kernel
theorem dX7_add_0 : decode cX7_add 0 = .ok (.aload_n 0, 1) := by decide +kernel
theorem dX7_add_1 : decode cX7_add 1 = .ok (.getfield 15, 3) := by decide +kernel
theorem dX7_add_4 : decode cX7_add 4 = .ok (.bipush 48, 2) := by decide +kernel
theorem dX7_add_6 : decode cX7_add 6 = .ok (.if_icmp .ge 23, 3) := by decide +kernel
theorem dX7_add_9 : decode cX7_add 9 = .ok (.aload_n 0, 1) := by decide +kernel
theorem dX7_add_10 : decode cX7_add 10 = .ok (.getfield 9, 3) := by decide +kernel
theorem dX7_add_13 : decode cX7_add 13 = .ok (.aload_n 0, 1) := by decide +kernel
theorem dX7_add_14 : decode cX7_add 14 = .ok (.getfield 15, 3) := by decide +kernel
theorem dX7_add_17 : decode cX7_add 17 = .ok (.iload_n 1, 1) := by decide +kernel
theorem dX7_add_18 : decode cX7_add 18 = .ok (.iastore, 1) := by decide +kernel
theorem dX7_add_19 : decode cX7_add 19 = .ok (.aload_n 0, 1) := by decide +kernel
theorem dX7_add_20 : decode cX7_add 20 = .ok (.dup, 1) := by decide +kernel
theorem dX7_add_21 : decode cX7_add 21 = .ok (.getfield 15, 3) := by decide +kernel
theorem dX7_add_24 : decode cX7_add 24 = .ok (.iconst 1, 1) := by decide +kernel
theorem dX7_add_25 : decode cX7_add 25 = .ok (.iadd, 1) := by decide +kernel
theorem dX7_add_26 : decode cX7_add 26 = .ok (.putfield 15, 3) := by decide +kernel
theorem dX7_add_29 : decode cX7_add 29 = .ok (.return_, 1) := by decide +kernel
theorem dX7_at_0 : decode cX7_at 0 = .ok (.aload_n 0, 1) := by decide +kernel
theorem dX7_at_1 : decode cX7_at 1 = .ok (.getfield 15, 3) := by decide +kernel
theorem dX7_at_4 : decode cX7_at 4 = .ok (.ifCond .le 21, 3) := by decide +kernel
theorem dX7_at_7 : decode cX7_at 7 = .ok (.iload_n 1, 1) := by decide +kernel
theorem dX7_at_8 : decode cX7_at 8 = .ok (.ifCond .lt 17, 3) := by decide +kernel
theorem dX7_at_11 : decode cX7_at 11 = .ok (.aload_n 0, 1) := by decide +kernel
theorem dX7_at_12 : decode cX7_at 12 = .ok (.getfield 9, 3) := by decide +kernel
theorem dX7_at_15 : decode cX7_at 15 = .ok (.iload_n 1, 1) := by decide +kernel
theorem dX7_at_16 : decode cX7_at 16 = .ok (.aload_n 0, 1) := by decide +kernel
theorem dX7_at_17 : decode cX7_at 17 = .ok (.getfield 15, 3) := by decide +kernel
theorem dX7_at_20 : decode cX7_at 20 = .ok (.irem, 1) := by decide +kernel
theorem dX7_at_21 : decode cX7_at 21 = .ok (.iaload, 1) := by decide +kernel
theorem dX7_at_22 : decode cX7_at 22 = .ok (.goto 5, 3) := by decide +kernel
theorem dX7_at_25 : decode cX7_at 25 = .ok (.bipush 8, 2) := by decide +kernel
theorem dX7_at_27 : decode cX7_at 27 = .ok (.ireturn, 1) := by decide +kernel
theorem dX7_sum_0 : decode cX7_sum 0 = .ok (.iconst 0, 1) := by decide +kernel
theorem dX7_sum_1 : decode cX7_sum 1 = .ok (.istore_n 1, 1) := by decide +kernel
theorem dX7_sum_2 : decode cX7_sum 2 = .ok (.iconst 0, 1) := by decide +kernel
theorem dX7_sum_3 : decode cX7_sum 3 = .ok (.istore_n 2, 1) := by decide +kernel
theorem dX7_sum_4 : decode cX7_sum 4 = .ok (.iload_n 2, 1) := by decide +kernel
theorem dX7_sum_5 : decode cX7_sum 5 = .ok (.aload_n 0, 1) := by decide +kernel
theorem dX7_sum_6 : decode cX7_sum 6 = .ok (.getfield 15, 3) := by decide +kernel
theorem dX7_sum_9 : decode cX7_sum 9 = .ok (.if_icmp .ge 18, 3) := by decide +kernel
theorem dX7_sum_12 : decode cX7_sum 12 = .ok (.iload_n 1, 1) := by decide +kernel
theorem dX7_sum_13 : decode cX7_sum 13 = .ok (.aload_n 0, 1) := by decide +kernel
theorem dX7_sum_14 : decode cX7_sum 14 = .ok (.getfield 9, 3) := by decide +kernel
theorem dX7_sum_17 : decode cX7_sum 17 = .ok (.iload_n 2, 1) := by decide +kernel
theorem dX7_sum_18 : decode cX7_sum 18 = .ok (.iaload, 1) := by decide +kernel
theorem dX7_sum_19 : decode cX7_sum 19 = .ok (.iadd, 1) := by decide +kernel
theorem dX7_sum_20 : decode cX7_sum 20 = .ok (.istore_n 1, 1) := by decide +kernel
theorem dX7_sum_21 : decode cX7_sum 21 = .ok (.iinc 2 1, 3) := by decide +kernel
theorem dX7_sum_24 : decode cX7_sum 24 = .ok (.goto (-20), 3) := by decide +kernel
theorem dX7_sum_27 : decode cX7_sum 27 = .ok (.iload_n 1, 1) := by decide +kernel
theorem dX7_sum_28 : decode cX7_sum 28 = .ok (.ireturn, 1) := by decide +kernel
set_option maxRecDepth 20000 in
theorem ggX8_init_X2_init : GoodIn wsX8_init wsX2_init := goodIn_r _ [18, 19, 2, 3, 20, 21, 22, 23, 24, 25, 26, 27, 28, 29, 30, 31, 32, 33, 34, 35, 36, 37, 38, 39, 40, 41, 42, 43, 44, 45, 46, 47, 48, 49, 50, 51, 52, 53, 54, 55, 56, 57, 58, 59, 60, 61, 62, 63, 64, 65, 66, 67, 68, 69, 70, 71, 72, 73, 74, 75, 76, 77, 78, 79, 80, 81, 82, 83, 84, 85, 91, 92, 93, 94, 95, 96, 97, 98, 99, 100, 109, 110, 111, 112, 113, 114, 115, 116, 117, 118, 119, 120, 121, 122, 123, 124, 125, 126, 127, 128, 129, 130] (by decide +kernel) (by decide +kernel)
set_option maxRecDepth 20000 in
theorem gX8_init_X2_init : GoodIn wsX8_init (wsX2_init) := ggX8_init_X2_init
set_option maxRecDepth 20000 in
theorem ggX8_init_X6_init : GoodIn wsX8_init wsX6_init := goodIn_r _ [87, 88, 2, 3, 43, 89, 90, 107, 108] (by decide +kernel) (by decide +kernel)
set_option maxRecDepth 20000 in
theorem gX8_init_X6_init_n32 : GoodIn wsX8_init (wsX6_init) := ggX8_init_X6_init
theorem dX8_init_0 : decode cX8_init 0 = .ok (.aload_n 0, 1) := by decide +kernel
theorem dX8_init_1 : decode cX8_init 1 = .ok (.invokespecial 1, 3) := by decide +kernel
theorem dX8_init_4 : decode cX8_init 4 = .ok (.aload_n 0, 1) := by decide +kernel
theorem dX8_init_5 : decode cX8_init 5 = .ok (.new 7, 3) := by decide +kernel
theorem dX8_init_8 : decode cX8_init 8 = .ok (.dup, 1) := by decide +kernel
theorem dX8_init_9 : decode cX8_init 9 = .ok (.invokespecial 9, 3) := by decide +kernel
theorem dX8_init_12 : decode cX8_init 12 = .ok (.putfield 10, 3) := by decide +kernel
theorem dX8_init_15 : decode cX8_init 15 = .ok (.aload_n 0, 1) := by decide +kernel
theorem dX8_init_16 : decode cX8_init 16 = .ok (.new 7, 3) := by decide +kernel
theorem dX8_init_19 : decode cX8_init 19 = .ok (.dup, 1) := by decide +kernel
theorem dX8_init_20 : decode cX8_init 20 = .ok (.invokespecial 9, 3) := by decide +kernel
theorem dX8_init_23 : decode cX8_init 23 = .ok (.putfield 16, 3) := by decide +kernel
theorem dX8_init_26 : decode cX8_init 26 = .ok (.aload_n 0, 1) := by decide +kernel
theorem dX8_init_27 : decode cX8_init 27 = .ok (.bipush 6, 2) := by decide +kernel
theorem dX8_init_29 : decode cX8_init 29 = .ok (.anewarray 7, 3) := by decide +kernel
theorem dX8_init_32 : decode cX8_init 32 = .ok (.putfield 19, 3) := by decide +kernel
theorem dX8_init_35 : decode cX8_init 35 = .ok (.aload_n 0, 1) := by decide +kernel
theorem dX8_init_36 : decode cX8_init 36 = .ok (.iconst 0, 1) := by decide +kernel
theorem dX8_init_37 : decode cX8_init 37 = .ok (.putfield 23, 3) := by decide +kernel
theorem dX8_init_40 : decode cX8_init 40 = .ok (.aload_n 0, 1) := by decide +kernel
theorem dX8_init_41 : decode cX8_init 41 = .ok (.iconst 0, 1) := by decide +kernel
theorem dX8_init_42 : decode cX8_init 42 = .ok (.putfield 27, 3) := by decide +kernel
theorem dX8_init_45 : decode cX8_init 45 = .ok (.aload_n 0, 1) := by decide +kernel
theorem dX8_init_46 : decode cX8_init 46 = .ok (.new 30, 3) := by decide +kernel
theorem dX8_init_49 : decode cX8_init 49 = .ok (.dup, 1) := by decide +kernel
theorem dX8_init_50 : decode cX8_init 50 = .ok (.invokespecial 32, 3) := by decide +kernel
theorem dX8_init_53 : decode cX8_init 53 = .ok (.putfield 33, 3) := by decide +kernel
theorem dX8_init_56 : decode cX8_init 56 = .ok (.iconst 0, 1) := by decide +kernel
theorem dX8_init_57 : decode cX8_init 57 = .ok (.istore_n 1, 1) := by decide +kernel
theorem dX8_init_58 : decode cX8_init 58 = .ok (.iload_n 1, 1) := by decide +kernel
theorem dX8_init_59 : decode cX8_init 59 = .ok (.bipush 6, 2) := by decide +kernel
theorem dX8_init_61 : decode cX8_init 61 = .ok (.if_icmp .ge 22, 3) := by decide +kernel
theorem dX8_init_64 : decode cX8_init 64 = .ok (.aload_n 0, 1) := by decide +kernel
theorem dX8_init_65 : decode cX8_init 65 = .ok (.getfield 19, 3) := by decide +kernel
theorem dX8_init_68 : decode cX8_init 68 = .ok (.iload_n 1, 1) := by decide +kernel
theorem dX8_init_69 : decode cX8_init 69 = .ok (.new 7, 3) := by decide +kernel
theorem dX8_init_72 : decode cX8_init 72 = .ok (.dup, 1) := by decide +kernel
theorem dX8_init_73 : decode cX8_init 73 = .ok (.invokespecial 9, 3) := by decide +kernel
theorem dX8_init_76 : decode cX8_init 76 = .ok (.aastore, 1) := by decide +kernel
theorem dX8_init_77 : decode cX8_init 77 = .ok (.iinc 1 1, 3) := by decide +kernel
theorem dX8_init_80 : decode cX8_init 80 = .ok (.goto (-22), 3) := by decide +kernel
theorem dX8_init_83 : decode cX8_init 83 = .ok (.return_, 1) := by decide +kernel
set_option maxRecDepth 20000 in
theorem ggX8_addTurbine_X8_isWithin : GoodIn wsX8_addTurbine wsX8_isWithin := goodIn_r _ [10] (by decide +kernel) (by decide +kernel)
set_option maxRecDepth 20000 in
theorem gX8_addTurbine_X8_isWithin : GoodIn wsX8_addTurbine (va_wsS RX8 37 yX8_isWithin wsX8_isWithin) := goodIn_app (goodIn_of _ (by decide +kernel)) ggX8_addTurbine_X8_isWithin
set_option maxRecDepth 20000 in
theorem ggX8_addTurbine_X2_hasTurbineAt : GoodIn wsX8_addTurbine wsX2_hasTurbineAt := goodIn_r _ [15, 16, 17, 18, 112, 113, 114, 115, 116, 117, 118, 119, 120, 121, 122, 123, 124, 125, 126, 127, 128] (by decide +kernel) (by decide +kernel)
set_option maxRecDepth 20000 in
theorem gX8_addTurbine_X2_hasTurbineAt : GoodIn wsX8_addTurbine (wsV RX8 51 RX2 yX2_hasTurbineAt wsX2_hasTurbineAt) := goodIn_app (goodIn_of _ (by decide +kernel)) ggX8_addTurbine_X2_hasTurbineAt
set_option maxRecDepth 20000 in
theorem ggX8_addTurbine_X8_saveState : GoodIn wsX8_addTurbine wsX8_saveState := goodIn_r _ [22, 23, 24, 25, 5, 26, 27, 28, 14, 29, 16, 17, 30, 31, 32, 33, 34, 35, 36, 37, 38, 39, 40, 41, 42, 43, 44, 45, 46, 47, 48, 49, 50, 51, 52, 53, 54, 55, 56, 57, 58, 59, 60, 61, 62, 63, 64, 65, 66, 67, 68, 69, 70, 71, 72, 73, 74, 75, 76, 77, 78, 79, 80, 81, 82, 83, 84, 85, 86, 87, 88, 89, 90, 91, 92, 93, 94, 95, 96, 97, 106, 107, 108, 109, 110, 111, 112, 113, 114, 115, 116, 117, 118, 119, 120, 121, 122, 123, 124, 125, 126, 127, 128, 129, 130, 131, 132, 133, 134, 135, 136, 137, 138, 139, 140, 141, 142, 143] (by decide +kernel) (by decide +kernel)
set_option maxRecDepth 20000 in
theorem gX8_addTurbine_X8_saveState : GoodIn wsX8_addTurbine (wsV RX8 60 RX8 yX8_saveState wsX8_saveState) := goodIn_app (goodIn_of _ (by decide +kernel)) ggX8_addTurbine_X8_saveState
set_option maxRecDepth 20000 in
theorem ggX8_addTurbine_X2_buildTurbine : GoodIn wsX8_addTurbine wsX2_buildTurbine := goodIn_r _ [101, 16, 17, 102, 103, 104, 45, 105, 47, 48, 49, 50, 51, 52, 53, 112, 113, 114, 115, 116, 117, 118, 119, 120, 121, 122, 123, 124, 125, 126, 127, 128] (by decide +kernel) (by decide +kernel)
set_option maxRecDepth 20000 in
theorem gX8_addTurbine_X2_buildTurbine : GoodIn wsX8_addTurbine (wsV RX8 63 RX2 yX2_buildTurbine wsX2_buildTurbine) := goodIn_app (goodIn_of _ (by decide +kernel)) ggX8_addTurbine_X2_buildTurbine
theorem dX8_addTurbine_0 : decode cX8_addTurbine 0 = .ok (.iload_n 1, 1) := by decide +kernel
theorem dX8_addTurbine_1 : decode cX8_addTurbine 1 = .ok (.iconst 1, 1) := by decide +kernel
theorem dX8_addTurbine_2 : decode cX8_addTurbine 2 = .ok (.bipush 99, 2) := by decide +kernel
theorem dX8_addTurbine_4 : decode cX8_addTurbine 4 = .ok (.invokestatic 37, 3) := by decide +kernel
theorem dX8_addTurbine_7 : decode cX8_addTurbine 7 = .ok (.ifCond .eq 25, 3) := by decide +kernel
theorem dX8_addTurbine_10 : decode cX8_addTurbine 10 = .ok (.iload_n 2, 1) := by decide +kernel
theorem dX8_addTurbine_11 : decode cX8_addTurbine 11 = .ok (.bipush 50, 2) := by decide +kernel
theorem dX8_addTurbine_13 : decode cX8_addTurbine 13 = .ok (.sipush 160, 3) := by decide +kernel
theorem dX8_addTurbine_16 : decode cX8_addTurbine 16 = .ok (.invokestatic 37, 3) := by decide +kernel
theorem dX8_addTurbine_19 : decode cX8_addTurbine 19 = .ok (.ifCond .eq 13, 3) := by decide +kernel
theorem dX8_addTurbine_22 : decode cX8_addTurbine 22 = .ok (.iload_n 3, 1) := by decide +kernel
theorem dX8_addTurbine_23 : decode cX8_addTurbine 23 = .ok (.iconst 1, 1) := by decide +kernel
theorem dX8_addTurbine_24 : decode cX8_addTurbine 24 = .ok (.bipush 50, 2) := by decide +kernel
theorem dX8_addTurbine_26 : decode cX8_addTurbine 26 = .ok (.invokestatic 37, 3) := by decide +kernel
theorem dX8_addTurbine_29 : decode cX8_addTurbine 29 = .ok (.ifCond .ne 13, 3) := by decide +kernel
theorem dX8_addTurbine_32 : decode cX8_addTurbine 32 = .ok (.new 41, 3) := by decide +kernel
theorem dX8_addTurbine_35 : decode cX8_addTurbine 35 = .ok (.dup, 1) := by decide +kernel
theorem dX8_addTurbine_36 : decode cX8_addTurbine 36 = .ok (.ldc 43, 2) := by decide +kernel
theorem dX8_addTurbine_38 : decode cX8_addTurbine 38 = .ok (.invokespecial 45, 3) := by decide +kernel
theorem dX8_addTurbine_41 : decode cX8_addTurbine 41 = .ok (.athrow, 1) := by decide +kernel
theorem dX8_addTurbine_42 : decode cX8_addTurbine 42 = .ok (.aload_n 0, 1) := by decide +kernel
theorem dX8_addTurbine_43 : decode cX8_addTurbine 43 = .ok (.getfield 10, 3) := by decide +kernel
theorem dX8_addTurbine_46 : decode cX8_addTurbine 46 = .ok (.getfield 48, 3) := by decide +kernel
theorem dX8_addTurbine_49 : decode cX8_addTurbine 49 = .ok (.bipush 10, 2) := by decide +kernel
theorem dX8_addTurbine_51 : decode cX8_addTurbine 51 = .ok (.if_icmp .ge 14, 3) := by decide +kernel
theorem dX8_addTurbine_54 : decode cX8_addTurbine 54 = .ok (.aload_n 0, 1) := by decide +kernel
theorem dX8_addTurbine_55 : decode cX8_addTurbine 55 = .ok (.getfield 10, 3) := by decide +kernel
theorem dX8_addTurbine_58 : decode cX8_addTurbine 58 = .ok (.iload_n 1, 1) := by decide +kernel
theorem dX8_addTurbine_59 : decode cX8_addTurbine 59 = .ok (.invokevirtual 51, 3) := by decide +kernel
theorem dX8_addTurbine_62 : decode cX8_addTurbine 62 = .ok (.ifCond .eq 13, 3) := by decide +kernel
theorem dX8_addTurbine_65 : decode cX8_addTurbine 65 = .ok (.new 55, 3) := by decide +kernel
theorem dX8_addTurbine_68 : decode cX8_addTurbine 68 = .ok (.dup, 1) := by decide +kernel
theorem dX8_addTurbine_69 : decode cX8_addTurbine 69 = .ok (.ldc 57, 2) := by decide +kernel
theorem dX8_addTurbine_71 : decode cX8_addTurbine 71 = .ok (.invokespecial 59, 3) := by decide +kernel
theorem dX8_addTurbine_74 : decode cX8_addTurbine 74 = .ok (.athrow, 1) := by decide +kernel
theorem dX8_addTurbine_75 : decode cX8_addTurbine 75 = .ok (.aload_n 0, 1) := by decide +kernel
theorem dX8_addTurbine_76 : decode cX8_addTurbine 76 = .ok (.invokevirtual 60, 3) := by decide +kernel
theorem dX8_addTurbine_79 : decode cX8_addTurbine 79 = .ok (.aload_n 0, 1) := by decide +kernel
theorem dX8_addTurbine_80 : decode cX8_addTurbine 80 = .ok (.getfield 10, 3) := by decide +kernel
theorem dX8_addTurbine_83 : decode cX8_addTurbine 83 = .ok (.iload_n 1, 1) := by decide +kernel
theorem dX8_addTurbine_84 : decode cX8_addTurbine 84 = .ok (.iload_n 2, 1) := by decide +kernel
theorem dX8_addTurbine_85 : decode cX8_addTurbine 85 = .ok (.iload_n 3, 1) := by decide +kernel
theorem dX8_addTurbine_86 : decode cX8_addTurbine 86 = .ok (.invokevirtual 63, 3) := by decide +kernel
theorem dX8_addTurbine_89 : decode cX8_addTurbine 89 = .ok (.ireturn, 1) := by decide +kernel
set_option maxRecDepth 20000 in
theorem ggX8_setFault_X8_requireTurbine : GoodIn wsX8_setFault wsX8_requireTurbine := goodIn_r _ [11, 12, 13, 3, 14, 15, 16, 17, 18, 19, 103, 104, 105, 106, 107, 108, 109, 110, 111, 112, 113, 114, 115, 116, 117, 118] (by decide +kernel) (by decide +kernel)
set_option maxRecDepth 20000 in
theorem gX8_setFault_X8_requireTurbine : GoodIn wsX8_setFault (wsV RX8 67 RX8 yX8_requireTurbine wsX8_requireTurbine) := goodIn_app (goodIn_of _ (by decide +kernel)) ggX8_setFault_X8_requireTurbine
set_option maxRecDepth 20000 in
theorem ggX8_setFault_X8_isWithin : GoodIn wsX8_setFault wsX8_isWithin := goodIn_r _ [22] (by decide +kernel) (by decide +kernel)
set_option maxRecDepth 20000 in
theorem gX8_setFault_X8_isWithin : GoodIn wsX8_setFault (va_wsS RX8 37 yX8_isWithin wsX8_isWithin) := goodIn_app (goodIn_of _ (by decide +kernel)) ggX8_setFault_X8_isWithin
set_option maxRecDepth 20000 in
theorem ggX8_setFault_X8_saveState : GoodIn wsX8_setFault wsX8_saveState := goodIn_r _ [26, 27, 28, 29, 3, 30, 31, 32, 17, 33, 19, 34, 35, 36, 37, 38, 39, 40, 41, 42, 43, 44, 45, 46, 47, 48, 49, 50, 51, 52, 53, 54, 55, 56, 57, 58, 59, 60, 61, 62, 63, 64, 65, 66, 67, 68, 69, 70, 71, 72, 73, 74, 75, 76, 77, 78, 79, 80, 81, 82, 83, 84, 85, 86, 87, 88, 89, 90, 91, 92, 93, 94, 95, 96, 97, 98, 99, 100, 101, 102, 103, 104, 105, 106, 107, 108, 109, 110, 111, 112, 113, 114, 115, 116, 117, 118, 119, 120, 121, 122, 123, 124, 125, 126, 127, 128, 129, 130, 131, 132, 133, 134, 135, 136, 137, 138, 139, 140] (by decide +kernel) (by decide +kernel)
set_option maxRecDepth 20000 in
theorem gX8_setFault_X8_saveState : GoodIn wsX8_setFault (wsV RX8 60 RX8 yX8_saveState wsX8_saveState) := goodIn_app (goodIn_of _ (by decide +kernel)) ggX8_setFault_X8_saveState
theorem dX8_setFault_0 : decode cX8_setFault 0 = .ok (.aload_n 0, 1) := by decide +kernel
theorem dX8_setFault_1 : decode cX8_setFault 1 = .ok (.iload_n 1, 1) := by decide +kernel
theorem dX8_setFault_2 : decode cX8_setFault 2 = .ok (.invokevirtual 67, 3) := by decide +kernel
theorem dX8_setFault_5 : decode cX8_setFault 5 = .ok (.iload_n 2, 1) := by decide +kernel
theorem dX8_setFault_6 : decode cX8_setFault 6 = .ok (.iconst 0, 1) := by decide +kernel
theorem dX8_setFault_7 : decode cX8_setFault 7 = .ok (.iconst 4, 1) := by decide +kernel
theorem dX8_setFault_8 : decode cX8_setFault 8 = .ok (.invokestatic 37, 3) := by decide +kernel
theorem dX8_setFault_11 : decode cX8_setFault 11 = .ok (.ifCond .ne 13, 3) := by decide +kernel
theorem dX8_setFault_14 : decode cX8_setFault 14 = .ok (.new 41, 3) := by decide +kernel
theorem dX8_setFault_17 : decode cX8_setFault 17 = .ok (.dup, 1) := by decide +kernel
theorem dX8_setFault_18 : decode cX8_setFault 18 = .ok (.ldc 71, 2) := by decide +kernel
theorem dX8_setFault_20 : decode cX8_setFault 20 = .ok (.invokespecial 45, 3) := by decide +kernel
theorem dX8_setFault_23 : decode cX8_setFault 23 = .ok (.athrow, 1) := by decide +kernel
theorem dX8_setFault_24 : decode cX8_setFault 24 = .ok (.aload_n 0, 1) := by decide +kernel
theorem dX8_setFault_25 : decode cX8_setFault 25 = .ok (.invokevirtual 60, 3) := by decide +kernel
theorem dX8_setFault_28 : decode cX8_setFault 28 = .ok (.aload_n 0, 1) := by decide +kernel
theorem dX8_setFault_29 : decode cX8_setFault 29 = .ok (.getfield 10, 3) := by decide +kernel
theorem dX8_setFault_32 : decode cX8_setFault 32 = .ok (.getfield 73, 3) := by decide +kernel
theorem dX8_setFault_35 : decode cX8_setFault 35 = .ok (.iload_n 1, 1) := by decide +kernel
theorem dX8_setFault_36 : decode cX8_setFault 36 = .ok (.aaload, 1) := by decide +kernel
theorem dX8_setFault_37 : decode cX8_setFault 37 = .ok (.astore_n 3, 1) := by decide +kernel
theorem dX8_setFault_38 : decode cX8_setFault 38 = .ok (.aload_n 3, 1) := by decide +kernel
theorem dX8_setFault_39 : decode cX8_setFault 39 = .ok (.getfield 77, 3) := by decide +kernel
theorem dX8_setFault_42 : decode cX8_setFault 42 = .ok (.istore 4, 2) := by decide +kernel
theorem dX8_setFault_44 : decode cX8_setFault 44 = .ok (.aload_n 3, 1) := by decide +kernel
theorem dX8_setFault_45 : decode cX8_setFault 45 = .ok (.iload_n 2, 1) := by decide +kernel
theorem dX8_setFault_46 : decode cX8_setFault 46 = .ok (.putfield 77, 3) := by decide +kernel
theorem dX8_setFault_49 : decode cX8_setFault 49 = .ok (.aload_n 3, 1) := by decide +kernel
theorem dX8_setFault_50 : decode cX8_setFault 50 = .ok (.iconst 0, 1) := by decide +kernel
theorem dX8_setFault_51 : decode cX8_setFault 51 = .ok (.putfield 82, 3) := by decide +kernel
theorem dX8_setFault_54 : decode cX8_setFault 54 = .ok (.iload 4, 2) := by decide +kernel
theorem dX8_setFault_56 : decode cX8_setFault 56 = .ok (.ireturn, 1) := by decide +kernel
set_option maxRecDepth 20000 in
theorem ggX8_setBog_X8_isWithin : GoodIn wsX8_setBog wsX8_isWithin := goodIn_r _ [11] (by decide +kernel) (by decide +kernel)
set_option maxRecDepth 20000 in
theorem gX8_setBog_X8_isWithin : GoodIn wsX8_setBog (va_wsS RX8 37 yX8_isWithin wsX8_isWithin) := goodIn_app (goodIn_of _ (by decide +kernel)) ggX8_setBog_X8_isWithin
set_option maxRecDepth 20000 in
theorem ggX8_setBog_X0_isFull : GoodIn wsX8_setBog wsX0_isFull := goodIn_r _ [16, 17, 132, 133, 134] (by decide +kernel) (by decide +kernel)
set_option maxRecDepth 20000 in
theorem gX8_setBog_X0_isFull : GoodIn wsX8_setBog (wsV RX8 91 RX0 yX0_isFull wsX0_isFull) := goodIn_app (goodIn_of _ (by decide +kernel)) ggX8_setBog_X0_isFull
set_option maxRecDepth 20000 in
theorem ggX8_setBog_X0_indexAt : GoodIn wsX8_setBog wsX0_indexAt := goodIn_r _ [21, 17, 22, 132, 133, 134] (by decide +kernel) (by decide +kernel)
set_option maxRecDepth 20000 in
theorem gX8_setBog_X0_indexAt : GoodIn wsX8_setBog (wsV RX8 97 RX0 yX0_indexAt wsX0_indexAt) := goodIn_app (goodIn_of _ (by decide +kernel)) ggX8_setBog_X0_indexAt
set_option maxRecDepth 20000 in
theorem ggX8_setBog_X8_saveState : GoodIn wsX8_setBog wsX8_saveState := goodIn_r _ [26, 27, 28, 29, 5, 30, 31, 32, 33, 34, 35, 36, 37, 38, 39, 40, 41, 42, 43, 44, 45, 46, 47, 48, 49, 50, 51, 52, 53, 54, 55, 56, 57, 58, 59, 60, 61, 62, 63, 15, 64, 22, 65, 66, 17, 67, 68, 69, 70, 71, 72, 73, 74, 75, 76, 77, 78, 79, 80, 81, 82, 83, 84, 85, 86, 87, 88, 89, 90, 91, 92, 93, 94, 95, 96, 97, 98, 99, 100, 101, 116, 117, 118, 119, 120, 121, 122, 123, 124, 125, 126, 127, 128, 129, 130, 131, 135, 136, 137, 138, 139, 140, 141, 132, 133, 134, 142, 143, 144, 145, 146, 147, 148, 149, 150, 151, 152, 153] (by decide +kernel) (by decide +kernel)
set_option maxRecDepth 20000 in
theorem gX8_setBog_X8_saveState : GoodIn wsX8_setBog (wsV RX8 60 RX8 yX8_saveState wsX8_saveState) := goodIn_app (goodIn_of _ (by decide +kernel)) ggX8_setBog_X8_saveState
set_option maxRecDepth 20000 in
theorem ggX8_setBog_X0_put : GoodIn wsX8_setBog wsX0_put := goodIn_r _ [105, 66, 106, 19, 20, 15, 21, 17, 22, 107, 108, 109, 110, 111, 112, 113, 114, 115, 13, 14, 16, 132, 133, 134] (by decide +kernel) (by decide +kernel)
set_option maxRecDepth 20000 in
theorem gX8_setBog_X0_put : GoodIn wsX8_setBog (wsV RX8 103 RX0 yX0_put wsX0_put) := goodIn_app (goodIn_of _ (by decide +kernel)) ggX8_setBog_X0_put
theorem dX8_setBog_0 : decode cX8_setBog 0 = .ok (.iload_n 1, 1) := by decide +kernel
theorem dX8_setBog_1 : decode cX8_setBog 1 = .ok (.iconst 1, 1) := by decide +kernel
theorem dX8_setBog_2 : decode cX8_setBog 2 = .ok (.bipush 99, 2) := by decide +kernel
theorem dX8_setBog_4 : decode cX8_setBog 4 = .ok (.invokestatic 37, 3) := by decide +kernel
theorem dX8_setBog_7 : decode cX8_setBog 7 = .ok (.ifCond .eq 13, 3) := by decide +kernel
theorem dX8_setBog_10 : decode cX8_setBog 10 = .ok (.iload_n 2, 1) := by decide +kernel
theorem dX8_setBog_11 : decode cX8_setBog 11 = .ok (.iconst 0, 1) := by decide +kernel
theorem dX8_setBog_12 : decode cX8_setBog 12 = .ok (.bipush 50, 2) := by decide +kernel
theorem dX8_setBog_14 : decode cX8_setBog 14 = .ok (.invokestatic 37, 3) := by decide +kernel
theorem dX8_setBog_17 : decode cX8_setBog 17 = .ok (.ifCond .ne 13, 3) := by decide +kernel
theorem dX8_setBog_20 : decode cX8_setBog 20 = .ok (.new 41, 3) := by decide +kernel
theorem dX8_setBog_23 : decode cX8_setBog 23 = .ok (.dup, 1) := by decide +kernel
theorem dX8_setBog_24 : decode cX8_setBog 24 = .ok (.ldc 85, 2) := by decide +kernel
theorem dX8_setBog_26 : decode cX8_setBog 26 = .ok (.invokespecial 45, 3) := by decide +kernel
theorem dX8_setBog_29 : decode cX8_setBog 29 = .ok (.athrow, 1) := by decide +kernel
theorem dX8_setBog_30 : decode cX8_setBog 30 = .ok (.iload_n 2, 1) := by decide +kernel
theorem dX8_setBog_31 : decode cX8_setBog 31 = .ok (.ifCond .eq 41, 3) := by decide +kernel
theorem dX8_setBog_34 : decode cX8_setBog 34 = .ok (.aload_n 0, 1) := by decide +kernel
theorem dX8_setBog_35 : decode cX8_setBog 35 = .ok (.getfield 10, 3) := by decide +kernel
theorem dX8_setBog_38 : decode cX8_setBog 38 = .ok (.getfield 87, 3) := by decide +kernel
theorem dX8_setBog_41 : decode cX8_setBog 41 = .ok (.invokevirtual 91, 3) := by decide +kernel
theorem dX8_setBog_44 : decode cX8_setBog 44 = .ok (.ifCond .eq 28, 3) := by decide +kernel
theorem dX8_setBog_47 : decode cX8_setBog 47 = .ok (.aload_n 0, 1) := by decide +kernel
theorem dX8_setBog_48 : decode cX8_setBog 48 = .ok (.getfield 10, 3) := by decide +kernel
theorem dX8_setBog_51 : decode cX8_setBog 51 = .ok (.getfield 87, 3) := by decide +kernel
theorem dX8_setBog_54 : decode cX8_setBog 54 = .ok (.iload_n 1, 1) := by decide +kernel
theorem dX8_setBog_55 : decode cX8_setBog 55 = .ok (.invokevirtual 97, 3) := by decide +kernel
theorem dX8_setBog_58 : decode cX8_setBog 58 = .ok (.iconst (-1), 1) := by decide +kernel
theorem dX8_setBog_59 : decode cX8_setBog 59 = .ok (.if_icmp .ne 13, 3) := by decide +kernel
theorem dX8_setBog_62 : decode cX8_setBog 62 = .ok (.new 55, 3) := by decide +kernel
theorem dX8_setBog_65 : decode cX8_setBog 65 = .ok (.dup, 1) := by decide +kernel
theorem dX8_setBog_66 : decode cX8_setBog 66 = .ok (.ldc 101, 2) := by decide +kernel
theorem dX8_setBog_68 : decode cX8_setBog 68 = .ok (.invokespecial 59, 3) := by decide +kernel
theorem dX8_setBog_71 : decode cX8_setBog 71 = .ok (.athrow, 1) := by decide +kernel
theorem dX8_setBog_72 : decode cX8_setBog 72 = .ok (.aload_n 0, 1) := by decide +kernel
theorem dX8_setBog_73 : decode cX8_setBog 73 = .ok (.invokevirtual 60, 3) := by decide +kernel
theorem dX8_setBog_76 : decode cX8_setBog 76 = .ok (.aload_n 0, 1) := by decide +kernel
theorem dX8_setBog_77 : decode cX8_setBog 77 = .ok (.getfield 10, 3) := by decide +kernel
theorem dX8_setBog_80 : decode cX8_setBog 80 = .ok (.getfield 87, 3) := by decide +kernel
theorem dX8_setBog_83 : decode cX8_setBog 83 = .ok (.iload_n 1, 1) := by decide +kernel
theorem dX8_setBog_84 : decode cX8_setBog 84 = .ok (.iload_n 2, 1) := by decide +kernel
theorem dX8_setBog_85 : decode cX8_setBog 85 = .ok (.invokevirtual 103, 3) := by decide +kernel
theorem dX8_setBog_88 : decode cX8_setBog 88 = .ok (.aload_n 0, 1) := by decide +kernel
theorem dX8_setBog_89 : decode cX8_setBog 89 = .ok (.getfield 10, 3) := by decide +kernel
theorem dX8_setBog_92 : decode cX8_setBog 92 = .ok (.getfield 87, 3) := by decide +kernel
theorem dX8_setBog_95 : decode cX8_setBog 95 = .ok (.getfield 107, 3) := by decide +kernel
theorem dX8_setBog_98 : decode cX8_setBog 98 = .ok (.ireturn, 1) := by decide +kernel
set_option maxRecDepth 20000 in
theorem ggX8_set_X8_requireSetting : GoodIn wsX8_set wsX8_requireSetting := goodIn_r _ [10, 11, 12, 13, 14, 9, 15] (by decide +kernel) (by decide +kernel)
set_option maxRecDepth 20000 in
theorem gX8_set_X8_requireSetting : GoodIn wsX8_set (va_wsS RX8 110 yX8_requireSetting wsX8_requireSetting) := goodIn_app (goodIn_of _ (by decide +kernel)) ggX8_set_X8_requireSetting
set_option maxRecDepth 20000 in
theorem ggX8_set_X8_isWithin : GoodIn wsX8_set wsX8_isWithin := goodIn_r _ [15] (by decide +kernel) (by decide +kernel)
set_option maxRecDepth 20000 in
theorem gX8_set_X8_isWithin : GoodIn wsX8_set (va_wsS RX8 37 yX8_isWithin wsX8_isWithin) := goodIn_app (goodIn_of _ (by decide +kernel)) ggX8_set_X8_isWithin
set_option maxRecDepth 20000 in
theorem ggX8_set_X8_saveState : GoodIn wsX8_set wsX8_saveState := goodIn_r _ [19, 20, 21, 22, 5, 23, 24, 25, 26, 27, 28, 29, 30, 31, 32, 33, 34, 35, 36, 37, 38, 39, 40, 41, 42, 43, 44, 45, 46, 47, 48, 49, 50, 51, 52, 53, 54, 55, 56, 57, 58, 59, 60, 61, 62, 63, 64, 65, 66, 67, 68, 69, 70, 71, 72, 73, 74, 75, 76, 77, 78, 79, 80, 81, 82, 83, 84, 85, 86, 87, 88, 89, 90, 91, 92, 93, 94, 95, 96, 97, 98, 99, 100, 101, 102, 103, 104, 105, 106, 107, 108, 109, 110, 111, 112, 113, 114, 115, 116, 117, 118, 119, 120, 121, 122, 123, 124, 125, 126, 127, 128, 129, 130, 131, 132, 133, 134, 135] (by decide +kernel) (by decide +kernel)
set_option maxRecDepth 20000 in
theorem gX8_set_X8_saveState : GoodIn wsX8_set (wsV RX8 60 RX8 yX8_saveState wsX8_saveState) := goodIn_app (goodIn_of _ (by decide +kernel)) ggX8_set_X8_saveState
theorem dX8_set_0 : decode cX8_set 0 = .ok (.iload_n 1, 1) := by decide +kernel
theorem dX8_set_1 : decode cX8_set 1 = .ok (.invokestatic 110, 3) := by decide +kernel
theorem dX8_set_4 : decode cX8_set 4 = .ok (.iload_n 2, 1) := by decide +kernel
theorem dX8_set_5 : decode cX8_set 5 = .ok (.getstatic 113, 3) := by decide +kernel
theorem dX8_set_8 : decode cX8_set 8 = .ok (.iload_n 1, 1) := by decide +kernel
theorem dX8_set_9 : decode cX8_set 9 = .ok (.iaload, 1) := by decide +kernel
theorem dX8_set_10 : decode cX8_set 10 = .ok (.getstatic 117, 3) := by decide +kernel
theorem dX8_set_13 : decode cX8_set 13 = .ok (.iload_n 1, 1) := by decide +kernel
theorem dX8_set_14 : decode cX8_set 14 = .ok (.iaload, 1) := by decide +kernel
theorem dX8_set_15 : decode cX8_set 15 = .ok (.invokestatic 37, 3) := by decide +kernel
theorem dX8_set_18 : decode cX8_set 18 = .ok (.ifCond .ne 13, 3) := by decide +kernel
theorem dX8_set_21 : decode cX8_set 21 = .ok (.new 41, 3) := by decide +kernel
theorem dX8_set_24 : decode cX8_set 24 = .ok (.dup, 1) := by decide +kernel
theorem dX8_set_25 : decode cX8_set 25 = .ok (.ldc 120, 2) := by decide +kernel
theorem dX8_set_27 : decode cX8_set 27 = .ok (.invokespecial 45, 3) := by decide +kernel
theorem dX8_set_30 : decode cX8_set 30 = .ok (.athrow, 1) := by decide +kernel
theorem dX8_set_31 : decode cX8_set 31 = .ok (.aload_n 0, 1) := by decide +kernel
theorem dX8_set_32 : decode cX8_set 32 = .ok (.invokevirtual 60, 3) := by decide +kernel
theorem dX8_set_35 : decode cX8_set 35 = .ok (.aload_n 0, 1) := by decide +kernel
theorem dX8_set_36 : decode cX8_set 36 = .ok (.getfield 10, 3) := by decide +kernel
theorem dX8_set_39 : decode cX8_set 39 = .ok (.getfield 122, 3) := by decide +kernel
theorem dX8_set_42 : decode cX8_set 42 = .ok (.iload_n 1, 1) := by decide +kernel
theorem dX8_set_43 : decode cX8_set 43 = .ok (.iaload, 1) := by decide +kernel
theorem dX8_set_44 : decode cX8_set 44 = .ok (.istore_n 3, 1) := by decide +kernel
theorem dX8_set_45 : decode cX8_set 45 = .ok (.aload_n 0, 1) := by decide +kernel
theorem dX8_set_46 : decode cX8_set 46 = .ok (.getfield 10, 3) := by decide +kernel
theorem dX8_set_49 : decode cX8_set 49 = .ok (.getfield 122, 3) := by decide +kernel
theorem dX8_set_52 : decode cX8_set 52 = .ok (.iload_n 1, 1) := by decide +kernel
theorem dX8_set_53 : decode cX8_set 53 = .ok (.iload_n 2, 1) := by decide +kernel
theorem dX8_set_54 : decode cX8_set 54 = .ok (.iastore, 1) := by decide +kernel
theorem dX8_set_55 : decode cX8_set 55 = .ok (.iload_n 3, 1) := by decide +kernel
theorem dX8_set_56 : decode cX8_set 56 = .ok (.ireturn, 1) := by decide +kernel
set_option maxRecDepth 20000 in
theorem ggX8_plan_X8_requireTurbine : GoodIn wsX8_plan wsX8_requireTurbine := goodIn_r _ [10, 1, 2, 3, 11, 12, 13, 14, 15, 16, 116, 117, 118, 119, 120, 121, 122, 123, 124, 125, 126, 127, 128, 129, 130, 131] (by decide +kernel) (by decide +kernel)
set_option maxRecDepth 20000 in
theorem gX8_plan_X8_requireTurbine : GoodIn wsX8_plan (wsV RX8 67 RX8 yX8_requireTurbine wsX8_requireTurbine) := goodIn_app (goodIn_of _ (by decide +kernel)) ggX8_plan_X8_requireTurbine
set_option maxRecDepth 20000 in
theorem ggX8_plan_X4_countWithout : GoodIn wsX8_plan wsX4_countWithout := goodIn_r _ [21, 22, 23, 24, 25, 20, 26, 27, 132, 133] (by decide +kernel) (by decide +kernel)
set_option maxRecDepth 20000 in
theorem gX8_plan_X4_countWithout : GoodIn wsX8_plan (wsV RX8 129 RX4 yX4_countWithout wsX4_countWithout) := goodIn_app (goodIn_of _ (by decide +kernel)) ggX8_plan_X4_countWithout
set_option maxRecDepth 20000 in
theorem ggX8_plan_X8_isWithin : GoodIn wsX8_plan wsX8_isWithin := goodIn_r _ [30] (by decide +kernel) (by decide +kernel)
set_option maxRecDepth 20000 in
theorem gX8_plan_X8_isWithin : GoodIn wsX8_plan (va_wsS RX8 37 yX8_isWithin wsX8_isWithin) := goodIn_app (goodIn_of _ (by decide +kernel)) ggX8_plan_X8_isWithin
set_option maxRecDepth 20000 in
theorem ggX8_plan_X8_saveState : GoodIn wsX8_plan wsX8_saveState := goodIn_r _ [34, 35, 36, 37, 3, 38, 39, 40, 14, 41, 16, 42, 43, 44, 45, 46, 47, 48, 49, 50, 51, 52, 53, 54, 55, 56, 57, 58, 59, 60, 61, 62, 63, 64, 65, 66, 67, 68, 69, 70, 71, 72, 73, 74, 75, 76, 77, 78, 79, 80, 81, 82, 83, 84, 85, 86, 87, 20, 88, 27, 89, 22, 90, 91, 92, 93, 94, 95, 96, 97, 98, 99, 100, 101, 102, 103, 104, 105, 106, 107, 116, 117, 118, 119, 120, 121, 122, 123, 124, 125, 126, 127, 128, 129, 130, 131, 134, 135, 136, 137, 138, 139, 140, 141, 142, 143, 144, 145, 146, 132, 133, 147, 148, 149, 150, 151, 152, 153] (by decide +kernel) (by decide +kernel)
set_option maxRecDepth 20000 in
theorem gX8_plan_X8_saveState : GoodIn wsX8_plan (wsV RX8 60 RX8 yX8_saveState wsX8_saveState) := goodIn_app (goodIn_of _ (by decide +kernel)) ggX8_plan_X8_saveState
set_option maxRecDepth 20000 in
theorem ggX8_plan_X4_moveTo : GoodIn wsX8_plan wsX4_moveTo := goodIn_r _ [111, 22, 27, 23, 24, 25, 20, 26, 112, 113, 114, 115, 132, 133] (by decide +kernel) (by decide +kernel)
set_option maxRecDepth 20000 in
theorem gX8_plan_X4_moveTo : GoodIn wsX8_plan (wsV RX8 139 RX4 yX4_moveTo wsX4_moveTo) := goodIn_app (goodIn_of _ (by decide +kernel)) ggX8_plan_X4_moveTo
theorem dX8_plan_0 : decode cX8_plan 0 = .ok (.aload_n 0, 1) := by decide +kernel
theorem dX8_plan_1 : decode cX8_plan 1 = .ok (.iload_n 1, 1) := by decide +kernel
theorem dX8_plan_2 : decode cX8_plan 2 = .ok (.invokevirtual 67, 3) := by decide +kernel
theorem dX8_plan_5 : decode cX8_plan 5 = .ok (.iload_n 2, 1) := by decide +kernel
theorem dX8_plan_6 : decode cX8_plan 6 = .ok (.iconst 0, 1) := by decide +kernel
theorem dX8_plan_7 : decode cX8_plan 7 = .ok (.aload_n 0, 1) := by decide +kernel
theorem dX8_plan_8 : decode cX8_plan 8 = .ok (.getfield 10, 3) := by decide +kernel
theorem dX8_plan_11 : decode cX8_plan 11 = .ok (.getfield 125, 3) := by decide +kernel
theorem dX8_plan_14 : decode cX8_plan 14 = .ok (.iload_n 1, 1) := by decide +kernel
theorem dX8_plan_15 : decode cX8_plan 15 = .ok (.invokevirtual 129, 3) := by decide +kernel
theorem dX8_plan_18 : decode cX8_plan 18 = .ok (.invokestatic 37, 3) := by decide +kernel
theorem dX8_plan_21 : decode cX8_plan 21 = .ok (.ifCond .ne 13, 3) := by decide +kernel
theorem dX8_plan_24 : decode cX8_plan 24 = .ok (.new 134, 3) := by decide +kernel
theorem dX8_plan_27 : decode cX8_plan 27 = .ok (.dup, 1) := by decide +kernel
theorem dX8_plan_28 : decode cX8_plan 28 = .ok (.ldc 136, 2) := by decide +kernel
theorem dX8_plan_30 : decode cX8_plan 30 = .ok (.invokespecial 138, 3) := by decide +kernel
theorem dX8_plan_33 : decode cX8_plan 33 = .ok (.athrow, 1) := by decide +kernel
theorem dX8_plan_34 : decode cX8_plan 34 = .ok (.aload_n 0, 1) := by decide +kernel
theorem dX8_plan_35 : decode cX8_plan 35 = .ok (.invokevirtual 60, 3) := by decide +kernel
theorem dX8_plan_38 : decode cX8_plan 38 = .ok (.aload_n 0, 1) := by decide +kernel
theorem dX8_plan_39 : decode cX8_plan 39 = .ok (.getfield 10, 3) := by decide +kernel
theorem dX8_plan_42 : decode cX8_plan 42 = .ok (.getfield 125, 3) := by decide +kernel
theorem dX8_plan_45 : decode cX8_plan 45 = .ok (.iload_n 1, 1) := by decide +kernel
theorem dX8_plan_46 : decode cX8_plan 46 = .ok (.iload_n 2, 1) := by decide +kernel
theorem dX8_plan_47 : decode cX8_plan 47 = .ok (.invokevirtual 139, 3) := by decide +kernel
theorem dX8_plan_50 : decode cX8_plan 50 = .ok (.aload_n 0, 1) := by decide +kernel
theorem dX8_plan_51 : decode cX8_plan 51 = .ok (.getfield 10, 3) := by decide +kernel
theorem dX8_plan_54 : decode cX8_plan 54 = .ok (.getfield 125, 3) := by decide +kernel
theorem dX8_plan_57 : decode cX8_plan 57 = .ok (.getfield 142, 3) := by decide +kernel
theorem dX8_plan_60 : decode cX8_plan 60 = .ok (.ireturn, 1) := by decide +kernel
set_option maxRecDepth 20000 in
theorem ggX8_unplan_X8_requireTurbine : GoodIn wsX8_unplan wsX8_requireTurbine := goodIn_r _ [9, 10, 11, 3, 12, 13, 14, 15, 16, 17, 106, 107, 108, 109, 110, 111, 112, 113, 114, 115, 116, 117, 118, 119, 120, 121] (by decide +kernel) (by decide +kernel)
set_option maxRecDepth 20000 in
theorem gX8_unplan_X8_requireTurbine : GoodIn wsX8_unplan (wsV RX8 67 RX8 yX8_requireTurbine wsX8_requireTurbine) := goodIn_app (goodIn_of _ (by decide +kernel)) ggX8_unplan_X8_requireTurbine
set_option maxRecDepth 20000 in
theorem ggX8_unplan_X4_placeOf : GoodIn wsX8_unplan wsX4_placeOf := goodIn_r _ [22, 23, 24, 122, 123] (by decide +kernel) (by decide +kernel)
set_option maxRecDepth 20000 in
theorem gX8_unplan_X4_placeOf : GoodIn wsX8_unplan (wsV RX8 143 RX4 yX4_placeOf wsX4_placeOf) := goodIn_app (goodIn_of _ (by decide +kernel)) ggX8_unplan_X4_placeOf
set_option maxRecDepth 20000 in
theorem ggX8_unplan_X8_saveState : GoodIn wsX8_unplan wsX8_saveState := goodIn_r _ [28, 29, 30, 31, 3, 32, 33, 34, 15, 35, 17, 36, 37, 38, 39, 40, 41, 42, 43, 44, 45, 46, 47, 48, 49, 50, 51, 52, 53, 54, 55, 56, 57, 58, 59, 60, 61, 62, 63, 64, 65, 66, 67, 68, 69, 70, 71, 72, 73, 74, 75, 76, 77, 78, 79, 80, 81, 21, 82, 24, 83, 23, 84, 85, 86, 87, 88, 89, 90, 91, 92, 93, 94, 95, 96, 97, 98, 99, 100, 101, 106, 107, 108, 109, 110, 111, 112, 113, 114, 115, 116, 117, 118, 119, 120, 121, 124, 125, 126, 127, 128, 129, 130, 131, 132, 133, 134, 135, 136, 122, 123, 137, 138, 139, 140, 141, 142, 143] (by decide +kernel) (by decide +kernel)
set_option maxRecDepth 20000 in
theorem gX8_unplan_X8_saveState : GoodIn wsX8_unplan (wsV RX8 60 RX8 yX8_saveState wsX8_saveState) := goodIn_app (goodIn_of _ (by decide +kernel)) ggX8_unplan_X8_saveState
set_option maxRecDepth 20000 in
theorem ggX8_unplan_X4_removeAt : GoodIn wsX8_unplan wsX4_removeAt := goodIn_r _ [105, 23, 24, 122, 123] (by decide +kernel) (by decide +kernel)
set_option maxRecDepth 20000 in
theorem gX8_unplan_X4_removeAt : GoodIn wsX8_unplan (wsV RX8 148 RX4 yX4_removeAt wsX4_removeAt) := goodIn_app (goodIn_of _ (by decide +kernel)) ggX8_unplan_X4_removeAt
end
section
theorem dX8_unplan_0 : decode cX8_unplan 0 = .ok (.aload_n 0, 1) := by decide +kernel
theorem dX8_unplan_1 : decode cX8_unplan 1 = .ok (.iload_n 1, 1) := by decide +kernel
theorem dX8_unplan_2 : decode cX8_unplan 2 = .ok (.invokevirtual 67, 3) := by decide +kernel
theorem dX8_unplan_5 : decode cX8_unplan 5 = .ok (.aload_n 0, 1) := by decide +kernel
theorem dX8_unplan_6 : decode cX8_unplan 6 = .ok (.getfield 10, 3) := by decide +kernel
theorem dX8_unplan_9 : decode cX8_unplan 9 = .ok (.getfield 125, 3) := by decide +kernel
theorem dX8_unplan_12 : decode cX8_unplan 12 = .ok (.iload_n 1, 1) := by decide +kernel
theorem dX8_unplan_13 : decode cX8_unplan 13 = .ok (.invokevirtual 143, 3) := by decide +kernel
theorem dX8_unplan_16 : decode cX8_unplan 16 = .ok (.istore_n 2, 1) := by decide +kernel
theorem dX8_unplan_17 : decode cX8_unplan 17 = .ok (.iload_n 2, 1) := by decide +kernel
theorem dX8_unplan_18 : decode cX8_unplan 18 = .ok (.iconst (-1), 1) := by decide +kernel
theorem dX8_unplan_19 : decode cX8_unplan 19 = .ok (.if_icmp .ne 13, 3) := by decide +kernel
theorem dX8_unplan_22 : decode cX8_unplan 22 = .ok (.new 55, 3) := by decide +kernel
theorem dX8_unplan_25 : decode cX8_unplan 25 = .ok (.dup, 1) := by decide +kernel
theorem dX8_unplan_26 : decode cX8_unplan 26 = .ok (.ldc 146, 2) := by decide +kernel
theorem dX8_unplan_28 : decode cX8_unplan 28 = .ok (.invokespecial 59, 3) := by decide +kernel
theorem dX8_unplan_31 : decode cX8_unplan 31 = .ok (.athrow, 1) := by decide +kernel
theorem dX8_unplan_32 : decode cX8_unplan 32 = .ok (.aload_n 0, 1) := by decide +kernel
theorem dX8_unplan_33 : decode cX8_unplan 33 = .ok (.invokevirtual 60, 3) := by decide +kernel
theorem dX8_unplan_36 : decode cX8_unplan 36 = .ok (.aload_n 0, 1) := by decide +kernel
theorem dX8_unplan_37 : decode cX8_unplan 37 = .ok (.getfield 10, 3) := by decide +kernel
theorem dX8_unplan_40 : decode cX8_unplan 40 = .ok (.getfield 125, 3) := by decide +kernel
theorem dX8_unplan_43 : decode cX8_unplan 43 = .ok (.iload_n 2, 1) := by decide +kernel
theorem dX8_unplan_44 : decode cX8_unplan 44 = .ok (.invokevirtual 148, 3) := by decide +kernel
theorem dX8_unplan_47 : decode cX8_unplan 47 = .ok (.iload_n 2, 1) := by decide +kernel
theorem dX8_unplan_48 : decode cX8_unplan 48 = .ok (.ireturn, 1) := by decide +kernel
set_option maxRecDepth 20000 in
theorem ggX8_orderBlade_X8_requireTurbine : GoodIn wsX8_orderBlade wsX8_requireTurbine := goodIn_r _ [11, 12, 13, 3, 14, 15, 16, 17, 18, 19, 113, 114, 115, 116, 117, 118, 119, 120, 121, 122, 123, 124, 125, 126, 127, 128] (by decide +kernel) (by decide +kernel)
set_option maxRecDepth 20000 in
theorem gX8_orderBlade_X8_requireTurbine : GoodIn wsX8_orderBlade (wsV RX8 67 RX8 yX8_requireTurbine wsX8_requireTurbine) := goodIn_app (goodIn_of _ (by decide +kernel)) ggX8_orderBlade_X8_requireTurbine
set_option maxRecDepth 20000 in
theorem ggX8_orderBlade_X3_isFull : GoodIn wsX8_orderBlade wsX3_isFull := goodIn_r _ [24, 25, 129, 130, 131] (by decide +kernel) (by decide +kernel)
set_option maxRecDepth 20000 in
theorem gX8_orderBlade_X3_isFull : GoodIn wsX8_orderBlade (wsV RX8 155 RX3 yX3_isFull wsX3_isFull) := goodIn_app (goodIn_of _ (by decide +kernel)) ggX8_orderBlade_X3_isFull
set_option maxRecDepth 20000 in
theorem ggX8_orderBlade_X8_saveState : GoodIn wsX8_orderBlade wsX8_saveState := goodIn_r _ [29, 30, 31, 32, 3, 33, 34, 35, 17, 36, 19, 37, 38, 39, 40, 41, 42, 43, 44, 45, 46, 47, 48, 49, 50, 51, 52, 53, 54, 55, 56, 57, 58, 59, 60, 61, 62, 63, 64, 65, 66, 67, 68, 69, 70, 71, 72, 73, 23, 74, 75, 76, 77, 25, 78, 79, 80, 81, 82, 83, 84, 85, 86, 87, 88, 89, 90, 91, 92, 93, 94, 95, 96, 97, 98, 99, 100, 101, 102, 103, 113, 114, 115, 116, 117, 118, 119, 120, 121, 122, 123, 124, 125, 126, 127, 128, 132, 133, 134, 135, 136, 137, 138, 139, 140, 141, 129, 130, 131, 142, 143, 144, 145, 146, 147, 148, 149, 150] (by decide +kernel) (by decide +kernel)
set_option maxRecDepth 20000 in
theorem gX8_orderBlade_X8_saveState : GoodIn wsX8_orderBlade (wsV RX8 60 RX8 yX8_saveState wsX8_saveState) := goodIn_app (goodIn_of _ (by decide +kernel)) ggX8_orderBlade_X8_saveState
set_option maxRecDepth 20000 in
theorem ggX8_orderBlade_X5_bladeWeight : GoodIn wsX8_orderBlade wsX5_bladeWeight := goodIn_r _ [107, 56, 132, 133, 134, 135, 136, 137, 138] (by decide +kernel) (by decide +kernel)
set_option maxRecDepth 20000 in
theorem gX8_orderBlade_X5_bladeWeight : GoodIn wsX8_orderBlade (wsV RX8 160 RX5 yX5_bladeWeight wsX5_bladeWeight) := goodIn_app (goodIn_of _ (by decide +kernel)) ggX8_orderBlade_X5_bladeWeight
set_option maxRecDepth 20000 in
theorem ggX8_orderBlade_X3_take : GoodIn wsX8_orderBlade wsX3_take := goodIn_r _ [111, 75, 25, 77, 112, 21, 22, 23, 24, 129, 130, 131] (by decide +kernel) (by decide +kernel)
set_option maxRecDepth 20000 in
theorem gX8_orderBlade_X3_take : GoodIn wsX8_orderBlade (wsV RX8 164 RX3 yX3_take wsX3_take) := goodIn_app (goodIn_of _ (by decide +kernel)) ggX8_orderBlade_X3_take
theorem dX8_orderBlade_0 : decode cX8_orderBlade 0 = .ok (.aload_n 0, 1) := by decide +kernel
theorem dX8_orderBlade_1 : decode cX8_orderBlade 1 = .ok (.iload_n 1, 1) := by decide +kernel
theorem dX8_orderBlade_2 : decode cX8_orderBlade 2 = .ok (.invokevirtual 67, 3) := by decide +kernel
theorem dX8_orderBlade_5 : decode cX8_orderBlade 5 = .ok (.aload_n 0, 1) := by decide +kernel
theorem dX8_orderBlade_6 : decode cX8_orderBlade 6 = .ok (.getfield 10, 3) := by decide +kernel
theorem dX8_orderBlade_9 : decode cX8_orderBlade 9 = .ok (.getfield 151, 3) := by decide +kernel
theorem dX8_orderBlade_12 : decode cX8_orderBlade 12 = .ok (.invokevirtual 155, 3) := by decide +kernel
theorem dX8_orderBlade_15 : decode cX8_orderBlade 15 = .ok (.ifCond .eq 13, 3) := by decide +kernel
theorem dX8_orderBlade_18 : decode cX8_orderBlade 18 = .ok (.new 55, 3) := by decide +kernel
theorem dX8_orderBlade_21 : decode cX8_orderBlade 21 = .ok (.dup, 1) := by decide +kernel
theorem dX8_orderBlade_22 : decode cX8_orderBlade 22 = .ok (.ldc 158, 2) := by decide +kernel
theorem dX8_orderBlade_24 : decode cX8_orderBlade 24 = .ok (.invokespecial 59, 3) := by decide +kernel
theorem dX8_orderBlade_27 : decode cX8_orderBlade 27 = .ok (.athrow, 1) := by decide +kernel
theorem dX8_orderBlade_28 : decode cX8_orderBlade 28 = .ok (.aload_n 0, 1) := by decide +kernel
theorem dX8_orderBlade_29 : decode cX8_orderBlade 29 = .ok (.invokevirtual 60, 3) := by decide +kernel
theorem dX8_orderBlade_32 : decode cX8_orderBlade 32 = .ok (.aload_n 0, 1) := by decide +kernel
theorem dX8_orderBlade_33 : decode cX8_orderBlade 33 = .ok (.getfield 10, 3) := by decide +kernel
theorem dX8_orderBlade_36 : decode cX8_orderBlade 36 = .ok (.getfield 151, 3) := by decide +kernel
theorem dX8_orderBlade_39 : decode cX8_orderBlade 39 = .ok (.iload_n 1, 1) := by decide +kernel
theorem dX8_orderBlade_40 : decode cX8_orderBlade 40 = .ok (.aload_n 0, 1) := by decide +kernel
theorem dX8_orderBlade_41 : decode cX8_orderBlade 41 = .ok (.getfield 10, 3) := by decide +kernel
theorem dX8_orderBlade_44 : decode cX8_orderBlade 44 = .ok (.getfield 73, 3) := by decide +kernel
theorem dX8_orderBlade_47 : decode cX8_orderBlade 47 = .ok (.iload_n 1, 1) := by decide +kernel
theorem dX8_orderBlade_48 : decode cX8_orderBlade 48 = .ok (.aaload, 1) := by decide +kernel
theorem dX8_orderBlade_49 : decode cX8_orderBlade 49 = .ok (.invokevirtual 160, 3) := by decide +kernel
theorem dX8_orderBlade_52 : decode cX8_orderBlade 52 = .ok (.invokevirtual 164, 3) := by decide +kernel
theorem dX8_orderBlade_55 : decode cX8_orderBlade 55 = .ok (.aload_n 0, 1) := by decide +kernel
theorem dX8_orderBlade_56 : decode cX8_orderBlade 56 = .ok (.getfield 10, 3) := by decide +kernel
theorem dX8_orderBlade_59 : decode cX8_orderBlade 59 = .ok (.getfield 151, 3) := by decide +kernel
theorem dX8_orderBlade_62 : decode cX8_orderBlade 62 = .ok (.getfield 167, 3) := by decide +kernel
theorem dX8_orderBlade_65 : decode cX8_orderBlade 65 = .ok (.ireturn, 1) := by decide +kernel
set_option maxRecDepth 20000 in
theorem ggX8_pass_X8_isWithin : GoodIn wsX8_pass wsX8_isWithin := goodIn_r _ [10] (by decide +kernel) (by decide +kernel)
set_option maxRecDepth 20000 in
theorem gX8_pass_X8_isWithin : GoodIn wsX8_pass (va_wsS RX8 37 yX8_isWithin wsX8_isWithin) := goodIn_app (goodIn_of _ (by decide +kernel)) ggX8_pass_X8_isWithin
set_option maxRecDepth 20000 in
theorem ggX8_pass_X8_saveState : GoodIn wsX8_pass wsX8_saveState := goodIn_r _ [14, 15, 16, 17, 5, 18, 19, 20, 21, 22, 23, 24, 25, 26, 27, 28, 29, 30, 31, 32, 33, 34, 35, 36, 37, 38, 39, 40, 41, 42, 43, 44, 45, 46, 47, 48, 49, 50, 51, 52, 53, 54, 55, 56, 57, 58, 59, 60, 61, 62, 63, 64, 65, 66, 67, 68, 69, 70, 71, 72, 73, 74, 75, 76, 77, 78, 79, 80, 81, 82, 83, 84, 85, 86, 87, 88, 89, 90, 91, 92, 219, 220, 221, 222, 223, 224, 225, 226, 227, 228, 229, 230, 231, 232, 233, 234, 235, 236, 237, 238, 239, 240, 241, 242, 243, 244, 245, 246, 247, 248, 249, 250, 251, 252, 253, 254, 255, 256] (by decide +kernel) (by decide +kernel)
set_option maxRecDepth 20000 in
theorem gX8_pass_X8_saveState : GoodIn wsX8_pass (wsV RX8 60 RX8 yX8_saveState wsX8_saveState) := goodIn_app (goodIn_of _ (by decide +kernel)) ggX8_pass_X8_saveState
set_option maxRecDepth 20000 in
theorem ggX8_pass_X2_runHours : GoodIn wsX8_pass wsX2_runHours := goodIn_r _ [96, 97, 98, 99, 21, 100, 26, 30, 27, 36, 101, 102, 103, 61, 104, 66, 65, 105, 106, 107, 108, 109, 110, 111, 112, 113, 28, 114, 24, 115, 116, 117, 118, 70, 119, 74, 72, 120, 121, 122, 78, 123, 84, 83, 124, 125, 126, 127, 23, 128, 129, 130, 131, 132, 133, 134, 135, 136, 137, 138, 139, 140, 141, 82, 142, 143, 144, 145, 146, 147, 148, 149, 150, 151, 25, 152, 153, 154, 155, 52, 156, 57, 54, 56, 157, 158, 159, 160, 81, 161, 80, 162, 163, 164, 165, 63, 166, 167, 168, 169, 29, 170, 171, 172, 88, 173, 92, 90, 174, 175, 176, 40, 177, 43, 178, 179, 180, 181, 182, 183, 184, 185, 186, 187, 35, 188, 189, 190, 191, 44, 192, 193, 194, 195, 196, 197, 198, 199, 200, 201, 202, 203, 204, 205, 206, 207, 208, 209, 210, 211, 212, 213, 214, 215, 216, 217, 218, 45, 46, 225, 226, 227, 228, 229, 230, 231, 232, 233, 234, 245, 246, 247, 248, 249, 250, 251, 252, 253, 254, 235, 236, 237, 238, 239, 240, 241, 242, 243, 244, 255, 256] (by decide +kernel) (by decide +kernel)
set_option maxRecDepth 20000 in
theorem gX8_pass_X2_runHours : GoodIn wsX8_pass (wsV RX8 175 RX2 yX2_runHours wsX2_runHours) := goodIn_app (goodIn_of _ (by decide +kernel)) ggX8_pass_X2_runHours
theorem dX8_pass_0 : decode cX8_pass 0 = .ok (.iload_n 1, 1) := by decide +kernel
theorem dX8_pass_1 : decode cX8_pass 1 = .ok (.iconst 1, 1) := by decide +kernel
theorem dX8_pass_2 : decode cX8_pass 2 = .ok (.sipush 200, 3) := by decide +kernel
theorem dX8_pass_5 : decode cX8_pass 5 = .ok (.invokestatic 37, 3) := by decide +kernel
theorem dX8_pass_8 : decode cX8_pass 8 = .ok (.ifCond .ne 13, 3) := by decide +kernel
theorem dX8_pass_11 : decode cX8_pass 11 = .ok (.new 41, 3) := by decide +kernel
theorem dX8_pass_14 : decode cX8_pass 14 = .ok (.dup, 1) := by decide +kernel
theorem dX8_pass_15 : decode cX8_pass 15 = .ok (.ldc 168, 2) := by decide +kernel
theorem dX8_pass_17 : decode cX8_pass 17 = .ok (.invokespecial 45, 3) := by decide +kernel
theorem dX8_pass_20 : decode cX8_pass 20 = .ok (.athrow, 1) := by decide +kernel
theorem dX8_pass_21 : decode cX8_pass 21 = .ok (.aload_n 0, 1) := by decide +kernel
theorem dX8_pass_22 : decode cX8_pass 22 = .ok (.getfield 10, 3) := by decide +kernel
theorem dX8_pass_25 : decode cX8_pass 25 = .ok (.getfield 170, 3) := by decide +kernel
theorem dX8_pass_28 : decode cX8_pass 28 = .ok (.iload_n 1, 1) := by decide +kernel
theorem dX8_pass_29 : decode cX8_pass 29 = .ok (.iadd, 1) := by decide +kernel
theorem dX8_pass_30 : decode cX8_pass 30 = .ok (.sipush 10000, 3) := by decide +kernel
theorem dX8_pass_33 : decode cX8_pass 33 = .ok (.if_icmp .le 13, 3) := by decide +kernel
theorem dX8_pass_36 : decode cX8_pass 36 = .ok (.new 55, 3) := by decide +kernel
theorem dX8_pass_39 : decode cX8_pass 39 = .ok (.dup, 1) := by decide +kernel
theorem dX8_pass_40 : decode cX8_pass 40 = .ok (.ldc 173, 2) := by decide +kernel
theorem dX8_pass_42 : decode cX8_pass 42 = .ok (.invokespecial 59, 3) := by decide +kernel
theorem dX8_pass_45 : decode cX8_pass 45 = .ok (.athrow, 1) := by decide +kernel
theorem dX8_pass_46 : decode cX8_pass 46 = .ok (.aload_n 0, 1) := by decide +kernel
theorem dX8_pass_47 : decode cX8_pass 47 = .ok (.invokevirtual 60, 3) := by decide +kernel
theorem dX8_pass_50 : decode cX8_pass 50 = .ok (.aload_n 0, 1) := by decide +kernel
theorem dX8_pass_51 : decode cX8_pass 51 = .ok (.getfield 10, 3) := by decide +kernel
theorem dX8_pass_54 : decode cX8_pass 54 = .ok (.iload_n 1, 1) := by decide +kernel
theorem dX8_pass_55 : decode cX8_pass 55 = .ok (.invokevirtual 175, 3) := by decide +kernel
theorem dX8_pass_58 : decode cX8_pass 58 = .ok (.ireturn, 1) := by decide +kernel
set_option maxRecDepth 20000 in
theorem ggX8_append_X8_isWithin : GoodIn wsX8_append wsX8_isWithin := goodIn_r _ [10] (by decide +kernel) (by decide +kernel)
set_option maxRecDepth 20000 in
theorem gX8_append_X8_isWithin : GoodIn wsX8_append (va_wsS RX8 37 yX8_isWithin wsX8_isWithin) := goodIn_app (goodIn_of _ (by decide +kernel)) ggX8_append_X8_isWithin
set_option maxRecDepth 20000 in
theorem ggX8_append_X6_isFull : GoodIn wsX8_append wsX6_isFull := goodIn_r _ [15, 16, 29, 30] (by decide +kernel) (by decide +kernel)
set_option maxRecDepth 20000 in
theorem gX8_append_X6_isFull : GoodIn wsX8_append (wsV RX8 180 RX6 yX6_isFull wsX6_isFull) := goodIn_app (goodIn_of _ (by decide +kernel)) ggX8_append_X6_isFull
set_option maxRecDepth 20000 in
theorem ggX8_append_X6_add : GoodIn wsX8_append wsX6_add := goodIn_r _ [20, 21, 16, 22, 12, 13, 14, 15, 29, 30] (by decide +kernel) (by decide +kernel)
set_option maxRecDepth 20000 in
theorem gX8_append_X6_add : GoodIn wsX8_append (wsV RX8 183 RX6 yX6_add wsX6_add) := goodIn_app (goodIn_of _ (by decide +kernel)) ggX8_append_X6_add
theorem dX8_append_0 : decode cX8_append 0 = .ok (.iload_n 1, 1) := by decide +kernel
theorem dX8_append_1 : decode cX8_append 1 = .ok (.bipush 33, 2) := by decide +kernel
theorem dX8_append_3 : decode cX8_append 3 = .ok (.bipush 126, 2) := by decide +kernel
theorem dX8_append_5 : decode cX8_append 5 = .ok (.invokestatic 37, 3) := by decide +kernel
theorem dX8_append_8 : decode cX8_append 8 = .ok (.ifCond .ne 13, 3) := by decide +kernel
theorem dX8_append_11 : decode cX8_append 11 = .ok (.new 41, 3) := by decide +kernel
theorem dX8_append_14 : decode cX8_append 14 = .ok (.dup, 1) := by decide +kernel
theorem dX8_append_15 : decode cX8_append 15 = .ok (.ldc 178, 2) := by decide +kernel
theorem dX8_append_17 : decode cX8_append 17 = .ok (.invokespecial 45, 3) := by decide +kernel
theorem dX8_append_20 : decode cX8_append 20 = .ok (.athrow, 1) := by decide +kernel
theorem dX8_append_21 : decode cX8_append 21 = .ok (.aload_n 0, 1) := by decide +kernel
theorem dX8_append_22 : decode cX8_append 22 = .ok (.getfield 33, 3) := by decide +kernel
theorem dX8_append_25 : decode cX8_append 25 = .ok (.invokevirtual 180, 3) := by decide +kernel
theorem dX8_append_28 : decode cX8_append 28 = .ok (.ifCond .eq 13, 3) := by decide +kernel
theorem dX8_append_31 : decode cX8_append 31 = .ok (.new 55, 3) := by decide +kernel
theorem dX8_append_34 : decode cX8_append 34 = .ok (.dup, 1) := by decide +kernel
theorem dX8_append_35 : decode cX8_append 35 = .ok (.ldc 181, 2) := by decide +kernel
theorem dX8_append_37 : decode cX8_append 37 = .ok (.invokespecial 59, 3) := by decide +kernel
theorem dX8_append_40 : decode cX8_append 40 = .ok (.athrow, 1) := by decide +kernel
theorem dX8_append_41 : decode cX8_append 41 = .ok (.aload_n 0, 1) := by decide +kernel
theorem dX8_append_42 : decode cX8_append 42 = .ok (.getfield 33, 3) := by decide +kernel
theorem dX8_append_45 : decode cX8_append 45 = .ok (.iload_n 1, 1) := by decide +kernel
theorem dX8_append_46 : decode cX8_append 46 = .ok (.invokevirtual 183, 3) := by decide +kernel
theorem dX8_append_49 : decode cX8_append 49 = .ok (.aload_n 0, 1) := by decide +kernel
theorem dX8_append_50 : decode cX8_append 50 = .ok (.getfield 33, 3) := by decide +kernel
theorem dX8_append_53 : decode cX8_append 53 = .ok (.getfield 186, 3) := by decide +kernel
theorem dX8_append_56 : decode cX8_append 56 = .ok (.ireturn, 1) := by decide +kernel
set_option maxRecDepth 20000 in
theorem ggX8_load_X6_isComplete : GoodIn wsX8_load wsX6_isComplete := goodIn_r _ [14, 15, 16, 17, 18, 13, 19, 20, 21, 22, 23, 24, 25, 26, 27, 28, 29, 30, 31, 32, 33, 34, 155, 156] (by decide +kernel) (by decide +kernel)
set_option maxRecDepth 20000 in
theorem gX8_load_X6_isComplete : GoodIn wsX8_load (wsV RX8 192 RX6 yX6_isComplete wsX6_isComplete) := goodIn_app (goodIn_of _ (by decide +kernel)) ggX8_load_X6_isComplete
set_option maxRecDepth 20000 in
theorem ggX8_load_X6_numberCount : GoodIn wsX8_load wsX6_numberCount := goodIn_r _ [38, 15, 16, 39, 40, 41, 13, 42, 43, 44, 45, 46, 155, 156] (by decide +kernel) (by decide +kernel)
set_option maxRecDepth 20000 in
theorem gX8_load_X6_numberCount : GoodIn wsX8_load (wsV RX8 197 RX6 yX6_numberCount wsX6_numberCount) := goodIn_app (goodIn_of _ (by decide +kernel)) ggX8_load_X6_numberCount
set_option maxRecDepth 20000 in
theorem ggX8_load_X8_saveState : GoodIn wsX8_load wsX8_saveState := goodIn_r _ [51, 52, 53, 54, 6, 55, 56, 57, 58, 59, 60, 61, 62, 63, 64, 65, 66, 67, 68, 69, 70, 71, 72, 73, 74, 75, 76, 77, 78, 79, 80, 81, 82, 83, 84, 85, 86, 87, 88, 89, 90, 91, 92, 93, 94, 95, 96, 97, 98, 99, 100, 101, 102, 103, 104, 105, 106, 107, 108, 109, 110, 111, 112, 113, 114, 115, 116, 117, 118, 119, 120, 121, 122, 123, 124, 125, 126, 127, 128, 129, 139, 140, 141, 142, 143, 144, 145, 146, 147, 148, 149, 150, 151, 152, 153, 154, 159, 160, 161, 162, 163, 164, 165, 166, 167, 168, 169, 170, 171, 172, 173, 174, 175, 176, 177, 178, 157, 158] (by decide +kernel) (by decide +kernel)
set_option maxRecDepth 20000 in
theorem gX8_load_X8_saveState : GoodIn wsX8_load (wsV RX8 60 RX8 yX8_saveState wsX8_saveState) := goodIn_app (goodIn_of _ (by decide +kernel)) ggX8_load_X8_saveState
set_option maxRecDepth 20000 in
theorem ggX8_load_X6_writeTo : GoodIn wsX8_load wsX6_writeTo := goodIn_r _ [133, 134, 15, 16, 43, 44, 45, 13, 46, 39, 40, 41, 42, 135, 136, 137, 125, 138, 129, 127, 157, 158, 155, 156] (by decide +kernel) (by decide +kernel)
set_option maxRecDepth 20000 in
theorem gX8_load_X6_writeTo : GoodIn wsX8_load (wsV RX8 206 RX6 yX6_writeTo wsX6_writeTo) := goodIn_app (goodIn_of _ (by decide +kernel)) ggX8_load_X6_writeTo
theorem dX8_load_0 : decode cX8_load 0 = .ok (.aload_n 0, 1) := by decide +kernel
theorem dX8_load_1 : decode cX8_load 1 = .ok (.getfield 33, 3) := by decide +kernel
theorem dX8_load_4 : decode cX8_load 4 = .ok (.invokevirtual 192, 3) := by decide +kernel
theorem dX8_load_7 : decode cX8_load 7 = .ok (.ifCond .ne 13, 3) := by decide +kernel
theorem dX8_load_10 : decode cX8_load 10 = .ok (.new 41, 3) := by decide +kernel
theorem dX8_load_13 : decode cX8_load 13 = .ok (.dup, 1) := by decide +kernel
theorem dX8_load_14 : decode cX8_load 14 = .ok (.ldc 195, 2) := by decide +kernel
theorem dX8_load_16 : decode cX8_load 16 = .ok (.invokespecial 45, 3) := by decide +kernel
theorem dX8_load_19 : decode cX8_load 19 = .ok (.athrow, 1) := by decide +kernel
theorem dX8_load_20 : decode cX8_load 20 = .ok (.aload_n 0, 1) := by decide +kernel
theorem dX8_load_21 : decode cX8_load 21 = .ok (.getfield 33, 3) := by decide +kernel
theorem dX8_load_24 : decode cX8_load 24 = .ok (.invokevirtual 197, 3) := by decide +kernel
theorem dX8_load_27 : decode cX8_load 27 = .ok (.bipush 48, 2) := by decide +kernel
theorem dX8_load_29 : decode cX8_load 29 = .ok (.if_icmp .le 13, 3) := by decide +kernel
theorem dX8_load_32 : decode cX8_load 32 = .ok (.new 55, 3) := by decide +kernel
theorem dX8_load_35 : decode cX8_load 35 = .ok (.dup, 1) := by decide +kernel
theorem dX8_load_36 : decode cX8_load 36 = .ok (.ldc 200, 2) := by decide +kernel
theorem dX8_load_38 : decode cX8_load 38 = .ok (.invokespecial 59, 3) := by decide +kernel
theorem dX8_load_41 : decode cX8_load 41 = .ok (.athrow, 1) := by decide +kernel
theorem dX8_load_42 : decode cX8_load 42 = .ok (.aload_n 0, 1) := by decide +kernel
theorem dX8_load_43 : decode cX8_load 43 = .ok (.invokevirtual 60, 3) := by decide +kernel
theorem dX8_load_46 : decode cX8_load 46 = .ok (.aload_n 0, 1) := by decide +kernel
theorem dX8_load_47 : decode cX8_load 47 = .ok (.getfield 33, 3) := by decide +kernel
theorem dX8_load_50 : decode cX8_load 50 = .ok (.aload_n 0, 1) := by decide +kernel
theorem dX8_load_51 : decode cX8_load 51 = .ok (.getfield 10, 3) := by decide +kernel
theorem dX8_load_54 : decode cX8_load 54 = .ok (.getfield 202, 3) := by decide +kernel
theorem dX8_load_57 : decode cX8_load 57 = .ok (.invokevirtual 206, 3) := by decide +kernel
theorem dX8_load_60 : decode cX8_load 60 = .ok (.aload_n 0, 1) := by decide +kernel
theorem dX8_load_61 : decode cX8_load 61 = .ok (.getfield 33, 3) := by decide +kernel
theorem dX8_load_64 : decode cX8_load 64 = .ok (.iconst 0, 1) := by decide +kernel
theorem dX8_load_65 : decode cX8_load 65 = .ok (.putfield 186, 3) := by decide +kernel
theorem dX8_load_68 : decode cX8_load 68 = .ok (.aload_n 0, 1) := by decide +kernel
theorem dX8_load_69 : decode cX8_load 69 = .ok (.getfield 10, 3) := by decide +kernel
theorem dX8_load_72 : decode cX8_load 72 = .ok (.getfield 202, 3) := by decide +kernel
theorem dX8_load_75 : decode cX8_load 75 = .ok (.getfield 210, 3) := by decide +kernel
theorem dX8_load_78 : decode cX8_load 78 = .ok (.ireturn, 1) := by decide +kernel
set_option maxRecDepth 20000 in
theorem ggX8_turbine_X8_requireTurbine : GoodIn wsX8_turbine wsX8_requireTurbine := goodIn_r _ [8, 9, 10, 3, 11, 12, 13, 14, 15, 16, 79, 80, 81, 82, 83, 84, 85, 86, 87, 88, 89, 90, 91, 92, 93, 94] (by decide +kernel) (by decide +kernel)
set_option maxRecDepth 20000 in
theorem gX8_turbine_X8_requireTurbine : GoodIn wsX8_turbine (wsV RX8 67 RX8 yX8_requireTurbine wsX8_requireTurbine) := goodIn_app (goodIn_of _ (by decide +kernel)) ggX8_turbine_X8_requireTurbine
set_option maxRecDepth 20000 in
theorem ggX8_turbine_X8_isWithin : GoodIn wsX8_turbine wsX8_isWithin := goodIn_r _ [19] (by decide +kernel) (by decide +kernel)
set_option maxRecDepth 20000 in
theorem gX8_turbine_X8_isWithin : GoodIn wsX8_turbine (va_wsS RX8 37 yX8_isWithin wsX8_isWithin) := goodIn_app (goodIn_of _ (by decide +kernel)) ggX8_turbine_X8_isWithin
set_option maxRecDepth 20000 in
theorem ggX8_turbine_X2_turbineProperty : GoodIn wsX8_turbine wsX2_turbineProperty := goodIn_r _ [23, 24, 25, 26, 27, 28, 29, 30, 31, 32, 33, 34, 35, 12, 13, 14, 15, 16, 36, 37, 38, 39, 40, 41, 42, 43, 44, 45, 46, 47, 48, 49, 50, 51, 52, 53, 54, 55, 56, 57, 58, 59, 60, 61, 62, 63, 64, 65, 66, 67, 68, 69, 70, 71, 72, 73, 74, 75, 76, 77, 78, 85, 86, 87, 88, 89, 90, 91, 92, 93, 94, 95, 96, 97, 98, 99, 100, 101, 102, 103, 104, 105, 106, 107, 108] (by decide +kernel) (by decide +kernel)
set_option maxRecDepth 20000 in
theorem gX8_turbine_X2_turbineProperty : GoodIn wsX8_turbine (wsV RX8 221 RX2 yX2_turbineProperty wsX2_turbineProperty) := goodIn_app (goodIn_of _ (by decide +kernel)) ggX8_turbine_X2_turbineProperty
theorem dX8_turbine_0 : decode cX8_turbine 0 = .ok (.aload_n 0, 1) := by decide +kernel
theorem dX8_turbine_1 : decode cX8_turbine 1 = .ok (.iload_n 1, 1) := by decide +kernel
theorem dX8_turbine_2 : decode cX8_turbine 2 = .ok (.invokevirtual 67, 3) := by decide +kernel
theorem dX8_turbine_5 : decode cX8_turbine 5 = .ok (.iload_n 2, 1) := by decide +kernel
theorem dX8_turbine_6 : decode cX8_turbine 6 = .ok (.iconst 0, 1) := by decide +kernel
theorem dX8_turbine_7 : decode cX8_turbine 7 = .ok (.bipush 10, 2) := by decide +kernel
theorem dX8_turbine_9 : decode cX8_turbine 9 = .ok (.invokestatic 37, 3) := by decide +kernel
theorem dX8_turbine_12 : decode cX8_turbine 12 = .ok (.ifCond .ne 13, 3) := by decide +kernel
theorem dX8_turbine_15 : decode cX8_turbine 15 = .ok (.new 41, 3) := by decide +kernel
theorem dX8_turbine_18 : decode cX8_turbine 18 = .ok (.dup, 1) := by decide +kernel
theorem dX8_turbine_19 : decode cX8_turbine 19 = .ok (.ldc 219, 2) := by decide +kernel
theorem dX8_turbine_21 : decode cX8_turbine 21 = .ok (.invokespecial 45, 3) := by decide +kernel
theorem dX8_turbine_24 : decode cX8_turbine 24 = .ok (.athrow, 1) := by decide +kernel
theorem dX8_turbine_25 : decode cX8_turbine 25 = .ok (.aload_n 0, 1) := by decide +kernel
theorem dX8_turbine_26 : decode cX8_turbine 26 = .ok (.getfield 10, 3) := by decide +kernel
theorem dX8_turbine_29 : decode cX8_turbine 29 = .ok (.iload_n 1, 1) := by decide +kernel
theorem dX8_turbine_30 : decode cX8_turbine 30 = .ok (.iload_n 2, 1) := by decide +kernel
theorem dX8_turbine_31 : decode cX8_turbine 31 = .ok (.invokevirtual 221, 3) := by decide +kernel
theorem dX8_turbine_34 : decode cX8_turbine 34 = .ok (.ireturn, 1) := by decide +kernel
set_option maxRecDepth 20000 in
theorem ggX8_blade_X8_isWithin : GoodIn wsX8_blade wsX8_isWithin := goodIn_r _ [13] (by decide +kernel) (by decide +kernel)
set_option maxRecDepth 20000 in
theorem gX8_blade_X8_isWithin : GoodIn wsX8_blade (va_wsS RX8 37 yX8_isWithin wsX8_isWithin) := goodIn_app (goodIn_of _ (by decide +kernel)) ggX8_blade_X8_isWithin
theorem dX8_blade_0 : decode cX8_blade 0 = .ok (.iload_n 1, 1) := by decide +kernel
theorem dX8_blade_1 : decode cX8_blade 1 = .ok (.iconst 0, 1) := by decide +kernel
theorem dX8_blade_2 : decode cX8_blade 2 = .ok (.aload_n 0, 1) := by decide +kernel
theorem dX8_blade_3 : decode cX8_blade 3 = .ok (.getfield 10, 3) := by decide +kernel
theorem dX8_blade_6 : decode cX8_blade 6 = .ok (.getfield 151, 3) := by decide +kernel
theorem dX8_blade_9 : decode cX8_blade 9 = .ok (.getfield 167, 3) := by decide +kernel
theorem dX8_blade_12 : decode cX8_blade 12 = .ok (.iconst 1, 1) := by decide +kernel
theorem dX8_blade_13 : decode cX8_blade 13 = .ok (.isub, 1) := by decide +kernel
theorem dX8_blade_14 : decode cX8_blade 14 = .ok (.invokestatic 37, 3) := by decide +kernel
theorem dX8_blade_17 : decode cX8_blade 17 = .ok (.ifCond .ne 13, 3) := by decide +kernel
theorem dX8_blade_20 : decode cX8_blade 20 = .ok (.new 134, 3) := by decide +kernel
theorem dX8_blade_23 : decode cX8_blade 23 = .ok (.dup, 1) := by decide +kernel
theorem dX8_blade_24 : decode cX8_blade 24 = .ok (.ldc 225, 2) := by decide +kernel
theorem dX8_blade_26 : decode cX8_blade 26 = .ok (.invokespecial 138, 3) := by decide +kernel
theorem dX8_blade_29 : decode cX8_blade 29 = .ok (.athrow, 1) := by decide +kernel
theorem dX8_blade_30 : decode cX8_blade 30 = .ok (.iload_n 2, 1) := by decide +kernel
theorem dX8_blade_31 : decode cX8_blade 31 = .ok (.iconst 0, 1) := by decide +kernel
theorem dX8_blade_32 : decode cX8_blade 32 = .ok (.iconst 1, 1) := by decide +kernel
theorem dX8_blade_33 : decode cX8_blade 33 = .ok (.invokestatic 37, 3) := by decide +kernel
theorem dX8_blade_36 : decode cX8_blade 36 = .ok (.ifCond .ne 13, 3) := by decide +kernel
theorem dX8_blade_39 : decode cX8_blade 39 = .ok (.new 41, 3) := by decide +kernel
theorem dX8_blade_42 : decode cX8_blade 42 = .ok (.dup, 1) := by decide +kernel
theorem dX8_blade_43 : decode cX8_blade 43 = .ok (.ldc 227, 2) := by decide +kernel
theorem dX8_blade_45 : decode cX8_blade 45 = .ok (.invokespecial 45, 3) := by decide +kernel
theorem dX8_blade_48 : decode cX8_blade 48 = .ok (.athrow, 1) := by decide +kernel
theorem dX8_blade_49 : decode cX8_blade 49 = .ok (.iload_n 2, 1) := by decide +kernel
theorem dX8_blade_50 : decode cX8_blade 50 = .ok (.ifCond .ne 18, 3) := by decide +kernel
theorem dX8_blade_53 : decode cX8_blade 53 = .ok (.aload_n 0, 1) := by decide +kernel
theorem dX8_blade_54 : decode cX8_blade 54 = .ok (.getfield 10, 3) := by decide +kernel
theorem dX8_blade_57 : decode cX8_blade 57 = .ok (.getfield 151, 3) := by decide +kernel
theorem dX8_blade_60 : decode cX8_blade 60 = .ok (.getfield 229, 3) := by decide +kernel
theorem dX8_blade_63 : decode cX8_blade 63 = .ok (.iload_n 1, 1) := by decide +kernel
theorem dX8_blade_64 : decode cX8_blade 64 = .ok (.iaload, 1) := by decide +kernel
theorem dX8_blade_65 : decode cX8_blade 65 = .ok (.goto 15, 3) := by decide +kernel
theorem dX8_blade_68 : decode cX8_blade 68 = .ok (.aload_n 0, 1) := by decide +kernel
theorem dX8_blade_69 : decode cX8_blade 69 = .ok (.getfield 10, 3) := by decide +kernel
theorem dX8_blade_72 : decode cX8_blade 72 = .ok (.getfield 151, 3) := by decide +kernel
theorem dX8_blade_75 : decode cX8_blade 75 = .ok (.getfield 232, 3) := by decide +kernel
theorem dX8_blade_78 : decode cX8_blade 78 = .ok (.iload_n 1, 1) := by decide +kernel
theorem dX8_blade_79 : decode cX8_blade 79 = .ok (.iaload, 1) := by decide +kernel
theorem dX8_blade_80 : decode cX8_blade 80 = .ok (.ireturn, 1) := by decide +kernel
set_option maxRecDepth 20000 in
theorem ggX8_bog_X8_isWithin : GoodIn wsX8_bog wsX8_isWithin := goodIn_r _ [13] (by decide +kernel) (by decide +kernel)
set_option maxRecDepth 20000 in
theorem gX8_bog_X8_isWithin : GoodIn wsX8_bog (va_wsS RX8 37 yX8_isWithin wsX8_isWithin) := goodIn_app (goodIn_of _ (by decide +kernel)) ggX8_bog_X8_isWithin
theorem dX8_bog_0 : decode cX8_bog 0 = .ok (.iload_n 1, 1) := by decide +kernel
theorem dX8_bog_1 : decode cX8_bog 1 = .ok (.iconst 0, 1) := by decide +kernel
theorem dX8_bog_2 : decode cX8_bog 2 = .ok (.aload_n 0, 1) := by decide +kernel
theorem dX8_bog_3 : decode cX8_bog 3 = .ok (.getfield 10, 3) := by decide +kernel
theorem dX8_bog_6 : decode cX8_bog 6 = .ok (.getfield 87, 3) := by decide +kernel
theorem dX8_bog_9 : decode cX8_bog 9 = .ok (.getfield 107, 3) := by decide +kernel
theorem dX8_bog_12 : decode cX8_bog 12 = .ok (.iconst 1, 1) := by decide +kernel
theorem dX8_bog_13 : decode cX8_bog 13 = .ok (.isub, 1) := by decide +kernel
theorem dX8_bog_14 : decode cX8_bog 14 = .ok (.invokestatic 37, 3) := by decide +kernel
theorem dX8_bog_17 : decode cX8_bog 17 = .ok (.ifCond .ne 13, 3) := by decide +kernel
theorem dX8_bog_20 : decode cX8_bog 20 = .ok (.new 134, 3) := by decide +kernel
theorem dX8_bog_23 : decode cX8_bog 23 = .ok (.dup, 1) := by decide +kernel
theorem dX8_bog_24 : decode cX8_bog 24 = .ok (.ldc 235, 2) := by decide +kernel
theorem dX8_bog_26 : decode cX8_bog 26 = .ok (.invokespecial 138, 3) := by decide +kernel
theorem dX8_bog_29 : decode cX8_bog 29 = .ok (.athrow, 1) := by decide +kernel
theorem dX8_bog_30 : decode cX8_bog 30 = .ok (.iload_n 2, 1) := by decide +kernel
theorem dX8_bog_31 : decode cX8_bog 31 = .ok (.iconst 0, 1) := by decide +kernel
theorem dX8_bog_32 : decode cX8_bog 32 = .ok (.iconst 1, 1) := by decide +kernel
theorem dX8_bog_33 : decode cX8_bog 33 = .ok (.invokestatic 37, 3) := by decide +kernel
theorem dX8_bog_36 : decode cX8_bog 36 = .ok (.ifCond .ne 13, 3) := by decide +kernel
theorem dX8_bog_39 : decode cX8_bog 39 = .ok (.new 41, 3) := by decide +kernel
theorem dX8_bog_42 : decode cX8_bog 42 = .ok (.dup, 1) := by decide +kernel
theorem dX8_bog_43 : decode cX8_bog 43 = .ok (.ldc 227, 2) := by decide +kernel
theorem dX8_bog_45 : decode cX8_bog 45 = .ok (.invokespecial 45, 3) := by decide +kernel
theorem dX8_bog_48 : decode cX8_bog 48 = .ok (.athrow, 1) := by decide +kernel
theorem dX8_bog_49 : decode cX8_bog 49 = .ok (.iload_n 2, 1) := by decide +kernel
theorem dX8_bog_50 : decode cX8_bog 50 = .ok (.ifCond .ne 18, 3) := by decide +kernel
theorem dX8_bog_53 : decode cX8_bog 53 = .ok (.aload_n 0, 1) := by decide +kernel
theorem dX8_bog_54 : decode cX8_bog 54 = .ok (.getfield 10, 3) := by decide +kernel
theorem dX8_bog_57 : decode cX8_bog 57 = .ok (.getfield 87, 3) := by decide +kernel
theorem dX8_bog_60 : decode cX8_bog 60 = .ok (.getfield 237, 3) := by decide +kernel
theorem dX8_bog_63 : decode cX8_bog 63 = .ok (.iload_n 1, 1) := by decide +kernel
theorem dX8_bog_64 : decode cX8_bog 64 = .ok (.iaload, 1) := by decide +kernel
theorem dX8_bog_65 : decode cX8_bog 65 = .ok (.goto 15, 3) := by decide +kernel
theorem dX8_bog_68 : decode cX8_bog 68 = .ok (.aload_n 0, 1) := by decide +kernel
theorem dX8_bog_69 : decode cX8_bog 69 = .ok (.getfield 10, 3) := by decide +kernel
theorem dX8_bog_72 : decode cX8_bog 72 = .ok (.getfield 87, 3) := by decide +kernel
theorem dX8_bog_75 : decode cX8_bog 75 = .ok (.getfield 240, 3) := by decide +kernel
theorem dX8_bog_78 : decode cX8_bog 78 = .ok (.iload_n 1, 1) := by decide +kernel
theorem dX8_bog_79 : decode cX8_bog 79 = .ok (.iaload, 1) := by decide +kernel
theorem dX8_bog_80 : decode cX8_bog 80 = .ok (.ireturn, 1) := by decide +kernel
set_option maxRecDepth 20000 in
theorem ggX8_claims_X8_isWithin : GoodIn wsX8_claims wsX8_isWithin := goodIn_r _ [8] (by decide +kernel) (by decide +kernel)
set_option maxRecDepth 20000 in
theorem gX8_claims_X8_isWithin : GoodIn wsX8_claims (va_wsS RX8 37 yX8_isWithin wsX8_isWithin) := goodIn_app (goodIn_of _ (by decide +kernel)) ggX8_claims_X8_isWithin
theorem dX8_claims_0 : decode cX8_claims 0 = .ok (.iload_n 1, 1) := by decide +kernel
theorem dX8_claims_1 : decode cX8_claims 1 = .ok (.iconst 0, 1) := by decide +kernel
theorem dX8_claims_2 : decode cX8_claims 2 = .ok (.iconst 4, 1) := by decide +kernel
theorem dX8_claims_3 : decode cX8_claims 3 = .ok (.invokestatic 37, 3) := by decide +kernel
theorem dX8_claims_6 : decode cX8_claims 6 = .ok (.ifCond .ne 13, 3) := by decide +kernel
theorem dX8_claims_9 : decode cX8_claims 9 = .ok (.new 41, 3) := by decide +kernel
theorem dX8_claims_12 : decode cX8_claims 12 = .ok (.dup, 1) := by decide +kernel
theorem dX8_claims_13 : decode cX8_claims 13 = .ok (.ldc 243, 2) := by decide +kernel
theorem dX8_claims_15 : decode cX8_claims 15 = .ok (.invokespecial 45, 3) := by decide +kernel
theorem dX8_claims_18 : decode cX8_claims 18 = .ok (.athrow, 1) := by decide +kernel
theorem dX8_claims_19 : decode cX8_claims 19 = .ok (.aload_n 0, 1) := by decide +kernel
theorem dX8_claims_20 : decode cX8_claims 20 = .ok (.getfield 10, 3) := by decide +kernel
theorem dX8_claims_23 : decode cX8_claims 23 = .ok (.getfield 245, 3) := by decide +kernel
theorem dX8_claims_26 : decode cX8_claims 26 = .ok (.iload_n 1, 1) := by decide +kernel
theorem dX8_claims_27 : decode cX8_claims 27 = .ok (.iaload, 1) := by decide +kernel
theorem dX8_claims_28 : decode cX8_claims 28 = .ok (.ireturn, 1) := by decide +kernel
set_option maxRecDepth 20000 in
theorem ggX8_count_X8_isWithin : GoodIn wsX8_count wsX8_isWithin := goodIn_r _ [6] (by decide +kernel) (by decide +kernel)
set_option maxRecDepth 20000 in
theorem gX8_count_X8_isWithin : GoodIn wsX8_count (va_wsS RX8 37 yX8_isWithin wsX8_isWithin) := goodIn_app (goodIn_of _ (by decide +kernel)) ggX8_count_X8_isWithin
set_option maxRecDepth 20000 in
theorem ggX8_count_X8_numberOf : GoodIn wsX8_count wsX8_numberOf := goodIn_r _ [10, 11, 12, 13, 14, 15, 16, 17, 18, 19, 20, 21, 22, 23, 24, 25, 26, 27, 28, 29, 30, 31, 32, 33, 34, 35, 36, 37, 38, 39, 40, 41, 42, 43, 44, 45, 46, 47, 48, 49, 50, 51, 52, 53, 54, 55, 56, 57, 58, 59, 60, 61, 62, 63, 64, 65, 66, 67, 68, 69, 70, 71, 72, 73, 74, 75, 76, 77, 78, 79, 80, 81, 82, 83, 84, 85, 86, 87, 88, 89, 90, 91, 92, 93, 94, 95, 96, 97, 98, 99, 100, 101, 102, 103, 104] (by decide +kernel) (by decide +kernel)
set_option maxRecDepth 20000 in
theorem gX8_count_X8_numberOf : GoodIn wsX8_count (wsV RX8 250 RX8 yX8_numberOf wsX8_numberOf) := goodIn_app (goodIn_of _ (by decide +kernel)) ggX8_count_X8_numberOf
theorem dX8_count_0 : decode cX8_count 0 = .ok (.iload_n 1, 1) := by decide +kernel
theorem dX8_count_1 : decode cX8_count 1 = .ok (.iconst 0, 1) := by decide +kernel
theorem dX8_count_2 : decode cX8_count 2 = .ok (.bipush 14, 2) := by decide +kernel
theorem dX8_count_4 : decode cX8_count 4 = .ok (.invokestatic 37, 3) := by decide +kernel
theorem dX8_count_7 : decode cX8_count 7 = .ok (.ifCond .ne 13, 3) := by decide +kernel
theorem dX8_count_10 : decode cX8_count 10 = .ok (.new 41, 3) := by decide +kernel
theorem dX8_count_13 : decode cX8_count 13 = .ok (.dup, 1) := by decide +kernel
theorem dX8_count_14 : decode cX8_count 14 = .ok (.ldc 248, 2) := by decide +kernel
theorem dX8_count_16 : decode cX8_count 16 = .ok (.invokespecial 45, 3) := by decide +kernel
theorem dX8_count_19 : decode cX8_count 19 = .ok (.athrow, 1) := by decide +kernel
theorem dX8_count_20 : decode cX8_count 20 = .ok (.aload_n 0, 1) := by decide +kernel
theorem dX8_count_21 : decode cX8_count 21 = .ok (.iload_n 1, 1) := by decide +kernel
theorem dX8_count_22 : decode cX8_count 22 = .ok (.invokevirtual 250, 3) := by decide +kernel
theorem dX8_count_25 : decode cX8_count 25 = .ok (.ireturn, 1) := by decide +kernel
set_option maxRecDepth 20000 in
theorem ggX8_setting_X8_requireSetting : GoodIn wsX8_setting wsX8_requireSetting := goodIn_r _ [6, 7, 8, 9, 10, 5, 11] (by decide +kernel) (by decide +kernel)
set_option maxRecDepth 20000 in
theorem gX8_setting_X8_requireSetting : GoodIn wsX8_setting (va_wsS RX8 110 yX8_requireSetting wsX8_requireSetting) := goodIn_app (goodIn_of _ (by decide +kernel)) ggX8_setting_X8_requireSetting
theorem dX8_setting_0 : decode cX8_setting 0 = .ok (.iload_n 1, 1) := by decide +kernel
theorem dX8_setting_1 : decode cX8_setting 1 = .ok (.invokestatic 110, 3) := by decide +kernel
theorem dX8_setting_4 : decode cX8_setting 4 = .ok (.aload_n 0, 1) := by decide +kernel
theorem dX8_setting_5 : decode cX8_setting 5 = .ok (.getfield 10, 3) := by decide +kernel
theorem dX8_setting_8 : decode cX8_setting 8 = .ok (.getfield 122, 3) := by decide +kernel
theorem dX8_setting_11 : decode cX8_setting 11 = .ok (.iload_n 1, 1) := by decide +kernel
theorem dX8_setting_12 : decode cX8_setting 12 = .ok (.iaload, 1) := by decide +kernel
theorem dX8_setting_13 : decode cX8_setting 13 = .ok (.ireturn, 1) := by decide +kernel
set_option maxRecDepth 20000 in
theorem ggX8_way_X8_isWithin : GoodIn wsX8_way wsX8_isWithin := goodIn_r _ [7] (by decide +kernel) (by decide +kernel)
set_option maxRecDepth 20000 in
theorem gX8_way_X8_isWithin : GoodIn wsX8_way (va_wsS RX8 37 yX8_isWithin wsX8_isWithin) := goodIn_app (goodIn_of _ (by decide +kernel)) ggX8_way_X8_isWithin
set_option maxRecDepth 20000 in
theorem ggX8_way_X2_hoursBetween : GoodIn wsX8_way wsX2_hoursBetween := goodIn_r _ [12, 13, 14, 15, 16, 17, 18, 19, 20, 21, 22, 23, 24, 25, 26, 27, 28, 29, 30, 31, 32, 39, 40, 41, 42, 43, 44, 45, 46, 47, 48, 49, 50, 51] (by decide +kernel) (by decide +kernel)
set_option maxRecDepth 20000 in
theorem gX8_way_X2_hoursBetween : GoodIn wsX8_way (wsV RX8 255 RX2 yX2_hoursBetween wsX2_hoursBetween) := goodIn_app (goodIn_of _ (by decide +kernel)) ggX8_way_X2_hoursBetween
theorem dX8_way_0 : decode cX8_way 0 = .ok (.iload_n 1, 1) := by decide +kernel
theorem dX8_way_1 : decode cX8_way 1 = .ok (.iconst 0, 1) := by decide +kernel
theorem dX8_way_2 : decode cX8_way 2 = .ok (.bipush 99, 2) := by decide +kernel
theorem dX8_way_4 : decode cX8_way 4 = .ok (.invokestatic 37, 3) := by decide +kernel
theorem dX8_way_7 : decode cX8_way 7 = .ok (.ifCond .eq 13, 3) := by decide +kernel
theorem dX8_way_10 : decode cX8_way 10 = .ok (.iload_n 2, 1) := by decide +kernel
theorem dX8_way_11 : decode cX8_way 11 = .ok (.iconst 0, 1) := by decide +kernel
theorem dX8_way_12 : decode cX8_way 12 = .ok (.bipush 99, 2) := by decide +kernel
theorem dX8_way_14 : decode cX8_way 14 = .ok (.invokestatic 37, 3) := by decide +kernel
theorem dX8_way_17 : decode cX8_way 17 = .ok (.ifCond .ne 13, 3) := by decide +kernel
theorem dX8_way_20 : decode cX8_way 20 = .ok (.new 41, 3) := by decide +kernel
theorem dX8_way_23 : decode cX8_way 23 = .ok (.dup, 1) := by decide +kernel
theorem dX8_way_24 : decode cX8_way 24 = .ok (.ldc 253, 2) := by decide +kernel
theorem dX8_way_26 : decode cX8_way 26 = .ok (.invokespecial 45, 3) := by decide +kernel
theorem dX8_way_29 : decode cX8_way 29 = .ok (.athrow, 1) := by decide +kernel
theorem dX8_way_30 : decode cX8_way 30 = .ok (.aload_n 0, 1) := by decide +kernel
theorem dX8_way_31 : decode cX8_way 31 = .ok (.getfield 10, 3) := by decide +kernel
theorem dX8_way_34 : decode cX8_way 34 = .ok (.iload_n 1, 1) := by decide +kernel
theorem dX8_way_35 : decode cX8_way 35 = .ok (.iload_n 2, 1) := by decide +kernel
theorem dX8_way_36 : decode cX8_way 36 = .ok (.invokevirtual 255, 3) := by decide +kernel
theorem dX8_way_39 : decode cX8_way 39 = .ok (.ireturn, 1) := by decide +kernel
set_option maxRecDepth 20000 in
theorem ggX8_ifPassed_X8_isWithin : GoodIn wsX8_ifPassed wsX8_isWithin := goodIn_r _ [8] (by decide +kernel) (by decide +kernel)
set_option maxRecDepth 20000 in
theorem gX8_ifPassed_X8_isWithin : GoodIn wsX8_ifPassed (va_wsS RX8 37 yX8_isWithin wsX8_isWithin) := goodIn_app (goodIn_of _ (by decide +kernel)) ggX8_ifPassed_X8_isWithin
set_option maxRecDepth 20000 in
theorem ggX8_ifPassed_X2_copyFrom : GoodIn wsX8_ifPassed wsX2_copyFrom := goodIn_r _ [13, 14, 15, 16, 17, 18, 19, 20, 21, 22, 23, 24, 25, 26, 27, 28, 29, 30, 31, 32, 33, 34, 35, 36, 37, 38, 39, 40, 41, 42, 43, 44, 45, 46, 47, 48, 49, 50, 51, 52, 53, 54, 55, 56, 57, 58, 59, 60, 61, 62, 63, 64, 65, 66, 67, 68, 69, 70, 71, 72, 73, 74, 75, 76, 77, 78, 79, 80, 81, 82, 83, 232, 233, 234, 235, 236, 237, 238, 239, 240, 241, 242, 243, 244, 245, 246, 247, 248, 249, 250, 251, 252, 253, 254, 255, 256, 257, 258, 259, 260, 261, 262, 263] (by decide +kernel) (by decide +kernel)
set_option maxRecDepth 20000 in
theorem gX8_ifPassed_X2_copyFrom : GoodIn wsX8_ifPassed (wsV RX8 215 RX2 yX2_copyFrom wsX2_copyFrom) := goodIn_app (goodIn_of _ (by decide +kernel)) ggX8_ifPassed_X2_copyFrom
set_option maxRecDepth 20000 in
theorem ggX8_ifPassed_X2_runHours : GoodIn wsX8_ifPassed wsX2_runHours := goodIn_r _ [87, 88, 89, 90, 12, 91, 17, 21, 18, 27, 92, 93, 94, 52, 95, 57, 56, 96, 97, 98, 99, 100, 101, 102, 103, 104, 19, 105, 15, 106, 107, 108, 109, 61, 110, 65, 63, 111, 112, 113, 69, 114, 75, 74, 115, 116, 117, 118, 14, 119, 120, 121, 122, 123, 124, 125, 126, 127, 128, 129, 130, 131, 132, 73, 133, 134, 135, 136, 137, 138, 139, 140, 141, 142, 16, 143, 144, 145, 146, 43, 147, 48, 45, 47, 148, 149, 150, 151, 72, 152, 71, 153, 154, 155, 156, 54, 157, 158, 159, 160, 20, 161, 162, 163, 79, 164, 83, 81, 165, 166, 167, 31, 168, 34, 169, 170, 171, 172, 173, 174, 175, 176, 177, 178, 26, 179, 180, 181, 182, 35, 183, 184, 185, 186, 187, 188, 189, 190, 191, 192, 193, 194, 195, 196, 197, 198, 199, 200, 201, 202, 203, 204, 205, 206, 207, 208, 209, 36, 37, 232, 233, 234, 235, 236, 237, 238, 239, 240, 241, 252, 253, 254, 255, 256, 257, 258, 259, 260, 261, 242, 243, 244, 245, 246, 247, 248, 249, 250, 251, 262, 263] (by decide +kernel) (by decide +kernel)
set_option maxRecDepth 20000 in
theorem gX8_ifPassed_X2_runHours : GoodIn wsX8_ifPassed (wsV RX8 175 RX2 yX2_runHours wsX2_runHours) := goodIn_app (goodIn_of _ (by decide +kernel)) ggX8_ifPassed_X2_runHours
set_option maxRecDepth 20000 in
theorem ggX8_ifPassed_X2_outcome : GoodIn wsX8_ifPassed wsX2_outcome := goodIn_r _ [213, 18, 104, 26, 214, 215, 216, 12, 217, 218, 219, 220, 221, 14, 15, 178, 222, 223, 224, 225, 106, 232, 233, 234, 235, 236, 237, 238, 239, 240, 241, 255, 256, 242, 243, 244, 245, 246, 247, 248] (by decide +kernel) (by decide +kernel)
set_option maxRecDepth 20000 in
theorem gX8_ifPassed_X2_outcome : GoodIn wsX8_ifPassed (wsV RX8 260 RX2 yX2_outcome wsX2_outcome) := goodIn_app (goodIn_of _ (by decide +kernel)) ggX8_ifPassed_X2_outcome
theorem dX8_ifPassed_0 : decode cX8_ifPassed 0 = .ok (.iload_n 1, 1) := by decide +kernel
theorem dX8_ifPassed_1 : decode cX8_ifPassed 1 = .ok (.iconst 1, 1) := by decide +kernel
theorem dX8_ifPassed_2 : decode cX8_ifPassed 2 = .ok (.sipush 200, 3) := by decide +kernel
theorem dX8_ifPassed_5 : decode cX8_ifPassed 5 = .ok (.invokestatic 37, 3) := by decide +kernel
theorem dX8_ifPassed_8 : decode cX8_ifPassed 8 = .ok (.ifCond .eq 13, 3) := by decide +kernel
theorem dX8_ifPassed_11 : decode cX8_ifPassed 11 = .ok (.iload_n 2, 1) := by decide +kernel
theorem dX8_ifPassed_12 : decode cX8_ifPassed 12 = .ok (.iconst 0, 1) := by decide +kernel
theorem dX8_ifPassed_13 : decode cX8_ifPassed 13 = .ok (.bipush 8, 2) := by decide +kernel
theorem dX8_ifPassed_15 : decode cX8_ifPassed 15 = .ok (.invokestatic 37, 3) := by decide +kernel
theorem dX8_ifPassed_18 : decode cX8_ifPassed 18 = .ok (.ifCond .ne 14, 3) := by decide +kernel
theorem dX8_ifPassed_21 : decode cX8_ifPassed 21 = .ok (.new 41, 3) := by decide +kernel
theorem dX8_ifPassed_24 : decode cX8_ifPassed 24 = .ok (.dup, 1) := by decide +kernel
theorem dX8_ifPassed_25 : decode cX8_ifPassed 25 = .ok (.ldc_w 258, 3) := by decide +kernel
theorem dX8_ifPassed_28 : decode cX8_ifPassed 28 = .ok (.invokespecial 45, 3) := by decide +kernel
theorem dX8_ifPassed_31 : decode cX8_ifPassed 31 = .ok (.athrow, 1) := by decide +kernel
theorem dX8_ifPassed_32 : decode cX8_ifPassed 32 = .ok (.aload_n 0, 1) := by decide +kernel
theorem dX8_ifPassed_33 : decode cX8_ifPassed 33 = .ok (.getfield 16, 3) := by decide +kernel
theorem dX8_ifPassed_36 : decode cX8_ifPassed 36 = .ok (.aload_n 0, 1) := by decide +kernel
theorem dX8_ifPassed_37 : decode cX8_ifPassed 37 = .ok (.getfield 10, 3) := by decide +kernel
theorem dX8_ifPassed_40 : decode cX8_ifPassed 40 = .ok (.invokevirtual 215, 3) := by decide +kernel
theorem dX8_ifPassed_43 : decode cX8_ifPassed 43 = .ok (.aload_n 0, 1) := by decide +kernel
theorem dX8_ifPassed_44 : decode cX8_ifPassed 44 = .ok (.getfield 16, 3) := by decide +kernel
theorem dX8_ifPassed_47 : decode cX8_ifPassed 47 = .ok (.iload_n 1, 1) := by decide +kernel
theorem dX8_ifPassed_48 : decode cX8_ifPassed 48 = .ok (.invokevirtual 175, 3) := by decide +kernel
theorem dX8_ifPassed_51 : decode cX8_ifPassed 51 = .ok (.pop, 1) := by decide +kernel
theorem dX8_ifPassed_52 : decode cX8_ifPassed 52 = .ok (.aload_n 0, 1) := by decide +kernel
theorem dX8_ifPassed_53 : decode cX8_ifPassed 53 = .ok (.getfield 16, 3) := by decide +kernel
theorem dX8_ifPassed_56 : decode cX8_ifPassed 56 = .ok (.iload_n 2, 1) := by decide +kernel
theorem dX8_ifPassed_57 : decode cX8_ifPassed 57 = .ok (.invokevirtual 260, 3) := by decide +kernel
theorem dX8_ifPassed_60 : decode cX8_ifPassed 60 = .ok (.ireturn, 1) := by decide +kernel
set_option maxRecDepth 20000 in
theorem ggX8_bestFirst_X2_copyFrom : GoodIn wsX8_bestFirst wsX2_copyFrom := goodIn_r _ [10, 11, 12, 13, 14, 15, 16, 17, 18, 19, 20, 21, 22, 23, 24, 25, 26, 27, 28, 29, 30, 31, 32, 33, 34, 35, 36, 37, 38, 39, 40, 41, 42, 43, 44, 45, 46, 47, 48, 49, 50, 51, 52, 53, 54, 55, 56, 57, 58, 59, 60, 61, 62, 63, 64, 65, 66, 67, 68, 69, 70, 71, 72, 73, 74, 75, 76, 77, 78, 79, 80, 219, 220, 221, 222, 223, 224, 225, 226, 227, 228, 231, 232, 233, 234, 235, 236, 237, 238, 239, 240, 241, 242, 243, 229, 230, 244, 245, 246, 247, 248, 249, 250] (by decide +kernel) (by decide +kernel)
set_option maxRecDepth 20000 in
theorem gX8_bestFirst_X2_copyFrom : GoodIn wsX8_bestFirst (wsV RX8 215 RX2 yX2_copyFrom wsX2_copyFrom) := goodIn_app (goodIn_of _ (by decide +kernel)) ggX8_bestFirst_X2_copyFrom
set_option maxRecDepth 20000 in
theorem ggX8_bestFirst_X4_moveTo : GoodIn wsX8_bestFirst wsX4_moveTo := goodIn_r _ [84, 62, 60, 85, 86, 87, 58, 88, 89, 90, 91, 92, 229, 230] (by decide +kernel) (by decide +kernel)
set_option maxRecDepth 20000 in
theorem gX8_bestFirst_X4_moveTo : GoodIn wsX8_bestFirst (wsV RX8 139 RX4 yX4_moveTo wsX4_moveTo) := goodIn_app (goodIn_of _ (by decide +kernel)) ggX8_bestFirst_X4_moveTo
set_option maxRecDepth 20000 in
theorem ggX8_bestFirst_X2_runHours : GoodIn wsX8_bestFirst wsX2_runHours := goodIn_r _ [96, 97, 98, 99, 9, 100, 14, 18, 15, 24, 101, 102, 103, 49, 104, 54, 53, 105, 106, 107, 108, 109, 110, 111, 112, 113, 16, 114, 12, 115, 116, 117, 118, 58, 119, 62, 60, 120, 121, 122, 66, 123, 72, 71, 124, 125, 126, 127, 11, 128, 90, 91, 92, 129, 130, 131, 132, 133, 134, 135, 136, 137, 138, 70, 139, 140, 141, 142, 143, 144, 145, 146, 147, 148, 13, 149, 150, 151, 152, 40, 153, 45, 42, 44, 154, 155, 156, 157, 69, 158, 68, 159, 160, 161, 162, 51, 163, 164, 165, 166, 17, 167, 168, 169, 76, 170, 80, 78, 171, 172, 173, 28, 174, 31, 175, 176, 177, 178, 179, 180, 181, 182, 183, 184, 23, 185, 186, 187, 188, 32, 189, 190, 191, 192, 193, 194, 195, 196, 197, 198, 199, 200, 201, 202, 203, 204, 86, 87, 88, 205, 206, 207, 208, 209, 210, 211, 212, 33, 34, 219, 220, 221, 222, 223, 224, 225, 226, 227, 228, 241, 242, 243, 229, 230, 244, 245, 246, 247, 248, 231, 232, 233, 234, 235, 236, 237, 238, 239, 240, 249, 250] (by decide +kernel) (by decide +kernel)
set_option maxRecDepth 20000 in
theorem gX8_bestFirst_X2_runHours : GoodIn wsX8_bestFirst (wsV RX8 175 RX2 yX2_runHours wsX2_runHours) := goodIn_app (goodIn_of _ (by decide +kernel)) ggX8_bestFirst_X2_runHours
theorem dX8_bestFirst_0 : decode cX8_bestFirst 0 = .ok (.iconst (-1), 1) := by decide +kernel
theorem dX8_bestFirst_1 : decode cX8_bestFirst 1 = .ok (.istore_n 1, 1) := by decide +kernel
theorem dX8_bestFirst_2 : decode cX8_bestFirst 2 = .ok (.iconst 0, 1) := by decide +kernel
theorem dX8_bestFirst_3 : decode cX8_bestFirst 3 = .ok (.istore_n 2, 1) := by decide +kernel
theorem dX8_bestFirst_4 : decode cX8_bestFirst 4 = .ok (.iconst 0, 1) := by decide +kernel
theorem dX8_bestFirst_5 : decode cX8_bestFirst 5 = .ok (.istore_n 3, 1) := by decide +kernel
theorem dX8_bestFirst_6 : decode cX8_bestFirst 6 = .ok (.iload_n 3, 1) := by decide +kernel
theorem dX8_bestFirst_7 : decode cX8_bestFirst 7 = .ok (.aload_n 0, 1) := by decide +kernel
theorem dX8_bestFirst_8 : decode cX8_bestFirst 8 = .ok (.getfield 10, 3) := by decide +kernel
theorem dX8_bestFirst_11 : decode cX8_bestFirst 11 = .ok (.getfield 125, 3) := by decide +kernel
theorem dX8_bestFirst_14 : decode cX8_bestFirst 14 = .ok (.getfield 142, 3) := by decide +kernel
theorem dX8_bestFirst_17 : decode cX8_bestFirst 17 = .ok (.if_icmp .ge 75, 3) := by decide +kernel
theorem dX8_bestFirst_20 : decode cX8_bestFirst 20 = .ok (.aload_n 0, 1) := by decide +kernel
theorem dX8_bestFirst_21 : decode cX8_bestFirst 21 = .ok (.getfield 10, 3) := by decide +kernel
theorem dX8_bestFirst_24 : decode cX8_bestFirst 24 = .ok (.getfield 125, 3) := by decide +kernel
theorem dX8_bestFirst_27 : decode cX8_bestFirst 27 = .ok (.getfield 263, 3) := by decide +kernel
theorem dX8_bestFirst_30 : decode cX8_bestFirst 30 = .ok (.iload_n 3, 1) := by decide +kernel
theorem dX8_bestFirst_31 : decode cX8_bestFirst 31 = .ok (.iaload, 1) := by decide +kernel
theorem dX8_bestFirst_32 : decode cX8_bestFirst 32 = .ok (.istore 4, 2) := by decide +kernel
theorem dX8_bestFirst_34 : decode cX8_bestFirst 34 = .ok (.aload_n 0, 1) := by decide +kernel
theorem dX8_bestFirst_35 : decode cX8_bestFirst 35 = .ok (.getfield 16, 3) := by decide +kernel
theorem dX8_bestFirst_38 : decode cX8_bestFirst 38 = .ok (.aload_n 0, 1) := by decide +kernel
theorem dX8_bestFirst_39 : decode cX8_bestFirst 39 = .ok (.getfield 10, 3) := by decide +kernel
theorem dX8_bestFirst_42 : decode cX8_bestFirst 42 = .ok (.invokevirtual 215, 3) := by decide +kernel
theorem dX8_bestFirst_45 : decode cX8_bestFirst 45 = .ok (.aload_n 0, 1) := by decide +kernel
theorem dX8_bestFirst_46 : decode cX8_bestFirst 46 = .ok (.getfield 16, 3) := by decide +kernel
theorem dX8_bestFirst_49 : decode cX8_bestFirst 49 = .ok (.getfield 125, 3) := by decide +kernel
theorem dX8_bestFirst_52 : decode cX8_bestFirst 52 = .ok (.iload 4, 2) := by decide +kernel
theorem dX8_bestFirst_54 : decode cX8_bestFirst 54 = .ok (.iconst 0, 1) := by decide +kernel
theorem dX8_bestFirst_55 : decode cX8_bestFirst 55 = .ok (.invokevirtual 139, 3) := by decide +kernel
theorem dX8_bestFirst_58 : decode cX8_bestFirst 58 = .ok (.aload_n 0, 1) := by decide +kernel
theorem dX8_bestFirst_59 : decode cX8_bestFirst 59 = .ok (.getfield 16, 3) := by decide +kernel
theorem dX8_bestFirst_62 : decode cX8_bestFirst 62 = .ok (.bipush 48, 2) := by decide +kernel
theorem dX8_bestFirst_64 : decode cX8_bestFirst 64 = .ok (.invokevirtual 175, 3) := by decide +kernel
theorem dX8_bestFirst_67 : decode cX8_bestFirst 67 = .ok (.istore 5, 2) := by decide +kernel
theorem dX8_bestFirst_69 : decode cX8_bestFirst 69 = .ok (.iload_n 1, 1) := by decide +kernel
theorem dX8_bestFirst_70 : decode cX8_bestFirst 70 = .ok (.iconst (-1), 1) := by decide +kernel
theorem dX8_bestFirst_71 : decode cX8_bestFirst 71 = .ok (.if_icmp .eq 9, 3) := by decide +kernel
theorem dX8_bestFirst_74 : decode cX8_bestFirst 74 = .ok (.iload 5, 2) := by decide +kernel
theorem dX8_bestFirst_76 : decode cX8_bestFirst 76 = .ok (.iload_n 2, 1) := by decide +kernel
theorem dX8_bestFirst_77 : decode cX8_bestFirst 77 = .ok (.if_icmp .ge 9, 3) := by decide +kernel
theorem dX8_bestFirst_80 : decode cX8_bestFirst 80 = .ok (.iload 4, 2) := by decide +kernel
theorem dX8_bestFirst_82 : decode cX8_bestFirst 82 = .ok (.istore_n 1, 1) := by decide +kernel
theorem dX8_bestFirst_83 : decode cX8_bestFirst 83 = .ok (.iload 5, 2) := by decide +kernel
theorem dX8_bestFirst_85 : decode cX8_bestFirst 85 = .ok (.istore_n 2, 1) := by decide +kernel
theorem dX8_bestFirst_86 : decode cX8_bestFirst 86 = .ok (.iinc 3 1, 3) := by decide +kernel
theorem dX8_bestFirst_89 : decode cX8_bestFirst 89 = .ok (.goto (-83), 3) := by decide +kernel
theorem dX8_bestFirst_92 : decode cX8_bestFirst 92 = .ok (.iload_n 1, 1) := by decide +kernel
theorem dX8_bestFirst_93 : decode cX8_bestFirst 93 = .ok (.ireturn, 1) := by decide +kernel
set_option maxRecDepth 20000 in
theorem ggX8_window_X8_requireTurbine : GoodIn wsX8_window wsX8_requireTurbine := goodIn_r _ [8, 9, 10, 3, 11, 12, 13, 14, 15, 16, 42, 43, 44, 45, 46, 47, 48, 49, 50, 51, 52, 53, 54, 55, 56, 57] (by decide +kernel) (by decide +kernel)
set_option maxRecDepth 20000 in
theorem gX8_window_X8_requireTurbine : GoodIn wsX8_window (wsV RX8 67 RX8 yX8_requireTurbine wsX8_requireTurbine) := goodIn_app (goodIn_of _ (by decide +kernel)) ggX8_window_X8_requireTurbine
set_option maxRecDepth 20000 in
theorem ggX8_window_X8_isWithin : GoodIn wsX8_window wsX8_isWithin := goodIn_r _ [19] (by decide +kernel) (by decide +kernel)
set_option maxRecDepth 20000 in
theorem gX8_window_X8_isWithin : GoodIn wsX8_window (va_wsS RX8 37 yX8_isWithin wsX8_isWithin) := goodIn_app (goodIn_of _ (by decide +kernel)) ggX8_window_X8_isWithin
set_option maxRecDepth 20000 in
theorem ggX8_window_X2_hoursUntilCalm : GoodIn wsX8_window wsX2_hoursUntilCalm := goodIn_r _ [23, 24, 25, 26, 27, 28, 12, 13, 14, 15, 16, 29, 30, 31, 32, 33, 34, 35, 36, 37, 38, 39, 40, 41, 48, 49, 50, 51, 52, 53, 54, 55, 56, 57, 58, 59, 60, 61, 62, 63, 64, 65, 66] (by decide +kernel) (by decide +kernel)
set_option maxRecDepth 20000 in
theorem gX8_window_X2_hoursUntilCalm : GoodIn wsX8_window (wsV RX8 268 RX2 yX2_hoursUntilCalm wsX2_hoursUntilCalm) := goodIn_app (goodIn_of _ (by decide +kernel)) ggX8_window_X2_hoursUntilCalm
theorem dX8_window_0 : decode cX8_window 0 = .ok (.aload_n 0, 1) := by decide +kernel
theorem dX8_window_1 : decode cX8_window 1 = .ok (.iload_n 1, 1) := by decide +kernel
theorem dX8_window_2 : decode cX8_window 2 = .ok (.invokevirtual 67, 3) := by decide +kernel
theorem dX8_window_5 : decode cX8_window 5 = .ok (.iload_n 2, 1) := by decide +kernel
theorem dX8_window_6 : decode cX8_window 6 = .ok (.iconst 1, 1) := by decide +kernel
theorem dX8_window_7 : decode cX8_window 7 = .ok (.bipush 24, 2) := by decide +kernel
theorem dX8_window_9 : decode cX8_window 9 = .ok (.invokestatic 37, 3) := by decide +kernel
theorem dX8_window_12 : decode cX8_window 12 = .ok (.ifCond .ne 14, 3) := by decide +kernel
theorem dX8_window_15 : decode cX8_window 15 = .ok (.new 41, 3) := by decide +kernel
theorem dX8_window_18 : decode cX8_window 18 = .ok (.dup, 1) := by decide +kernel
theorem dX8_window_19 : decode cX8_window 19 = .ok (.ldc_w 266, 3) := by decide +kernel
theorem dX8_window_22 : decode cX8_window 22 = .ok (.invokespecial 45, 3) := by decide +kernel
theorem dX8_window_25 : decode cX8_window 25 = .ok (.athrow, 1) := by decide +kernel
theorem dX8_window_26 : decode cX8_window 26 = .ok (.aload_n 0, 1) := by decide +kernel
theorem dX8_window_27 : decode cX8_window 27 = .ok (.getfield 10, 3) := by decide +kernel
theorem dX8_window_30 : decode cX8_window 30 = .ok (.iload_n 1, 1) := by decide +kernel
theorem dX8_window_31 : decode cX8_window 31 = .ok (.iload_n 2, 1) := by decide +kernel
theorem dX8_window_32 : decode cX8_window 32 = .ok (.invokevirtual 268, 3) := by decide +kernel
theorem dX8_window_35 : decode cX8_window 35 = .ok (.ireturn, 1) := by decide +kernel
set_option maxRecDepth 20000 in
theorem ggX8_doneIn_X2_copyFrom : GoodIn wsX8_doneIn wsX2_copyFrom := goodIn_r _ [9, 10, 11, 12, 13, 14, 15, 16, 17, 18, 19, 20, 21, 22, 23, 24, 25, 26, 27, 28, 29, 30, 31, 32, 33, 34, 35, 36, 37, 38, 39, 40, 41, 42, 43, 44, 45, 46, 47, 48, 49, 50, 51, 52, 53, 54, 55, 56, 57, 58, 59, 60, 61, 62, 63, 64, 65, 66, 67, 68, 69, 70, 71, 72, 73, 74, 75, 76, 77, 78, 79, 208, 209, 210, 211, 212, 213, 214, 215, 216, 217, 220, 221, 222, 223, 224, 225, 226, 227, 228, 229, 230, 231, 232, 218, 219, 233, 234, 235, 236, 237, 238, 239] (by decide +kernel) (by decide +kernel)
set_option maxRecDepth 20000 in
theorem gX8_doneIn_X2_copyFrom : GoodIn wsX8_doneIn (wsV RX8 215 RX2 yX2_copyFrom wsX2_copyFrom) := goodIn_app (goodIn_of _ (by decide +kernel)) ggX8_doneIn_X2_copyFrom
set_option maxRecDepth 20000 in
theorem ggX8_doneIn_X2_runHour : GoodIn wsX8_doneIn wsX2_runHour := goodIn_r _ [83, 13, 17, 14, 23, 84, 85, 86, 48, 87, 53, 52, 88, 89, 90, 91, 92, 93, 94, 8, 95, 96, 15, 97, 11, 98, 99, 100, 101, 57, 102, 61, 59, 103, 104, 105, 65, 106, 71, 70, 107, 108, 109, 110, 10, 111, 112, 113, 114, 115, 116, 117, 118, 119, 120, 121, 122, 123, 124, 69, 125, 126, 127, 128, 129, 130, 131, 132, 133, 134, 12, 135, 136, 137, 138, 39, 139, 44, 41, 43, 140, 141, 142, 143, 68, 144, 67, 145, 146, 147, 148, 50, 149, 150, 151, 152, 16, 153, 154, 155, 75, 156, 79, 77, 157, 158, 159, 27, 160, 30, 161, 162, 163, 164, 165, 166, 167, 168, 169, 170, 22, 171, 172, 173, 174, 31, 175, 176, 177, 178, 179, 180, 181, 182, 183, 184, 185, 186, 187, 188, 189, 190, 191, 192, 193, 194, 195, 196, 197, 198, 199, 200, 201, 32, 33, 208, 209, 210, 211, 212, 213, 214, 215, 216, 217, 230, 231, 232, 218, 219, 233, 234, 235, 236, 237, 220, 221, 222, 223, 224, 225, 226, 227, 228, 229, 238, 239] (by decide +kernel) (by decide +kernel)
set_option maxRecDepth 20000 in
theorem gX8_doneIn_X2_runHour : GoodIn wsX8_doneIn (wsV RX8 271 RX2 yX2_runHour wsX2_runHour) := goodIn_app (goodIn_of _ (by decide +kernel)) ggX8_doneIn_X2_runHour
theorem dX8_doneIn_0 : decode cX8_doneIn 0 = .ok (.aload_n 0, 1) := by decide +kernel
theorem dX8_doneIn_1 : decode cX8_doneIn 1 = .ok (.getfield 16, 3) := by decide +kernel
theorem dX8_doneIn_4 : decode cX8_doneIn 4 = .ok (.aload_n 0, 1) := by decide +kernel
theorem dX8_doneIn_5 : decode cX8_doneIn 5 = .ok (.getfield 10, 3) := by decide +kernel
theorem dX8_doneIn_8 : decode cX8_doneIn 8 = .ok (.invokevirtual 215, 3) := by decide +kernel
theorem dX8_doneIn_11 : decode cX8_doneIn 11 = .ok (.iconst 0, 1) := by decide +kernel
theorem dX8_doneIn_12 : decode cX8_doneIn 12 = .ok (.istore_n 1, 1) := by decide +kernel
theorem dX8_doneIn_13 : decode cX8_doneIn 13 = .ok (.iload_n 1, 1) := by decide +kernel
theorem dX8_doneIn_14 : decode cX8_doneIn 14 = .ok (.sipush 500, 3) := by decide +kernel
theorem dX8_doneIn_17 : decode cX8_doneIn 17 = .ok (.if_icmp .gt 32, 3) := by decide +kernel
theorem dX8_doneIn_20 : decode cX8_doneIn 20 = .ok (.aload_n 0, 1) := by decide +kernel
theorem dX8_doneIn_21 : decode cX8_doneIn 21 = .ok (.getfield 16, 3) := by decide +kernel
theorem dX8_doneIn_24 : decode cX8_doneIn 24 = .ok (.getfield 125, 3) := by decide +kernel
theorem dX8_doneIn_27 : decode cX8_doneIn 27 = .ok (.getfield 142, 3) := by decide +kernel
theorem dX8_doneIn_30 : decode cX8_doneIn 30 = .ok (.ifCond .ne 5, 3) := by decide +kernel
theorem dX8_doneIn_33 : decode cX8_doneIn 33 = .ok (.iload_n 1, 1) := by decide +kernel
theorem dX8_doneIn_34 : decode cX8_doneIn 34 = .ok (.ireturn, 1) := by decide +kernel
theorem dX8_doneIn_35 : decode cX8_doneIn 35 = .ok (.aload_n 0, 1) := by decide +kernel
theorem dX8_doneIn_36 : decode cX8_doneIn 36 = .ok (.getfield 16, 3) := by decide +kernel
theorem dX8_doneIn_39 : decode cX8_doneIn 39 = .ok (.invokevirtual 271, 3) := by decide +kernel
theorem dX8_doneIn_42 : decode cX8_doneIn 42 = .ok (.pop, 1) := by decide +kernel
theorem dX8_doneIn_43 : decode cX8_doneIn 43 = .ok (.iinc 1 1, 3) := by decide +kernel
theorem dX8_doneIn_46 : decode cX8_doneIn 46 = .ok (.goto (-33), 3) := by decide +kernel
theorem dX8_doneIn_49 : decode cX8_doneIn 49 = .ok (.iconst (-1), 1) := by decide +kernel
theorem dX8_doneIn_50 : decode cX8_doneIn 50 = .ok (.ireturn, 1) := by decide +kernel
set_option maxRecDepth 20000 in
theorem ggX8_meanWind_X7_sum : GoodIn wsX8_meanWind wsX7_sum := goodIn_r _ [9, 10, 11, 28, 29] (by decide +kernel) (by decide +kernel)
set_option maxRecDepth 20000 in
theorem gX8_meanWind_X7_sum : GoodIn wsX8_meanWind (wsV RX8 274 RX7 yX7_sum wsX7_sum) := goodIn_app (goodIn_of _ (by decide +kernel)) ggX8_meanWind_X7_sum
theorem dX8_meanWind_0 : decode cX8_meanWind 0 = .ok (.aload_n 0, 1) := by decide +kernel
theorem dX8_meanWind_1 : decode cX8_meanWind 1 = .ok (.getfield 10, 3) := by decide +kernel
theorem dX8_meanWind_4 : decode cX8_meanWind 4 = .ok (.getfield 202, 3) := by decide +kernel
theorem dX8_meanWind_7 : decode cX8_meanWind 7 = .ok (.getfield 210, 3) := by decide +kernel
theorem dX8_meanWind_10 : decode cX8_meanWind 10 = .ok (.istore_n 1, 1) := by decide +kernel
theorem dX8_meanWind_11 : decode cX8_meanWind 11 = .ok (.iload_n 1, 1) := by decide +kernel
theorem dX8_meanWind_12 : decode cX8_meanWind 12 = .ok (.ifCond .le 20, 3) := by decide +kernel
theorem dX8_meanWind_15 : decode cX8_meanWind 15 = .ok (.aload_n 0, 1) := by decide +kernel
theorem dX8_meanWind_16 : decode cX8_meanWind 16 = .ok (.getfield 10, 3) := by decide +kernel
theorem dX8_meanWind_19 : decode cX8_meanWind 19 = .ok (.getfield 202, 3) := by decide +kernel
theorem dX8_meanWind_22 : decode cX8_meanWind 22 = .ok (.invokevirtual 274, 3) := by decide +kernel
theorem dX8_meanWind_25 : decode cX8_meanWind 25 = .ok (.i2f, 1) := by decide +kernel
theorem dX8_meanWind_26 : decode cX8_meanWind 26 = .ok (.iload_n 1, 1) := by decide +kernel
theorem dX8_meanWind_27 : decode cX8_meanWind 27 = .ok (.i2f, 1) := by decide +kernel
theorem dX8_meanWind_28 : decode cX8_meanWind 28 = .ok (.fdiv, 1) := by decide +kernel
theorem dX8_meanWind_29 : decode cX8_meanWind 29 = .ok (.goto 6, 3) := by decide +kernel
theorem dX8_meanWind_32 : decode cX8_meanWind 32 = .ok (.ldc_w 277, 3) := by decide +kernel
theorem dX8_meanWind_35 : decode cX8_meanWind 35 = .ok (.freturn, 1) := by decide +kernel
set_option maxRecDepth 20000 in
theorem ggX8_lostShare_X2_lostPower : GoodIn wsX8_lostShare wsX2_lostPower := goodIn_r _ [6, 7, 21, 22, 23, 24, 25, 26, 27, 28, 29, 30] (by decide +kernel) (by decide +kernel)
set_option maxRecDepth 20000 in
theorem gX8_lostShare_X2_lostPower : GoodIn wsX8_lostShare (wsV RX8 278 RX2 yX2_lostPower wsX2_lostPower) := goodIn_app (goodIn_of _ (by decide +kernel)) ggX8_lostShare_X2_lostPower
set_option maxRecDepth 20000 in
theorem ggX8_lostShare_X2_wonPower : GoodIn wsX8_lostShare wsX2_wonPower := goodIn_r _ [11, 12, 13, 14, 21, 22, 23, 24, 25, 26, 27, 28, 29, 30, 31, 32, 33, 34, 35, 36, 37] (by decide +kernel) (by decide +kernel)
set_option maxRecDepth 20000 in
theorem gX8_lostShare_X2_wonPower : GoodIn wsX8_lostShare (wsV RX8 281 RX2 yX2_wonPower wsX2_wonPower) := goodIn_app (goodIn_of _ (by decide +kernel)) ggX8_lostShare_X2_wonPower
theorem dX8_lostShare_0 : decode cX8_lostShare 0 = .ok (.aload_n 0, 1) := by decide +kernel
theorem dX8_lostShare_1 : decode cX8_lostShare 1 = .ok (.getfield 10, 3) := by decide +kernel
theorem dX8_lostShare_4 : decode cX8_lostShare 4 = .ok (.invokevirtual 278, 3) := by decide +kernel
theorem dX8_lostShare_7 : decode cX8_lostShare 7 = .ok (.istore_n 1, 1) := by decide +kernel
theorem dX8_lostShare_8 : decode cX8_lostShare 8 = .ok (.iload_n 1, 1) := by decide +kernel
theorem dX8_lostShare_9 : decode cX8_lostShare 9 = .ok (.aload_n 0, 1) := by decide +kernel
theorem dX8_lostShare_10 : decode cX8_lostShare 10 = .ok (.getfield 10, 3) := by decide +kernel
theorem dX8_lostShare_13 : decode cX8_lostShare 13 = .ok (.invokevirtual 281, 3) := by decide +kernel
theorem dX8_lostShare_16 : decode cX8_lostShare 16 = .ok (.iadd, 1) := by decide +kernel
theorem dX8_lostShare_17 : decode cX8_lostShare 17 = .ok (.istore_n 2, 1) := by decide +kernel
theorem dX8_lostShare_18 : decode cX8_lostShare 18 = .ok (.iload_n 2, 1) := by decide +kernel
theorem dX8_lostShare_19 : decode cX8_lostShare 19 = .ok (.ifCond .le 11, 3) := by decide +kernel
theorem dX8_lostShare_22 : decode cX8_lostShare 22 = .ok (.iload_n 1, 1) := by decide +kernel
theorem dX8_lostShare_23 : decode cX8_lostShare 23 = .ok (.i2d, 1) := by decide +kernel
theorem dX8_lostShare_24 : decode cX8_lostShare 24 = .ok (.iload_n 2, 1) := by decide +kernel
theorem dX8_lostShare_25 : decode cX8_lostShare 25 = .ok (.i2d, 1) := by decide +kernel
theorem dX8_lostShare_26 : decode cX8_lostShare 26 = .ok (.ddiv, 1) := by decide +kernel
theorem dX8_lostShare_27 : decode cX8_lostShare 27 = .ok (.goto 4, 3) := by decide +kernel
theorem dX8_lostShare_30 : decode cX8_lostShare 30 = .ok (.dconst 0, 1) := by decide +kernel
theorem dX8_lostShare_31 : decode cX8_lostShare 31 = .ok (.dreturn, 1) := by decide +kernel
theorem dX8_isWithin_0 : decode cX8_isWithin 0 = .ok (.iload_n 0, 1) := by decide +kernel
theorem dX8_isWithin_1 : decode cX8_isWithin 1 = .ok (.iload_n 1, 1) := by decide +kernel
theorem dX8_isWithin_2 : decode cX8_isWithin 2 = .ok (.if_icmp .lt 12, 3) := by decide +kernel
theorem dX8_isWithin_5 : decode cX8_isWithin 5 = .ok (.iload_n 0, 1) := by decide +kernel
theorem dX8_isWithin_6 : decode cX8_isWithin 6 = .ok (.iload_n 2, 1) := by decide +kernel
theorem dX8_isWithin_7 : decode cX8_isWithin 7 = .ok (.if_icmp .gt 7, 3) := by decide +kernel
theorem dX8_isWithin_10 : decode cX8_isWithin 10 = .ok (.iconst 1, 1) := by decide +kernel
theorem dX8_isWithin_11 : decode cX8_isWithin 11 = .ok (.goto 4, 3) := by decide +kernel
theorem dX8_isWithin_14 : decode cX8_isWithin 14 = .ok (.iconst 0, 1) := by decide +kernel
theorem dX8_isWithin_15 : decode cX8_isWithin 15 = .ok (.ireturn, 1) := by decide +kernel
set_option maxRecDepth 20000 in
theorem ggX8_requireTurbine_X2_hasTurbine : GoodIn wsX8_requireTurbine wsX2_hasTurbine := goodIn_r _ [8, 9, 16, 17, 18, 19, 20, 21, 22, 23, 24, 25] (by decide +kernel) (by decide +kernel)
set_option maxRecDepth 20000 in
theorem gX8_requireTurbine_X2_hasTurbine : GoodIn wsX8_requireTurbine (wsV RX8 319 RX2 yX2_hasTurbine wsX2_hasTurbine) := goodIn_app (goodIn_of _ (by decide +kernel)) ggX8_requireTurbine_X2_hasTurbine
theorem dX8_requireTurbine_0 : decode cX8_requireTurbine 0 = .ok (.aload_n 0, 1) := by decide +kernel
theorem dX8_requireTurbine_1 : decode cX8_requireTurbine 1 = .ok (.getfield 10, 3) := by decide +kernel
theorem dX8_requireTurbine_4 : decode cX8_requireTurbine 4 = .ok (.iload_n 1, 1) := by decide +kernel
theorem dX8_requireTurbine_5 : decode cX8_requireTurbine 5 = .ok (.invokevirtual 319, 3) := by decide +kernel
theorem dX8_requireTurbine_8 : decode cX8_requireTurbine 8 = .ok (.ifCond .ne 14, 3) := by decide +kernel
theorem dX8_requireTurbine_11 : decode cX8_requireTurbine 11 = .ok (.new 134, 3) := by decide +kernel
theorem dX8_requireTurbine_14 : decode cX8_requireTurbine 14 = .ok (.dup, 1) := by decide +kernel
theorem dX8_requireTurbine_15 : decode cX8_requireTurbine 15 = .ok (.ldc_w 322, 3) := by decide +kernel
theorem dX8_requireTurbine_18 : decode cX8_requireTurbine 18 = .ok (.invokespecial 138, 3) := by decide +kernel
theorem dX8_requireTurbine_21 : decode cX8_requireTurbine 21 = .ok (.athrow, 1) := by decide +kernel
theorem dX8_requireTurbine_22 : decode cX8_requireTurbine 22 = .ok (.return_, 1) := by decide +kernel
set_option maxRecDepth 20000 in
theorem ggX8_requireSetting_X8_isWithin : GoodIn wsX8_requireSetting wsX8_isWithin := goodIn_r _ [6] (by decide +kernel) (by decide +kernel)
set_option maxRecDepth 20000 in
theorem gX8_requireSetting_X8_isWithin : GoodIn wsX8_requireSetting (va_wsS RX8 37 yX8_isWithin wsX8_isWithin) := goodIn_app (goodIn_of _ (by decide +kernel)) ggX8_requireSetting_X8_isWithin
theorem dX8_requireSetting_0 : decode cX8_requireSetting 0 = .ok (.iload_n 0, 1) := by decide +kernel
theorem dX8_requireSetting_1 : decode cX8_requireSetting 1 = .ok (.iconst 0, 1) := by decide +kernel
theorem dX8_requireSetting_2 : decode cX8_requireSetting 2 = .ok (.bipush 6, 2) := by decide +kernel
theorem dX8_requireSetting_4 : decode cX8_requireSetting 4 = .ok (.invokestatic 37, 3) := by decide +kernel
theorem dX8_requireSetting_7 : decode cX8_requireSetting 7 = .ok (.ifCond .ne 14, 3) := by decide +kernel
theorem dX8_requireSetting_10 : decode cX8_requireSetting 10 = .ok (.new 134, 3) := by decide +kernel
theorem dX8_requireSetting_13 : decode cX8_requireSetting 13 = .ok (.dup, 1) := by decide +kernel
theorem dX8_requireSetting_14 : decode cX8_requireSetting 14 = .ok (.ldc_w 324, 3) := by decide +kernel
theorem dX8_requireSetting_17 : decode cX8_requireSetting 17 = .ok (.invokespecial 138, 3) := by decide +kernel
theorem dX8_requireSetting_20 : decode cX8_requireSetting 20 = .ok (.athrow, 1) := by decide +kernel
theorem dX8_requireSetting_21 : decode cX8_requireSetting 21 = .ok (.return_, 1) := by decide +kernel
set_option maxRecDepth 20000 in
theorem ggX8_saveState_X2_copyFrom : GoodIn wsX8_saveState wsX2_copyFrom := goodIn_r _ [9, 10, 11, 12, 13, 14, 15, 16, 17, 18, 19, 20, 21, 22, 23, 24, 25, 26, 27, 28, 29, 30, 31, 32, 33, 34, 35, 36, 37, 38, 39, 40, 41, 42, 43, 44, 45, 46, 47, 48, 49, 50, 51, 52, 53, 54, 55, 56, 57, 58, 59, 60, 61, 62, 63, 64, 65, 66, 67, 68, 69, 70, 71, 72, 73, 74, 75, 76, 77, 78, 79, 86, 87, 88, 89, 90, 91, 92, 93, 94, 95, 96, 97, 98, 99, 100, 101, 102, 103, 104, 105, 106, 107, 108, 109, 110, 111, 112, 113, 114, 115, 116, 117] (by decide +kernel) (by decide +kernel)
set_option maxRecDepth 20000 in
theorem gX8_saveState_X2_copyFrom : GoodIn wsX8_saveState (wsV RX8 215 RX2 yX2_copyFrom wsX2_copyFrom) := goodIn_app (goodIn_of _ (by decide +kernel)) ggX8_saveState_X2_copyFrom
theorem dX8_saveState_0 : decode cX8_saveState 0 = .ok (.aload_n 0, 1) := by decide +kernel
theorem dX8_saveState_1 : decode cX8_saveState 1 = .ok (.getfield 19, 3) := by decide +kernel
theorem dX8_saveState_4 : decode cX8_saveState 4 = .ok (.aload_n 0, 1) := by decide +kernel
theorem dX8_saveState_5 : decode cX8_saveState 5 = .ok (.getfield 23, 3) := by decide +kernel
theorem dX8_saveState_8 : decode cX8_saveState 8 = .ok (.aload_n 0, 1) := by decide +kernel
theorem dX8_saveState_9 : decode cX8_saveState 9 = .ok (.getfield 27, 3) := by decide +kernel
theorem dX8_saveState_12 : decode cX8_saveState 12 = .ok (.iadd, 1) := by decide +kernel
theorem dX8_saveState_13 : decode cX8_saveState 13 = .ok (.bipush 6, 2) := by decide +kernel
theorem dX8_saveState_15 : decode cX8_saveState 15 = .ok (.irem, 1) := by decide +kernel
theorem dX8_saveState_16 : decode cX8_saveState 16 = .ok (.aaload, 1) := by decide +kernel
theorem dX8_saveState_17 : decode cX8_saveState 17 = .ok (.aload_n 0, 1) := by decide +kernel
theorem dX8_saveState_18 : decode cX8_saveState 18 = .ok (.getfield 10, 3) := by decide +kernel
theorem dX8_saveState_21 : decode cX8_saveState 21 = .ok (.invokevirtual 215, 3) := by decide +kernel
theorem dX8_saveState_24 : decode cX8_saveState 24 = .ok (.aload_n 0, 1) := by decide +kernel
theorem dX8_saveState_25 : decode cX8_saveState 25 = .ok (.getfield 27, 3) := by decide +kernel
theorem dX8_saveState_28 : decode cX8_saveState 28 = .ok (.bipush 6, 2) := by decide +kernel
theorem dX8_saveState_30 : decode cX8_saveState 30 = .ok (.if_icmp .ge 16, 3) := by decide +kernel
theorem dX8_saveState_33 : decode cX8_saveState 33 = .ok (.aload_n 0, 1) := by decide +kernel
theorem dX8_saveState_34 : decode cX8_saveState 34 = .ok (.dup, 1) := by decide +kernel
theorem dX8_saveState_35 : decode cX8_saveState 35 = .ok (.getfield 27, 3) := by decide +kernel
theorem dX8_saveState_38 : decode cX8_saveState 38 = .ok (.iconst 1, 1) := by decide +kernel
theorem dX8_saveState_39 : decode cX8_saveState 39 = .ok (.iadd, 1) := by decide +kernel
theorem dX8_saveState_40 : decode cX8_saveState 40 = .ok (.putfield 27, 3) := by decide +kernel
theorem dX8_saveState_43 : decode cX8_saveState 43 = .ok (.goto 16, 3) := by decide +kernel
theorem dX8_saveState_46 : decode cX8_saveState 46 = .ok (.aload_n 0, 1) := by decide +kernel
theorem dX8_saveState_47 : decode cX8_saveState 47 = .ok (.aload_n 0, 1) := by decide +kernel
theorem dX8_saveState_48 : decode cX8_saveState 48 = .ok (.getfield 23, 3) := by decide +kernel
theorem dX8_saveState_51 : decode cX8_saveState 51 = .ok (.iconst 1, 1) := by decide +kernel
theorem dX8_saveState_52 : decode cX8_saveState 52 = .ok (.iadd, 1) := by decide +kernel
theorem dX8_saveState_53 : decode cX8_saveState 53 = .ok (.bipush 6, 2) := by decide +kernel
theorem dX8_saveState_55 : decode cX8_saveState 55 = .ok (.irem, 1) := by decide +kernel
theorem dX8_saveState_56 : decode cX8_saveState 56 = .ok (.putfield 23, 3) := by decide +kernel
theorem dX8_saveState_59 : decode cX8_saveState 59 = .ok (.return_, 1) := by decide +kernel
set_option maxRecDepth 20000 in
theorem ggX8_numberOf_X2_faultCount : GoodIn wsX8_numberOf wsX2_faultCount := goodIn_r _ [19, 20, 21, 22, 66, 67, 68, 69, 70, 71, 72, 73, 74, 75, 88, 89, 90, 91, 92, 93, 94] (by decide +kernel) (by decide +kernel)
set_option maxRecDepth 20000 in
theorem gX8_numberOf_X2_faultCount : GoodIn wsX8_numberOf (wsV RX8 330 RX2 yX2_faultCount wsX2_faultCount) := goodIn_app (goodIn_of _ (by decide +kernel)) ggX8_numberOf_X2_faultCount
set_option maxRecDepth 20000 in
theorem ggX8_numberOf_X2_windNow : GoodIn wsX8_numberOf wsX2_windNow := goodIn_r _ [26, 27, 28, 29, 30, 31, 32, 33, 34, 35, 66, 67, 68, 69, 70, 71, 72, 73, 74, 75, 76, 77] (by decide +kernel) (by decide +kernel)
set_option maxRecDepth 20000 in
theorem gX8_numberOf_X2_windNow : GoodIn wsX8_numberOf (wsV RX8 333 RX2 yX2_windNow wsX2_windNow) := goodIn_app (goodIn_of _ (by decide +kernel)) ggX8_numberOf_X2_windNow
set_option maxRecDepth 20000 in
theorem ggX8_numberOf_X4_first : GoodIn wsX8_numberOf wsX4_first := goodIn_r _ [40, 41, 42, 78, 79] (by decide +kernel) (by decide +kernel)
set_option maxRecDepth 20000 in
theorem gX8_numberOf_X4_first : GoodIn wsX8_numberOf (wsV RX8 336 RX4 yX4_first wsX4_first) := goodIn_app (goodIn_of _ (by decide +kernel)) ggX8_numberOf_X4_first
set_option maxRecDepth 20000 in
theorem ggX8_numberOf_X1_workOn : GoodIn wsX8_numberOf wsX1_workOn := goodIn_r _ [47, 48, 49, 80, 81, 82, 83, 84] (by decide +kernel) (by decide +kernel)
set_option maxRecDepth 20000 in
theorem gX8_numberOf_X1_workOn : GoodIn wsX8_numberOf (wsV RX8 349 RX1 yX1_workOn wsX1_workOn) := goodIn_app (goodIn_of _ (by decide +kernel)) ggX8_numberOf_X1_workOn
set_option maxRecDepth 20000 in
theorem ggX8_numberOf_X2_lostPower : GoodIn wsX8_numberOf wsX2_lostPower := goodIn_r _ [53, 54, 66, 67, 68, 69, 70, 71, 72, 73, 74, 75] (by decide +kernel) (by decide +kernel)
set_option maxRecDepth 20000 in
theorem gX8_numberOf_X2_lostPower : GoodIn wsX8_numberOf (wsV RX8 278 RX2 yX2_lostPower wsX2_lostPower) := goodIn_app (goodIn_of _ (by decide +kernel)) ggX8_numberOf_X2_lostPower
set_option maxRecDepth 20000 in
theorem ggX8_numberOf_X2_wonPower : GoodIn wsX8_numberOf wsX2_wonPower := goodIn_r _ [58, 20, 21, 59, 66, 67, 68, 69, 70, 71, 72, 73, 74, 75, 88, 89, 90, 91, 92, 93, 94] (by decide +kernel) (by decide +kernel)
set_option maxRecDepth 20000 in
theorem gX8_numberOf_X2_wonPower : GoodIn wsX8_numberOf (wsV RX8 281 RX2 yX2_wonPower wsX2_wonPower) := goodIn_app (goodIn_of _ (by decide +kernel)) ggX8_numberOf_X2_wonPower
theorem dX8_numberOf_0 : decode cX8_numberOf 0 = .ok (.aload_n 0, 1) := by decide +kernel
theorem dX8_numberOf_1 : decode cX8_numberOf 1 = .ok (.getfield 10, 3) := by decide +kernel
theorem dX8_numberOf_4 : decode cX8_numberOf 4 = .ok (.getfield 326, 3) := by decide +kernel
theorem dX8_numberOf_7 : decode cX8_numberOf 7 = .ok (.astore_n 2, 1) := by decide +kernel
theorem dX8_numberOf_8 : decode cX8_numberOf 8 = .ok (.iload_n 1, 1) := by decide +kernel
theorem dX8_numberOf_9 : decode cX8_numberOf 9 = .ok (.tableswitch 193 0 13 #[71, 79, 87, 95, 103, 114, 125, 136, 141, 146, 151, 166, 174, 182], 71) := by decide +kernel
theorem dX8_numberOf_80 : decode cX8_numberOf 80 = .ok (.aload_n 0, 1) := by decide +kernel
theorem dX8_numberOf_81 : decode cX8_numberOf 81 = .ok (.getfield 10, 3) := by decide +kernel
theorem dX8_numberOf_84 : decode cX8_numberOf 84 = .ok (.getfield 48, 3) := by decide +kernel
theorem dX8_numberOf_87 : decode cX8_numberOf 87 = .ok (.ireturn, 1) := by decide +kernel
theorem dX8_numberOf_88 : decode cX8_numberOf 88 = .ok (.aload_n 0, 1) := by decide +kernel
theorem dX8_numberOf_89 : decode cX8_numberOf 89 = .ok (.getfield 10, 3) := by decide +kernel
theorem dX8_numberOf_92 : decode cX8_numberOf 92 = .ok (.invokevirtual 330, 3) := by decide +kernel
theorem dX8_numberOf_95 : decode cX8_numberOf 95 = .ok (.ireturn, 1) := by decide +kernel
theorem dX8_numberOf_96 : decode cX8_numberOf 96 = .ok (.aload_n 0, 1) := by decide +kernel
theorem dX8_numberOf_97 : decode cX8_numberOf 97 = .ok (.getfield 10, 3) := by decide +kernel
theorem dX8_numberOf_100 : decode cX8_numberOf 100 = .ok (.getfield 170, 3) := by decide +kernel
theorem dX8_numberOf_103 : decode cX8_numberOf 103 = .ok (.ireturn, 1) := by decide +kernel
theorem dX8_numberOf_104 : decode cX8_numberOf 104 = .ok (.aload_n 0, 1) := by decide +kernel
theorem dX8_numberOf_105 : decode cX8_numberOf 105 = .ok (.getfield 10, 3) := by decide +kernel
theorem dX8_numberOf_108 : decode cX8_numberOf 108 = .ok (.invokevirtual 333, 3) := by decide +kernel
theorem dX8_numberOf_111 : decode cX8_numberOf 111 = .ok (.ireturn, 1) := by decide +kernel
theorem dX8_numberOf_112 : decode cX8_numberOf 112 = .ok (.aload_n 0, 1) := by decide +kernel
theorem dX8_numberOf_113 : decode cX8_numberOf 113 = .ok (.getfield 10, 3) := by decide +kernel
theorem dX8_numberOf_116 : decode cX8_numberOf 116 = .ok (.getfield 202, 3) := by decide +kernel
theorem dX8_numberOf_119 : decode cX8_numberOf 119 = .ok (.getfield 210, 3) := by decide +kernel
theorem dX8_numberOf_122 : decode cX8_numberOf 122 = .ok (.ireturn, 1) := by decide +kernel
theorem dX8_numberOf_123 : decode cX8_numberOf 123 = .ok (.aload_n 0, 1) := by decide +kernel
theorem dX8_numberOf_124 : decode cX8_numberOf 124 = .ok (.getfield 10, 3) := by decide +kernel
theorem dX8_numberOf_127 : decode cX8_numberOf 127 = .ok (.getfield 125, 3) := by decide +kernel
theorem dX8_numberOf_130 : decode cX8_numberOf 130 = .ok (.getfield 142, 3) := by decide +kernel
theorem dX8_numberOf_133 : decode cX8_numberOf 133 = .ok (.ireturn, 1) := by decide +kernel
theorem dX8_numberOf_134 : decode cX8_numberOf 134 = .ok (.aload_n 0, 1) := by decide +kernel
theorem dX8_numberOf_135 : decode cX8_numberOf 135 = .ok (.getfield 10, 3) := by decide +kernel
theorem dX8_numberOf_138 : decode cX8_numberOf 138 = .ok (.getfield 125, 3) := by decide +kernel
theorem dX8_numberOf_141 : decode cX8_numberOf 141 = .ok (.invokevirtual 336, 3) := by decide +kernel
theorem dX8_numberOf_144 : decode cX8_numberOf 144 = .ok (.ireturn, 1) := by decide +kernel
theorem dX8_numberOf_145 : decode cX8_numberOf 145 = .ok (.aload_n 2, 1) := by decide +kernel
theorem dX8_numberOf_146 : decode cX8_numberOf 146 = .ok (.getfield 339, 3) := by decide +kernel
theorem dX8_numberOf_149 : decode cX8_numberOf 149 = .ok (.ireturn, 1) := by decide +kernel
theorem dX8_numberOf_150 : decode cX8_numberOf 150 = .ok (.aload_n 2, 1) := by decide +kernel
theorem dX8_numberOf_151 : decode cX8_numberOf 151 = .ok (.getfield 343, 3) := by decide +kernel
theorem dX8_numberOf_154 : decode cX8_numberOf 154 = .ok (.ireturn, 1) := by decide +kernel
theorem dX8_numberOf_155 : decode cX8_numberOf 155 = .ok (.aload_n 2, 1) := by decide +kernel
theorem dX8_numberOf_156 : decode cX8_numberOf 156 = .ok (.getfield 346, 3) := by decide +kernel
end
section
theorem dX8_numberOf_159 : decode cX8_numberOf 159 = .ok (.ireturn, 1) := by decide +kernel
theorem dX8_numberOf_160 : decode cX8_numberOf 160 = .ok (.aload_n 2, 1) := by decide +kernel
theorem dX8_numberOf_161 : decode cX8_numberOf 161 = .ok (.aload_n 0, 1) := by decide +kernel
theorem dX8_numberOf_162 : decode cX8_numberOf 162 = .ok (.getfield 10, 3) := by decide +kernel
theorem dX8_numberOf_165 : decode cX8_numberOf 165 = .ok (.getfield 125, 3) := by decide +kernel
theorem dX8_numberOf_168 : decode cX8_numberOf 168 = .ok (.invokevirtual 336, 3) := by decide +kernel
theorem dX8_numberOf_171 : decode cX8_numberOf 171 = .ok (.invokevirtual 349, 3) := by decide +kernel
theorem dX8_numberOf_174 : decode cX8_numberOf 174 = .ok (.ireturn, 1) := by decide +kernel
theorem dX8_numberOf_175 : decode cX8_numberOf 175 = .ok (.aload_n 0, 1) := by decide +kernel
theorem dX8_numberOf_176 : decode cX8_numberOf 176 = .ok (.getfield 10, 3) := by decide +kernel
theorem dX8_numberOf_179 : decode cX8_numberOf 179 = .ok (.invokevirtual 278, 3) := by decide +kernel
theorem dX8_numberOf_182 : decode cX8_numberOf 182 = .ok (.ireturn, 1) := by decide +kernel
theorem dX8_numberOf_183 : decode cX8_numberOf 183 = .ok (.aload_n 0, 1) := by decide +kernel
theorem dX8_numberOf_184 : decode cX8_numberOf 184 = .ok (.getfield 10, 3) := by decide +kernel
theorem dX8_numberOf_187 : decode cX8_numberOf 187 = .ok (.invokevirtual 281, 3) := by decide +kernel
theorem dX8_numberOf_190 : decode cX8_numberOf 190 = .ok (.ireturn, 1) := by decide +kernel
theorem dX8_numberOf_191 : decode cX8_numberOf 191 = .ok (.aload_n 0, 1) := by decide +kernel
theorem dX8_numberOf_192 : decode cX8_numberOf 192 = .ok (.getfield 10, 3) := by decide +kernel
theorem dX8_numberOf_195 : decode cX8_numberOf 195 = .ok (.getfield 151, 3) := by decide +kernel
theorem dX8_numberOf_198 : decode cX8_numberOf 198 = .ok (.getfield 167, 3) := by decide +kernel
theorem dX8_numberOf_201 : decode cX8_numberOf 201 = .ok (.ireturn, 1) := by decide +kernel
theorem dX8_numberOf_202 : decode cX8_numberOf 202 = .ok (.aload_n 0, 1) := by decide +kernel
theorem dX8_numberOf_203 : decode cX8_numberOf 203 = .ok (.getfield 27, 3) := by decide +kernel
theorem dX8_numberOf_206 : decode cX8_numberOf 206 = .ok (.ireturn, 1) := by decide +kernel
theorem dJ9_abs_0f7a4_0 : decode cJ9_abs_0f7a4 0 = .ok (.iload_n 0, 1) := by decide +kernel
theorem dJ9_abs_0f7a4_1 : decode cJ9_abs_0f7a4 1 = .ok (.ifCond .ge 8, 3) := by decide +kernel
theorem dJ9_abs_0f7a4_4 : decode cJ9_abs_0f7a4 4 = .ok (.iload_n 0, 1) := by decide +kernel
theorem dJ9_abs_0f7a4_5 : decode cJ9_abs_0f7a4 5 = .ok (.ineg, 1) := by decide +kernel
theorem dJ9_abs_0f7a4_6 : decode cJ9_abs_0f7a4 6 = .ok (.goto 4, 3) := by decide +kernel
theorem dJ9_abs_0f7a4_9 : decode cJ9_abs_0f7a4 9 = .ok (.iload_n 0, 1) := by decide +kernel
theorem dJ9_abs_0f7a4_10 : decode cJ9_abs_0f7a4 10 = .ok (.ireturn, 1) := by decide +kernel
theorem dJ9_max_7cf53_0 : decode cJ9_max_7cf53 0 = .ok (.iload_n 0, 1) := by decide +kernel
theorem dJ9_max_7cf53_1 : decode cJ9_max_7cf53 1 = .ok (.iload_n 1, 1) := by decide +kernel
theorem dJ9_max_7cf53_2 : decode cJ9_max_7cf53 2 = .ok (.if_icmp .lt 7, 3) := by decide +kernel
theorem dJ9_max_7cf53_5 : decode cJ9_max_7cf53 5 = .ok (.iload_n 0, 1) := by decide +kernel
theorem dJ9_max_7cf53_6 : decode cJ9_max_7cf53 6 = .ok (.goto 4, 3) := by decide +kernel
theorem dJ9_max_7cf53_9 : decode cJ9_max_7cf53 9 = .ok (.iload_n 1, 1) := by decide +kernel
theorem dJ9_max_7cf53_10 : decode cJ9_max_7cf53 10 = .ok (.ireturn, 1) := by decide +kernel
theorem dJ9_min_7cf53_0 : decode cJ9_min_7cf53 0 = .ok (.iload_n 0, 1) := by decide +kernel
theorem dJ9_min_7cf53_1 : decode cJ9_min_7cf53 1 = .ok (.iload_n 1, 1) := by decide +kernel
theorem dJ9_min_7cf53_2 : decode cJ9_min_7cf53 2 = .ok (.if_icmp .gt 7, 3) := by decide +kernel
theorem dJ9_min_7cf53_5 : decode cJ9_min_7cf53 5 = .ok (.iload_n 0, 1) := by decide +kernel
theorem dJ9_min_7cf53_6 : decode cJ9_min_7cf53 6 = .ok (.goto 4, 3) := by decide +kernel
theorem dJ9_min_7cf53_9 : decode cJ9_min_7cf53 9 = .ok (.iload_n 1, 1) := by decide +kernel
theorem dJ9_min_7cf53_10 : decode cJ9_min_7cf53 10 = .ok (.ireturn, 1) := by decide +kernel
end
