section
-- ===== PART A: goes FIRST, ahead of the names: the tables' words, and 'selects' of the private methods out of them =====
/-- a private method of a class that the tables say can be made, by its rows of tables_1 -/
def lw_okq (q : MethodName × Nat) : Prop := (q.1.cls ≠ "java/lang/invoke/MethodHandle" ∧ q.1.cls ≠ "java/lang/invoke/VarHandle") ∧ Cond.instantiable q.1.cls q.2 ∈ tables_1 ∧ Cond.privateMethod q.1 ∈ tables_1 ∧ Cond.instanceMethod q.1 ∈ tables_1
theorem lw_p0 : lw_okq (⟨"CraneCampaign$Farm", "dropFaultless", "()V"⟩, 10) := ⟨⟨by decide +kernel, by decide +kernel⟩, List.mem_of_getElem? (i := 30) (by decide +kernel), List.mem_of_getElem? (i := 346) (by decide +kernel), List.mem_of_getElem? (i := 347) (by decide +kernel)⟩
theorem lw_p1 : lw_okq (⟨"CraneCampaign$Farm", "serve", "(I)I"⟩, 10) := ⟨⟨by decide +kernel, by decide +kernel⟩, List.mem_of_getElem? (i := 30) (by decide +kernel), List.mem_of_getElem? (i := 363) (by decide +kernel), List.mem_of_getElem? (i := 364) (by decide +kernel)⟩
theorem lw_p2 : lw_okq (⟨"CraneCampaign$Farm", "sharePower", "(II)I"⟩, 10) := ⟨⟨by decide +kernel, by decide +kernel⟩, List.mem_of_getElem? (i := 30) (by decide +kernel), List.mem_of_getElem? (i := 411) (by decide +kernel), List.mem_of_getElem? (i := 412) (by decide +kernel)⟩
theorem lw_p3 : lw_okq (⟨"CraneCampaign$Farm", "finishIfDone", "(I)V"⟩, 10) := ⟨⟨by decide +kernel, by decide +kernel⟩, List.mem_of_getElem? (i := 30) (by decide +kernel), List.mem_of_getElem? (i := 420) (by decide +kernel), List.mem_of_getElem? (i := 421) (by decide +kernel)⟩
theorem lw_p4 : lw_okq (⟨"CraneCampaign$Harbour", "removeAt", "(I)V"⟩, 3) := ⟨⟨by decide +kernel, by decide +kernel⟩, List.mem_of_getElem? (i := 58) (by decide +kernel), List.mem_of_getElem? (i := 428) (by decide +kernel), List.mem_of_getElem? (i := 429) (by decide +kernel)⟩
theorem lw_p5 : lw_okq (⟨"CraneCampaign$Farm", "worsen", "(I)V"⟩, 10) := ⟨⟨by decide +kernel, by decide +kernel⟩, List.mem_of_getElem? (i := 30) (by decide +kernel), List.mem_of_getElem? (i := 433) (by decide +kernel), List.mem_of_getElem? (i := 434) (by decide +kernel)⟩
theorem lw_p6 : lw_okq (⟨"CraneCampaign", "numberOf", "(I)I"⟩, 6) := ⟨⟨by decide +kernel, by decide +kernel⟩, List.mem_of_getElem? (i := 22) (by decide +kernel), List.mem_of_getElem? (i := 472) (by decide +kernel), List.mem_of_getElem? (i := 473) (by decide +kernel)⟩
theorem lw_p7 : lw_okq (⟨"CraneCampaign", "mixFarm", "(J)J"⟩, 6) := ⟨⟨by decide +kernel, by decide +kernel⟩, List.mem_of_getElem? (i := 22) (by decide +kernel), List.mem_of_getElem? (i := 490) (by decide +kernel), List.mem_of_getElem? (i := 491) (by decide +kernel)⟩
theorem lw_p8 : lw_okq (⟨"java/lang/Throwable", "fillInStackTrace", "(I)Ljava/lang/Throwable;"⟩, 6) := ⟨⟨by decide +kernel, by decide +kernel⟩, List.mem_of_getElem? (i := 573) (by decide +kernel), List.mem_of_getElem? (i := 571) (by decide +kernel), List.mem_of_getElem? (i := 572) (by decide +kernel)⟩
theorem lw_p9 : lw_okq (⟨"CraneCampaign", "saveState", "()V"⟩, 6) := ⟨⟨by decide +kernel, by decide +kernel⟩, List.mem_of_getElem? (i := 22) (by decide +kernel), List.mem_of_getElem? (i := 623) (by decide +kernel), List.mem_of_getElem? (i := 624) (by decide +kernel)⟩
theorem lw_p10 : lw_okq (⟨"CraneCampaign", "requireTurbine", "(I)V"⟩, 6) := ⟨⟨by decide +kernel, by decide +kernel⟩, List.mem_of_getElem? (i := 22) (by decide +kernel), List.mem_of_getElem? (i := 643) (by decide +kernel), List.mem_of_getElem? (i := 644) (by decide +kernel)⟩
theorem lw_p11 : lw_okq (⟨"CraneCampaign$Bogs", "removeAt", "(I)V"⟩, 3) := ⟨⟨by decide +kernel, by decide +kernel⟩, List.mem_of_getElem? (i := 38) (by decide +kernel), List.mem_of_getElem? (i := 687) (by decide +kernel), List.mem_of_getElem? (i := 688) (by decide +kernel)⟩
theorem lw_p12 : lw_okq (⟨"CraneCampaign$Bogs", "insert", "(II)V"⟩, 3) := ⟨⟨by decide +kernel, by decide +kernel⟩, List.mem_of_getElem? (i := 38) (by decide +kernel), List.mem_of_getElem? (i := 691) (by decide +kernel), List.mem_of_getElem? (i := 692) (by decide +kernel)⟩
theorem lw_p13 : lw_okq (⟨"CraneCampaign$WindText", "timesFrom", "(I)I"⟩, 2) := ⟨⟨by decide +kernel, by decide +kernel⟩, List.mem_of_getElem? (i := 219) (by decide +kernel), List.mem_of_getElem? (i := 798) (by decide +kernel), List.mem_of_getElem? (i := 799) (by decide +kernel)⟩
theorem lw_p14 : lw_okq (⟨"CraneCampaign$WindText", "valueFrom", "(I)I"⟩, 2) := ⟨⟨by decide +kernel, by decide +kernel⟩, List.mem_of_getElem? (i := 219) (by decide +kernel), List.mem_of_getElem? (i := 802) (by decide +kernel), List.mem_of_getElem? (i := 803) (by decide +kernel)⟩
theorem lw_p15 : lw_okq (⟨"CraneCampaignModel", "fails", "(I)I"⟩, 15) := ⟨⟨by decide +kernel, by decide +kernel⟩, List.mem_of_getElem? (i := 896) (by decide +kernel), List.mem_of_getElem? (i := 959) (by decide +kernel), List.mem_of_getElem? (i := 960) (by decide +kernel)⟩
def lw_privs_1 : List (MethodName × Nat) := [(⟨"CraneCampaign$Farm", "dropFaultless", "()V"⟩, 10), (⟨"CraneCampaign$Farm", "serve", "(I)I"⟩, 10), (⟨"CraneCampaign$Farm", "sharePower", "(II)I"⟩, 10), (⟨"CraneCampaign$Farm", "finishIfDone", "(I)V"⟩, 10), (⟨"CraneCampaign$Harbour", "removeAt", "(I)V"⟩, 3), (⟨"CraneCampaign$Farm", "worsen", "(I)V"⟩, 10), (⟨"CraneCampaign", "numberOf", "(I)I"⟩, 6), (⟨"CraneCampaign", "mixFarm", "(J)J"⟩, 6), (⟨"java/lang/Throwable", "fillInStackTrace", "(I)Ljava/lang/Throwable;"⟩, 6), (⟨"CraneCampaign", "saveState", "()V"⟩, 6), (⟨"CraneCampaign", "requireTurbine", "(I)V"⟩, 6), (⟨"CraneCampaign$Bogs", "removeAt", "(I)V"⟩, 3), (⟨"CraneCampaign$Bogs", "insert", "(II)V"⟩, 3), (⟨"CraneCampaign$WindText", "timesFrom", "(I)I"⟩, 2), (⟨"CraneCampaign$WindText", "valueFrom", "(I)I"⟩, 2), (⟨"CraneCampaignModel", "fails", "(I)I"⟩, 15)]
theorem lw_r1 : ∀ q ∈ lw_privs_1, lw_okq q := List.forall_mem_cons.mpr ⟨lw_p0, List.forall_mem_cons.mpr ⟨lw_p1, List.forall_mem_cons.mpr ⟨lw_p2, List.forall_mem_cons.mpr ⟨lw_p3, List.forall_mem_cons.mpr ⟨lw_p4, List.forall_mem_cons.mpr ⟨lw_p5, List.forall_mem_cons.mpr ⟨lw_p6, List.forall_mem_cons.mpr ⟨lw_p7, List.forall_mem_cons.mpr ⟨lw_p8, List.forall_mem_cons.mpr ⟨lw_p9, List.forall_mem_cons.mpr ⟨lw_p10, List.forall_mem_cons.mpr ⟨lw_p11, List.forall_mem_cons.mpr ⟨lw_p12, List.forall_mem_cons.mpr ⟨lw_p13, List.forall_mem_cons.mpr ⟨lw_p14, List.forall_mem_cons.mpr ⟨lw_p15, fun _ h => absurd h List.not_mem_nil⟩⟩⟩⟩⟩⟩⟩⟩⟩⟩⟩⟩⟩⟩⟩⟩
theorem lw_p16 : lw_okq (⟨"CraneCampaignModel", "save", "()V"⟩, 15) := ⟨⟨by decide +kernel, by decide +kernel⟩, List.mem_of_getElem? (i := 896) (by decide +kernel), List.mem_of_getElem? (i := 963) (by decide +kernel), List.mem_of_getElem? (i := 964) (by decide +kernel)⟩
theorem lw_p17 : lw_okq (⟨"CraneCampaignModel", "isTurbine", "(I)Z"⟩, 15) := ⟨⟨by decide +kernel, by decide +kernel⟩, List.mem_of_getElem? (i := 896) (by decide +kernel), List.mem_of_getElem? (i := 971) (by decide +kernel), List.mem_of_getElem? (i := 972) (by decide +kernel)⟩
theorem lw_p18 : lw_okq (⟨"CraneCampaignModel", "placeOf", "(I)I"⟩, 15) := ⟨⟨by decide +kernel, by decide +kernel⟩, List.mem_of_getElem? (i := 896) (by decide +kernel), List.mem_of_getElem? (i := 993) (by decide +kernel), List.mem_of_getElem? (i := 994) (by decide +kernel)⟩
theorem lw_p19 : lw_okq (⟨"CraneCampaignModel", "takeOff", "(I)V"⟩, 15) := ⟨⟨by decide +kernel, by decide +kernel⟩, List.mem_of_getElem? (i := 896) (by decide +kernel), List.mem_of_getElem? (i := 997) (by decide +kernel), List.mem_of_getElem? (i := 998) (by decide +kernel)⟩
theorem lw_p20 : lw_okq (⟨"CraneCampaignModel", "goHours", "(I)I"⟩, 15) := ⟨⟨by decide +kernel, by decide +kernel⟩, List.mem_of_getElem? (i := 896) (by decide +kernel), List.mem_of_getElem? (i := 1013) (by decide +kernel), List.mem_of_getElem? (i := 1014) (by decide +kernel)⟩
theorem lw_p21 : lw_okq (⟨"CraneCampaignModel", "goHour", "()I"⟩, 15) := ⟨⟨by decide +kernel, by decide +kernel⟩, List.mem_of_getElem? (i := 896) (by decide +kernel), List.mem_of_getElem? (i := 1017) (by decide +kernel), List.mem_of_getElem? (i := 1018) (by decide +kernel)⟩
theorem lw_p22 : lw_okq (⟨"CraneCampaignModel", "unload", "()V"⟩, 15) := ⟨⟨by decide +kernel, by decide +kernel⟩, List.mem_of_getElem? (i := 896) (by decide +kernel), List.mem_of_getElem? (i := 1021) (by decide +kernel), List.mem_of_getElem? (i := 1022) (by decide +kernel)⟩
theorem lw_p23 : lw_okq (⟨"CraneCampaignModel", "forget", "()V"⟩, 15) := ⟨⟨by decide +kernel, by decide +kernel⟩, List.mem_of_getElem? (i := 896) (by decide +kernel), List.mem_of_getElem? (i := 1025) (by decide +kernel), List.mem_of_getElem? (i := 1026) (by decide +kernel)⟩
theorem lw_p24 : lw_okq (⟨"CraneCampaignModel", "windAt", "(I)I"⟩, 15) := ⟨⟨by decide +kernel, by decide +kernel⟩, List.mem_of_getElem? (i := 896) (by decide +kernel), List.mem_of_getElem? (i := 1029) (by decide +kernel), List.mem_of_getElem? (i := 1030) (by decide +kernel)⟩
theorem lw_p25 : lw_okq (⟨"CraneCampaignModel", "serve", "(II)I"⟩, 15) := ⟨⟨by decide +kernel, by decide +kernel⟩, List.mem_of_getElem? (i := 896) (by decide +kernel), List.mem_of_getElem? (i := 1033) (by decide +kernel), List.mem_of_getElem? (i := 1034) (by decide +kernel)⟩
theorem lw_p26 : lw_okq (⟨"CraneCampaignModel", "hoursOf", "(II)I"⟩, 15) := ⟨⟨by decide +kernel, by decide +kernel⟩, List.mem_of_getElem? (i := 896) (by decide +kernel), List.mem_of_getElem? (i := 1037) (by decide +kernel), List.mem_of_getElem? (i := 1038) (by decide +kernel)⟩
theorem lw_p27 : lw_okq (⟨"CraneCampaignModel", "bladeFor", "(I)I"⟩, 15) := ⟨⟨by decide +kernel, by decide +kernel⟩, List.mem_of_getElem? (i := 896) (by decide +kernel), List.mem_of_getElem? (i := 1041) (by decide +kernel), List.mem_of_getElem? (i := 1042) (by decide +kernel)⟩
theorem lw_p28 : lw_okq (⟨"CraneCampaignModel", "limitOf", "(I)I"⟩, 15) := ⟨⟨by decide +kernel, by decide +kernel⟩, List.mem_of_getElem? (i := 896) (by decide +kernel), List.mem_of_getElem? (i := 1045) (by decide +kernel), List.mem_of_getElem? (i := 1046) (by decide +kernel)⟩
theorem lw_p29 : lw_okq (⟨"CraneCampaignModel", "full", "(II)I"⟩, 15) := ⟨⟨by decide +kernel, by decide +kernel⟩, List.mem_of_getElem? (i := 896) (by decide +kernel), List.mem_of_getElem? (i := 1049) (by decide +kernel), List.mem_of_getElem? (i := 1050) (by decide +kernel)⟩
theorem lw_p30 : lw_okq (⟨"CraneCampaignModel", "use", "(I)V"⟩, 15) := ⟨⟨by decide +kernel, by decide +kernel⟩, List.mem_of_getElem? (i := 896) (by decide +kernel), List.mem_of_getElem? (i := 1053) (by decide +kernel), List.mem_of_getElem? (i := 1054) (by decide +kernel)⟩
theorem lw_p31 : lw_okq (⟨"CraneCampaignModel", "readText", "()I"⟩, 15) := ⟨⟨by decide +kernel, by decide +kernel⟩, List.mem_of_getElem? (i := 896) (by decide +kernel), List.mem_of_getElem? (i := 1069) (by decide +kernel), List.mem_of_getElem? (i := 1070) (by decide +kernel)⟩
def lw_privs_2 : List (MethodName × Nat) := [(⟨"CraneCampaignModel", "save", "()V"⟩, 15), (⟨"CraneCampaignModel", "isTurbine", "(I)Z"⟩, 15), (⟨"CraneCampaignModel", "placeOf", "(I)I"⟩, 15), (⟨"CraneCampaignModel", "takeOff", "(I)V"⟩, 15), (⟨"CraneCampaignModel", "goHours", "(I)I"⟩, 15), (⟨"CraneCampaignModel", "goHour", "()I"⟩, 15), (⟨"CraneCampaignModel", "unload", "()V"⟩, 15), (⟨"CraneCampaignModel", "forget", "()V"⟩, 15), (⟨"CraneCampaignModel", "windAt", "(I)I"⟩, 15), (⟨"CraneCampaignModel", "serve", "(II)I"⟩, 15), (⟨"CraneCampaignModel", "hoursOf", "(II)I"⟩, 15), (⟨"CraneCampaignModel", "bladeFor", "(I)I"⟩, 15), (⟨"CraneCampaignModel", "limitOf", "(I)I"⟩, 15), (⟨"CraneCampaignModel", "full", "(II)I"⟩, 15), (⟨"CraneCampaignModel", "use", "(I)V"⟩, 15), (⟨"CraneCampaignModel", "readText", "()I"⟩, 15)]
theorem lw_r2 : ∀ q ∈ lw_privs_2, lw_okq q := List.forall_mem_cons.mpr ⟨lw_p16, List.forall_mem_cons.mpr ⟨lw_p17, List.forall_mem_cons.mpr ⟨lw_p18, List.forall_mem_cons.mpr ⟨lw_p19, List.forall_mem_cons.mpr ⟨lw_p20, List.forall_mem_cons.mpr ⟨lw_p21, List.forall_mem_cons.mpr ⟨lw_p22, List.forall_mem_cons.mpr ⟨lw_p23, List.forall_mem_cons.mpr ⟨lw_p24, List.forall_mem_cons.mpr ⟨lw_p25, List.forall_mem_cons.mpr ⟨lw_p26, List.forall_mem_cons.mpr ⟨lw_p27, List.forall_mem_cons.mpr ⟨lw_p28, List.forall_mem_cons.mpr ⟨lw_p29, List.forall_mem_cons.mpr ⟨lw_p30, List.forall_mem_cons.mpr ⟨lw_p31, fun _ h => absurd h List.not_mem_nil⟩⟩⟩⟩⟩⟩⟩⟩⟩⟩⟩⟩⟩⟩⟩⟩
theorem lw_p32 : lw_okq (⟨"CraneCampaignModel", "goes", "(I)Z"⟩, 15) := ⟨⟨by decide +kernel, by decide +kernel⟩, List.mem_of_getElem? (i := 896) (by decide +kernel), List.mem_of_getElem? (i := 1073) (by decide +kernel), List.mem_of_getElem? (i := 1074) (by decide +kernel)⟩
theorem lw_p33 : lw_okq (⟨"CraneCampaignModel", "first", "(I)Z"⟩, 15) := ⟨⟨by decide +kernel, by decide +kernel⟩, List.mem_of_getElem? (i := 896) (by decide +kernel), List.mem_of_getElem? (i := 1077) (by decide +kernel), List.mem_of_getElem? (i := 1078) (by decide +kernel)⟩
theorem lw_p34 : lw_okq (⟨"CraneCampaignModel", "second", "(I)Z"⟩, 15) := ⟨⟨by decide +kernel, by decide +kernel⟩, List.mem_of_getElem? (i := 896) (by decide +kernel), List.mem_of_getElem? (i := 1081) (by decide +kernel), List.mem_of_getElem? (i := 1082) (by decide +kernel)⟩
theorem lw_p35 : lw_okq (⟨"CraneCampaignModel", "ends", "(I)Z"⟩, 15) := ⟨⟨by decide +kernel, by decide +kernel⟩, List.mem_of_getElem? (i := 896) (by decide +kernel), List.mem_of_getElem? (i := 1085) (by decide +kernel), List.mem_of_getElem? (i := 1086) (by decide +kernel)⟩
theorem lw_p36 : lw_okq (⟨"CraneCampaignModel", "close", "()V"⟩, 15) := ⟨⟨by decide +kernel, by decide +kernel⟩, List.mem_of_getElem? (i := 896) (by decide +kernel), List.mem_of_getElem? (i := 1089) (by decide +kernel), List.mem_of_getElem? (i := 1090) (by decide +kernel)⟩
theorem lw_p37 : lw_okq (⟨"CraneCampaignModel", "often", "(I)Z"⟩, 15) := ⟨⟨by decide +kernel, by decide +kernel⟩, List.mem_of_getElem? (i := 896) (by decide +kernel), List.mem_of_getElem? (i := 1093) (by decide +kernel), List.mem_of_getElem? (i := 1094) (by decide +kernel)⟩
theorem lw_p38 : lw_okq (⟨"CraneCampaignModel", "more", "(I)Z"⟩, 15) := ⟨⟨by decide +kernel, by decide +kernel⟩, List.mem_of_getElem? (i := 896) (by decide +kernel), List.mem_of_getElem? (i := 1097) (by decide +kernel), List.mem_of_getElem? (i := 1098) (by decide +kernel)⟩
theorem lw_p39 : lw_okq (⟨"CraneCampaignModel", "turbineNow", "(II)I"⟩, 15) := ⟨⟨by decide +kernel, by decide +kernel⟩, List.mem_of_getElem? (i := 896) (by decide +kernel), List.mem_of_getElem? (i := 1113) (by decide +kernel), List.mem_of_getElem? (i := 1114) (by decide +kernel)⟩
theorem lw_p40 : lw_okq (⟨"CraneCampaignModel", "ashore", "(I)I"⟩, 15) := ⟨⟨by decide +kernel, by decide +kernel⟩, List.mem_of_getElem? (i := 896) (by decide +kernel), List.mem_of_getElem? (i := 1117) (by decide +kernel), List.mem_of_getElem? (i := 1118) (by decide +kernel)⟩
theorem lw_p41 : lw_okq (⟨"CraneCampaignModel", "counted", "(I)I"⟩, 15) := ⟨⟨by decide +kernel, by decide +kernel⟩, List.mem_of_getElem? (i := 896) (by decide +kernel), List.mem_of_getElem? (i := 1137) (by decide +kernel), List.mem_of_getElem? (i := 1138) (by decide +kernel)⟩
theorem lw_p42 : lw_okq (⟨"CraneCampaignModel", "faulty", "()I"⟩, 15) := ⟨⟨by decide +kernel, by decide +kernel⟩, List.mem_of_getElem? (i := 896) (by decide +kernel), List.mem_of_getElem? (i := 1141) (by decide +kernel), List.mem_of_getElem? (i := 1142) (by decide +kernel)⟩
theorem lw_p43 : lw_okq (⟨"CraneCampaignModel", "sum", "(I)I"⟩, 15) := ⟨⟨by decide +kernel, by decide +kernel⟩, List.mem_of_getElem? (i := 896) (by decide +kernel), List.mem_of_getElem? (i := 1145) (by decide +kernel), List.mem_of_getElem? (i := 1146) (by decide +kernel)⟩
theorem lw_p44 : lw_okq (⟨"CraneCampaignModel", "after", "(II)I"⟩, 15) := ⟨⟨by decide +kernel, by decide +kernel⟩, List.mem_of_getElem? (i := 896) (by decide +kernel), List.mem_of_getElem? (i := 1161) (by decide +kernel), List.mem_of_getElem? (i := 1162) (by decide +kernel)⟩
theorem lw_p45 : lw_okq (⟨"CraneCampaignModel", "keep", "()V"⟩, 15) := ⟨⟨by decide +kernel, by decide +kernel⟩, List.mem_of_getElem? (i := 896) (by decide +kernel), List.mem_of_getElem? (i := 1165) (by decide +kernel), List.mem_of_getElem? (i := 1166) (by decide +kernel)⟩
theorem lw_p46 : lw_okq (⟨"CraneCampaignModel", "told", "(I)I"⟩, 15) := ⟨⟨by decide +kernel, by decide +kernel⟩, List.mem_of_getElem? (i := 896) (by decide +kernel), List.mem_of_getElem? (i := 1169) (by decide +kernel), List.mem_of_getElem? (i := 1170) (by decide +kernel)⟩
theorem lw_p47 : lw_okq (⟨"CraneCampaignModel", "bring", "()V"⟩, 15) := ⟨⟨by decide +kernel, by decide +kernel⟩, List.mem_of_getElem? (i := 896) (by decide +kernel), List.mem_of_getElem? (i := 1173) (by decide +kernel), List.mem_of_getElem? (i := 1174) (by decide +kernel)⟩
def lw_privs_3 : List (MethodName × Nat) := [(⟨"CraneCampaignModel", "goes", "(I)Z"⟩, 15), (⟨"CraneCampaignModel", "first", "(I)Z"⟩, 15), (⟨"CraneCampaignModel", "second", "(I)Z"⟩, 15), (⟨"CraneCampaignModel", "ends", "(I)Z"⟩, 15), (⟨"CraneCampaignModel", "close", "()V"⟩, 15), (⟨"CraneCampaignModel", "often", "(I)Z"⟩, 15), (⟨"CraneCampaignModel", "more", "(I)Z"⟩, 15), (⟨"CraneCampaignModel", "turbineNow", "(II)I"⟩, 15), (⟨"CraneCampaignModel", "ashore", "(I)I"⟩, 15), (⟨"CraneCampaignModel", "counted", "(I)I"⟩, 15), (⟨"CraneCampaignModel", "faulty", "()I"⟩, 15), (⟨"CraneCampaignModel", "sum", "(I)I"⟩, 15), (⟨"CraneCampaignModel", "after", "(II)I"⟩, 15), (⟨"CraneCampaignModel", "keep", "()V"⟩, 15), (⟨"CraneCampaignModel", "told", "(I)I"⟩, 15), (⟨"CraneCampaignModel", "bring", "()V"⟩, 15)]
theorem lw_r3 : ∀ q ∈ lw_privs_3, lw_okq q := List.forall_mem_cons.mpr ⟨lw_p32, List.forall_mem_cons.mpr ⟨lw_p33, List.forall_mem_cons.mpr ⟨lw_p34, List.forall_mem_cons.mpr ⟨lw_p35, List.forall_mem_cons.mpr ⟨lw_p36, List.forall_mem_cons.mpr ⟨lw_p37, List.forall_mem_cons.mpr ⟨lw_p38, List.forall_mem_cons.mpr ⟨lw_p39, List.forall_mem_cons.mpr ⟨lw_p40, List.forall_mem_cons.mpr ⟨lw_p41, List.forall_mem_cons.mpr ⟨lw_p42, List.forall_mem_cons.mpr ⟨lw_p43, List.forall_mem_cons.mpr ⟨lw_p44, List.forall_mem_cons.mpr ⟨lw_p45, List.forall_mem_cons.mpr ⟨lw_p46, List.forall_mem_cons.mpr ⟨lw_p47, fun _ h => absurd h List.not_mem_nil⟩⟩⟩⟩⟩⟩⟩⟩⟩⟩⟩⟩⟩⟩⟩⟩
theorem lw_p48 : lw_okq (⟨"CraneCampaignModel", "bestNow", "()I"⟩, 15) := ⟨⟨by decide +kernel, by decide +kernel⟩, List.mem_of_getElem? (i := 896) (by decide +kernel), List.mem_of_getElem? (i := 1181) (by decide +kernel), List.mem_of_getElem? (i := 1182) (by decide +kernel)⟩
theorem lw_p49 : lw_okq (⟨"CraneCampaignModel", "windowOf", "(II)I"⟩, 15) := ⟨⟨by decide +kernel, by decide +kernel⟩, List.mem_of_getElem? (i := 896) (by decide +kernel), List.mem_of_getElem? (i := 1189) (by decide +kernel), List.mem_of_getElem? (i := 1190) (by decide +kernel)⟩
theorem lw_p50 : lw_okq (⟨"CraneCampaignModel", "doneNow", "()I"⟩, 15) := ⟨⟨by decide +kernel, by decide +kernel⟩, List.mem_of_getElem? (i := 896) (by decide +kernel), List.mem_of_getElem? (i := 1197) (by decide +kernel), List.mem_of_getElem? (i := 1198) (by decide +kernel)⟩
theorem lw_p51 : lw_okq (⟨"CraneCampaignModel", "meanNow", "()F"⟩, 15) := ⟨⟨by decide +kernel, by decide +kernel⟩, List.mem_of_getElem? (i := 896) (by decide +kernel), List.mem_of_getElem? (i := 1205) (by decide +kernel), List.mem_of_getElem? (i := 1206) (by decide +kernel)⟩
theorem lw_p52 : lw_okq (⟨"CraneCampaignModel", "shareNow", "()D"⟩, 15) := ⟨⟨by decide +kernel, by decide +kernel⟩, List.mem_of_getElem? (i := 896) (by decide +kernel), List.mem_of_getElem? (i := 1214) (by decide +kernel), List.mem_of_getElem? (i := 1215) (by decide +kernel)⟩
theorem lw_p53 : lw_okq (⟨"CraneCampaignModel", "mix", "(J)V"⟩, 15) := ⟨⟨by decide +kernel, by decide +kernel⟩, List.mem_of_getElem? (i := 896) (by decide +kernel), List.mem_of_getElem? (i := 1223) (by decide +kernel), List.mem_of_getElem? (i := 1224) (by decide +kernel)⟩
def lw_privs_4 : List (MethodName × Nat) := [(⟨"CraneCampaignModel", "bestNow", "()I"⟩, 15), (⟨"CraneCampaignModel", "windowOf", "(II)I"⟩, 15), (⟨"CraneCampaignModel", "doneNow", "()I"⟩, 15), (⟨"CraneCampaignModel", "meanNow", "()F"⟩, 15), (⟨"CraneCampaignModel", "shareNow", "()D"⟩, 15), (⟨"CraneCampaignModel", "mix", "(J)V"⟩, 15)]
theorem lw_r4 : ∀ q ∈ lw_privs_4, lw_okq q := List.forall_mem_cons.mpr ⟨lw_p48, List.forall_mem_cons.mpr ⟨lw_p49, List.forall_mem_cons.mpr ⟨lw_p50, List.forall_mem_cons.mpr ⟨lw_p51, List.forall_mem_cons.mpr ⟨lw_p52, List.forall_mem_cons.mpr ⟨lw_p53, fun _ h => absurd h List.not_mem_nil⟩⟩⟩⟩⟩⟩
def lw_privs : List (MethodName × Nat) := lw_privs_1 ++ (lw_privs_2 ++ (lw_privs_3 ++ (lw_privs_4)))
def lw_tbl : List Cond := k2_sels lw_privs ++ tables_1
theorem lw_privs_ok : ∀ q ∈ lw_privs, lw_okq q := by
  show ∀ q ∈ lw_privs_1 ++ (lw_privs_2 ++ (lw_privs_3 ++ (lw_privs_4))), lw_okq q
  exact List.forall_mem_append.mpr ⟨lw_r1, List.forall_mem_append.mpr ⟨lw_r2, List.forall_mem_append.mpr ⟨lw_r3, lw_r4⟩⟩⟩
/-- the streams that the claim lets the run draw from -/
abbrev lw_cs : List Choice := [Jvm.Choice.named "NaN.bits"]
theorem lw_bits : nanBits ∈ lw_cs := by first | decide | exact List.mem_cons_self | simp [lw_cs, nanBits]
-- ===== end of PART A; then your names; then what follows =====
end
section
/-! ===== BEGIN words of one list among another's, by their places ===== -/
theorem goodIn_r {big : List Cond} (ws : List Cond) (ps : List Nat) (hp : ws = ps.filterMap (fun i => big[i]?)) (h : ws.all goodWord = true) : GoodIn big ws := by
  intro w hw
  have h1 := List.all_eq_true.mp h w hw
  rw [hp] at hw
  obtain ⟨i, -, hi⟩ := List.mem_filterMap.mp hw
  have hm : w ∈ big := by first | exact List.mem_of_getElem? hi | exact List.getElem?_mem hi
  exact ⟨hm, good_of_word h1⟩
theorem goodIn_app {big a b : List Cond} (ha : GoodIn big a) (hb : GoodIn big b) : GoodIn big (a ++ b) := fun w h => (List.mem_append.mp h).elim (ha w) (hb w)
theorem goodIn_ca {big a b : List Cond} {c : Cond} (ha : GoodIn big (c :: a)) (hb : GoodIn big b) : GoodIn big (c :: (a ++ b)) := fun w h => (List.mem_cons.mp h).elim (fun e => ha w (List.mem_cons.mpr (Or.inl e))) (fun h => (List.mem_append.mp h).elim (fun h => ha w (List.mem_cons.mpr (Or.inr h))) (hb w))
theorem goodIn_sub {big ws : List Cond} (hm : ∀ w ∈ ws, w ∈ big) (h : ws.all goodWord = true) : GoodIn big ws := fun w hw => ⟨hm w hw, good_of_word (List.all_eq_true.mp h w hw)⟩
/-! ===== END ===== -/

/-! ===== BEGIN exceptions that leave a method, and their catching by the caller (launches without stack traces) ===== -/
section VXA
/-! The laws vx_back, vx_callV, vx_callS, vx_callSW, vx_throw0, vx_throwS follow proofs of the library, with one case more: JvmDerived/Free/Laws.lean (Back.of_free), Shelf42/LK1.lean (callV, callS), Shelf/KitTraced.lean (throwNew0V, throwNewS). -/
/-- where a method has thrown q: the class by its name, the cell, what was written, the world -/
def vx_T (XC : String → State → State → Prop) (st : State) (q : Addr) (t : State) (mc ms : Nat) (free : Addr → Prop) : Prop :=
  ∃ (E : String) (ce : Cell) (L : List Loc), XC E st t ∧ t.heap[q]? = some ce ∧ ce.vm = .none ∧ st.vm.findClass E = some ce.cls ∧ st.WarmedH t.vm ∧ st.sameButNew ({ t with vm := st.vm } : State) L mc ms ∧ ∀ z ∈ L, free z.base
def vx_Q (Qc : Array Value → State → Outcome → State → Prop) (XC : String → State → State → Prop) (mc ms : Nat) (free : Addr → Prop) : Array Value → State → Outcome → State → Prop := fun a st o t =>
  (Qc a st o t ∧ ∃ L, FrameEnd st o t L mc ms ∧ ∀ q ∈ L, free q.base) ∨ ∃ q, o = .threw q ∧ vx_T XC st q t mc ms free
/-- a callee that returns or throws -/
def vx_Met (l : Launch) (y : MethodName) (ws : List Cond) (rm : Room) (Pc : Array Value → State → Prop) (Qc : Array Value → State → Outcome → State → Prop) (XC : String → State → State → Prop) (mc ms : Nat) (free : Addr → Prop) : Prop :=
  MetFree l y (headSpec ws rm) Pc (fun _ _ _ _ _ => True) (vx_Q Qc XC mc ms free)
def vx_Post (XC : String → State → State → Prop) (mc ms : Nat) (free : Addr → Prop) : Pt → Array Value → Addr → Pt → Prop := fun A a q B =>
  ∃ (g : JFrame) (mk : MethodId) (t : State) (L : List Loc) (E : String) (ce : Cell), B.U.heap = t.heap ∧ B.U.vm = t.vm ∧ XC E (A.U.calling g mk a) t ∧ t.heap[q]? = some ce ∧ ce.vm = .none ∧ A.U.vm.findClass E = some ce.cls ∧ B.locs = A.locs ++ L ∧ (∀ z ∈ L, free z.base) ∧ B.cells = A.cells + mc ∧ B.slots = A.slots + ms
def vx_Back (l : Launch) (R : Room) (p : Program) (e : Env) (below : List Frame) (s : State) (sargs : Array Value) (y : MethodName) (len W9 : Nat)
    (Pre : Pt → Array Value → Prop) (Post : Pt → Array Value → Option Value → Pt → Prop) (PostX : Pt → Array Value → Addr → Pt → Prop) : Prop :=
  ∀ (m : MethodId) (meth : Method) (c : Code) (A : Pt) (g : JFrame) (ig : Instr) (mk : MethodId) (a : Array Value),
    Stand p l e R s m sargs below meth c A.U A.locs A.cells A.slots → g.method = m → g.locals.size = c.maxLocals → decode c.code g.pc = .ok (ig, len) →
    2 * g.monitorRoom + (g.stack.map fun v => v.category).sum ≤ W9 → A.U.methodNamed? y = some mk → Pre A a →
    (∃ (v : Option Value) (B : Pt), Stand p l e R s m sargs below meth c B.U B.locs B.cells B.slots ∧ Post A a v B ∧
      Steps p.tables e below (doInvoke e (A.U.setTop g) [] mk a).1 (B.U.setTop { g with pc := g.pc + len, stack := v.toList ++ g.stack })) ∨
    (∃ (q : Addr) (B : Pt), Stand p l e R s m sargs below meth c B.U B.locs B.cells B.slots ∧ PostX A a q B ∧
      Steps p.tables e below (doInvoke e (A.U.setTop g) [] mk a).1 ((B.U.setTop g).pushFrame (.throwing q)))
section Payer
variable {l : Launch} {R : Room} {p : Program} {e : Env} {below : List Frame} {s : State} {sargs : Array Value} {y : MethodName} {len W9 : Nat}
theorem vx_back {ws : List Cond} {rm : Room} {Pc : Array Value → State → Prop} {Qc : Array Value → State → Outcome → State → Prop} {XC : String → State → State → Prop} {mc ms : Nat} {free : Addr → Prop} {bytes : ByteArray} {maxL : Nat} {ret : Option FieldType}
    (hM : vx_Met l y ws rm Pc Qc XC mc ms free) (hblind : FrameBlind Pc) (hrc : rm.cells = mc) (hrs : rm.slots = ms)
    (hframes : rm.frames + 1 ≤ R.frames) (hlocals : W9 + (maxL + 11) + rm.locals ≤ R.locals)
    (hws : ∀ w ∈ ws, ∀ a' U, s.WarmedH U.vm → w.before a' U = true) (hcode : Cond.code y bytes maxL ret ∈ ws) (hinit : ∀ a' U, s.WarmedH U.vm → (Cond.initialized y.cls).before a' U = true) :
    vx_Back l R p e below s sargs y len W9 (PreOf R mc ms Pc) (PostOf Qc mc ms free) (vx_Post XC mc ms free) := by
  intro m meth c A g ig mk a X hg hsize hdg hW hn hp
  have h1 : (headSpec ws rm).pre.before a A.U = true := atoms_intro fun w hw => hws w hw _ _ X.warmed
  have h2 : (Cond.code y bytes maxL ret).before a A.U = true := hws _ hcode _ _ X.warmed
  have h3 : (Cond.initialized y.cls).before a A.U = true := hinit _ _ X.warmed
  have h4 : A.cells + (headSpec ws rm).room.cells ≤ R.cells := by rw [show (headSpec ws rm).room.cells = mc from hrc]; exact hp.1
  have h5 : A.slots + (headSpec ws rm).room.slots ≤ R.slots := by rw [show (headSpec ws rm).room.slots = ms from hrs]; exact hp.2.1
  have hPc : Pc a (A.U.calling g mk a) := hblind _ _ _ _ hp.2.2
  obtain ⟨U, Ls, c0, s0⟩ := A
  dsimp only [Pt.U, Pt.locs, Pt.cells, Pt.slots] at h1 h2 h3 h4 h5 X hn hPc ⊢
  obtain ⟨methY, cY, hmY, hcY, -, hlY, -, -, -, -⟩ := Cond.code_spec hn h2
  obtain ⟨kY, hkY, -⟩ := className_of_methodNamed hn
  have hinitY : kY.init = .initialized := Cond.initialized_spec (findClass_of_methodNamed hn) hkY h3
  have h : At U g.method c below := by rw [hg]; exact X.here
  have hlocals9 : W9 + (maxL + 11) + (headSpec ws rm).room.locals ≤ R.locals := hlocals
  have happ : (headSpec ws rm).appliesLoose y e.platform (U.calling g mk a) = true :=
    Spec.appliesLoose_calling (g := g) h hdg hn hkY hinitY
      (X.room_calling (g := g) (R' := (headSpec ws rm).room) hsize hmY hcY hframes (by rw [hlY]; omega) h4 h5) h1
  obtain ⟨mid, hmid⟩ := h.above
  have hfr : (U.setTop g).frames = (.java g :: mid) ++ below := by rw [State.frames_setTop' g h.top, hmid]; rfl
  obtain ⟨o, s₂, hsteps, -, hend, hq⟩ := Steps.callFree hM p X.admits X.cas X.clock (acts := []) hfr happ hPc trivial
  have hq' : vx_Q Qc XC mc ms free a (U.calling g mk a) o s₂ := hq
  rw [State.frames_setTop' g h.top] at hend
  obtain ⟨g₀, hg0⟩ := Option.isSome_iff_exists.mp h.top
  obtain ⟨r, hr⟩ := State.topJava?_eq_some.mp hg0
  have hr' : (({ U with heap := s₂.heap, slotsUsed := s₂.slotsUsed } : State).setVm s₂.vm).frames = .java g₀ :: r := hr
  rcases hq' with ⟨hqc, L, hfe, hL⟩ | ⟨q, rfl, E, ce, L, hx, hce, hcv, hcl, hW₂, hsm, hL⟩
  · obtain ⟨⟨v, rfl⟩, hW₂, e2, q2, q3, q4, q5, q6⟩ := id hfe
    have e3 : s₂ = ({ (U.calling g mk a).setFrames s₂.frames with heap := s₂.heap, slotsUsed := s₂.slotsUsed } : State).setVm s₂.vm := by
      have : s₂ = ({ s₂ with vm := (U.calling g mk a).vm } : State).setVm s₂.vm := rfl
      rw [e2] at this
      exact this
    obtain ⟨c₂, i₂, len₂, hc₂, hd₂, hf₂⟩ := hend
    have hW' : U.WarmedH s₂.vm := hW₂
    have hcc : c₂ = c := by
      have h1 : s₂.code? g.method = U.code? g.method := by
        rw [State.code?_eq, State.code?_eq, hW'.alike.method?]
      exact Option.some.inj (hc₂.symm.trans (h1.trans h.code))
    subst hcc
    have hlen : len₂ = len := by rw [hdg] at hd₂; cases hd₂; rfl
    subst hlen
    have hs₂ : s₂ = (({ U with heap := s₂.heap, slotsUsed := s₂.slotsUsed } : State).setVm s₂.vm).setTop { g with pc := g.pc + len₂, stack := v.toList ++ g.stack } := by
      refine e3.trans ?_
      rw [hf₂, State.calling_eq h.top, State.setFrames_setFrames, State.setTop_of_frames _ hr', hr]
      rfl
    have hsame : U.sameButNew ({ U with heap := s₂.heap, slotsUsed := s₂.slotsUsed } : State) L mc ms := by
      refine ⟨?_, q2, q3, q4, q5, q6⟩
      obtain ⟨t, ht, -⟩ := State.frames_cons hr
      show ({ U with heap := s₂.heap, slotsUsed := s₂.slotsUsed } : State) = { U.setFrames U.frames with heap := s₂.heap, slotsUsed := s₂.slotsUsed }
      rw [State.setFrames_self ht]
    subst hg
    refine Or.inl ⟨v, ⟨(({ U with heap := s₂.heap, slotsUsed := s₂.slotsUsed } : State).setVm s₂.vm), Ls ++ L, c0 + mc, s0 + ms⟩,
      ⟨X.admits, X.cas, X.clock, X.frames, X.room, X.hears, X.method, X.code, (X.here.setHeapUsed s₂.heap s₂.slotsUsed).setVm hW'.alike, X.tail, State.WarmedH.trans X.warmed hW', X.limits, X.bytes, X.same.trans (hsame.setVm s.vm)⟩,
      ⟨g, mk, s₂, L, rfl, rfl, hqc, rfl, hL, rfl, rfl⟩, ?_⟩
    show Steps p.tables e below _ ((({ U with heap := s₂.heap, slotsUsed := s₂.slotsUsed } : State).setVm s₂.vm).setTop { g with pc := g.pc + len₂, stack := v.toList ++ g.stack })
    rw [← hs₂]
    exact hsteps
  · obtain ⟨e2, q2, q3, q4, q5, q6⟩ := id hsm
    have e3 : s₂ = ({ (U.calling g mk a).setFrames s₂.frames with heap := s₂.heap, slotsUsed := s₂.slotsUsed } : State).setVm s₂.vm := by
      have : s₂ = ({ s₂ with vm := (U.calling g mk a).vm } : State).setVm s₂.vm := rfl
      rw [e2] at this
      exact this
    have hf₂ : s₂.frames = .throwing q :: .java g :: U.frames.tail := hend
    have hW' : U.WarmedH s₂.vm := hW₂
    have hs₂ : s₂ = ((({ U with heap := s₂.heap, slotsUsed := s₂.slotsUsed } : State).setVm s₂.vm).setTop g).pushFrame (.throwing q) := by
      refine e3.trans ?_
      rw [hf₂, State.calling_eq h.top, State.setFrames_setFrames, State.pushFrame, State.frames_setTop _ hr', State.setTop_of_frames _ hr', State.setFrames_setFrames, hr]
      rfl
    have hsame : U.sameButNew ({ U with heap := s₂.heap, slotsUsed := s₂.slotsUsed } : State) L mc ms := by
      refine ⟨?_, q2, q3, q4, q5, q6⟩
      obtain ⟨t, ht, -⟩ := State.frames_cons hr
      show ({ U with heap := s₂.heap, slotsUsed := s₂.slotsUsed } : State) = { U.setFrames U.frames with heap := s₂.heap, slotsUsed := s₂.slotsUsed }
      rw [State.setFrames_self ht]
    subst hg
    refine Or.inr ⟨q, ⟨(({ U with heap := s₂.heap, slotsUsed := s₂.slotsUsed } : State).setVm s₂.vm), Ls ++ L, c0 + mc, s0 + ms⟩,
      ⟨X.admits, X.cas, X.clock, X.frames, X.room, X.hears, X.method, X.code, (X.here.setHeapUsed s₂.heap s₂.slotsUsed).setVm hW'.alike, X.tail, State.WarmedH.trans X.warmed hW', X.limits, X.bytes, X.same.trans (hsame.setVm s.vm)⟩,
      ⟨g, mk, s₂, L, E, ce, rfl, rfl, hx, hce, hcv, hcl, rfl, hL, rfl, rfl⟩, ?_⟩
    show Steps p.tables e below _ (((({ U with heap := s₂.heap, slotsUsed := s₂.slotsUsed } : State).setVm s₂.vm).setTop g).pushFrame (.throwing q))
    rw [← hs₂]
    exact hsteps
end Payer
section Calls
variable {p : Program} {l : Launch} {e : Env} {R : Room} {s : State} {m : MethodId} {args : Array Value} {below : List Frame} {meth : Method} {c : Code} {T : State} {locs : List Loc} {cells slots : Nat}
theorem vx_callV (X : Stand p l e R s m args below meth c T locs cells slots) (hexec : p.tables.exec = Jvm.exec) {own C : String} {index : Nat} {y : MethodName} {bytes : ByteArray} {maxL : Nat} {ret : Option FieldType}
    (hown : s.vm.findClass own = some m.cls) (hlink : (Cond.methodLink own index y).before args s = true) (hinst : (Cond.instanceMethod y).before args s = true) (hsel : (Cond.selects C y y).before args s = true)
    (hcode : (Cond.code y bytes maxL ret).before args s = true) (hy : y.cls ≠ "java/lang/invoke/MethodHandle" ∧ y.cls ≠ "java/lang/invoke/VarHandle")
    {W9 : Nat} {Pre : Pt → Array Value → Prop} {Post : Pt → Array Value → Option Value → Pt → Prop} {PostX : Pt → Array Value → Addr → Pt → Prop} (hK : vx_Back l R p e below s args y 3 W9 Pre Post PostX)
    {b : Addr} {cellB : Cell} (hcell : T.heap[b]? = some cellB) (hobj : cellB.vm.isStatics = false) (hcls : s.vm.findClass C = some cellB.cls)
    {g : JFrame} (hg : g.method = m) (hsize : g.locals.size = c.maxLocals) {argsL rest : List Value} (hlen : ∀ sig, parseMethodDescriptor y.desc = some sig → argsL.length = sig.parameters.length)
    (hstack : g.stack = argsL.reverse ++ .ref b :: rest) (hW : 2 * g.monitorRoom + (rest.map fun v => v.category).sum ≤ W9) (hdg : decode c.code g.pc = .ok (.invokevirtual index, 3))
    (hpre : ∀ vm₁, s.WarmedH vm₁ → Pre ⟨T.setVm vm₁, locs, cells, slots⟩ (Value.ref b :: argsL).toArray) :
    (∃ (v : Option Value) (vm₁ : Vm) (B : Pt), s.WarmedH vm₁ ∧ Stand p l e R s m args below meth c B.U B.locs B.cells B.slots ∧ Post ⟨T.setVm vm₁, locs, cells, slots⟩ (Value.ref b :: argsL).toArray v B ∧
      ∀ target, Steps p.tables e below (B.U.setTop { g with pc := g.pc + 3, stack := v.toList ++ rest }) target → Steps p.tables e below (T.setTop g) target) ∨
    (∃ (q : Addr) (vm₁ : Vm) (B : Pt), s.WarmedH vm₁ ∧ Stand p l e R s m args below meth c B.U B.locs B.cells B.slots ∧ PostX ⟨T.setVm vm₁, locs, cells, slots⟩ (Value.ref b :: argsL).toArray q B ∧
      Steps p.tables e below (T.setTop g) ((B.U.setTop { g with stack := rest }).pushFrame (.throwing q))) := by
  obtain ⟨mk, methM, hnamed, hmethM, hstM, habM⟩ := Cond.instanceMethod_spec hinst
  obtain ⟨methM', cM, hmethM', -, -, -, -, -, -, hsigM⟩ := Cond.code_spec hnamed hcode
  cases hmethM.symm.trans hmethM'
  obtain ⟨c2, r2, m2, q1, q2, q3, q4, kP, hkP, hkPi⟩ := Cond.selects_spec hsel
  cases hcls.symm.trans q1
  cases (State.methodFound?_of_named hnamed hy).symm.trans q2
  cases hnamed.symm.trans q3
  have hselP : selectMethod e.platform s.vm cellB.cls mk = .method mk := by rw [Launch.admits_selectMethod X.admits]; exact q4
  obtain ⟨vm₁, X₁, hstep₁⟩ := X.invokevirtual hexec hown hlink hnamed hmethM hstM hkP hkPi hy (a := b) (cell := cellB) hcell
    (fun z h => by rw [h] at hobj; cases hobj) hselP hmethM habM hkP hkPi (g := g) hg (argsL := argsL) (rest := rest) (hlen _ hsigM) hstack hdg
  rcases hK m meth c ⟨T.setVm vm₁, locs, cells, slots⟩ { g with stack := rest } (.invokevirtual index) mk (Value.ref b :: argsL).toArray X₁ hg hsize hdg hW (X₁.named hnamed) (hpre vm₁ X₁.warmed) with ⟨v, B, X', hpost, hsteps⟩ | ⟨q, B, X', hpost, hsteps⟩
  · exact Or.inl ⟨v, vm₁, B, X₁.warmed, X', hpost, fun target h => hstep₁ _ fun acts => by rw [doInvoke_state]; exact hsteps.trans h⟩
  · exact Or.inr ⟨q, vm₁, B, X₁.warmed, X', hpost, hstep₁ _ fun acts => by rw [doInvoke_state]; exact hsteps⟩
theorem vx_callS (X : Stand p l e R s m args below meth c T locs cells slots) (hexec : p.tables.exec = Jvm.exec) {own : String} {index : Nat} {y : MethodName} {bytes : ByteArray} {maxL : Nat} {ret : Option FieldType}
    (hown : s.vm.findClass own = some m.cls) (hlink : (Cond.methodLink own index y).before args s = true) (hstat : (Cond.static y).before args s = true) (hinit : (Cond.initialized y.cls).before args s = true)
    (hcode : (Cond.code y bytes maxL ret).before args s = true) (hy : y.cls ≠ "java/lang/invoke/MethodHandle" ∧ y.cls ≠ "java/lang/invoke/VarHandle")
    {W9 : Nat} {Pre : Pt → Array Value → Prop} {Post : Pt → Array Value → Option Value → Pt → Prop} {PostX : Pt → Array Value → Addr → Pt → Prop} (hK : vx_Back l R p e below s args y 3 W9 Pre Post PostX)
    {g : JFrame} (hg : g.method = m) (hsize : g.locals.size = c.maxLocals) {argsL rest : List Value} (hlen : ∀ sig, parseMethodDescriptor y.desc = some sig → argsL.length = sig.parameters.length)
    (hstack : g.stack = argsL.reverse ++ rest) (hW : 2 * g.monitorRoom + (rest.map fun v => v.category).sum ≤ W9) (hdg : decode c.code g.pc = .ok (.invokestatic index, 3))
    (hpre : ∀ vm₁, s.WarmedH vm₁ → Pre ⟨T.setVm vm₁, locs, cells, slots⟩ argsL.toArray) :
    (∃ (v : Option Value) (vm₁ : Vm) (B : Pt), s.WarmedH vm₁ ∧ Stand p l e R s m args below meth c B.U B.locs B.cells B.slots ∧ Post ⟨T.setVm vm₁, locs, cells, slots⟩ argsL.toArray v B ∧
      ∀ target, Steps p.tables e below (B.U.setTop { g with pc := g.pc + 3, stack := v.toList ++ rest }) target → Steps p.tables e below (T.setTop g) target) ∨
    (∃ (q : Addr) (vm₁ : Vm) (B : Pt), s.WarmedH vm₁ ∧ Stand p l e R s m args below meth c B.U B.locs B.cells B.slots ∧ PostX ⟨T.setVm vm₁, locs, cells, slots⟩ argsL.toArray q B ∧
      Steps p.tables e below (T.setTop g) ((B.U.setTop { g with stack := rest }).pushFrame (.throwing q))) := by
  obtain ⟨mk, hnamed⟩ := Cond.code_named hcode
  obtain ⟨methM, cM, hmethM, -, -, -, -, -, -, hsigM⟩ := Cond.code_spec hnamed hcode
  have hstatic : methM.isStatic = true := Cond.static_spec hnamed hmethM hstat
  obtain ⟨kP, hkP, -⟩ := className_of_methodNamed hnamed
  have hinitP : kP.init = .initialized := Cond.initialized_spec (findClass_of_methodNamed hnamed) hkP hinit
  obtain ⟨vm₁, X₁, hstep₁⟩ := X.invokestatic hexec hown hlink hnamed hmethM hstatic hkP hinitP hy (g := g) hg (argsL := argsL) (rest := rest) (hlen _ hsigM) hstack hdg
  rcases hK m meth c ⟨T.setVm vm₁, locs, cells, slots⟩ { g with stack := rest } (.invokestatic index) mk argsL.toArray X₁ hg hsize hdg hW (X₁.named hnamed) (hpre vm₁ X₁.warmed) with ⟨v, B, X', hpost, hsteps⟩ | ⟨q, B, X', hpost, hsteps⟩
  · exact Or.inl ⟨v, vm₁, B, X₁.warmed, X', hpost, fun target h => hstep₁ _ fun acts => by rw [doInvoke_state]; exact hsteps.trans h⟩
  · exact Or.inr ⟨q, vm₁, B, X₁.warmed, X', hpost, hstep₁ _ fun acts => by rw [doInvoke_state]; exact hsteps⟩
end Calls
theorem vx_cls {s : State} {T : State} {vm₁ : Vm} {E : String} {k : ClassId} (hW : s.WarmedH vm₁) (h : (T.setVm vm₁).vm.findClass E = some k) : s.vm.findClass E = some k := by
  have h1 : vm₁.findClass E = some k := h
  rw [hW.alike.findClass] at h1
  exact h1
/-- the method's frame g, with q thrown over it -/
def vx_W (p : Program) (l : Launch) (e : Env) (R : Room) (s : State) (m : MethodId) (args : Array Value) (below : List Frame) (meth : Method) (c : Code) (H : Heap) (locs : List Loc) (cells slots : Nat) (Q : State → Prop) (g : JFrame) (q : Addr) : Prop :=
  ∀ T : State, T.heap = H → Stand p l e R s m args below meth c T locs cells slots → ∃ t, Steps p.tables e below ((T.setTop g).pushFrame (.throwing q)) t ∧ Q t
def vx_Run (p : Program) (l : Launch) (e : Env) (R : Room) (s : State) (m : MethodId) (args : Array Value) (below : List Frame) (meth : Method) (c : Code) (H : Heap) (locs : List Loc) (cells slots mc ms : Nat) (g : JFrame) (rest : List Value) (Qa : State → Outcome → State → Prop) (XC : String → State → State → Prop) (free : Addr → Prop) : Prop :=
  ∀ T : State, T.heap = H → Stand p l e R s m args below meth c T locs cells slots →
    (∃ (v : Option Value) (st₀ t T' : State) (L : List Loc), st₀.heap = H ∧ Stand p l e R s m args below meth c T' (locs ++ L) (cells + mc) (slots + ms) ∧ (∀ q ∈ L, free q.base) ∧ T'.heap = t.heap ∧ T'.vm = t.vm ∧ Qa st₀ (.returned v) t ∧
      Goes p e below T g T' { g with pc := g.pc + 3, stack := v.toList ++ rest }) ∨
    (∃ (q : Addr) (st₀ t T' : State) (L : List Loc) (E : String) (ce : Cell), st₀.heap = H ∧ Stand p l e R s m args below meth c T' (locs ++ L) (cells + mc) (slots + ms) ∧ (∀ z ∈ L, free z.base) ∧ T'.heap = t.heap ∧ T'.vm = t.vm ∧ XC E st₀ t ∧ t.heap[q]? = some ce ∧ ce.vm = .none ∧ s.vm.findClass E = some ce.cls ∧
      Steps p.tables e below (T.setTop g) ((T'.setTop { g with stack := rest }).pushFrame (.throwing q)))
def vx_X {S : Type} (px : S → Prop) (B : String → S → State → Prop) (A : Nat → Prop) : String → State → State → Prop := fun E st t => ∃ u : S, px u ∧ B E u t ∧ va_F A st t
section Runs
variable {p : Program} {l : Launch} {e : Env} {R : Room} {s : State} {m : MethodId} {args : Array Value} {below : List Frame} {meth : Method} {c : Code} {H : Heap} {locs : List Loc} {cells slots : Nat}
variable {y : MethodName} {bytes cc : ByteArray} {maxL nL mc ms n index : Nat} {ret : Option FieldType} {ws : List Cond} {rm : Room} {Pc : Array Value → State → Prop} {Qc : Array Value → State → Outcome → State → Prop} {XC : String → State → State → Prop} {free : Addr → Prop} {Ts : List Cond} {own C : String} {b : Addr} {As rest : List Value} {g : JFrame}
theorem vx_callBack (cb : CallB R s args own index y bytes maxL ret ws rm mc ms n) (hM : vx_Met l y ws rm Pc Qc XC mc ms free) (hbl : FrameBlind Pc) : vx_Back l R p e below s args y 3 8 (PreOf R mc ms Pc) (PostOf Qc mc ms free) (vx_Post XC mc ms free) := by
  obtain ⟨hrc, hrs, hfr, hlo, hws, hcw, -, hini, -⟩ := cb
  exact vx_back (bytes := bytes) (maxL := maxL) (ret := ret) hM hbl hrc hrs hfr hlo hws hcw (fun a' U hW => word_at hW (Or.inl (by first | rfl | simp [Cond.onTables, Cond.keeps, Cond.steady])) hini)
theorem vx_runV (S : CallFix p m c cc nL s args Ts own) (hM : vx_Met l y ws rm Pc Qc XC mc ms free) (cw : CallW R s args own C index y bytes maxL ret ws rm mc ms n) (hp : PreV s H C b Pc As)
    (hg : g.method = m) (hn : As.length = n) (hsize : g.locals.size = nL) (hstack : g.stack = As.reverse ++ .ref b :: rest) (hW : 2 * g.monitorRoom + (rest.map fun v => v.category).sum ≤ 8) (hdg : decode cc g.pc = .ok (.invokevirtual index, 3)) (hf : cells + mc ≤ R.cells ∧ slots + ms ≤ R.slots) :
    vx_Run p l e R s m args below meth c H locs cells slots mc ms g rest (Qc (Value.ref b :: As).toArray) XC free := by
  have hK : vx_Back l R p e below s args y 3 8 (PreOf R mc ms Pc) (PostOf Qc mc ms free) (vx_Post XC mc ms free) := vx_callBack cw.1 hM hp.1
  obtain ⟨⟨-, -, -, -, -, -, hcode, -, hy, hlen, hl⟩, hin, hse⟩ := cw
  obtain ⟨hx, hb, hml, ho, -⟩ := S
  obtain ⟨-, ⟨cellB, hcB, hoB, hclB⟩, hPc⟩ := hp
  intro T hT X
  rcases vx_callV X hx (C := C) (bytes := bytes) (maxL := maxL) (ret := ret) ho hl hin hse hcode hy hK (by rw [hT]; exact hcB) hoB hclB hg (hsize.trans hml.symm) (argsL := As) (rest := rest) (fun sig h => hn.trans (hlen sig h)) hstack hW (by rw [hb]; exact hdg)
    (fun vm₁ hW₁ => ⟨hf.1, hf.2, hPc (T.setVm vm₁) hT hW₁⟩) with ⟨v, vm₁, ⟨U', l2, c2, s2⟩, hW₁, X', ⟨g', mk, t, L, e1, e2, hq, h1, hL, h2, h3⟩, st⟩ | ⟨q, vm₁, ⟨U', l2, c2, s2⟩, hW₁, X', ⟨g', mk, t, L, E, ce, e1, e2, hq, hce, hcv, hcl, h1, hL, h2, h3⟩, st⟩
  · dsimp only [Pt.U, Pt.locs, Pt.cells, Pt.slots] at X' e1 e2 h1 h2 h3 st
    subst h1; subst h2; subst h3
    exact Or.inl ⟨v, (T.setVm vm₁).calling g' mk (Value.ref b :: As).toArray, t, U', L, hT, X', hL, e1, e2, hq, st⟩
  · dsimp only [Pt.U, Pt.locs, Pt.cells, Pt.slots] at X' e1 e2 h1 h2 h3 st hcl
    subst h1; subst h2; subst h3
    exact Or.inr ⟨q, (T.setVm vm₁).calling g' mk (Value.ref b :: As).toArray, t, U', L, E, ce, hT, X', hL, e1, e2, hq, hce, hcv, vx_cls hW₁ hcl, st⟩
theorem vx_runS (S : CallFix p m c cc nL s args Ts own) (hM : vx_Met l y ws rm Pc Qc XC mc ms free) (cw : CallB R s args own index y bytes maxL ret ws rm mc ms n ∧ (Cond.static y).before args s = true) (hp : PreS s H Pc As)
    (hg : g.method = m) (hn : As.length = n) (hsize : g.locals.size = nL) (hstack : g.stack = As.reverse ++ rest) (hW : 2 * g.monitorRoom + (rest.map fun v => v.category).sum ≤ 8) (hdg : decode cc g.pc = .ok (.invokestatic index, 3)) (hf : cells + mc ≤ R.cells ∧ slots + ms ≤ R.slots) :
    vx_Run p l e R s m args below meth c H locs cells slots mc ms g rest (Qc As.toArray) XC free := by
  have hK : vx_Back l R p e below s args y 3 8 (PreOf R mc ms Pc) (PostOf Qc mc ms free) (vx_Post XC mc ms free) := vx_callBack cw.1 hM hp.1
  obtain ⟨⟨-, -, -, -, -, -, hcode, hini, hy, hlen, hl⟩, hstt⟩ := cw
  obtain ⟨hx, hb, hml, ho, -⟩ := S
  intro T hT X
  rcases vx_callS X hx (bytes := bytes) (maxL := maxL) (ret := ret) ho hl hstt hini hcode hy hK hg (hsize.trans hml.symm) (argsL := As) (rest := rest) (fun sig h => hn.trans (hlen sig h)) hstack hW (by rw [hb]; exact hdg)
    (fun vm₁ hW₁ => ⟨hf.1, hf.2, hp.2 (T.setVm vm₁) hT hW₁⟩) with ⟨v, vm₁, ⟨U', l2, c2, s2⟩, hW₁, X', ⟨g', mk, t, L, e1, e2, hq, h1, hL, h2, h3⟩, st⟩ | ⟨q, vm₁, ⟨U', l2, c2, s2⟩, hW₁, X', ⟨g', mk, t, L, E, ce, e1, e2, hq, hce, hcv, hcl, h1, hL, h2, h3⟩, st⟩
  · dsimp only [Pt.U, Pt.locs, Pt.cells, Pt.slots] at X' e1 e2 h1 h2 h3 st
    subst h1; subst h2; subst h3
    exact Or.inl ⟨v, (T.setVm vm₁).calling g' mk As.toArray, t, U', L, hT, X', hL, e1, e2, hq, st⟩
  · dsimp only [Pt.U, Pt.locs, Pt.cells, Pt.slots] at X' e1 e2 h1 h2 h3 st hcl
    subst h1; subst h2; subst h3
    exact Or.inr ⟨q, (T.setVm vm₁).calling g' mk As.toArray, t, U', L, E, ce, hT, X', hL, e1, e2, hq, hce, hcv, vx_cls hW₁ hcl, st⟩
end Runs
section Rows
variable {p : Program} {l : Launch} {e : Env} {R : Room} {s : State} {m : MethodId} {args : Array Value} {below : List Frame} {meth : Method} {c : Code} {H : Heap} {locs : List Loc} {cells slots : Nat} {Q : State → Prop}
variable {mc ms : Nat} {free : Addr → Prop} {A0 A1 : Nat → Prop} {H0 : Heap} {a : Array Value} {pc : Nat} {ls : Array Slot} {st0 rest : List Value}
theorem vx_keep {st₀ t T' : State} {L : List Loc} (h0 : st₀.heap = H) (e1 : T'.heap = t.heap) (hS : va_S A0 H0 H locs) (hA : ∀ q, q < H.size → A1 q → A0 q) (hf : ∀ q, free q → A0 q) (hL : ∀ q ∈ L, free q.base) (hF : va_F A1 st₀ t) :
    H.size ≤ T'.heap.size ∧ (∀ q : Nat, q < H.size → ¬ A1 q → T'.heap[q]? = H[q]?) ∧ va_S A0 H0 T'.heap (locs ++ L) := by
  obtain ⟨hz, hk⟩ := hF
  rw [h0] at hz hk
  exact ⟨by rw [e1]; exact hz, fun q h1 h2 => by rw [e1]; exact hk q h1 h2,
    ⟨Nat.le_trans hS.1 (by rw [e1]; exact hz), fun q h1 h2 => by rw [e1, hk q (Nat.lt_of_lt_of_le h1 hS.1) (fun z => h2 (hA q (Nat.lt_of_lt_of_le h1 hS.1) z))]; exact hS.2.1 q h1 h2, fun q hq => by
      rcases List.mem_append.mp hq with h | h
      · exact hS.2.2 q h
      · exact hf _ (hL q h)⟩⟩
theorem vx_calli {S SX : Type} {post : Int32 → S → Prop} {px : SX → Prop} {B : S → State → Prop} {BX : String → SX → State → Prop} {AX : Nat → Prop} (hr : vx_Run p l e R s m args below meth c H locs cells slots mc ms (F0 m pc ls st0) rest (va_Qi post B A1 a) (vx_X px BX AX) free) (hS : va_S A0 H0 H locs) (hA : ∀ q, q < H.size → A1 q → A0 q) (hf : ∀ q, free q → A0 q) (hAX : ∀ q, q < H.size → AX q → A0 q)
    (kx : ∀ (E : String) (ce : Cell) (q9 : Addr) (u : SX) (t : State) (H1 : Heap) (locs1 : List Loc), t.heap = H1 → s.vm.Alike t.vm → px u → BX E u t → H.size ≤ H1.size → (∀ q : Nat, q < H.size → ¬ AX q → H1[q]? = H[q]?) → va_S A0 H0 H1 locs1 → H1[q9]? = some ce → ce.vm = .none → s.vm.findClass E = some ce.cls → vx_W p l e R s m args below meth c H1 locs1 (cells + mc) (slots + ms) Q (F0 m pc ls rest) q9)
    (kk : ∀ (r : Int32) (u : S) (t : State) (H1 : Heap) (locs1 : List Loc), t.heap = H1 → s.vm.Alike t.vm → post r u → B u t → H.size ≤ H1.size → (∀ q : Nat, q < H.size → ¬ A1 q → H1[q]? = H[q]?) → va_S A0 H0 H1 locs1 → W p l e R s m args below meth c H1 locs1 (cells + mc) (slots + ms) Q (F0 m (pc + 3) ls (.int r :: rest))) : W p l e R s m args below meth c H locs cells slots Q (F0 m pc ls st0) := by
  intro T hT X
  rcases hr T hT X with ⟨v, st₀, t, T', L, h0, X', hL, e1, e2, ⟨⟨r, u, hv, hp, hb⟩, hF⟩, st⟩ | ⟨q, st₀, t, T', L, E, ce, h0, X', hL, e1, e2, ⟨u, hp, hb, hF⟩, hce, hcv, hcl, st⟩
  · cases hv
    obtain ⟨k1, k2, k3⟩ := vx_keep h0 e1 hS hA hf hL hF
    obtain ⟨t2, a1, b1⟩ := kk r u t T'.heap (locs ++ L) e1.symm (by rw [← e2]; exact X'.warmed.alike) hp hb k1 k2 k3 T' rfl X'
    exact ⟨t2, st t2 a1, b1⟩
  · obtain ⟨k1, k2, k3⟩ := vx_keep h0 e1 hS hAX hf hL hF
    obtain ⟨t2, a1, b1⟩ := kx E ce q u t T'.heap (locs ++ L) e1.symm (by rw [← e2]; exact X'.warmed.alike) hp hb k1 k2 k3 (by rw [e1]; exact hce) hcv hcl T' rfl X'
    exact ⟨t2, st.trans a1, b1⟩
theorem vx_calll {S SX : Type} {post : Int64 → S → Prop} {px : SX → Prop} {B : S → State → Prop} {BX : String → SX → State → Prop} {AX : Nat → Prop} (hr : vx_Run p l e R s m args below meth c H locs cells slots mc ms (F0 m pc ls st0) rest (va_Ql post B A1 a) (vx_X px BX AX) free) (hS : va_S A0 H0 H locs) (hA : ∀ q, q < H.size → A1 q → A0 q) (hf : ∀ q, free q → A0 q) (hAX : ∀ q, q < H.size → AX q → A0 q)
    (kx : ∀ (E : String) (ce : Cell) (q9 : Addr) (u : SX) (t : State) (H1 : Heap) (locs1 : List Loc), t.heap = H1 → s.vm.Alike t.vm → px u → BX E u t → H.size ≤ H1.size → (∀ q : Nat, q < H.size → ¬ AX q → H1[q]? = H[q]?) → va_S A0 H0 H1 locs1 → H1[q9]? = some ce → ce.vm = .none → s.vm.findClass E = some ce.cls → vx_W p l e R s m args below meth c H1 locs1 (cells + mc) (slots + ms) Q (F0 m pc ls rest) q9)
    (kk : ∀ (r : Int64) (u : S) (t : State) (H1 : Heap) (locs1 : List Loc), t.heap = H1 → s.vm.Alike t.vm → post r u → B u t → H.size ≤ H1.size → (∀ q : Nat, q < H.size → ¬ A1 q → H1[q]? = H[q]?) → va_S A0 H0 H1 locs1 → W p l e R s m args below meth c H1 locs1 (cells + mc) (slots + ms) Q (F0 m (pc + 3) ls (.long r :: rest))) : W p l e R s m args below meth c H locs cells slots Q (F0 m pc ls st0) := by
  intro T hT X
  rcases hr T hT X with ⟨v, st₀, t, T', L, h0, X', hL, e1, e2, ⟨⟨r, u, hv, hp, hb⟩, hF⟩, st⟩ | ⟨q, st₀, t, T', L, E, ce, h0, X', hL, e1, e2, ⟨u, hp, hb, hF⟩, hce, hcv, hcl, st⟩
  · cases hv
    obtain ⟨k1, k2, k3⟩ := vx_keep h0 e1 hS hA hf hL hF
    obtain ⟨t2, a1, b1⟩ := kk r u t T'.heap (locs ++ L) e1.symm (by rw [← e2]; exact X'.warmed.alike) hp hb k1 k2 k3 T' rfl X'
    exact ⟨t2, st t2 a1, b1⟩
  · obtain ⟨k1, k2, k3⟩ := vx_keep h0 e1 hS hAX hf hL hF
    obtain ⟨t2, a1, b1⟩ := kx E ce q u t T'.heap (locs ++ L) e1.symm (by rw [← e2]; exact X'.warmed.alike) hp hb k1 k2 k3 (by rw [e1]; exact hce) hcv hcl T' rfl X'
    exact ⟨t2, st.trans a1, b1⟩
theorem vx_callf {S SX : Type} {post : UInt32 → S → Prop} {px : SX → Prop} {B : S → State → Prop} {BX : String → SX → State → Prop} {AX : Nat → Prop} (hr : vx_Run p l e R s m args below meth c H locs cells slots mc ms (F0 m pc ls st0) rest (va_Qf post B A1 a) (vx_X px BX AX) free) (hS : va_S A0 H0 H locs) (hA : ∀ q, q < H.size → A1 q → A0 q) (hf : ∀ q, free q → A0 q) (hAX : ∀ q, q < H.size → AX q → A0 q)
    (kx : ∀ (E : String) (ce : Cell) (q9 : Addr) (u : SX) (t : State) (H1 : Heap) (locs1 : List Loc), t.heap = H1 → s.vm.Alike t.vm → px u → BX E u t → H.size ≤ H1.size → (∀ q : Nat, q < H.size → ¬ AX q → H1[q]? = H[q]?) → va_S A0 H0 H1 locs1 → H1[q9]? = some ce → ce.vm = .none → s.vm.findClass E = some ce.cls → vx_W p l e R s m args below meth c H1 locs1 (cells + mc) (slots + ms) Q (F0 m pc ls rest) q9)
    (kk : ∀ (r : UInt32) (u : S) (t : State) (H1 : Heap) (locs1 : List Loc), t.heap = H1 → s.vm.Alike t.vm → post r u → B u t → H.size ≤ H1.size → (∀ q : Nat, q < H.size → ¬ A1 q → H1[q]? = H[q]?) → va_S A0 H0 H1 locs1 → W p l e R s m args below meth c H1 locs1 (cells + mc) (slots + ms) Q (F0 m (pc + 3) ls (.float r :: rest))) : W p l e R s m args below meth c H locs cells slots Q (F0 m pc ls st0) := by
  intro T hT X
  rcases hr T hT X with ⟨v, st₀, t, T', L, h0, X', hL, e1, e2, ⟨⟨r, u, hv, hp, hb⟩, hF⟩, st⟩ | ⟨q, st₀, t, T', L, E, ce, h0, X', hL, e1, e2, ⟨u, hp, hb, hF⟩, hce, hcv, hcl, st⟩
  · cases hv
    obtain ⟨k1, k2, k3⟩ := vx_keep h0 e1 hS hA hf hL hF
    obtain ⟨t2, a1, b1⟩ := kk r u t T'.heap (locs ++ L) e1.symm (by rw [← e2]; exact X'.warmed.alike) hp hb k1 k2 k3 T' rfl X'
    exact ⟨t2, st t2 a1, b1⟩
  · obtain ⟨k1, k2, k3⟩ := vx_keep h0 e1 hS hAX hf hL hF
    obtain ⟨t2, a1, b1⟩ := kx E ce q u t T'.heap (locs ++ L) e1.symm (by rw [← e2]; exact X'.warmed.alike) hp hb k1 k2 k3 (by rw [e1]; exact hce) hcv hcl T' rfl X'
    exact ⟨t2, st.trans a1, b1⟩
theorem vx_calld {S SX : Type} {post : UInt64 → S → Prop} {px : SX → Prop} {B : S → State → Prop} {BX : String → SX → State → Prop} {AX : Nat → Prop} (hr : vx_Run p l e R s m args below meth c H locs cells slots mc ms (F0 m pc ls st0) rest (va_Qd post B A1 a) (vx_X px BX AX) free) (hS : va_S A0 H0 H locs) (hA : ∀ q, q < H.size → A1 q → A0 q) (hf : ∀ q, free q → A0 q) (hAX : ∀ q, q < H.size → AX q → A0 q)
    (kx : ∀ (E : String) (ce : Cell) (q9 : Addr) (u : SX) (t : State) (H1 : Heap) (locs1 : List Loc), t.heap = H1 → s.vm.Alike t.vm → px u → BX E u t → H.size ≤ H1.size → (∀ q : Nat, q < H.size → ¬ AX q → H1[q]? = H[q]?) → va_S A0 H0 H1 locs1 → H1[q9]? = some ce → ce.vm = .none → s.vm.findClass E = some ce.cls → vx_W p l e R s m args below meth c H1 locs1 (cells + mc) (slots + ms) Q (F0 m pc ls rest) q9)
    (kk : ∀ (r : UInt64) (u : S) (t : State) (H1 : Heap) (locs1 : List Loc), t.heap = H1 → s.vm.Alike t.vm → post r u → B u t → H.size ≤ H1.size → (∀ q : Nat, q < H.size → ¬ A1 q → H1[q]? = H[q]?) → va_S A0 H0 H1 locs1 → W p l e R s m args below meth c H1 locs1 (cells + mc) (slots + ms) Q (F0 m (pc + 3) ls (.double r :: rest))) : W p l e R s m args below meth c H locs cells slots Q (F0 m pc ls st0) := by
  intro T hT X
  rcases hr T hT X with ⟨v, st₀, t, T', L, h0, X', hL, e1, e2, ⟨⟨r, u, hv, hp, hb⟩, hF⟩, st⟩ | ⟨q, st₀, t, T', L, E, ce, h0, X', hL, e1, e2, ⟨u, hp, hb, hF⟩, hce, hcv, hcl, st⟩
  · cases hv
    obtain ⟨k1, k2, k3⟩ := vx_keep h0 e1 hS hA hf hL hF
    obtain ⟨t2, a1, b1⟩ := kk r u t T'.heap (locs ++ L) e1.symm (by rw [← e2]; exact X'.warmed.alike) hp hb k1 k2 k3 T' rfl X'
    exact ⟨t2, st t2 a1, b1⟩
  · obtain ⟨k1, k2, k3⟩ := vx_keep h0 e1 hS hAX hf hL hF
    obtain ⟨t2, a1, b1⟩ := kx E ce q u t T'.heap (locs ++ L) e1.symm (by rw [← e2]; exact X'.warmed.alike) hp hb k1 k2 k3 (by rw [e1]; exact hce) hcv hcl T' rfl X'
    exact ⟨t2, st.trans a1, b1⟩
theorem vx_callv {S SX : Type} {post : S → Prop} {px : SX → Prop} {B : S → State → Prop} {BX : String → SX → State → Prop} {AX : Nat → Prop} (hr : vx_Run p l e R s m args below meth c H locs cells slots mc ms (F0 m pc ls st0) rest (va_Qv post B A1 a) (vx_X px BX AX) free) (hS : va_S A0 H0 H locs) (hA : ∀ q, q < H.size → A1 q → A0 q) (hf : ∀ q, free q → A0 q) (hAX : ∀ q, q < H.size → AX q → A0 q)
    (kx : ∀ (E : String) (ce : Cell) (q9 : Addr) (u : SX) (t : State) (H1 : Heap) (locs1 : List Loc), t.heap = H1 → s.vm.Alike t.vm → px u → BX E u t → H.size ≤ H1.size → (∀ q : Nat, q < H.size → ¬ AX q → H1[q]? = H[q]?) → va_S A0 H0 H1 locs1 → H1[q9]? = some ce → ce.vm = .none → s.vm.findClass E = some ce.cls → vx_W p l e R s m args below meth c H1 locs1 (cells + mc) (slots + ms) Q (F0 m pc ls rest) q9)
    (kk : ∀ (u : S) (t : State) (H1 : Heap) (locs1 : List Loc), t.heap = H1 → s.vm.Alike t.vm → post u → B u t → H.size ≤ H1.size → (∀ q : Nat, q < H.size → ¬ A1 q → H1[q]? = H[q]?) → va_S A0 H0 H1 locs1 → W p l e R s m args below meth c H1 locs1 (cells + mc) (slots + ms) Q (F0 m (pc + 3) ls (rest))) : W p l e R s m args below meth c H locs cells slots Q (F0 m pc ls st0) := by
  intro T hT X
  rcases hr T hT X with ⟨v, st₀, t, T', L, h0, X', hL, e1, e2, ⟨⟨u, hv, hp, hb⟩, hF⟩, st⟩ | ⟨q, st₀, t, T', L, E, ce, h0, X', hL, e1, e2, ⟨u, hp, hb, hF⟩, hce, hcv, hcl, st⟩
  · cases hv
    obtain ⟨k1, k2, k3⟩ := vx_keep h0 e1 hS hA hf hL hF
    obtain ⟨t2, a1, b1⟩ := kk u t T'.heap (locs ++ L) e1.symm (by rw [← e2]; exact X'.warmed.alike) hp hb k1 k2 k3 T' rfl X'
    exact ⟨t2, st t2 a1, b1⟩
  · obtain ⟨k1, k2, k3⟩ := vx_keep h0 e1 hS hAX hf hL hF
    obtain ⟨t2, a1, b1⟩ := kx E ce q u t T'.heap (locs ++ L) e1.symm (by rw [← e2]; exact X'.warmed.alike) hp hb k1 k2 k3 (by rw [e1]; exact hce) hcv hcl T' rfl X'
    exact ⟨t2, st.trans a1, b1⟩
/-- caught by the row x of this method's table; the rows ahead don't take it -/
theorem vx_catch {own name : String} {E : String} {ce : Cell} {q : Addr} (hown : s.vm.findClass own = some m.cls) (pre : List ExceptionTableEntry) (x : ExceptionTableEntry) (suf : List ExceptionTableEntry) (hsplit : c.exceptionTable.toList = pre ++ x :: suf)
    (hpass : ∀ z ∈ pre, covers z pc = false ∨ (z.catchType ≠ 0 ∧ ∃ nm : String, (Cond.classLink own z.catchType nm).before args s = true ∧ va_Nc E nm s)) (hx : covers x pc = true) (h0 : x.catchType ≠ 0)
    (hlink : (Cond.classLink own x.catchType name).before args s = true) (hcast : (Cond.castable E name).before args s = true) (hcell : H[q]? = some ce) (hv : ce.vm = .none) (hcl : s.vm.findClass E = some ce.cls)
    (kk : W p l e R s m args below meth c H locs cells slots Q (F0 m x.handlerPc ls [.ref q])) : vx_W p l e R s m args below meth c H locs cells slots Q (F0 m pc ls rest) q := by
  intro T hT X
  have hpl : e.platform.magicAccessors = ({} : Platform).magicAccessors := by rw [X.admits.platform]
  obtain ⟨c3, c4, hc3, hc4, hasg⟩ := Cond.castable_spec hcast
  cases Option.some.inj (hc3.symm.trans hcl)
  obtain ⟨c5, hc5, hcl5⟩ := Cond.classLink_spec hown hlink e.platform hpl
  cases Option.some.inj (hc4.symm.trans hc5)
  obtain ⟨vm', X', st⟩ := X.thenCaughtThrough q (g := F0 m pc ls rest) rfl (Steps.refl _) (by rw [hT]; exact hcell) (by rw [hv]; rfl) (by obtain ⟨k9, h9, -⟩ := Vm.findClass_spec hcl; exact ⟨k9, h9⟩) pre x suf hsplit
    (fun z hz => by
      rcases hpass z hz with h | ⟨hz0, nm, hl1, hn1⟩
      · exact Or.inl h
      · obtain ⟨c6, hc6, hcl6⟩ := Cond.classLink_spec hown hl1 e.platform hpl
        obtain ⟨a8, b8, h1, h2, h3⟩ := hn1
        cases Option.some.inj (h1.symm.trans hcl)
        cases Option.some.inj (h2.symm.trans hc6)
        exact Or.inr ⟨hz0, _, hcl6, h3⟩) hx (Or.inr ⟨h0, c4, hcl5, hasg⟩)
  obtain ⟨t, a1, b1⟩ := kk (T.setVm vm') hT X'
  exact ⟨t, st.trans a1, b1⟩
end Rows
section Ends
variable {p : Program} {l : Launch} {e : Env} {R : Room} {s : State} {m : MethodId} {args : Array Value} {below : List Frame} {meth : Method} {c : Code} {H : Heap} {locs : List Loc} {cells slots : Nat} {Q : State → Prop}
variable {mc ms : Nat} {free : Addr → Prop} {A0 A1 : Nat → Prop} {H0 : Heap} {a : Array Value} {ls : Array Slot} {st0 rest : List Value}
variable {Qc : Array Value → State → Outcome → State → Prop} {XC : String → State → State → Prop}
/-- what a body that may throw owes at its end -/
def vx_MQ (below : List Frame) (Qc : Array Value → State → Outcome → State → Prop) (XC : String → State → State → Prop) (a : Array Value) (s : State) (mc ms : Nat) (free : Addr → Prop) : State → Prop := fun t =>
  ∃ o, t.status = .running ∧ Ended t below o ∧ vx_Q Qc XC mc ms free a s o t
theorem vx_ret {g : JFrame} {mc ms : Nat} (k : W p l e R s m args below meth c H locs cells slots (MQ below Qc args s mc ms free) g) : W p l e R s m args below meth c H locs cells slots (vx_MQ below Qc XC args s mc ms free) g := by
  intro T hT X
  obtain ⟨t, a1, o, b1, b2, b3, b4⟩ := k T hT X
  exact ⟨t, a1, o, b1, b2, Or.inl ⟨b3, b4⟩⟩
/-- not caught here: it goes on to the caller -/
theorem vx_widen {g : JFrame} {q : Addr} {k n : Nat} (h1 : cells ≤ k) (h2 : slots ≤ n) (kk : vx_W p l e R s m args below meth c H locs k n Q g q) : vx_W p l e R s m args below meth c H locs cells slots Q g q := fun T hT X => kk T hT (stand_widen X h1 h2)
theorem vx_out {pc : Nat} {E : String} {ce : Cell} {q : Addr} {mc ms : Nat} (hout : ∀ x ∈ c.exceptionTable.toList, covers x pc = false) (hlocks : meth.locks = false) (hcell : H[q]? = some ce) (hv : ce.vm = .none) (hcl : s.vm.findClass E = some ce.cls)
    (hx : ∀ t : State, t.heap = H → s.vm.Alike t.vm → XC E s t) (hf : ∀ z ∈ locs, free z.base) (hc : cells ≤ mc) (hs : slots ≤ ms) :
    vx_W p l e R s m args below meth c H locs cells slots (vx_MQ below Qc XC args s mc ms free) (F0 m pc ls rest) q := by
  intro T hT X
  obtain ⟨st1, hrun, hend, hW, hsm⟩ := X.leaveThrown q (g := F0 m pc ls rest) rfl rfl rfl hout hlocks
  have hcell9 : (T.setFrames (.throwing q :: below)).heap[q]? = some ce := by
    show T.heap[q]? = some ce
    rw [hT]; exact hcell
  exact ⟨_, st1, .threw q, hrun, hend, Or.inr ⟨q, rfl, E, ce, locs, hx _ hT hW.alike, hcell9, hv, hcl, hW, hsm.mono hc hs, hf⟩⟩
theorem vx_frame {U : State} {k n : Nat} (h : s.sameButNew ({ U with vm := s.vm } : State) locs k n) : s.heap.size ≤ U.heap.size ∧ ∀ q : Nat, q < s.heap.size → (∀ z ∈ locs, z.base ≠ q) → U.heap[q]? = s.heap[q]? := by
  obtain ⟨-, h2, -, -, -, h6⟩ := h
  refine ⟨h2, fun q hq hz => ?_⟩
  obtain ⟨c9, e1, e2, e3, e4⟩ := h6 q _ (Array.getElem?_eq_getElem hq)
  have hs : c9.slots = (s.heap[q]).slots := Array.ext_getElem? fun i => e4 i fun hm => hz _ hm rfl
  have h9 : c9 = s.heap[q] := by
    rw [hs] at e2
    exact e2
  have e5 : U.heap[q]? = some c9 := e1
  rw [e5, h9, Array.getElem?_eq_getElem hq]
/-- the words of a throw but the four that speak of the heap -/
def vx_no (w : Cond) : Bool := decide (w ≠ .isRef (.static Bundle.tN "UNASSIGNED_STACK" Bundle.steD)) && decide (w ≠ .isRef (.static Bundle.tN "SUPPRESSED_SENTINEL" Bundle.listD)) && decide (w ≠ .laysStatic Bundle.tN "UNASSIGNED_STACK" Bundle.steD) && decide (w ≠ .laysStatic Bundle.tN "SUPPRESSED_SENTINEL" Bundle.listD)
def vx_at0 (own : String) (ic : Nat) (X : String) (names : List String) : List Cond := (Bundle.ownAtoms0 own ic X names).filter vx_no
def vx_atS (own : String) (ic : Nat) (X : String) (names : List String) : List Cond := (Bundle.ownAtoms own ic X names).filter vx_no
/-- a word that the tables alone decide, or a good one -/
def vx_ot (w : Cond) : Bool := w.onTables || goodWord w
theorem vx_ot_at {args a' : Array Value} {s U : State} {w : Cond} (hW : s.WarmedH U.vm) (hvm : s.vm = U.vm) (hg : vx_ot w = true) (h : w.before args s = true) : w.before a' U = true := by
  simp only [vx_ot, Bool.or_eq_true] at hg
  rcases hg with hg | hg
  · exact va_tabs hg hvm h
  · exact word_at hW (good_of_word hg) h
/-- a list's words: the good ones out of the method's own list, the others by premises of their own -/
theorem vx_hat {args : Array Value} {s : State} {L B : List Cond} (h1 : ∀ w ∈ L.filter goodWord, w.before args s = true) (h2 : ∀ w ∈ L.filter (fun w => !goodWord w), w ∈ B) (h3 : ∀ w ∈ B, w.before args s = true) : ∀ w ∈ L, w.before args s = true := by
  intro w hw
  by_cases g : goodWord w = true
  · exact h1 w (List.mem_filter.mpr ⟨hw, g⟩)
  · refine h3 w (h2 w (List.mem_filter.mpr ⟨hw, ?_⟩))
    show (!goodWord w) = true
    cases hgw : goodWord w
    · rfl
    · exact absurd hgw g
theorem vx_c {args : Array Value} {s : State} {w : Cond} {B : List Cond} (h : w.before args s = true) (t : ∀ w ∈ B, w.before args s = true) : ∀ w' ∈ w :: B, w'.before args s = true := fun w' h' => (List.mem_cons.mp h').elim (fun e => by rw [e]; exact h) (t w')
theorem vx_n {args : Array Value} {s : State} : ∀ w ∈ ([] : List Cond), w.before args s = true := fun _ h => nomatch h
theorem vx_own {args : Array Value} {s : State} {L : List Cond} (h1 : ∀ w ∈ L.filter vx_no, w.before args s = true)
    (hU : (Cond.isRef (.static Bundle.tN "UNASSIGNED_STACK" Bundle.steD)).before args s = true) (hN : (Cond.isRef (.static Bundle.tN "SUPPRESSED_SENTINEL" Bundle.listD)).before args s = true)
    (lU : (Cond.laysStatic Bundle.tN "UNASSIGNED_STACK" Bundle.steD).before args s = true) (lN : (Cond.laysStatic Bundle.tN "SUPPRESSED_SENTINEL" Bundle.listD).before args s = true) : ∀ w ∈ L, w.before args s = true := by
  intro w hw
  by_cases e1 : w = .isRef (.static Bundle.tN "UNASSIGNED_STACK" Bundle.steD)
  · rw [e1]; exact hU
  · by_cases e2 : w = .isRef (.static Bundle.tN "SUPPRESSED_SENTINEL" Bundle.listD)
    · rw [e2]; exact hN
    · by_cases e3 : w = .laysStatic Bundle.tN "UNASSIGNED_STACK" Bundle.steD
      · rw [e3]; exact lU
      · by_cases e4 : w = .laysStatic Bundle.tN "SUPPRESSED_SENTINEL" Bundle.listD
        · rw [e4]; exact lN
        · exact h1 w (List.mem_filter.mpr ⟨hw, by unfold vx_no; rw [decide_eq_true e1, decide_eq_true e2, decide_eq_true e3, decide_eq_true e4]; rfl⟩)
/-- where a static field lies, its class's statics cell in H -/
def vx_L (C n d : String) (A : Nat → Prop) (U : State) (H : Heap) : Prop := ∃ (c : ClassId) (k : Class) (i : Nat) (f : Field) (a : Nat) (cell : Cell), U.vm.findClass C = some c ∧ U.fieldFound? C n d = some (c, k, i, f) ∧ f.isStatic = true ∧ k.statics = some a ∧ H[a]? = some cell ∧ cell.vm.isStatics = true ∧ cell.cls = c ∧ f.slot < cell.slots.size ∧ k.staticTypes[f.slot]? = some f.type ∧ ¬ A a
theorem vx_L.moved {C n d : String} {A : Nat → Prop} {u U : State} {H : Heap} (hvm : u.vm.Alike U.vm) (h : vx_L C n d A u H) : vx_L C n d A U H := by
  obtain ⟨c, k, i, f, a, cell, h1, h2, h3, h4, h5, h6, h7, h8, h9, h10⟩ := h
  obtain ⟨k', hi', he⟩ := State.fieldFound?_setVm hvm h2
  exact ⟨c, k', i, f, a, cell, by rw [hvm.findClass]; exact h1, hi', h3, by rw [he]; exact h4, h5, h6, h7, h8, by rw [he]; exact h9, h10⟩
theorem vx_L.kept {C n d : String} {A : Nat → Prop} {U : State} {H H1 : Heap} (h : vx_L C n d A U H) (hq : ∀ a : Nat, a < H.size → ¬ A a → H1[a]? = H[a]?) : vx_L C n d A U H1 := by
  obtain ⟨c, k, i, f, a, cell, h1, h2, h3, h4, h5, h6, h7, h8, h9, h10⟩ := h
  exact ⟨c, k, i, f, a, cell, h1, h2, h3, h4, by rw [hq a (Array.getElem?_eq_some_iff.mp h5).1 h10]; exact h5, h6, h7, h8, h9, h10⟩
theorem vx_L.narrow {C n d : String} {A B : Nat → Prop} {U : State} {H : Heap} (h : vx_L C n d A U H) (hAB : ∀ q, B q → A q) : vx_L C n d B U H := by
  obtain ⟨c, k, i, f, a, cell, h1, h2, h3, h4, h5, h6, h7, h8, h9, h10⟩ := h
  exact ⟨c, k, i, f, a, cell, h1, h2, h3, h4, h5, h6, h7, h8, h9, fun z => h10 (hAB _ z)⟩
theorem vx_L.word {C n d : String} {A : Nat → Prop} {s : State} {args : Array Value} (h : vx_L C n d A s s.heap) : (Cond.laysStatic C n d).before args s = true := by
  obtain ⟨c, k, i, f, a, cell, h1, h2, h3, h4, h5, h6, h7, h8, h9, -⟩ := h
  show (Cond.laysStatic C n d).holds args s none s [] = true
  exact Cond.laysStatic_of h1 h2 h3 h4 h5 h6 h7 h8 h9
/-- .. and what it holds: null or some reference -/
def vx_Zq (C n d : String) (A : Nat → Prop) (U : State) (H : Heap) : Prop := va_Zq C n d A U H ∧ vx_L C n d A U H
theorem vx_Zq.moved {C n d : String} {A : Nat → Prop} {u U : State} {H : Heap} (hvm : u.vm.Alike U.vm) (h : vx_Zq C n d A u H) : vx_Zq C n d A U H := ⟨va_Zq.moved hvm h.1, vx_L.moved hvm h.2⟩
theorem vx_Zq.kept {C n d : String} {A : Nat → Prop} {U : State} {H H1 : Heap} (h : vx_Zq C n d A U H) (hq : ∀ a : Nat, a < H.size → ¬ A a → H1[a]? = H[a]?) : vx_Zq C n d A U H1 := ⟨va_Zq.kept h.1 hq, vx_L.kept h.2 hq⟩
theorem vx_Zq.narrow {C n d : String} {A B : Nat → Prop} {U : State} {H : Heap} (h : vx_Zq C n d A U H) (hAB : ∀ q, B q → A q) : vx_Zq C n d B U H := ⟨va_Zq.narrow h.1 hAB, vx_L.narrow h.2 hAB⟩
theorem vx_Zqof {args : Array Value} {s : State} {C n d : String} {A : Nat → Prop} (hl : (Cond.laysStatic C n d).before args s = true) (hini : (Cond.initialized C).before args s = true) (h : (Cond.isRef (.static C n d)).before args s = true) (hA : ∀ a : Nat, a < s.heap.size → ¬ A a) : vx_Zq C n d A s s.heap := by
  refine ⟨va_Zqof hl hini h hA, ?_⟩
  obtain ⟨c, k, i, f, a, cell, h1, h2, h3, h4, h5, h6, h7, h8, h9⟩ := Cond.laysStatic_spec hl
  exact ⟨c, k, i, f, a, cell, h1, h2, h3, h4, h5, h6, h7, h8, h9, hA a (Array.getElem?_eq_some_iff.mp h5).1⟩
theorem vx_isRef {C n d : String} {v : Value} {A : Nat → Prop} {s : State} {args : Array Value} (h : va_Z C n d v A s s.heap) (hv : v.isRef = true) : (Cond.isRef (.static C n d)).before args s = true := by
  obtain ⟨cf, kf, fi, f, a, cell, h1, h2, h3, h4, h5, h6, h7, -⟩ := h
  have he : (Term.static C n d).eval args s none [] s = some v := by
    simp [Term.eval, State.fieldNamed?, h1, h2, h4, h5, h6, h7]
  simp only [Cond.before, Cond.holds, Cond.value, he]
  cases v <;> simp_all [Value.isRef]
theorem vx_isRefq {C n d : String} {A : Nat → Prop} {s : State} {args : Array Value} (h : va_Zq C n d A s s.heap) : (Cond.isRef (.static C n d)).before args s = true := by
  rcases h with h | ⟨t, h⟩
  · exact vx_isRef h rfl
  · exact vx_isRef h rfl
/-- the same frame, seen from here: as if the method were called anew in this heap -/
theorem vx_rebase {T : State} (X : Stand p l e R s m args below meth c T locs cells slots) {R' : Room} (hf : R'.frames ≤ R.frames) (hl : R'.locals ≤ R.locals) (hc : cells + R'.cells ≤ R.cells) (hs : slots + R'.slots ≤ R.slots) :
    Stand p l e R' ((T.setVm s.vm).setFrames (.invoking m args :: below)) m args below meth c T [] 0 0 := by
  have htop : (T.setVm s.vm).topJava?.isSome := X.here.top
  have hF : ((T.setVm s.vm).setFrames (.invoking m args :: below)).frames = .invoking m args :: below := State.frames_setFrames _ (State.cur_lt_of_top htop)
  obtain ⟨g₀, hg0⟩ := Option.isSome_iff_exists.mp htop
  obtain ⟨r, hr⟩ := State.topJava?_eq_some.mp hg0
  have hl9 : e.platform.stackLimits (T.setVm s.vm).me = e.platform.stackLimits s.me := X.limits
  have hb9 : (T.setVm s.vm).me.stackBytes = s.me.stackBytes := X.bytes
  refine ⟨X.admits, X.cas, X.clock, hF, ?_, X.hears, X.method, X.code, X.here, X.tail, X.warmed, ?_, ?_, ?_⟩
  · have h := X.room
    have hU : ((T.setVm s.vm).setFrames (.invoking m args :: below)).localsInUse = s.localsInUse := by
      rw [State.localsInUse_invoking hF (meth := meth) (c := c) X.method X.code, State.localsInUse_invoking X.frames X.method X.code]
    simp only [State.hasRoom, Bool.and_eq_true, decide_eq_true_eq] at h ⊢
    obtain ⟨⟨⟨⟨h1, h2, h3, h4, h5, h6⟩, h7⟩, h8⟩, h9⟩ := h
    rw [X.frames, List.length_cons] at h2 h3
    have q1 := X.heapSize
    have q2 := X.used
    simp only [hF, hU, List.length_cons, State.stackLimits_setFrames, State.stackBytes_setFrames, hl9, hb9]
    refine ⟨⟨⟨⟨by omega, by omega, by omega, by omega, by omega, h6⟩, ?_⟩, ?_⟩, X.book⟩
    · show T.heap.size + R'.cells ≤ e.platform.maxCells
      omega
    · show T.slotsUsed + R'.slots ≤ e.platform.maxSlots
      omega
  · rw [State.stackLimits_setFrames]; rfl
  · rw [State.stackBytes_setFrames]; rfl
  · refine ⟨?_, Nat.le_refl _, Nat.le_refl _, ?_, ?_, fun a c9 h9 => ⟨c9, h9, rfl, rfl, fun _ _ => rfl⟩⟩
    · obtain ⟨t, ht, -⟩ := State.frames_cons hr
      show T.setVm s.vm = { ((T.setVm s.vm).setFrames (.invoking m args :: below)).setFrames (T.setVm s.vm).frames with heap := T.heap, slotsUsed := T.slotsUsed }
      rw [State.setFrames_setFrames, State.setFrames_self ht]
      rfl
    · show T.slotsUsed = T.slotsUsed + ((T.heap.toList.drop T.heap.size).map (·.slots.size)).sum
      rw [List.drop_eq_nil_of_le (Nat.le_of_eq Array.length_toList)]
      rfl
    · show ((T.heap.toList.drop T.heap.size).map (·.slots.size)).sum ≤ 0
      rw [List.drop_eq_nil_of_le (Nat.le_of_eq Array.length_toList)]
      exact Nat.le_refl _
/-- 'throw new E()': new; dup; invokespecial; athrow -/
theorem vx_throw0 {cc : ByteArray} {pc : Nat} (hexec : p.tables.exec = Jvm.exec) (hb : c.code = cc) (hl : l.stackTraces = false) {own cls : String} {names : List String} {ik ic mc ms : Nat} {A : Nat → Prop}
    (hown : s.vm.findClass own = some m.cls) (hcls : Bundle.fit cls = true) (hnames : ∀ n ∈ names, Bundle.fit n = true)
    (hk : (Cond.classLink own ik cls).before args s = true) (hini : (Cond.initialized cls).before args s = true) (hat : ∀ w ∈ vx_at0 own ic cls names, w.before args s = true)
    (hgood : ∀ w ∈ Cond.classLink own ik cls :: Cond.initialized cls :: vx_at0 own ic cls names, vx_ot w = true)
    (hU : vx_Zq Bundle.tN "UNASSIGNED_STACK" Bundle.steD A s s.heap) (hN : vx_Zq Bundle.tN "SUPPRESSED_SENTINEL" Bundle.listD A s s.heap) (hS : va_S A s.heap H locs) (hsize : ls.size = c.maxLocals)
    (d0 : decode cc pc = .ok (.new ik, 3)) (d3 : decode cc (pc + 3) = .ok (.dup, 1)) (d4 : decode cc (pc + 4) = .ok (.invokespecial ic, 3)) (d7 : decode cc (pc + 7) = .ok (.athrow, 1))
    (hout : ∀ x ∈ c.exceptionTable.toList, covers x (pc + 7) = false)
    (hRframes : names.length + 3 < R.frames) (hRlocals : (rest.map fun v => v.category).sum + (13 * (names.length + 1) + 42) ≤ R.locals) (hRcells : cells + 1 ≤ R.cells) (hRslots : slots + 6 ≤ R.slots) (hlocks : meth.locks = false)
    (hx : ∀ t : State, s.vm.Alike t.vm → H.size ≤ t.heap.size → (∀ q : Nat, q < H.size → t.heap[q]? = H[q]?) → XC cls s t)
    (hf : ∀ z ∈ locs, free z.base) (hc : cells + 1 ≤ mc) (hs : slots + 6 ≤ ms) :
    W p l e R s m args below meth c H locs cells slots (vx_MQ below Qc XC args s mc ms free) (F0 m pc ls rest) := by
  intro T hT X
  have htr : e.platform.stackTraces = false := (show e.platform.stackTraces = l.stackTraces by rw [X.admits.platform]).trans hl
  have Y := vx_rebase X (R' := { frames := R.frames, locals := R.locals, cells := 1, slots := 6 }) (Nat.le_refl _) (Nat.le_refl _) hRcells hRslots
  obtain ⟨s', hA⟩ : ∃ z, z = (T.setVm s.vm).setFrames (.invoking m args :: below) := ⟨_, rfl⟩
  rw [← hA] at Y
  have hvm : s'.vm = s.vm := by rw [hA]; rfl
  have hhp : s'.heap = H := by rw [hA]; exact hT
  have hW0 : s.WarmedH s'.vm := by rw [hvm]; exact State.WarmedH.refl s
  have hat' : ∀ w ∈ vx_at0 own ic cls names, w.before args s' = true := fun w hw => vx_ot_at hW0 hvm.symm (hgood w (List.mem_cons_of_mem _ (List.mem_cons_of_mem _ hw))) (hat w hw)
  have hk' : (Cond.classLink own ik cls).before args s' = true := vx_ot_at hW0 hvm.symm (hgood _ List.mem_cons_self) hk
  have hini' : (Cond.initialized cls).before args s' = true := vx_ot_at hW0 hvm.symm (hgood _ (List.mem_cons_of_mem _ List.mem_cons_self)) hini
  have hU' : vx_Zq Bundle.tN "UNASSIGNED_STACK" Bundle.steD A s' s'.heap := by rw [hhp]; exact vx_Zq.moved hW0.alike (hU.kept hS.2.1)
  have hN' : vx_Zq Bundle.tN "SUPPRESSED_SENTINEL" Bundle.listD A s' s'.heap := by rw [hhp]; exact vx_Zq.moved hW0.alike (hN.kept hS.2.1)
  have h : ∀ w ∈ Bundle.ownAtoms0 own ic cls names, w.before args s' = true := vx_own hat' (vx_isRefq hU'.1) (vx_isRefq hN'.1) hU'.2.word hN'.2.word
  have hown' : s'.vm.findClass own = some m.cls := by rw [hvm]; exact hown
  have hins : (Cond.instantiable cls 6).before args s' = true := h _ (by simp [Bundle.ownAtoms0])
  obtain ⟨vm₁, cX, kX, hfX, hkX, -, -, X₁, st1⟩ := Y.newCold hexec (own := own) (C := cls) (index := ik) (n := 6) hown' hk' hins hini'
    (g := F0 m pc ls rest) rfl (by rw [hb]; exact d0) (Nat.le_refl _) (Nat.le_refl _)
  generalize hT1 : (T.setVm vm₁).pushCell { cls := cX, slots := kX.instanceTypes.map defaultValue, vm := .none } = T1 at X₁ st1
  have hcat : (Value.ref T.heap.size).category = 1 := rfl
  have hcellA : T1.heap[T.heap.size]? = some (freshCell cX kX) := by rw [← hT1]; exact State.heap_pushCell_size _ _
  have d3' : decode c.code (pc + 3) = .ok (.dup, 1) := by rw [hb]; exact d3
  obtain ⟨U, hsteps, hrun, hend, hW, hsame, ce, hce, hO⟩ := X₁.ctorThrow0 hexec htr (own := own) (cls := cls) (names := names) (ic := ic) hown' hcls hnames h (fun x hx => nomatch hx) hfX hkX hcellA (by rw [hhp, hT]; exact Nat.le_refl _)
    (g := { method := m, pc := pc + 4, locals := ls, stack := .ref T.heap.size :: .ref T.heap.size :: rest, locked := none }) rfl hsize rfl rfl (rest := rest) rfl
    (by rw [hb]; exact d4) (by rw [hb]; exact d7) hout hRframes (by simp only [List.map_cons, List.sum_cons, hcat]; omega) hlocks
  obtain ⟨f1, f2⟩ := vx_frame hsame
  rw [hhp] at f1 f2
  have hWs : s.WarmedH U.vm := State.WarmedH.trans hW0 hW
  have hcl : s.vm.findClass cls = some ce.cls := by
    have h9 := hO.cls
    rw [hvm] at h9
    exact h9
  have hall : s.sameButNew ({ U with vm := s.vm } : State) locs mc ms := by
    subst hA
    obtain ⟨e1, e2⟩ := hsame
    rw [State.setFrames_setFrames] at e1
    have h2 : (T.setVm s.vm).sameButNew ({ U with vm := s.vm } : State) [] (0 + 1) (0 + 6) := ⟨e1, e2⟩
    have h3 := X.same.trans h2
    rw [List.append_nil] at h3
    exact h3.mono hc hs
  refine ⟨U, ?_, .threw T.heap.size, hrun, hend, Or.inr ⟨T.heap.size, rfl, cls, ce, locs, hx U hWs.alike f1 (fun q hq => f2 q hq (fun z hz => nomatch hz)), hce, hO.vm, hcl, hWs, hall, hf⟩⟩
  refine st1 _ ?_
  show Steps p.tables e below (T1.setTop { method := m, pc := pc + 3, locals := ls, stack := .ref T.heap.size :: rest, locked := none }) _
  jvm_step X₁.here [X₁.here.top, hexec, d3', Value.category]
  exact hsteps
/-- 'throw new E("text")': new; dup; ldc; invokespecial; athrow -/
theorem vx_throwS {cc : ByteArray} {pc : Nat} (hexec : p.tables.exec = Jvm.exec) (hb : c.code = cc) (hl : l.stackTraces = false) {own cls text : String} {names : List String} {ik is ic mc ms sa : Nat} {A : Nat → Prop}
    (hown : s.vm.findClass own = some m.cls) (hcls : Bundle.fit cls = true) (hnames : ∀ n ∈ names, Bundle.fit n = true)
    (hk : (Cond.classLink own ik cls).before args s = true) (hini : (Cond.initialized cls).before args s = true) (hstr : vk_R own is text sa s) (hat : ∀ w ∈ vx_atS own ic cls names, w.before args s = true)
    (hgood : ∀ w ∈ Cond.classLink own ik cls :: Cond.initialized cls :: vx_atS own ic cls names, vx_ot w = true)
    (hU : vx_Zq Bundle.tN "UNASSIGNED_STACK" Bundle.steD A s s.heap) (hN : vx_Zq Bundle.tN "SUPPRESSED_SENTINEL" Bundle.listD A s s.heap) (hS : va_S A s.heap H locs) (hsize : ls.size = c.maxLocals)
    (d0 : decode cc pc = .ok (.new ik, 3)) (d3 : decode cc (pc + 3) = .ok (.dup, 1)) (d4 : decode cc (pc + 4) = .ok (.ldc is, 2)) (d6 : decode cc (pc + 6) = .ok (.invokespecial ic, 3)) (d9 : decode cc (pc + 9) = .ok (.athrow, 1))
    (hout : ∀ x ∈ c.exceptionTable.toList, covers x (pc + 9) = false)
    (hRframes : names.length + 3 < R.frames) (hRlocals : (rest.map fun v => v.category).sum + (13 * (names.length + 1) + 43) ≤ R.locals) (hRcells : cells + 1 ≤ R.cells) (hRslots : slots + 6 ≤ R.slots) (hlocks : meth.locks = false)
    (hx : ∀ t : State, s.vm.Alike t.vm → H.size ≤ t.heap.size → (∀ q : Nat, q < H.size → t.heap[q]? = H[q]?) → XC cls s t)
    (hf : ∀ z ∈ locs, free z.base) (hc : cells + 1 ≤ mc) (hs : slots + 6 ≤ ms) :
    W p l e R s m args below meth c H locs cells slots (vx_MQ below Qc XC args s mc ms free) (F0 m pc ls rest) := by
  intro T hT X
  have htr : e.platform.stackTraces = false := (show e.platform.stackTraces = l.stackTraces by rw [X.admits.platform]).trans hl
  have Y := vx_rebase X (R' := { frames := R.frames, locals := R.locals, cells := 1, slots := 6 }) (Nat.le_refl _) (Nat.le_refl _) hRcells hRslots
  obtain ⟨s', hA⟩ : ∃ z, z = (T.setVm s.vm).setFrames (.invoking m args :: below) := ⟨_, rfl⟩
  rw [← hA] at Y
  have hvm : s'.vm = s.vm := by rw [hA]; rfl
  have hhp : s'.heap = H := by rw [hA]; exact hT
  have hW0 : s.WarmedH s'.vm := by rw [hvm]; exact State.WarmedH.refl s
  have hat' : ∀ w ∈ vx_atS own ic cls names, w.before args s' = true := fun w hw => vx_ot_at hW0 hvm.symm (hgood w (List.mem_cons_of_mem _ (List.mem_cons_of_mem _ hw))) (hat w hw)
  have hk' : (Cond.classLink own ik cls).before args s' = true := vx_ot_at hW0 hvm.symm (hgood _ List.mem_cons_self) hk
  have hini' : (Cond.initialized cls).before args s' = true := vx_ot_at hW0 hvm.symm (hgood _ (List.mem_cons_of_mem _ List.mem_cons_self)) hini
  have hU' : vx_Zq Bundle.tN "UNASSIGNED_STACK" Bundle.steD A s' s'.heap := by rw [hhp]; exact vx_Zq.moved hW0.alike (hU.kept hS.2.1)
  have hN' : vx_Zq Bundle.tN "SUPPRESSED_SENTINEL" Bundle.listD A s' s'.heap := by rw [hhp]; exact vx_Zq.moved hW0.alike (hN.kept hS.2.1)
  have h : ∀ w ∈ Bundle.ownAtoms own ic cls names, w.before args s' = true := vx_own hat' (vx_isRefq hU'.1) (vx_isRefq hN'.1) hU'.2.word hN'.2.word
  have hown' : s'.vm.findClass own = some m.cls := by rw [hvm]; exact hown
  have hins : (Cond.instantiable cls 6).before args s' = true := h _ (by simp [Bundle.ownAtoms])
  obtain ⟨vm₁, cX, kX, hfX, hkX, -, -, X₁, st1⟩ := Y.newCold hexec (own := own) (C := cls) (index := ik) (n := 6) hown' hk' hins hini'
    (g := F0 m pc ls rest) rfl (by rw [hb]; exact d0) (Nat.le_refl _) (Nat.le_refl _)
  generalize hT1 : (T.setVm vm₁).pushCell { cls := cX, slots := kX.instanceTypes.map defaultValue, vm := .none } = T1 at X₁ st1
  have hcat : (Value.ref T.heap.size).category = 1 := rfl
  have hcellA : T1.heap[T.heap.size]? = some (freshCell cX kX) := by rw [← hT1]; exact State.heap_pushCell_size _ _
  have d3' : decode c.code (pc + 3) = .ok (.dup, 1) := by rw [hb]; exact d3
  have d4' : decode c.code (pc + 4) = .ok (.ldc is, 2) := by rw [hb]; exact d4
  have hstr' : vk_R own is text sa s' := vk_R.warm hW0 hstr
  obtain ⟨U, hsteps, hrun, hend, hW, hsame, ce, hce, hO⟩ := X₁.ctorThrowS hexec htr (own := own) (cls := cls) (names := names) (ic := ic) hown' hcls hnames h (fun x hx => nomatch hx) hfX hkX hcellA (by rw [hhp, hT]; exact Nat.le_refl _) (msg := .ref sa) rfl
    (g := { method := m, pc := pc + 6, locals := ls, stack := .ref sa :: .ref T.heap.size :: .ref T.heap.size :: rest, locked := none }) rfl hsize rfl rfl (rest := rest) rfl
    (by rw [hb]; exact d6) (by rw [hb]; exact d9) hout hRframes (by simp only [List.map_cons, List.sum_cons, hcat]; omega) hlocks
  obtain ⟨f1, f2⟩ := vx_frame hsame
  rw [hhp] at f1 f2
  have hWs : s.WarmedH U.vm := State.WarmedH.trans hW0 hW
  have hcl : s.vm.findClass cls = some ce.cls := by
    have h9 := hO.cls
    rw [hvm] at h9
    exact h9
  have hall : s.sameButNew ({ U with vm := s.vm } : State) locs mc ms := by
    subst hA
    obtain ⟨e1, e2⟩ := hsame
    rw [State.setFrames_setFrames] at e1
    have h2 : (T.setVm s.vm).sameButNew ({ U with vm := s.vm } : State) [] (0 + 1) (0 + 6) := ⟨e1, e2⟩
    have h3 := X.same.trans h2
    rw [List.append_nil] at h3
    exact h3.mono hc hs
  refine ⟨U, ?_, .threw T.heap.size, hrun, hend, Or.inr ⟨T.heap.size, rfl, cls, ce, locs, hx U hWs.alike f1 (fun q hq => f2 q hq (fun z hz => nomatch hz)), hce, hO.vm, hcl, hWs, hall, hf⟩⟩
  refine st1 _ ?_
  show Steps p.tables e below (T1.setTop { method := m, pc := pc + 3, locals := ls, stack := .ref T.heap.size :: rest, locked := none }) _
  jvm_step X₁.here [X₁.here.top, hexec, d3', Value.category]
  exact X₁.ldcString hexec (own := own) (text := text) (index := is) (a := sa) hown' hstr'.1 hstr'.2
    (g := { method := m, pc := pc + 4, locals := ls, stack := .ref T.heap.size :: .ref T.heap.size :: rest, locked := none }) rfl d4' _ hsteps
/-- 'throw new E("text")', the text by a wide index -/
theorem vx_throwSW {cc : ByteArray} {pc : Nat} (hexec : p.tables.exec = Jvm.exec) (hb : c.code = cc) (hl : l.stackTraces = false) {own cls text : String} {names : List String} {ik is ic mc ms sa : Nat} {A : Nat → Prop}
    (hown : s.vm.findClass own = some m.cls) (hcls : Bundle.fit cls = true) (hnames : ∀ n ∈ names, Bundle.fit n = true)
    (hk : (Cond.classLink own ik cls).before args s = true) (hini : (Cond.initialized cls).before args s = true) (hstr : vk_R own is text sa s) (hat : ∀ w ∈ vx_atS own ic cls names, w.before args s = true)
    (hgood : ∀ w ∈ Cond.classLink own ik cls :: Cond.initialized cls :: vx_atS own ic cls names, vx_ot w = true)
    (hU : vx_Zq Bundle.tN "UNASSIGNED_STACK" Bundle.steD A s s.heap) (hN : vx_Zq Bundle.tN "SUPPRESSED_SENTINEL" Bundle.listD A s s.heap) (hS : va_S A s.heap H locs) (hsize : ls.size = c.maxLocals)
    (d0 : decode cc pc = .ok (.new ik, 3)) (d3 : decode cc (pc + 3) = .ok (.dup, 1)) (d4 : decode cc (pc + 4) = .ok (.ldc_w is, 3)) (d7 : decode cc (pc + 7) = .ok (.invokespecial ic, 3)) (d10 : decode cc (pc + 10) = .ok (.athrow, 1))
    (hout : ∀ x ∈ c.exceptionTable.toList, covers x (pc + 10) = false)
    (hRframes : names.length + 3 < R.frames) (hRlocals : (rest.map fun v => v.category).sum + (13 * (names.length + 1) + 43) ≤ R.locals) (hRcells : cells + 1 ≤ R.cells) (hRslots : slots + 6 ≤ R.slots) (hlocks : meth.locks = false)
    (hx : ∀ t : State, s.vm.Alike t.vm → H.size ≤ t.heap.size → (∀ q : Nat, q < H.size → t.heap[q]? = H[q]?) → XC cls s t)
    (hf : ∀ z ∈ locs, free z.base) (hc : cells + 1 ≤ mc) (hs : slots + 6 ≤ ms) :
    W p l e R s m args below meth c H locs cells slots (vx_MQ below Qc XC args s mc ms free) (F0 m pc ls rest) := by
  intro T hT X
  have htr : e.platform.stackTraces = false := (show e.platform.stackTraces = l.stackTraces by rw [X.admits.platform]).trans hl
  have Y := vx_rebase X (R' := { frames := R.frames, locals := R.locals, cells := 1, slots := 6 }) (Nat.le_refl _) (Nat.le_refl _) hRcells hRslots
  obtain ⟨s', hA⟩ : ∃ z, z = (T.setVm s.vm).setFrames (.invoking m args :: below) := ⟨_, rfl⟩
  rw [← hA] at Y
  have hvm : s'.vm = s.vm := by rw [hA]; rfl
  have hhp : s'.heap = H := by rw [hA]; exact hT
  have hW0 : s.WarmedH s'.vm := by rw [hvm]; exact State.WarmedH.refl s
  have hat' : ∀ w ∈ vx_atS own ic cls names, w.before args s' = true := fun w hw => vx_ot_at hW0 hvm.symm (hgood w (List.mem_cons_of_mem _ (List.mem_cons_of_mem _ hw))) (hat w hw)
  have hk' : (Cond.classLink own ik cls).before args s' = true := vx_ot_at hW0 hvm.symm (hgood _ List.mem_cons_self) hk
  have hini' : (Cond.initialized cls).before args s' = true := vx_ot_at hW0 hvm.symm (hgood _ (List.mem_cons_of_mem _ List.mem_cons_self)) hini
  have hU' : vx_Zq Bundle.tN "UNASSIGNED_STACK" Bundle.steD A s' s'.heap := by rw [hhp]; exact vx_Zq.moved hW0.alike (hU.kept hS.2.1)
  have hN' : vx_Zq Bundle.tN "SUPPRESSED_SENTINEL" Bundle.listD A s' s'.heap := by rw [hhp]; exact vx_Zq.moved hW0.alike (hN.kept hS.2.1)
  have h : ∀ w ∈ Bundle.ownAtoms own ic cls names, w.before args s' = true := vx_own hat' (vx_isRefq hU'.1) (vx_isRefq hN'.1) hU'.2.word hN'.2.word
  have hown' : s'.vm.findClass own = some m.cls := by rw [hvm]; exact hown
  have hins : (Cond.instantiable cls 6).before args s' = true := h _ (by simp [Bundle.ownAtoms])
  obtain ⟨vm₁, cX, kX, hfX, hkX, -, -, X₁, st1⟩ := Y.newCold hexec (own := own) (C := cls) (index := ik) (n := 6) hown' hk' hins hini'
    (g := F0 m pc ls rest) rfl (by rw [hb]; exact d0) (Nat.le_refl _) (Nat.le_refl _)
  generalize hT1 : (T.setVm vm₁).pushCell { cls := cX, slots := kX.instanceTypes.map defaultValue, vm := .none } = T1 at X₁ st1
  have hcat : (Value.ref T.heap.size).category = 1 := rfl
  have hcellA : T1.heap[T.heap.size]? = some (freshCell cX kX) := by rw [← hT1]; exact State.heap_pushCell_size _ _
  have d3' : decode c.code (pc + 3) = .ok (.dup, 1) := by rw [hb]; exact d3
  have d4' : decode c.code (pc + 4) = .ok (.ldc_w is, 3) := by rw [hb]; exact d4
  have hstr' : vk_R own is text sa s' := vk_R.warm hW0 hstr
  obtain ⟨U, hsteps, hrun, hend, hW, hsame, ce, hce, hO⟩ := X₁.ctorThrowS hexec htr (own := own) (cls := cls) (names := names) (ic := ic) hown' hcls hnames h (fun x hx => nomatch hx) hfX hkX hcellA (by rw [hhp, hT]; exact Nat.le_refl _) (msg := .ref sa) rfl
    (g := { method := m, pc := pc + 7, locals := ls, stack := .ref sa :: .ref T.heap.size :: .ref T.heap.size :: rest, locked := none }) rfl hsize rfl rfl (rest := rest) rfl
    (by rw [hb]; exact d7) (by rw [hb]; exact d10) hout hRframes (by simp only [List.map_cons, List.sum_cons, hcat]; omega) hlocks
  obtain ⟨f1, f2⟩ := vx_frame hsame
  rw [hhp] at f1 f2
  have hWs : s.WarmedH U.vm := State.WarmedH.trans hW0 hW
  have hcl : s.vm.findClass cls = some ce.cls := by
    have h9 := hO.cls
    rw [hvm] at h9
    exact h9
  have hall : s.sameButNew ({ U with vm := s.vm } : State) locs mc ms := by
    subst hA
    obtain ⟨e1, e2⟩ := hsame
    rw [State.setFrames_setFrames] at e1
    have h2 : (T.setVm s.vm).sameButNew ({ U with vm := s.vm } : State) [] (0 + 1) (0 + 6) := ⟨e1, e2⟩
    have h3 := X.same.trans h2
    rw [List.append_nil] at h3
    exact h3.mono hc hs
  refine ⟨U, ?_, .threw T.heap.size, hrun, hend, Or.inr ⟨T.heap.size, rfl, cls, ce, locs, hx U hWs.alike f1 (fun q hq => f2 q hq (fun z hz => nomatch hz)), hce, hO.vm, hcl, hWs, hall, hf⟩⟩
  refine st1 _ ?_
  show Steps p.tables e below (T1.setTop { method := m, pc := pc + 3, locals := ls, stack := .ref T.heap.size :: rest, locked := none }) _
  jvm_step X₁.here [X₁.here.top, hexec, d3', Value.category]
  exact X₁.ldcStringW hexec (own := own) (text := text) (index := is) (a := sa) hown' hstr'.1 hstr'.2
    (g := { method := m, pc := pc + 4, locals := ls, stack := .ref T.heap.size :: .ref T.heap.size :: rest, locked := none }) rfl d4' _ hsteps
end Ends
section Bodies
variable {l : Launch}
theorem vx_ofW {y : MethodName} {ws ws' : List Cond} {rm : Room} {Pc : Array Value → State → Prop} {Qc : Array Value → State → Outcome → State → Prop} {XC : String → State → State → Prop} {mc ms : Nat} {free : Addr → Prop} {cc : ByteArray} {maxL : Nat} {ret : Option FieldType}
    (hy : plainName y.cls = true) (hw : ws = Cond.code y cc maxL ret :: ws')
    (body : ∀ p e s m args below meth c s₁, BodyLoose p l y (headSpec ws rm) cc maxL ret e s m args below meth c s₁ → c.maxLocals = maxL → (∀ x ∈ c.exceptionTable.toList, False) → Pc args s →
      W p l e (headSpec ws rm).room s m args below meth c s.heap [] 0 0 (vx_MQ below Qc XC args s mc ms free) (entryFrame m args maxL)) : vx_Met l y ws rm Pc Qc XC mc ms free := by
  refine MetFree.of_bodyS (code := cc) (maxLocals := maxL) (ret := ret) hy ?_ ?_
  · intro args s m h hn
    obtain ⟨meth, c, h1, h2, h3, h4, h5, h6, -, -⟩ := Cond.code_spec hn (atoms_spec (ws := ws) h _ (by rw [hw]; exact List.mem_cons_self))
    exact ⟨meth, c, h1, h2, h3, h4, h5, h6⟩
  · intro p e s m args below meth c s₁ B hml hP _
    have hh0 : s₁.heap = s.heap := by rw [B.state]; rfl
    have ht : ∀ x ∈ c.exceptionTable.toList, False := by
      obtain ⟨meth9, c9, h1, h2, -, -, -, -, h7, -⟩ := Cond.code_spec B.named (atoms_spec (ws := ws) B.pre _ (by rw [hw]; exact List.mem_cons_self))
      cases Option.some.inj (h1.symm.trans B.method)
      cases Option.some.inj (h2.symm.trans (Stand.of_body B).code)
      intro x hx
      rw [Array.isEmpty_iff.mp h7] at hx
      cases hx
    obtain ⟨t, a1, o, b1, b2, b3⟩ := body p e s m args below meth c s₁ B hml ht hP s₁ hh0 (Stand.of_body B)
    exact ⟨t, o, a1, b1, b2, b3⟩
/-- the table of a body with handlers -/
theorem vx_table {p : Program} {x y : MethodName} {S : Spec} {cc bytes : ByteArray} {maxL maxL' : Nat} {ret ret' : Option FieldType} {e : Env} {s s₁ : State} {m : MethodId} {args : Array Value} {below : List Frame} {meth : Method} {c : Code} {hh : List (Nat × Nat × Nat × Nat)}
    (B : BodyLoose p l y S cc maxL ret e s m args below meth c s₁) (h : (Cond.codeWith y bytes maxL' ret' hh).before args s = true) : c.exceptionTable.toList = tableOf hh := by
  obtain ⟨m9, meth9, c9, hn9, h1, h2, -, -, h6, -⟩ := Cond.codeWith_spec h
  cases Option.some.inj (hn9.symm.trans B.named)
  cases Option.some.inj (h1.symm.trans B.method)
  cases Option.some.inj (h2.symm.trans (Stand.of_body B).code)
  rw [← h6, table_eq]
end Bodies
end VXA
/-! ===== END ===== -/
/-! ===== BEGIN a static call of a method with an exception table ===== -/
section VXS
variable {p : Program} {l : Launch} {e : Env} {R : Room} {s : State} {m : MethodId} {args : Array Value} {below : List Frame} {meth : Method} {c : Code} {T : State} {H : Heap} {locs : List Loc} {cells slots : Nat}
abbrev vx_CSW (R : Room) (s : State) (args : Array Value) (own : String) (index : Nat) (y : MethodName) (bytes : ByteArray) (maxL : Nat) (ret : Option FieldType) (hh : List (Nat × Nat × Nat × Nat)) (ws : List Cond) (rm : Room) (mc ms n : Nat) : Prop :=
  (rm.cells = mc ∧ rm.slots = ms ∧ rm.frames + 1 ≤ R.frames ∧ 8 + (maxL + 11) + rm.locals ≤ R.locals ∧ (∀ w ∈ ws, ∀ (a' : Array Value) (U : State), s.WarmedH U.vm → w.before a' U = true) ∧ Cond.codeWith y bytes maxL ret hh ∈ ws) ∧
  (Cond.codeWith y bytes maxL ret hh).before args s = true ∧ (Cond.initialized y.cls).before args s = true ∧ (y.cls ≠ "java/lang/invoke/MethodHandle" ∧ y.cls ≠ "java/lang/invoke/VarHandle") ∧
  (∀ sig, parseMethodDescriptor y.desc = some sig → n = sig.parameters.length) ∧ (Cond.methodLink own index y).before args s = true ∧ (Cond.static y).before args s = true
theorem vx_cwSW {own : String} {index maxL mc ms : Nat} {y : MethodName} {bytes : ByteArray} {ret : Option FieldType} {hh : List (Nat × Nat × Nat × Nat)} {Ts ws ws' : List Cond} {rm : Room} (n : Nat) (ht : ∀ w ∈ Ts, w.before args s = true) (hT : GoodIn Ts (va_wsS own index y ws)) (hw : ws = Cond.codeWith y bytes maxL ret hh :: ws') (hrc : rm.cells = mc) (hrs : rm.slots = ms)
    (hd : y.cls ≠ "java/lang/invoke/MethodHandle" ∧ y.cls ≠ "java/lang/invoke/VarHandle" ∧ (parseMethodDescriptor y.desc).map (fun d => d.parameters.length) = some n) (hR : rm.frames + 1 ≤ R.frames ∧ 8 + (maxL + 11) + rm.locals ≤ R.locals) :
    vx_CSW R s args own index y bytes maxL ret hh ws rm mc ms n := by
  have ok : ∀ w ∈ va_wsS own index y ws, w.before args s = true := fun w h => ht w (hT w h).1
  have hG : GoodIn Ts ws := fun w h => hT w (by unfold va_wsS; exact List.mem_append_right _ h)
  have hc : Cond.codeWith y bytes maxL ret hh ∈ ws := by rw [hw]; exact List.mem_cons_self
  refine ⟨⟨hrc, hrs, hR.1, hR.2, pay_in ht hG, hc⟩, ht _ (hG _ hc).1, ok _ (by simp [va_wsS]), ⟨hd.1, hd.2.1⟩, fun sig h => ?_, ok _ (by simp [va_wsS]), ok _ (by simp [va_wsS])⟩
  have h2 := hd.2.2
  rw [h] at h2
  exact (Option.some.inj h2).symm
theorem vx_callSW (X : Stand p l e R s m args below meth c T locs cells slots) (hexec : p.tables.exec = Jvm.exec) {own : String} {index : Nat} {y : MethodName} {bytes : ByteArray} {maxL : Nat} {ret : Option FieldType} {hh : List (Nat × Nat × Nat × Nat)}
    (hown : s.vm.findClass own = some m.cls) (hlink : (Cond.methodLink own index y).before args s = true) (hstat : (Cond.static y).before args s = true) (hinit : (Cond.initialized y.cls).before args s = true)
    (hcode : (Cond.codeWith y bytes maxL ret hh).before args s = true) (hy : y.cls ≠ "java/lang/invoke/MethodHandle" ∧ y.cls ≠ "java/lang/invoke/VarHandle")
    {W9 : Nat} {Pre : Pt → Array Value → Prop} {Post : Pt → Array Value → Option Value → Pt → Prop} (hK : Back l R p e below s args y 3 W9 Pre Post)
    {g : JFrame} (hg : g.method = m) (hsize : g.locals.size = c.maxLocals) {argsL rest : List Value} (hlen : ∀ sig, parseMethodDescriptor y.desc = some sig → argsL.length = sig.parameters.length)
    (hstack : g.stack = argsL.reverse ++ rest) (hW : 2 * g.monitorRoom + (rest.map fun v => v.category).sum ≤ W9) (hdg : decode c.code g.pc = .ok (.invokestatic index, 3))
    (hpre : ∀ vm₁, s.WarmedH vm₁ → Pre ⟨T.setVm vm₁, locs, cells, slots⟩ argsL.toArray) :
    ∃ (v : Option Value) (vm₁ : Vm) (B : Pt), s.WarmedH vm₁ ∧ Stand p l e R s m args below meth c B.U B.locs B.cells B.slots ∧ Post ⟨T.setVm vm₁, locs, cells, slots⟩ argsL.toArray v B ∧
      ∀ target, Steps p.tables e below (B.U.setTop { g with pc := g.pc + 3, stack := v.toList ++ rest }) target → Steps p.tables e below (T.setTop g) target := by
  obtain ⟨mk, methM, cM, hnamed, hmethM, -, -, -, -, -, -, hsigM⟩ := Cond.codeWith_spec hcode
  have hstatic : methM.isStatic = true := Cond.static_spec hnamed hmethM hstat
  obtain ⟨kP, hkP, -⟩ := className_of_methodNamed hnamed
  have hinitP : kP.init = .initialized := Cond.initialized_spec (findClass_of_methodNamed hnamed) hkP hinit
  obtain ⟨vm₁, X₁, hstep₁⟩ := X.invokestatic hexec hown hlink hnamed hmethM hstatic hkP hinitP hy (g := g) hg (argsL := argsL) (rest := rest) (hlen _ hsigM) hstack hdg
  obtain ⟨v, B, X', hpost, hsteps⟩ := hK m meth c ⟨T.setVm vm₁, locs, cells, slots⟩ { g with stack := rest } (.invokestatic index) mk argsL.toArray X₁ hg hsize hdg hW (X₁.named hnamed) (hpre vm₁ X₁.warmed)
  exact ⟨v, vm₁, B, X₁.warmed, X', hpost, fun target h => hstep₁ _ fun acts => by rw [doInvoke_state]; exact hsteps.trans h⟩
theorem vx_runSW {y : MethodName} {bytes cc : ByteArray} {maxL nL mc ms n index : Nat} {ret : Option FieldType} {hh : List (Nat × Nat × Nat × Nat)} {ws : List Cond} {rm : Room} {Pc : Array Value → State → Prop} {Qc : Array Value → State → Outcome → State → Prop} {free : Addr → Prop} {Ts : List Cond} {own : String} {As rest : List Value} {g : JFrame}
    (S : CallFix p m c cc nL s args Ts own) (hM : Met l y ws rm Pc Qc mc ms free) (cw : vx_CSW R s args own index y bytes maxL ret hh ws rm mc ms n) (hp : PreS s H Pc As)
    (hg : g.method = m) (hn : As.length = n) (hsize : g.locals.size = nL) (hstack : g.stack = As.reverse ++ rest) (hW : 2 * g.monitorRoom + (rest.map fun v => v.category).sum ≤ 8) (hdg : decode cc g.pc = .ok (.invokestatic index, 3)) (hf : cells + mc ≤ R.cells ∧ slots + ms ≤ R.slots) :
    va_Run p l e R s m args below meth c H locs cells slots mc ms g rest (Qc As.toArray) (free) := by
  obtain ⟨⟨hrc, hrs, hfr, hlo, hws, hcw⟩, hcode, hini, hy, hlen, hl, hstt⟩ := cw
  have hK : Back l R p e below s args y 3 8 (PreOf R mc ms Pc) (PostOf Qc mc ms free) := va_backW (hh := hh) (bytes := bytes) (maxL := maxL) (ret := ret) hM hp.1 hrc hrs hfr hlo hws hcw (fun a' U hW => word_at hW (Or.inl (by first | rfl | simp [Cond.onTables, Cond.keeps, Cond.steady])) hini)
  obtain ⟨hx, hb, hml, ho, -⟩ := S
  intro T hT X
  obtain ⟨v, vm₁, ⟨U', l2, c2, s2⟩, hW₁, X', ⟨g', mk, t, L, e1, e2, hq, h1, hL, h2, h3⟩, st⟩ := vx_callSW X hx (hh := hh) (bytes := bytes) (maxL := maxL) (ret := ret) ho hl hstt hini hcode hy hK hg (hsize.trans hml.symm) (argsL := As) (rest := rest) (fun sig h => hn.trans (hlen sig h)) hstack hW (by rw [hb]; exact hdg)
    (fun vm₁ hW₁ => ⟨hf.1, hf.2, hp.2 (T.setVm vm₁) hT hW₁⟩)
  dsimp only [Pt.U, Pt.locs, Pt.cells, Pt.slots] at X' e1 e2 h1 h2 h3 st
  subst h1; subst h2; subst h3
  exact ⟨v, (T.setVm vm₁).calling g' mk As.toArray, t, U', L, hT, X', hL, e1, e2, hq, st⟩
/-- not caught here, past rows that name other classes: it goes on to the caller -/
theorem vx_outP {p : Program} {l : Launch} {e : Env} {R : Room} {s : State} {m : MethodId} {args : Array Value} {below : List Frame} {meth : Method} {c : Code} {H : Heap} {locs : List Loc} {cells slots : Nat} {free : Addr → Prop} {ls : Array Slot} {rest : List Value} {Qc : Array Value → State → Outcome → State → Prop} {XC : String → State → State → Prop}
    {pc : Nat} {own E : String} {ce : Cell} {q : Addr} {mc ms : Nat} (hown : s.vm.findClass own = some m.cls) (hlocks : meth.locks = false)
    (hpass : ∀ z ∈ c.exceptionTable.toList, covers z pc = false ∨ (z.catchType ≠ 0 ∧ ∃ nm : String, (Cond.classLink own z.catchType nm).before args s = true ∧ va_Nc E nm s)) (hcell : H[q]? = some ce) (hv : ce.vm = .none) (hcl : s.vm.findClass E = some ce.cls)
    (hx : ∀ t : State, t.heap = H → s.vm.Alike t.vm → XC E s t) (hf : ∀ z ∈ locs, free z.base) (hc : cells ≤ mc) (hs : slots ≤ ms) :
    vx_W p l e R s m args below meth c H locs cells slots (vx_MQ below Qc XC args s mc ms free) (F0 m pc ls rest) q := by
  intro T hT X
  have hpl : e.platform.magicAccessors = ({} : Platform).magicAccessors := by rw [X.admits.platform]
  obtain ⟨vm', hW', X', st⟩ := X.outThrough hlocks q (g := F0 m pc ls rest) rfl rfl rfl (cell := ce) (by rw [hT]; exact hcell) (by rw [hv]; rfl)
    (by obtain ⟨k9, h9, -⟩ := Vm.findClass_spec hcl; exact ⟨k9, h9⟩) (fun z hz => by
      rcases hpass z hz with h | ⟨hz0, nm, hl1, hn1⟩
      · exact Or.inl h
      · obtain ⟨c6, hc6, hcl6⟩ := Cond.classLink_spec hown hl1 e.platform hpl
        obtain ⟨a8, b8, h1, h2, h3⟩ := hn1
        cases Option.some.inj (h1.symm.trans hcl)
        cases Option.some.inj (h2.symm.trans hc6)
        exact Or.inr ⟨hz0, _, hcl6, h3⟩)
  obtain ⟨g₀, hfr⟩ := X'.frames_eq
  have hcell9 : ((T.setVm vm').setFrames (.throwing q :: below)).heap[q]? = some ce := by
    show T.heap[q]? = some ce
    rw [hT]; exact hcell
  have hend : Ended ((T.setVm vm').setFrames (.throwing q :: below)) below (.threw q) := State.frames_setFrames _ (State.cur_lt_of_frames hfr)
  refine ⟨(T.setVm vm').setFrames (.throwing q :: below), ?_, .threw q, X'.here.running, hend, Or.inr ⟨q, rfl, E, ce, locs, hx _ hT (X'.ends _).1.alike, hcell9, hv, hcl, (X'.ends _).1, (X'.ends _).2.mono hc hs, hf⟩⟩
  rw [X.pushThrowing_eq]
  exact st
/-- a thing of a world lies in the heap -/
theorem vx_lt {D : va_G} {cl : List vw_C} {ws : va_W} {H1 : Heap} (h : va_P D cl ws H1) {k : Nat} {q : Nat × va_E} (hk : ws[k]? = some q) : q.1 < H1.size := (h k q hk).lt
end VXS
/-! ===== END ===== -/
/-! ===== BEGIN methods with a table of their own: called by a name, returning or throwing ===== -/
section VXH
/-! vx_backW, vx_callVX, vx_callSX, vx_callVW, vx_runVW, vx_runVX, vx_runSX, vx_ofWH follow the same proofs as their sisters above (Free/Laws.lean, Shelf42/LK1.lean); vx_outP calls Shelf42/NT130.lean (outThrough). -/
section
variable {l : Launch} {R : Room} {p : Program} {e : Env} {below : List Frame} {s : State} {sargs : Array Value} {y : MethodName} {len W9 : Nat}
theorem vx_backW {ws : List Cond} {rm : Room} {Pc : Array Value → State → Prop} {Qc : Array Value → State → Outcome → State → Prop} {XC : String → State → State → Prop} {mc ms : Nat} {free : Addr → Prop} {bytes : ByteArray} {maxL : Nat} {ret : Option FieldType} {hh : List (Nat × Nat × Nat × Nat)}
    (hM : vx_Met l y ws rm Pc Qc XC mc ms free) (hblind : FrameBlind Pc) (hrc : rm.cells = mc) (hrs : rm.slots = ms)
    (hframes : rm.frames + 1 ≤ R.frames) (hlocals : W9 + (maxL + 11) + rm.locals ≤ R.locals)
    (hws : ∀ w ∈ ws, ∀ a' U, s.WarmedH U.vm → w.before a' U = true) (hcode : Cond.codeWith y bytes maxL ret hh ∈ ws) (hinit : ∀ a' U, s.WarmedH U.vm → (Cond.initialized y.cls).before a' U = true) :
    vx_Back l R p e below s sargs y len W9 (PreOf R mc ms Pc) (PostOf Qc mc ms free) (vx_Post XC mc ms free) := by
  intro m meth c A g ig mk a X hg hsize hdg hW hn hp
  have h1 : (headSpec ws rm).pre.before a A.U = true := atoms_intro fun w hw => hws w hw _ _ X.warmed
  have h2 : (Cond.codeWith y bytes maxL ret hh).before a A.U = true := hws _ hcode _ _ X.warmed
  have h3 : (Cond.initialized y.cls).before a A.U = true := hinit _ _ X.warmed
  have h4 : A.cells + (headSpec ws rm).room.cells ≤ R.cells := by rw [show (headSpec ws rm).room.cells = mc from hrc]; exact hp.1
  have h5 : A.slots + (headSpec ws rm).room.slots ≤ R.slots := by rw [show (headSpec ws rm).room.slots = ms from hrs]; exact hp.2.1
  have hPc : Pc a (A.U.calling g mk a) := hblind _ _ _ _ hp.2.2
  obtain ⟨U, Ls, c0, s0⟩ := A
  dsimp only [Pt.U, Pt.locs, Pt.cells, Pt.slots] at h1 h2 h3 h4 h5 X hn hPc ⊢
  obtain ⟨m9, methY, cY, hn9, hmY, hcY, -, hlY, -⟩ := Cond.codeWith_spec h2
  cases Option.some.inj (hn9.symm.trans hn)
  obtain ⟨kY, hkY, -⟩ := className_of_methodNamed hn
  have hinitY : kY.init = .initialized := Cond.initialized_spec (findClass_of_methodNamed hn) hkY h3
  have h : At U g.method c below := by rw [hg]; exact X.here
  have hlocals9 : W9 + (maxL + 11) + (headSpec ws rm).room.locals ≤ R.locals := hlocals
  have happ : (headSpec ws rm).appliesLoose y e.platform (U.calling g mk a) = true :=
    Spec.appliesLoose_calling (g := g) h hdg hn hkY hinitY
      (X.room_calling (g := g) (R' := (headSpec ws rm).room) hsize hmY hcY hframes (by rw [hlY]; omega) h4 h5) h1
  obtain ⟨mid, hmid⟩ := h.above
  have hfr : (U.setTop g).frames = (.java g :: mid) ++ below := by rw [State.frames_setTop' g h.top, hmid]; rfl
  obtain ⟨o, s₂, hsteps, -, hend, hq⟩ := Steps.callFree hM p X.admits X.cas X.clock (acts := []) hfr happ hPc trivial
  have hq' : vx_Q Qc XC mc ms free a (U.calling g mk a) o s₂ := hq
  rw [State.frames_setTop' g h.top] at hend
  obtain ⟨g₀, hg0⟩ := Option.isSome_iff_exists.mp h.top
  obtain ⟨r, hr⟩ := State.topJava?_eq_some.mp hg0
  have hr' : (({ U with heap := s₂.heap, slotsUsed := s₂.slotsUsed } : State).setVm s₂.vm).frames = .java g₀ :: r := hr
  rcases hq' with ⟨hqc, L, hfe, hL⟩ | ⟨q, rfl, E, ce, L, hx, hce, hcv, hcl, hW₂, hsm, hL⟩
  · obtain ⟨⟨v, rfl⟩, hW₂, e2, q2, q3, q4, q5, q6⟩ := id hfe
    have e3 : s₂ = ({ (U.calling g mk a).setFrames s₂.frames with heap := s₂.heap, slotsUsed := s₂.slotsUsed } : State).setVm s₂.vm := by
      have : s₂ = ({ s₂ with vm := (U.calling g mk a).vm } : State).setVm s₂.vm := rfl
      rw [e2] at this
      exact this
    obtain ⟨c₂, i₂, len₂, hc₂, hd₂, hf₂⟩ := hend
    have hW' : U.WarmedH s₂.vm := hW₂
    have hcc : c₂ = c := by
      have h1 : s₂.code? g.method = U.code? g.method := by
        rw [State.code?_eq, State.code?_eq, hW'.alike.method?]
      exact Option.some.inj (hc₂.symm.trans (h1.trans h.code))
    subst hcc
    have hlen : len₂ = len := by rw [hdg] at hd₂; cases hd₂; rfl
    subst hlen
    have hs₂ : s₂ = (({ U with heap := s₂.heap, slotsUsed := s₂.slotsUsed } : State).setVm s₂.vm).setTop { g with pc := g.pc + len₂, stack := v.toList ++ g.stack } := by
      refine e3.trans ?_
      rw [hf₂, State.calling_eq h.top, State.setFrames_setFrames, State.setTop_of_frames _ hr', hr]
      rfl
    have hsame : U.sameButNew ({ U with heap := s₂.heap, slotsUsed := s₂.slotsUsed } : State) L mc ms := by
      refine ⟨?_, q2, q3, q4, q5, q6⟩
      obtain ⟨t, ht, -⟩ := State.frames_cons hr
      show ({ U with heap := s₂.heap, slotsUsed := s₂.slotsUsed } : State) = { U.setFrames U.frames with heap := s₂.heap, slotsUsed := s₂.slotsUsed }
      rw [State.setFrames_self ht]
    subst hg
    refine Or.inl ⟨v, ⟨(({ U with heap := s₂.heap, slotsUsed := s₂.slotsUsed } : State).setVm s₂.vm), Ls ++ L, c0 + mc, s0 + ms⟩,
      ⟨X.admits, X.cas, X.clock, X.frames, X.room, X.hears, X.method, X.code, (X.here.setHeapUsed s₂.heap s₂.slotsUsed).setVm hW'.alike, X.tail, State.WarmedH.trans X.warmed hW', X.limits, X.bytes, X.same.trans (hsame.setVm s.vm)⟩,
      ⟨g, mk, s₂, L, rfl, rfl, hqc, rfl, hL, rfl, rfl⟩, ?_⟩
    show Steps p.tables e below _ ((({ U with heap := s₂.heap, slotsUsed := s₂.slotsUsed } : State).setVm s₂.vm).setTop { g with pc := g.pc + len₂, stack := v.toList ++ g.stack })
    rw [← hs₂]
    exact hsteps
  · obtain ⟨e2, q2, q3, q4, q5, q6⟩ := id hsm
    have e3 : s₂ = ({ (U.calling g mk a).setFrames s₂.frames with heap := s₂.heap, slotsUsed := s₂.slotsUsed } : State).setVm s₂.vm := by
      have : s₂ = ({ s₂ with vm := (U.calling g mk a).vm } : State).setVm s₂.vm := rfl
      rw [e2] at this
      exact this
    have hf₂ : s₂.frames = .throwing q :: .java g :: U.frames.tail := hend
    have hW' : U.WarmedH s₂.vm := hW₂
    have hs₂ : s₂ = ((({ U with heap := s₂.heap, slotsUsed := s₂.slotsUsed } : State).setVm s₂.vm).setTop g).pushFrame (.throwing q) := by
      refine e3.trans ?_
      rw [hf₂, State.calling_eq h.top, State.setFrames_setFrames, State.pushFrame, State.frames_setTop _ hr', State.setTop_of_frames _ hr', State.setFrames_setFrames, hr]
      rfl
    have hsame : U.sameButNew ({ U with heap := s₂.heap, slotsUsed := s₂.slotsUsed } : State) L mc ms := by
      refine ⟨?_, q2, q3, q4, q5, q6⟩
      obtain ⟨t, ht, -⟩ := State.frames_cons hr
      show ({ U with heap := s₂.heap, slotsUsed := s₂.slotsUsed } : State) = { U.setFrames U.frames with heap := s₂.heap, slotsUsed := s₂.slotsUsed }
      rw [State.setFrames_self ht]
    subst hg
    refine Or.inr ⟨q, ⟨(({ U with heap := s₂.heap, slotsUsed := s₂.slotsUsed } : State).setVm s₂.vm), Ls ++ L, c0 + mc, s0 + ms⟩,
      ⟨X.admits, X.cas, X.clock, X.frames, X.room, X.hears, X.method, X.code, (X.here.setHeapUsed s₂.heap s₂.slotsUsed).setVm hW'.alike, X.tail, State.WarmedH.trans X.warmed hW', X.limits, X.bytes, X.same.trans (hsame.setVm s.vm)⟩,
      ⟨g, mk, s₂, L, E, ce, rfl, rfl, hx, hce, hcv, hcl, rfl, hL, rfl, rfl⟩, ?_⟩
    show Steps p.tables e below _ (((({ U with heap := s₂.heap, slotsUsed := s₂.slotsUsed } : State).setVm s₂.vm).setTop g).pushFrame (.throwing q))
    rw [← hs₂]
    exact hsteps
end
variable {p : Program} {l : Launch} {e : Env} {R : Room} {s : State} {m : MethodId} {args : Array Value} {below : List Frame} {meth : Method} {c : Code} {T : State} {H : Heap} {locs : List Loc} {cells slots : Nat}
theorem vx_callVX (X : Stand p l e R s m args below meth c T locs cells slots) (hexec : p.tables.exec = Jvm.exec) {own C : String} {index : Nat} {y : MethodName} {bytes : ByteArray} {maxL : Nat} {ret : Option FieldType} {hh : List (Nat × Nat × Nat × Nat)}
    (hown : s.vm.findClass own = some m.cls) (hlink : (Cond.methodLink own index y).before args s = true) (hinst : (Cond.instanceMethod y).before args s = true) (hsel : (Cond.selects C y y).before args s = true)
    (hcode : (Cond.codeWith y bytes maxL ret hh).before args s = true) (hy : y.cls ≠ "java/lang/invoke/MethodHandle" ∧ y.cls ≠ "java/lang/invoke/VarHandle")
    {W9 : Nat} {Pre : Pt → Array Value → Prop} {Post : Pt → Array Value → Option Value → Pt → Prop} {PostX : Pt → Array Value → Addr → Pt → Prop} (hK : vx_Back l R p e below s args y 3 W9 Pre Post PostX)
    {b : Addr} {cellB : Cell} (hcell : T.heap[b]? = some cellB) (hobj : cellB.vm.isStatics = false) (hcls : s.vm.findClass C = some cellB.cls)
    {g : JFrame} (hg : g.method = m) (hsize : g.locals.size = c.maxLocals) {argsL rest : List Value} (hlen : ∀ sig, parseMethodDescriptor y.desc = some sig → argsL.length = sig.parameters.length)
    (hstack : g.stack = argsL.reverse ++ .ref b :: rest) (hW : 2 * g.monitorRoom + (rest.map fun v => v.category).sum ≤ W9) (hdg : decode c.code g.pc = .ok (.invokevirtual index, 3))
    (hpre : ∀ vm₁, s.WarmedH vm₁ → Pre ⟨T.setVm vm₁, locs, cells, slots⟩ (Value.ref b :: argsL).toArray) :
    (∃ (v : Option Value) (vm₁ : Vm) (B : Pt), s.WarmedH vm₁ ∧ Stand p l e R s m args below meth c B.U B.locs B.cells B.slots ∧ Post ⟨T.setVm vm₁, locs, cells, slots⟩ (Value.ref b :: argsL).toArray v B ∧
      ∀ target, Steps p.tables e below (B.U.setTop { g with pc := g.pc + 3, stack := v.toList ++ rest }) target → Steps p.tables e below (T.setTop g) target) ∨
    (∃ (q : Addr) (vm₁ : Vm) (B : Pt), s.WarmedH vm₁ ∧ Stand p l e R s m args below meth c B.U B.locs B.cells B.slots ∧ PostX ⟨T.setVm vm₁, locs, cells, slots⟩ (Value.ref b :: argsL).toArray q B ∧
      Steps p.tables e below (T.setTop g) ((B.U.setTop { g with stack := rest }).pushFrame (.throwing q))) := by
  obtain ⟨mk, methM, hnamed, hmethM, hstM, habM⟩ := Cond.instanceMethod_spec hinst
  obtain ⟨m8, methM', cM, hn8, hmethM', -, -, -, -, -, -, hsigM⟩ := Cond.codeWith_spec hcode
  cases Option.some.inj (hn8.symm.trans hnamed)
  cases hmethM.symm.trans hmethM'
  obtain ⟨c2, r2, m2, q1, q2, q3, q4, kP, hkP, hkPi⟩ := Cond.selects_spec hsel
  cases hcls.symm.trans q1
  cases (State.methodFound?_of_named hnamed hy).symm.trans q2
  cases hnamed.symm.trans q3
  have hselP : selectMethod e.platform s.vm cellB.cls mk = .method mk := by rw [Launch.admits_selectMethod X.admits]; exact q4
  obtain ⟨vm₁, X₁, hstep₁⟩ := X.invokevirtual hexec hown hlink hnamed hmethM hstM hkP hkPi hy (a := b) (cell := cellB) hcell
    (fun z h => by rw [h] at hobj; cases hobj) hselP hmethM habM hkP hkPi (g := g) hg (argsL := argsL) (rest := rest) (hlen _ hsigM) hstack hdg
  rcases hK m meth c ⟨T.setVm vm₁, locs, cells, slots⟩ { g with stack := rest } (.invokevirtual index) mk (Value.ref b :: argsL).toArray X₁ hg hsize hdg hW (X₁.named hnamed) (hpre vm₁ X₁.warmed) with ⟨v, B, X', hpost, hsteps⟩ | ⟨q, B, X', hpost, hsteps⟩
  · exact Or.inl ⟨v, vm₁, B, X₁.warmed, X', hpost, fun target h => hstep₁ _ fun acts => by rw [doInvoke_state]; exact hsteps.trans h⟩
  · exact Or.inr ⟨q, vm₁, B, X₁.warmed, X', hpost, hstep₁ _ fun acts => by rw [doInvoke_state]; exact hsteps⟩
theorem vx_callSX (X : Stand p l e R s m args below meth c T locs cells slots) (hexec : p.tables.exec = Jvm.exec) {own : String} {index : Nat} {y : MethodName} {bytes : ByteArray} {maxL : Nat} {ret : Option FieldType} {hh : List (Nat × Nat × Nat × Nat)}
    (hown : s.vm.findClass own = some m.cls) (hlink : (Cond.methodLink own index y).before args s = true) (hstat : (Cond.static y).before args s = true) (hinit : (Cond.initialized y.cls).before args s = true)
    (hcode : (Cond.codeWith y bytes maxL ret hh).before args s = true) (hy : y.cls ≠ "java/lang/invoke/MethodHandle" ∧ y.cls ≠ "java/lang/invoke/VarHandle")
    {W9 : Nat} {Pre : Pt → Array Value → Prop} {Post : Pt → Array Value → Option Value → Pt → Prop} {PostX : Pt → Array Value → Addr → Pt → Prop} (hK : vx_Back l R p e below s args y 3 W9 Pre Post PostX)
    {g : JFrame} (hg : g.method = m) (hsize : g.locals.size = c.maxLocals) {argsL rest : List Value} (hlen : ∀ sig, parseMethodDescriptor y.desc = some sig → argsL.length = sig.parameters.length)
    (hstack : g.stack = argsL.reverse ++ rest) (hW : 2 * g.monitorRoom + (rest.map fun v => v.category).sum ≤ W9) (hdg : decode c.code g.pc = .ok (.invokestatic index, 3))
    (hpre : ∀ vm₁, s.WarmedH vm₁ → Pre ⟨T.setVm vm₁, locs, cells, slots⟩ argsL.toArray) :
    (∃ (v : Option Value) (vm₁ : Vm) (B : Pt), s.WarmedH vm₁ ∧ Stand p l e R s m args below meth c B.U B.locs B.cells B.slots ∧ Post ⟨T.setVm vm₁, locs, cells, slots⟩ argsL.toArray v B ∧
      ∀ target, Steps p.tables e below (B.U.setTop { g with pc := g.pc + 3, stack := v.toList ++ rest }) target → Steps p.tables e below (T.setTop g) target) ∨
    (∃ (q : Addr) (vm₁ : Vm) (B : Pt), s.WarmedH vm₁ ∧ Stand p l e R s m args below meth c B.U B.locs B.cells B.slots ∧ PostX ⟨T.setVm vm₁, locs, cells, slots⟩ argsL.toArray q B ∧
      Steps p.tables e below (T.setTop g) ((B.U.setTop { g with stack := rest }).pushFrame (.throwing q))) := by
  obtain ⟨mk, methM, cM, hnamed, hmethM, -, -, -, -, -, -, hsigM⟩ := Cond.codeWith_spec hcode
  have hstatic : methM.isStatic = true := Cond.static_spec hnamed hmethM hstat
  obtain ⟨kP, hkP, -⟩ := className_of_methodNamed hnamed
  have hinitP : kP.init = .initialized := Cond.initialized_spec (findClass_of_methodNamed hnamed) hkP hinit
  obtain ⟨vm₁, X₁, hstep₁⟩ := X.invokestatic hexec hown hlink hnamed hmethM hstatic hkP hinitP hy (g := g) hg (argsL := argsL) (rest := rest) (hlen _ hsigM) hstack hdg
  rcases hK m meth c ⟨T.setVm vm₁, locs, cells, slots⟩ { g with stack := rest } (.invokestatic index) mk argsL.toArray X₁ hg hsize hdg hW (X₁.named hnamed) (hpre vm₁ X₁.warmed) with ⟨v, B, X', hpost, hsteps⟩ | ⟨q, B, X', hpost, hsteps⟩
  · exact Or.inl ⟨v, vm₁, B, X₁.warmed, X', hpost, fun target h => hstep₁ _ fun acts => by rw [doInvoke_state]; exact hsteps.trans h⟩
  · exact Or.inr ⟨q, vm₁, B, X₁.warmed, X', hpost, hstep₁ _ fun acts => by rw [doInvoke_state]; exact hsteps⟩
theorem vx_callVW (X : Stand p l e R s m args below meth c T locs cells slots) (hexec : p.tables.exec = Jvm.exec) {own C : String} {index : Nat} {y : MethodName} {bytes : ByteArray} {maxL : Nat} {ret : Option FieldType} {hh : List (Nat × Nat × Nat × Nat)}
    (hown : s.vm.findClass own = some m.cls) (hlink : (Cond.methodLink own index y).before args s = true) (hinst : (Cond.instanceMethod y).before args s = true) (hsel : (Cond.selects C y y).before args s = true)
    (hcode : (Cond.codeWith y bytes maxL ret hh).before args s = true) (hy : y.cls ≠ "java/lang/invoke/MethodHandle" ∧ y.cls ≠ "java/lang/invoke/VarHandle")
    {W9 : Nat} {Pre : Pt → Array Value → Prop} {Post : Pt → Array Value → Option Value → Pt → Prop} (hK : Back l R p e below s args y 3 W9 Pre Post)
    {b : Addr} {cellB : Cell} (hcell : T.heap[b]? = some cellB) (hobj : cellB.vm.isStatics = false) (hcls : s.vm.findClass C = some cellB.cls)
    {g : JFrame} (hg : g.method = m) (hsize : g.locals.size = c.maxLocals) {argsL rest : List Value} (hlen : ∀ sig, parseMethodDescriptor y.desc = some sig → argsL.length = sig.parameters.length)
    (hstack : g.stack = argsL.reverse ++ .ref b :: rest) (hW : 2 * g.monitorRoom + (rest.map fun v => v.category).sum ≤ W9) (hdg : decode c.code g.pc = .ok (.invokevirtual index, 3))
    (hpre : ∀ vm₁, s.WarmedH vm₁ → Pre ⟨T.setVm vm₁, locs, cells, slots⟩ (Value.ref b :: argsL).toArray) :
    ∃ (v : Option Value) (vm₁ : Vm) (B : Pt), s.WarmedH vm₁ ∧ Stand p l e R s m args below meth c B.U B.locs B.cells B.slots ∧ Post ⟨T.setVm vm₁, locs, cells, slots⟩ (Value.ref b :: argsL).toArray v B ∧
      ∀ target, Steps p.tables e below (B.U.setTop { g with pc := g.pc + 3, stack := v.toList ++ rest }) target → Steps p.tables e below (T.setTop g) target := by
  obtain ⟨mk, methM, hnamed, hmethM, hstM, habM⟩ := Cond.instanceMethod_spec hinst
  obtain ⟨m8, methM', cM, hn8, hmethM', -, -, -, -, -, -, hsigM⟩ := Cond.codeWith_spec hcode
  cases Option.some.inj (hn8.symm.trans hnamed)
  cases hmethM.symm.trans hmethM'
  obtain ⟨c2, r2, m2, q1, q2, q3, q4, kP, hkP, hkPi⟩ := Cond.selects_spec hsel
  cases hcls.symm.trans q1
  cases (State.methodFound?_of_named hnamed hy).symm.trans q2
  cases hnamed.symm.trans q3
  have hselP : selectMethod e.platform s.vm cellB.cls mk = .method mk := by rw [Launch.admits_selectMethod X.admits]; exact q4
  obtain ⟨vm₁, X₁, hstep₁⟩ := X.invokevirtual hexec hown hlink hnamed hmethM hstM hkP hkPi hy (a := b) (cell := cellB) hcell
    (fun z h => by rw [h] at hobj; cases hobj) hselP hmethM habM hkP hkPi (g := g) hg (argsL := argsL) (rest := rest) (hlen _ hsigM) hstack hdg
  obtain ⟨v, B, X', hpost, hsteps⟩ := hK m meth c ⟨T.setVm vm₁, locs, cells, slots⟩ { g with stack := rest } (.invokevirtual index) mk (Value.ref b :: argsL).toArray X₁ hg hsize hdg hW (X₁.named hnamed) (hpre vm₁ X₁.warmed)
  exact ⟨v, vm₁, B, X₁.warmed, X', hpost, fun target h => hstep₁ _ fun acts => by rw [doInvoke_state]; exact hsteps.trans h⟩
abbrev vx_CVW (R : Room) (s : State) (args : Array Value) (own C : String) (index : Nat) (y : MethodName) (bytes : ByteArray) (maxL : Nat) (ret : Option FieldType) (hh : List (Nat × Nat × Nat × Nat)) (ws : List Cond) (rm : Room) (mc ms n : Nat) : Prop :=
  (rm.cells = mc ∧ rm.slots = ms ∧ rm.frames + 1 ≤ R.frames ∧ 8 + (maxL + 11) + rm.locals ≤ R.locals ∧ (∀ w ∈ ws, ∀ (a' : Array Value) (U : State), s.WarmedH U.vm → w.before a' U = true) ∧ Cond.codeWith y bytes maxL ret hh ∈ ws) ∧
  (Cond.codeWith y bytes maxL ret hh).before args s = true ∧ (Cond.initialized y.cls).before args s = true ∧ (y.cls ≠ "java/lang/invoke/MethodHandle" ∧ y.cls ≠ "java/lang/invoke/VarHandle") ∧
  (∀ sig, parseMethodDescriptor y.desc = some sig → n = sig.parameters.length) ∧ (Cond.methodLink own index y).before args s = true ∧ (Cond.instanceMethod y).before args s = true ∧ (Cond.selects C y y).before args s = true
theorem vx_cwVW {own C : String} {index maxL mc ms : Nat} {y : MethodName} {bytes : ByteArray} {ret : Option FieldType} {hh : List (Nat × Nat × Nat × Nat)} {Ts ws ws' : List Cond} {rm : Room} (n : Nat) (ht : ∀ w ∈ Ts, w.before args s = true) (hT : GoodIn Ts (wsV own index C y ws)) (hw : ws = Cond.codeWith y bytes maxL ret hh :: ws') (hrc : rm.cells = mc) (hrs : rm.slots = ms)
    (hd : y.cls = C ∧ y.cls ≠ "java/lang/invoke/MethodHandle" ∧ y.cls ≠ "java/lang/invoke/VarHandle" ∧ (parseMethodDescriptor y.desc).map (fun d => d.parameters.length) = some n) (hR : rm.frames + 1 ≤ R.frames ∧ 8 + (maxL + 11) + rm.locals ≤ R.locals) :
    vx_CVW R s args own C index y bytes maxL ret hh ws rm mc ms n := by
  obtain ⟨hC, hd⟩ := hd
  subst hC
  have ok : ∀ w ∈ wsV own index y.cls y ws, w.before args s = true := fun w h => ht w (hT w h).1
  have hG : GoodIn Ts ws := fun w h => hT w (by unfold wsV; exact List.mem_append_right _ h)
  have hc : Cond.codeWith y bytes maxL ret hh ∈ ws := by rw [hw]; exact List.mem_cons_self
  refine ⟨⟨hrc, hrs, hR.1, hR.2, pay_in ht hG, hc⟩, ht _ (hG _ hc).1, ok _ (by simp [wsV]), ⟨hd.1, hd.2.1⟩, fun sig h => ?_, ok _ (by simp [wsV]), ok _ (by simp [wsV]), ok _ (by simp [wsV])⟩
  have h2 := hd.2.2
  rw [h] at h2
  exact (Option.some.inj h2).symm
theorem vx_runVW {y : MethodName} {bytes cc : ByteArray} {maxL nL mc ms n index : Nat} {ret : Option FieldType} {hh : List (Nat × Nat × Nat × Nat)} {ws : List Cond} {rm : Room} {Pc : Array Value → State → Prop} {Qc : Array Value → State → Outcome → State → Prop} {free : Addr → Prop} {Ts : List Cond} {own C : String} {b : Addr} {As rest : List Value} {g : JFrame}
    (S : CallFix p m c cc nL s args Ts own) (hM : Met l y ws rm Pc Qc mc ms free) (cw : vx_CVW R s args own C index y bytes maxL ret hh ws rm mc ms n) (hp : PreV s H C b Pc As)
    (hg : g.method = m) (hn : As.length = n) (hsize : g.locals.size = nL) (hstack : g.stack = As.reverse ++ .ref b :: rest) (hW : 2 * g.monitorRoom + (rest.map fun v => v.category).sum ≤ 8) (hdg : decode cc g.pc = .ok (.invokevirtual index, 3)) (hf : cells + mc ≤ R.cells ∧ slots + ms ≤ R.slots) :
    va_Run p l e R s m args below meth c H locs cells slots mc ms g rest (Qc (Value.ref b :: As).toArray) free := by
  obtain ⟨⟨hrc, hrs, hfr, hlo, hws, hcw⟩, hcode, hini, hy, hlen, hl, hin, hse⟩ := cw
  have hK : Back l R p e below s args y 3 8 (PreOf R mc ms Pc) (PostOf Qc mc ms free) := va_backW (hh := hh) (bytes := bytes) (maxL := maxL) (ret := ret) hM hp.1 hrc hrs hfr hlo hws hcw (fun a' U hW => word_at hW (Or.inl (by first | rfl | simp [Cond.onTables, Cond.keeps, Cond.steady])) hini)
  obtain ⟨hx, hb, hml, ho, -⟩ := S
  obtain ⟨-, ⟨cellB, hcB, hoB, hclB⟩, hPc⟩ := hp
  intro T hT X
  obtain ⟨v, vm₁, ⟨U', l2, c2, s2⟩, hW₁, X', ⟨g', mk, t, L, e1, e2, hq, h1, hL, h2, h3⟩, st⟩ := vx_callVW X hx (C := C) (hh := hh) (bytes := bytes) (maxL := maxL) (ret := ret) ho hl hin hse hcode hy hK (by rw [hT]; exact hcB) hoB hclB hg (hsize.trans hml.symm) (argsL := As) (rest := rest) (fun sig h => hn.trans (hlen sig h)) hstack hW (by rw [hb]; exact hdg)
    (fun vm₁ hW₁ => ⟨hf.1, hf.2, hPc (T.setVm vm₁) hT hW₁⟩)
  dsimp only [Pt.U, Pt.locs, Pt.cells, Pt.slots] at X' e1 e2 h1 h2 h3 st
  subst h1; subst h2; subst h3
  exact ⟨v, (T.setVm vm₁).calling g' mk (Value.ref b :: As).toArray, t, U', L, hT, X', hL, e1, e2, hq, st⟩
section
variable {y : MethodName} {bytes cc : ByteArray} {maxL nL mc ms n index : Nat} {ret : Option FieldType} {ws : List Cond} {rm : Room} {Pc : Array Value → State → Prop} {Qc : Array Value → State → Outcome → State → Prop} {XC : String → State → State → Prop} {free : Addr → Prop} {Ts : List Cond} {own C : String} {b : Addr} {As rest : List Value} {g : JFrame}
theorem vx_runVX {hh : List (Nat × Nat × Nat × Nat)} (S : CallFix p m c cc nL s args Ts own) (hM : vx_Met l y ws rm Pc Qc XC mc ms free) (cw : vx_CVW R s args own C index y bytes maxL ret hh ws rm mc ms n) (hp : PreV s H C b Pc As)
    (hg : g.method = m) (hn : As.length = n) (hsize : g.locals.size = nL) (hstack : g.stack = As.reverse ++ .ref b :: rest) (hW : 2 * g.monitorRoom + (rest.map fun v => v.category).sum ≤ 8) (hdg : decode cc g.pc = .ok (.invokevirtual index, 3)) (hf : cells + mc ≤ R.cells ∧ slots + ms ≤ R.slots) :
    vx_Run p l e R s m args below meth c H locs cells slots mc ms g rest (Qc (Value.ref b :: As).toArray) XC free := by
  obtain ⟨⟨hrc, hrs, hfr, hlo, hws, hcw⟩, hcode, hini, hy, hlen, hl, hin, hse⟩ := cw
  have hK : vx_Back l R p e below s args y 3 8 (PreOf R mc ms Pc) (PostOf Qc mc ms free) (vx_Post XC mc ms free) := vx_backW (hh := hh) (bytes := bytes) (maxL := maxL) (ret := ret) hM hp.1 hrc hrs hfr hlo hws hcw (fun a' U hW => word_at hW (Or.inl (by first | rfl | simp [Cond.onTables, Cond.keeps, Cond.steady])) hini)
  obtain ⟨hx, hb, hml, ho, -⟩ := S
  obtain ⟨-, ⟨cellB, hcB, hoB, hclB⟩, hPc⟩ := hp
  intro T hT X
  rcases vx_callVX X hx (C := C) (hh := hh) (bytes := bytes) (maxL := maxL) (ret := ret) ho hl hin hse hcode hy hK (by rw [hT]; exact hcB) hoB hclB hg (hsize.trans hml.symm) (argsL := As) (rest := rest) (fun sig h => hn.trans (hlen sig h)) hstack hW (by rw [hb]; exact hdg)
    (fun vm₁ hW₁ => ⟨hf.1, hf.2, hPc (T.setVm vm₁) hT hW₁⟩) with ⟨v, vm₁, ⟨U', l2, c2, s2⟩, hW₁, X', ⟨g', mk, t, L, e1, e2, hq, h1, hL, h2, h3⟩, st⟩ | ⟨q, vm₁, ⟨U', l2, c2, s2⟩, hW₁, X', ⟨g', mk, t, L, E, ce, e1, e2, hq, hce, hcv, hcl, h1, hL, h2, h3⟩, st⟩
  · dsimp only [Pt.U, Pt.locs, Pt.cells, Pt.slots] at X' e1 e2 h1 h2 h3 st
    subst h1; subst h2; subst h3
    exact Or.inl ⟨v, (T.setVm vm₁).calling g' mk (Value.ref b :: As).toArray, t, U', L, hT, X', hL, e1, e2, hq, st⟩
  · dsimp only [Pt.U, Pt.locs, Pt.cells, Pt.slots] at X' e1 e2 h1 h2 h3 st hcl
    subst h1; subst h2; subst h3
    exact Or.inr ⟨q, (T.setVm vm₁).calling g' mk (Value.ref b :: As).toArray, t, U', L, E, ce, hT, X', hL, e1, e2, hq, hce, hcv, vx_cls hW₁ hcl, st⟩
theorem vx_runSX {hh : List (Nat × Nat × Nat × Nat)} (S : CallFix p m c cc nL s args Ts own) (hM : vx_Met l y ws rm Pc Qc XC mc ms free) (cw : vx_CSW R s args own index y bytes maxL ret hh ws rm mc ms n) (hp : PreS s H Pc As)
    (hg : g.method = m) (hn : As.length = n) (hsize : g.locals.size = nL) (hstack : g.stack = As.reverse ++ rest) (hW : 2 * g.monitorRoom + (rest.map fun v => v.category).sum ≤ 8) (hdg : decode cc g.pc = .ok (.invokestatic index, 3)) (hf : cells + mc ≤ R.cells ∧ slots + ms ≤ R.slots) :
    vx_Run p l e R s m args below meth c H locs cells slots mc ms g rest (Qc As.toArray) XC free := by
  obtain ⟨⟨hrc, hrs, hfr, hlo, hws, hcw⟩, hcode, hini, hy, hlen, hl, hstt⟩ := cw
  have hK : vx_Back l R p e below s args y 3 8 (PreOf R mc ms Pc) (PostOf Qc mc ms free) (vx_Post XC mc ms free) := vx_backW (hh := hh) (bytes := bytes) (maxL := maxL) (ret := ret) hM hp.1 hrc hrs hfr hlo hws hcw (fun a' U hW => word_at hW (Or.inl (by first | rfl | simp [Cond.onTables, Cond.keeps, Cond.steady])) hini)
  obtain ⟨hx, hb, hml, ho, -⟩ := S
  intro T hT X
  rcases vx_callSX X hx (hh := hh) (bytes := bytes) (maxL := maxL) (ret := ret) ho hl hstt hini hcode hy hK hg (hsize.trans hml.symm) (argsL := As) (rest := rest) (fun sig h => hn.trans (hlen sig h)) hstack hW (by rw [hb]; exact hdg)
    (fun vm₁ hW₁ => ⟨hf.1, hf.2, hp.2 (T.setVm vm₁) hT hW₁⟩) with ⟨v, vm₁, ⟨U', l2, c2, s2⟩, hW₁, X', ⟨g', mk, t, L, e1, e2, hq, h1, hL, h2, h3⟩, st⟩ | ⟨q, vm₁, ⟨U', l2, c2, s2⟩, hW₁, X', ⟨g', mk, t, L, E, ce, e1, e2, hq, hce, hcv, hcl, h1, hL, h2, h3⟩, st⟩
  · dsimp only [Pt.U, Pt.locs, Pt.cells, Pt.slots] at X' e1 e2 h1 h2 h3 st
    subst h1; subst h2; subst h3
    exact Or.inl ⟨v, (T.setVm vm₁).calling g' mk As.toArray, t, U', L, hT, X', hL, e1, e2, hq, st⟩
  · dsimp only [Pt.U, Pt.locs, Pt.cells, Pt.slots] at X' e1 e2 h1 h2 h3 st hcl
    subst h1; subst h2; subst h3
    exact Or.inr ⟨q, (T.setVm vm₁).calling g' mk As.toArray, t, U', L, E, ce, hT, X', hL, e1, e2, hq, hce, hcv, vx_cls hW₁ hcl, st⟩
end
end VXH
theorem vx_ofWH {l : Launch} {y : MethodName} {ws ws' : List Cond} {rm : Room} {Pc : Array Value → State → Prop} {Qc : Array Value → State → Outcome → State → Prop} {XC : String → State → State → Prop} {mc ms : Nat} {free : Addr → Prop} {cc : ByteArray} {maxL : Nat} {ret : Option FieldType} {hh : List (Nat × Nat × Nat × Nat)}
    (hy : plainName y.cls = true) (hw : ws = Cond.codeWith y cc maxL ret hh :: ws')
    (body : ∀ p e s m args below meth c s₁, BodyLoose p l y (headSpec ws rm) cc maxL ret e s m args below meth c s₁ → c.maxLocals = maxL → Pc args s →
      W p l e (headSpec ws rm).room s m args below meth c s.heap [] 0 0 (vx_MQ below Qc XC args s mc ms free) (entryFrame m args maxL)) : vx_Met l y ws rm Pc Qc XC mc ms free := by
  refine MetFree.of_bodyS (code := cc) (maxLocals := maxL) (ret := ret) hy ?_ ?_
  · intro args s m h hn
    obtain ⟨m9, meth, c, hn9, h1, h2, h3, h4, -, h5, h6, -⟩ := Cond.codeWith_spec (atoms_spec (ws := ws) h _ (by rw [hw]; exact List.mem_cons_self))
    cases hn.symm.trans hn9
    exact ⟨meth, c, h1, h2, h3, h4, h5, h6⟩
  · intro p e s m args below meth c s₁ B hml hP _
    have hh0 : s₁.heap = s.heap := by rw [B.state]; rfl
    obtain ⟨t, a1, o, b1, b2, b3⟩ := body p e s m args below meth c s₁ B hml hP s₁ hh0 (Stand.of_body B)
    exact ⟨t, o, a1, b1, b2, b3⟩
/-! ===== END ===== -/
end
section
/-! ===== BEGIN printed: names, fields, word lists, decode rows ===== -/
def RX0 : String := "CraneCampaign$Bogs"
def TX0 : u_T := fun k => match k with
  | 0 => ("CraneCampaign$Bogs", "place", "[I", true)
  | 1 => ("CraneCampaign$Bogs", "need", "[I", true)
  | _ => ("CraneCampaign$Bogs", "count", "I", false)
def tyX0 : Nat → FieldType := fun k => match k with
  | 0 => .array .int
  | 1 => .array .int
  | _ => .int
abbrev wsX00 : List Cond := u_ws RX0 TX0 3
theorem nmX0 : ∀ a, a < 3 → ∀ b, b < 3 → a ≠ b → (TX0 a).2.1 ≠ (TX0 b).2.1 := by decide +kernel
theorem tyX0_ok : ∀ k, k < 3 → parseFieldDescriptor (TX0 k).2.2.1 = some (tyX0 k) := by decide +kernel
abbrev cX0_init : ByteArray := prog_2_method_1_code
def yX0_init : MethodName := ⟨RX0, "<init>", "()V"⟩
abbrev cX0_copyFrom : ByteArray := prog_2_method_2_code
def yX0_copyFrom : MethodName := ⟨RX0, "copyFrom", "(LCraneCampaign$Bogs;)V"⟩
abbrev cX0_isFull : ByteArray := prog_2_method_3_code
def yX0_isFull : MethodName := ⟨RX0, "isFull", "()Z"⟩
abbrev cX0_indexAt : ByteArray := prog_2_method_4_code
def yX0_indexAt : MethodName := ⟨RX0, "indexAt", "(I)I"⟩
abbrev cX0_put : ByteArray := prog_2_method_5_code
def yX0_put : MethodName := ⟨RX0, "put", "(II)V"⟩
abbrev cX0_removeAt : ByteArray := prog_2_method_6_code
def yX0_removeAt : MethodName := ⟨RX0, "removeAt", "(I)V"⟩
abbrev cX0_insert : ByteArray := prog_2_method_7_code
def yX0_insert : MethodName := ⟨RX0, "insert", "(II)V"⟩
abbrev cX0_countBetween : ByteArray := prog_2_method_8_code
def yX0_countBetween : MethodName := ⟨RX0, "countBetween", "(III)I"⟩
def RX1 : String := "CraneCampaign$Crane"
def TX1 : u_T := fun k => match k with
  | 0 => ("CraneCampaign$Crane", "place", "I", false)
  | 1 => ("CraneCampaign$Crane", "hoursLeft", "I", false)
  | 2 => ("CraneCampaign$Crane", "goal", "I", false)
  | 3 => ("CraneCampaign$Crane", "workDone", "I", false)
  | _ => ("CraneCampaign$Crane", "workedOn", "I", false)
def tyX1 : Nat → FieldType := fun k => match k with
  | 0 => .int
  | 1 => .int
  | 2 => .int
  | 3 => .int
  | _ => .int
abbrev wsX10 : List Cond := u_ws RX1 TX1 5
theorem nmX1 : ∀ a, a < 5 → ∀ b, b < 5 → a ≠ b → (TX1 a).2.1 ≠ (TX1 b).2.1 := by decide +kernel
theorem tyX1_ok : ∀ k, k < 5 → parseFieldDescriptor (TX1 k).2.2.1 = some (tyX1 k) := by decide +kernel
abbrev cX1_init : ByteArray := prog_3_method_1_code
def yX1_init : MethodName := ⟨RX1, "<init>", "()V"⟩
abbrev cX1_copyFrom : ByteArray := prog_3_method_2_code
def yX1_copyFrom : MethodName := ⟨RX1, "copyFrom", "(LCraneCampaign$Crane;)V"⟩
abbrev cX1_isOnWay : ByteArray := prog_3_method_3_code
def yX1_isOnWay : MethodName := ⟨RX1, "isOnWay", "()Z"⟩
abbrev cX1_driveTo : ByteArray := prog_3_method_4_code
def yX1_driveTo : MethodName := ⟨RX1, "driveTo", "(III)V"⟩
abbrev cX1_workAnHourOn : ByteArray := prog_3_method_5_code
def yX1_workAnHourOn : MethodName := ⟨RX1, "workAnHourOn", "(I)V"⟩
abbrev cX1_forgetWork : ByteArray := prog_3_method_6_code
def yX1_forgetWork : MethodName := ⟨RX1, "forgetWork", "()V"⟩
abbrev cX1_workOn : ByteArray := prog_3_method_7_code
def yX1_workOn : MethodName := ⟨RX1, "workOn", "(I)I"⟩
def RX2 : String := "CraneCampaign$Farm"
def TX2 : u_T := fun k => match k with
  | 0 => ("CraneCampaign$Farm", "turbines", "[LCraneCampaign$Turbine;", true)
  | 1 => ("CraneCampaign$Farm", "turbineCount", "I", false)
  | 2 => ("CraneCampaign$Farm", "bogs", "LCraneCampaign$Bogs;", true)
  | 3 => ("CraneCampaign$Farm", "harbour", "LCraneCampaign$Harbour;", true)
  | 4 => ("CraneCampaign$Farm", "plan", "LCraneCampaign$Plan;", true)
  | 5 => ("CraneCampaign$Farm", "crane", "LCraneCampaign$Crane;", true)
  | 6 => ("CraneCampaign$Farm", "winds", "LCraneCampaign$Winds;", true)
  | 7 => ("CraneCampaign$Farm", "settings", "[I", true)
  | 8 => ("CraneCampaign$Farm", "lostBy", "[I", true)
  | _ => ("CraneCampaign$Farm", "hour", "I", false)
def tyX2 : Nat → FieldType := fun k => match k with
  | 0 => .array (.object "CraneCampaign$Turbine")
  | 1 => .int
  | 2 => .object "CraneCampaign$Bogs"
  | 3 => .object "CraneCampaign$Harbour"
  | 4 => .object "CraneCampaign$Plan"
  | 5 => .object "CraneCampaign$Crane"
  | 6 => .object "CraneCampaign$Winds"
  | 7 => .array .int
  | 8 => .array .int
  | _ => .int
abbrev wsX20 : List Cond := u_ws RX2 TX2 10
theorem nmX2 : ∀ a, a < 10 → ∀ b, b < 10 → a ≠ b → (TX2 a).2.1 ≠ (TX2 b).2.1 := by decide +kernel
theorem tyX2_ok : ∀ k, k < 10 → parseFieldDescriptor (TX2 k).2.2.1 = some (tyX2 k) := by decide +kernel
abbrev cX2_init : ByteArray := prog_4_method_1_code
def yX2_init : MethodName := ⟨RX2, "<init>", "()V"⟩
abbrev cX2_copyFrom : ByteArray := prog_4_method_2_code
def yX2_copyFrom : MethodName := ⟨RX2, "copyFrom", "(LCraneCampaign$Farm;)V"⟩
abbrev cX2_hasTurbine : ByteArray := prog_4_method_3_code
def yX2_hasTurbine : MethodName := ⟨RX2, "hasTurbine", "(I)Z"⟩
abbrev cX2_hasTurbineAt : ByteArray := prog_4_method_4_code
def yX2_hasTurbineAt : MethodName := ⟨RX2, "hasTurbineAt", "(I)Z"⟩
abbrev cX2_buildTurbine : ByteArray := prog_4_method_5_code
def yX2_buildTurbine : MethodName := ⟨RX2, "buildTurbine", "(III)I"⟩
abbrev cX2_faultCount : ByteArray := prog_4_method_6_code
def yX2_faultCount : MethodName := ⟨RX2, "faultCount", "()I"⟩
abbrev cX2_lostPower : ByteArray := prog_4_method_7_code
def yX2_lostPower : MethodName := ⟨RX2, "lostPower", "()I"⟩
abbrev cX2_wonPower : ByteArray := prog_4_method_8_code
def yX2_wonPower : MethodName := ⟨RX2, "wonPower", "()I"⟩
abbrev cX2_windNow : ByteArray := prog_4_method_9_code
def yX2_windNow : MethodName := ⟨RX2, "windNow", "()I"⟩
abbrev cX2_turbineProperty : ByteArray := prog_4_method_10_code
def yX2_turbineProperty : MethodName := ⟨RX2, "turbineProperty", "(II)I"⟩
abbrev cX2_outcome : ByteArray := prog_4_method_11_code
def yX2_outcome : MethodName := ⟨RX2, "outcome", "(I)I"⟩
abbrev cX2_hoursBetween : ByteArray := prog_4_method_12_code
def yX2_hoursBetween : MethodName := ⟨RX2, "hoursBetween", "(II)I"⟩
abbrev cX2_hoursUntilCalm : ByteArray := prog_4_method_13_code
def yX2_hoursUntilCalm : MethodName := ⟨RX2, "hoursUntilCalm", "(II)I"⟩
abbrev cX2_runHours : ByteArray := prog_4_method_14_code
def yX2_runHours : MethodName := ⟨RX2, "runHours", "(I)I"⟩
abbrev cX2_runHour : ByteArray := prog_4_method_15_code
def yX2_runHour : MethodName := ⟨RX2, "runHour", "()I"⟩
abbrev cX2_dropFaultless : ByteArray := prog_4_method_16_code
def yX2_dropFaultless : MethodName := ⟨RX2, "dropFaultless", "()V"⟩
abbrev cX2_serve : ByteArray := prog_4_method_17_code
def yX2_serve : MethodName := ⟨RX2, "serve", "(I)I"⟩
abbrev cX2_sharePower : ByteArray := prog_4_method_18_code
def yX2_sharePower : MethodName := ⟨RX2, "sharePower", "(II)I"⟩
abbrev cX2_finishIfDone : ByteArray := prog_4_method_19_code
def yX2_finishIfDone : MethodName := ⟨RX2, "finishIfDone", "(I)V"⟩
abbrev cX2_worsen : ByteArray := prog_4_method_20_code
def yX2_worsen : MethodName := ⟨RX2, "worsen", "(I)V"⟩
def RX3 : String := "CraneCampaign$Harbour"
def TX3 : u_T := fun k => match k with
  | 0 => ("CraneCampaign$Harbour", "turbine", "[I", true)
  | 1 => ("CraneCampaign$Harbour", "weight", "[I", true)
  | _ => ("CraneCampaign$Harbour", "count", "I", false)
def tyX3 : Nat → FieldType := fun k => match k with
  | 0 => .array .int
  | 1 => .array .int
  | _ => .int
abbrev wsX30 : List Cond := u_ws RX3 TX3 3
theorem nmX3 : ∀ a, a < 3 → ∀ b, b < 3 → a ≠ b → (TX3 a).2.1 ≠ (TX3 b).2.1 := by decide +kernel
theorem tyX3_ok : ∀ k, k < 3 → parseFieldDescriptor (TX3 k).2.2.1 = some (tyX3 k) := by decide +kernel
abbrev cX3_init : ByteArray := prog_5_method_1_code
def yX3_init : MethodName := ⟨RX3, "<init>", "()V"⟩
abbrev cX3_copyFrom : ByteArray := prog_5_method_2_code
def yX3_copyFrom : MethodName := ⟨RX3, "copyFrom", "(LCraneCampaign$Harbour;)V"⟩
abbrev cX3_isFull : ByteArray := prog_5_method_3_code
def yX3_isFull : MethodName := ⟨RX3, "isFull", "()Z"⟩
abbrev cX3_take : ByteArray := prog_5_method_4_code
def yX3_take : MethodName := ⟨RX3, "take", "(II)V"⟩
abbrev cX3_unload : ByteArray := prog_5_method_5_code
def yX3_unload : MethodName := ⟨RX3, "unload", "(I)V"⟩
abbrev cX3_unloadedFor : ByteArray := prog_5_method_6_code
def yX3_unloadedFor : MethodName := ⟨RX3, "unloadedFor", "(I)I"⟩
abbrev cX3_useBladeFor : ByteArray := prog_5_method_7_code
def yX3_useBladeFor : MethodName := ⟨RX3, "useBladeFor", "(I)V"⟩
abbrev cX3_removeAt : ByteArray := prog_5_method_8_code
def yX3_removeAt : MethodName := ⟨RX3, "removeAt", "(I)V"⟩
def RX4 : String := "CraneCampaign$Plan"
def TX4 : u_T := fun k => match k with
  | 0 => ("CraneCampaign$Plan", "row", "[I", true)
  | _ => ("CraneCampaign$Plan", "count", "I", false)
def tyX4 : Nat → FieldType := fun k => match k with
  | 0 => .array .int
  | _ => .int
abbrev wsX40 : List Cond := u_ws RX4 TX4 2
theorem nmX4 : ∀ a, a < 2 → ∀ b, b < 2 → a ≠ b → (TX4 a).2.1 ≠ (TX4 b).2.1 := by decide +kernel
theorem tyX4_ok : ∀ k, k < 2 → parseFieldDescriptor (TX4 k).2.2.1 = some (tyX4 k) := by decide +kernel
abbrev cX4_init : ByteArray := prog_6_method_1_code
def yX4_init : MethodName := ⟨RX4, "<init>", "()V"⟩
abbrev cX4_copyFrom : ByteArray := prog_6_method_2_code
def yX4_copyFrom : MethodName := ⟨RX4, "copyFrom", "(LCraneCampaign$Plan;)V"⟩
abbrev cX4_first : ByteArray := prog_6_method_3_code
def yX4_first : MethodName := ⟨RX4, "first", "()I"⟩
abbrev cX4_placeOf : ByteArray := prog_6_method_4_code
def yX4_placeOf : MethodName := ⟨RX4, "placeOf", "(I)I"⟩
abbrev cX4_countWithout : ByteArray := prog_6_method_5_code
def yX4_countWithout : MethodName := ⟨RX4, "countWithout", "(I)I"⟩
abbrev cX4_moveTo : ByteArray := prog_6_method_6_code
def yX4_moveTo : MethodName := ⟨RX4, "moveTo", "(II)V"⟩
abbrev cX4_removeAt : ByteArray := prog_6_method_7_code
def yX4_removeAt : MethodName := ⟨RX4, "removeAt", "(I)V"⟩
def RX5 : String := "CraneCampaign$Turbine"
def TX5 : u_T := fun k => match k with
  | 0 => ("CraneCampaign$Turbine", "place", "I", false)
  | 1 => ("CraneCampaign$Turbine", "height", "I", false)
  | 2 => ("CraneCampaign$Turbine", "rate", "I", false)
  | 3 => ("CraneCampaign$Turbine", "fault", "I", false)
  | 4 => ("CraneCampaign$Turbine", "age", "I", false)
  | 5 => ("CraneCampaign$Turbine", "lost", "I", false)
  | _ => ("CraneCampaign$Turbine", "won", "I", false)
def tyX5 : Nat → FieldType := fun k => match k with
  | 0 => .int
  | 1 => .int
  | 2 => .int
  | 3 => .int
  | 4 => .int
  | 5 => .int
  | _ => .int
abbrev wsX50 : List Cond := u_ws RX5 TX5 7
theorem nmX5 : ∀ a, a < 7 → ∀ b, b < 7 → a ≠ b → (TX5 a).2.1 ≠ (TX5 b).2.1 := by decide +kernel
theorem tyX5_ok : ∀ k, k < 7 → parseFieldDescriptor (TX5 k).2.2.1 = some (tyX5 k) := by decide +kernel
abbrev cX5_init : ByteArray := prog_7_method_1_code
def yX5_init : MethodName := ⟨RX5, "<init>", "()V"⟩
abbrev cX5_begin : ByteArray := prog_7_method_2_code
def yX5_begin : MethodName := ⟨RX5, "begin", "(III)V"⟩
abbrev cX5_copyFrom : ByteArray := prog_7_method_3_code
def yX5_copyFrom : MethodName := ⟨RX5, "copyFrom", "(LCraneCampaign$Turbine;)V"⟩
abbrev cX5_limit : ByteArray := prog_7_method_4_code
def yX5_limit : MethodName := ⟨RX5, "limit", "(I)I"⟩
abbrev cX5_bladeWeight : ByteArray := prog_7_method_5_code
def yX5_bladeWeight : MethodName := ⟨RX5, "bladeWeight", "()I"⟩
abbrev cX5_fullPower : ByteArray := prog_7_method_6_code
def yX5_fullPower : MethodName := ⟨RX5, "fullPower", "(I)I"⟩
abbrev cX5_growOlder : ByteArray := prog_7_method_7_code
def yX5_growOlder : MethodName := ⟨RX5, "growOlder", "(I)V"⟩
def RX6 : String := "CraneCampaign$WindText"
def TX6 : u_T := fun k => match k with
  | 0 => ("CraneCampaign$WindText", "letters", "[I", true)
  | _ => ("CraneCampaign$WindText", "length", "I", false)
def tyX6 : Nat → FieldType := fun k => match k with
  | 0 => .array .int
  | _ => .int
abbrev wsX60 : List Cond := u_ws RX6 TX6 2
theorem nmX6 : ∀ a, a < 2 → ∀ b, b < 2 → a ≠ b → (TX6 a).2.1 ≠ (TX6 b).2.1 := by decide +kernel
theorem tyX6_ok : ∀ k, k < 2 → parseFieldDescriptor (TX6 k).2.2.1 = some (tyX6 k) := by decide +kernel
abbrev cX6_init : ByteArray := prog_8_method_1_code
def yX6_init : MethodName := ⟨RX6, "<init>", "()V"⟩
abbrev cX6_isFull : ByteArray := prog_8_method_2_code
def yX6_isFull : MethodName := ⟨RX6, "isFull", "()Z"⟩
abbrev cX6_add : ByteArray := prog_8_method_3_code
def yX6_add : MethodName := ⟨RX6, "add", "(I)V"⟩
abbrev cX6_errorIndex : ByteArray := prog_8_method_4_code
def yX6_errorIndex : MethodName := ⟨RX6, "errorIndex", "()I"⟩
abbrev cX6_isComplete : ByteArray := prog_8_method_5_code
def yX6_isComplete : MethodName := ⟨RX6, "isComplete", "()Z"⟩
abbrev cX6_isEndOfPart : ByteArray := prog_8_method_6_code
def yX6_isEndOfPart : MethodName := ⟨RX6, "isEndOfPart", "(I)Z"⟩
abbrev cX6_isNumber : ByteArray := prog_8_method_7_code
def yX6_isNumber : MethodName := ⟨RX6, "isNumber", "(I)Z"⟩
abbrev cX6_after : ByteArray := prog_8_method_8_code
def yX6_after : MethodName := ⟨RX6, "after", "(II)I"⟩
abbrev cX6_afterDigit : ByteArray := prog_8_method_9_code
def yX6_afterDigit : MethodName := ⟨RX6, "afterDigit", "(II)I"⟩
abbrev cX6_afterFirstOfNumber : ByteArray := prog_8_method_10_code
def yX6_afterFirstOfNumber : MethodName := ⟨RX6, "afterFirstOfNumber", "(I)I"⟩
abbrev cX6_afterFirstOfTimes : ByteArray := prog_8_method_11_code
def yX6_afterFirstOfTimes : MethodName := ⟨RX6, "afterFirstOfTimes", "(I)I"⟩
abbrev cX6_numberCount : ByteArray := prog_8_method_12_code
def yX6_numberCount : MethodName := ⟨RX6, "numberCount", "()I"⟩
abbrev cX6_writeTo : ByteArray := prog_8_method_13_code
def yX6_writeTo : MethodName := ⟨RX6, "writeTo", "(LCraneCampaign$Winds;)V"⟩
abbrev cX6_timesFrom : ByteArray := prog_8_method_14_code
def yX6_timesFrom : MethodName := ⟨RX6, "timesFrom", "(I)I"⟩
abbrev cX6_valueFrom : ByteArray := prog_8_method_15_code
def yX6_valueFrom : MethodName := ⟨RX6, "valueFrom", "(I)I"⟩
def RX7 : String := "CraneCampaign$Winds"
def TX7 : u_T := fun k => match k with
  | 0 => ("CraneCampaign$Winds", "row", "[I", true)
  | _ => ("CraneCampaign$Winds", "count", "I", false)
def tyX7 : Nat → FieldType := fun k => match k with
  | 0 => .array .int
  | _ => .int
abbrev wsX70 : List Cond := u_ws RX7 TX7 2
theorem nmX7 : ∀ a, a < 2 → ∀ b, b < 2 → a ≠ b → (TX7 a).2.1 ≠ (TX7 b).2.1 := by decide +kernel
theorem tyX7_ok : ∀ k, k < 2 → parseFieldDescriptor (TX7 k).2.2.1 = some (tyX7 k) := by decide +kernel
abbrev cX7_init : ByteArray := prog_9_method_1_code
def yX7_init : MethodName := ⟨RX7, "<init>", "()V"⟩
abbrev cX7_copyFrom : ByteArray := prog_9_method_2_code
def yX7_copyFrom : MethodName := ⟨RX7, "copyFrom", "(LCraneCampaign$Winds;)V"⟩
abbrev cX7_add : ByteArray := prog_9_method_3_code
def yX7_add : MethodName := ⟨RX7, "add", "(I)V"⟩
abbrev cX7_at : ByteArray := prog_9_method_4_code
def yX7_at : MethodName := ⟨RX7, "at", "(I)I"⟩
abbrev cX7_sum : ByteArray := prog_9_method_5_code
def yX7_sum : MethodName := ⟨RX7, "sum", "()I"⟩
def RX8 : String := "CraneCampaign"
def TX8 : u_T := fun k => match k with
  | 0 => ("CraneCampaign", "farm", "LCraneCampaign$Farm;", true)
  | 1 => ("CraneCampaign", "trial", "LCraneCampaign$Farm;", true)
  | 2 => ("CraneCampaign", "saved", "[LCraneCampaign$Farm;", true)
  | 3 => ("CraneCampaign", "oldestSaved", "I", false)
  | 4 => ("CraneCampaign", "savedCount", "I", false)
  | _ => ("CraneCampaign", "buffer", "LCraneCampaign$WindText;", true)
def tyX8 : Nat → FieldType := fun k => match k with
  | 0 => .object "CraneCampaign$Farm"
  | 1 => .object "CraneCampaign$Farm"
  | 2 => .array (.object "CraneCampaign$Farm")
  | 3 => .int
  | 4 => .int
  | _ => .object "CraneCampaign$WindText"
abbrev wsX80 : List Cond := u_ws RX8 TX8 6
theorem nmX8 : ∀ a, a < 6 → ∀ b, b < 6 → a ≠ b → (TX8 a).2.1 ≠ (TX8 b).2.1 := by decide +kernel
theorem tyX8_ok : ∀ k, k < 6 → parseFieldDescriptor (TX8 k).2.2.1 = some (tyX8 k) := by decide +kernel
abbrev cX8_init : ByteArray := prog_1_method_1_code
def yX8_init : MethodName := ⟨RX8, "<init>", "()V"⟩
abbrev cX8_addTurbine : ByteArray := prog_1_method_2_code
def yX8_addTurbine : MethodName := ⟨RX8, "addTurbine", "(III)I"⟩
abbrev cX8_setFault : ByteArray := prog_1_method_3_code
def yX8_setFault : MethodName := ⟨RX8, "setFault", "(II)I"⟩
abbrev cX8_setBog : ByteArray := prog_1_method_4_code
def yX8_setBog : MethodName := ⟨RX8, "setBog", "(II)I"⟩
abbrev cX8_set : ByteArray := prog_1_method_5_code
def yX8_set : MethodName := ⟨RX8, "set", "(II)I"⟩
abbrev cX8_plan : ByteArray := prog_1_method_6_code
def yX8_plan : MethodName := ⟨RX8, "plan", "(II)I"⟩
abbrev cX8_unplan : ByteArray := prog_1_method_7_code
def yX8_unplan : MethodName := ⟨RX8, "unplan", "(I)I"⟩
abbrev cX8_orderBlade : ByteArray := prog_1_method_8_code
def yX8_orderBlade : MethodName := ⟨RX8, "orderBlade", "(I)I"⟩
abbrev cX8_pass : ByteArray := prog_1_method_9_code
def yX8_pass : MethodName := ⟨RX8, "pass", "(I)I"⟩
abbrev cX8_append : ByteArray := prog_1_method_10_code
def yX8_append : MethodName := ⟨RX8, "append", "(I)I"⟩
abbrev cX8_clearBuffer : ByteArray := prog_1_method_11_code
def yX8_clearBuffer : MethodName := ⟨RX8, "clearBuffer", "()I"⟩
abbrev cX8_firstError : ByteArray := prog_1_method_12_code
def yX8_firstError : MethodName := ⟨RX8, "firstError", "()I"⟩
abbrev cX8_load : ByteArray := prog_1_method_13_code
def yX8_load : MethodName := ⟨RX8, "load", "()I"⟩
abbrev cX8_undo : ByteArray := prog_1_method_14_code
def yX8_undo : MethodName := ⟨RX8, "undo", "()I"⟩
abbrev cX8_turbine : ByteArray := prog_1_method_15_code
def yX8_turbine : MethodName := ⟨RX8, "turbine", "(II)I"⟩
abbrev cX8_blade : ByteArray := prog_1_method_16_code
def yX8_blade : MethodName := ⟨RX8, "blade", "(II)I"⟩
abbrev cX8_bog : ByteArray := prog_1_method_17_code
def yX8_bog : MethodName := ⟨RX8, "bog", "(II)I"⟩
abbrev cX8_claims : ByteArray := prog_1_method_18_code
def yX8_claims : MethodName := ⟨RX8, "claims", "(I)I"⟩
abbrev cX8_count : ByteArray := prog_1_method_19_code
def yX8_count : MethodName := ⟨RX8, "count", "(I)I"⟩
abbrev cX8_setting : ByteArray := prog_1_method_20_code
def yX8_setting : MethodName := ⟨RX8, "setting", "(I)I"⟩
abbrev cX8_way : ByteArray := prog_1_method_21_code
def yX8_way : MethodName := ⟨RX8, "way", "(II)I"⟩
abbrev cX8_ifPassed : ByteArray := prog_1_method_22_code
def yX8_ifPassed : MethodName := ⟨RX8, "ifPassed", "(II)I"⟩
abbrev cX8_bestFirst : ByteArray := prog_1_method_23_code
def yX8_bestFirst : MethodName := ⟨RX8, "bestFirst", "()I"⟩
abbrev cX8_window : ByteArray := prog_1_method_24_code
def yX8_window : MethodName := ⟨RX8, "window", "(II)I"⟩
abbrev cX8_doneIn : ByteArray := prog_1_method_25_code
def yX8_doneIn : MethodName := ⟨RX8, "doneIn", "()I"⟩
abbrev cX8_meanWind : ByteArray := prog_1_method_26_code
def yX8_meanWind : MethodName := ⟨RX8, "meanWind", "()F"⟩
abbrev cX8_lostShare : ByteArray := prog_1_method_27_code
def yX8_lostShare : MethodName := ⟨RX8, "lostShare", "()D"⟩
abbrev cX8_digest : ByteArray := prog_1_method_28_code
def yX8_digest : MethodName := ⟨RX8, "digest", "()J"⟩
abbrev cX8_isWithin : ByteArray := prog_1_method_29_code
def yX8_isWithin : MethodName := ⟨RX8, "isWithin", "(III)Z"⟩
abbrev cX8_requireTurbine : ByteArray := prog_1_method_30_code
def yX8_requireTurbine : MethodName := ⟨RX8, "requireTurbine", "(I)V"⟩
abbrev cX8_requireSetting : ByteArray := prog_1_method_31_code
def yX8_requireSetting : MethodName := ⟨RX8, "requireSetting", "(I)V"⟩
abbrev cX8_saveState : ByteArray := prog_1_method_32_code
def yX8_saveState : MethodName := ⟨RX8, "saveState", "()V"⟩
abbrev cX8_numberOf : ByteArray := prog_1_method_33_code
def yX8_numberOf : MethodName := ⟨RX8, "numberOf", "(I)I"⟩
abbrev cX8_mix : ByteArray := prog_1_method_34_code
def yX8_mix : MethodName := ⟨RX8, "mix", "(JJ)J"⟩
abbrev cX8_mixFarm : ByteArray := prog_1_method_35_code
def yX8_mixFarm : MethodName := ⟨RX8, "mixFarm", "(J)J"⟩
abbrev cX8_bitsOfFloat : ByteArray := prog_1_method_36_code
def yX8_bitsOfFloat : MethodName := ⟨RX8, "bitsOfFloat", "(F)I"⟩
abbrev cX8_bitsOfDouble : ByteArray := prog_1_method_37_code
def yX8_bitsOfDouble : MethodName := ⟨RX8, "bitsOfDouble", "(D)J"⟩
def RX9 : String := "CraneCampaignModel"
def TX9 : u_T := fun k => match k with
  | 0 => ("CraneCampaignModel", "z", "[I", true)
  | 1 => ("CraneCampaignModel", "aside", "[I", true)
  | 2 => ("CraneCampaignModel", "rows", "[I", true)
  | 3 => ("CraneCampaignModel", "text", "[I", true)
  | 4 => ("CraneCampaignModel", "other", "[I", true)
  | 5 => ("CraneCampaignModel", "saved", "I", false)
  | 6 => ("CraneCampaignModel", "length", "I", false)
  | 7 => ("CraneCampaignModel", "thrown", "I", false)
  | 8 => ("CraneCampaignModel", "h", "J", false)
  | 9 => ("CraneCampaignModel", "state", "I", false)
  | 10 => ("CraneCampaignModel", "number", "I", false)
  | 11 => ("CraneCampaignModel", "times", "I", false)
  | 12 => ("CraneCampaignModel", "all", "I", false)
  | 13 => ("CraneCampaignModel", "isWhole", "Z", false)
  | _ => ("CraneCampaignModel", "read", "[I", true)
def tyX9 : Nat → FieldType := fun k => match k with
  | 0 => .array .int
  | 1 => .array .int
  | 2 => .array .int
  | 3 => .array .int
  | 4 => .array .int
  | 5 => .int
  | 6 => .int
  | 7 => .int
  | 8 => .long
  | 9 => .int
  | 10 => .int
  | 11 => .int
  | 12 => .int
  | 13 => .boolean
  | _ => .array .int
abbrev wsX90 : List Cond := u_ws RX9 TX9 15
theorem nmX9 : ∀ a, a < 15 → ∀ b, b < 15 → a ≠ b → (TX9 a).2.1 ≠ (TX9 b).2.1 := by decide +kernel
theorem tyX9_ok : ∀ k, k < 15 → parseFieldDescriptor (TX9 k).2.2.1 = some (tyX9 k) := by decide +kernel
abbrev cX9_init : ByteArray := prog_11_method_1_code
def yX9_init : MethodName := ⟨RX9, "<init>", "()V"⟩
abbrev cX9_thrown : ByteArray := prog_11_method_2_code
def yX9_thrown : MethodName := ⟨RX9, "thrown", "()I"⟩
abbrev cX9_fails : ByteArray := prog_11_method_3_code
def yX9_fails : MethodName := ⟨RX9, "fails", "(I)I"⟩
abbrev cX9_within : ByteArray := prog_11_method_4_code
def yX9_within : MethodName := ⟨RX9, "within", "(III)Z"⟩
abbrev cX9_isTurbine : ByteArray := prog_11_method_5_code
def yX9_isTurbine : MethodName := ⟨RX9, "isTurbine", "(I)Z"⟩
abbrev cX9_save : ByteArray := prog_11_method_6_code
def yX9_save : MethodName := ⟨RX9, "save", "()V"⟩
abbrev cX9_keep : ByteArray := prog_11_method_7_code
def yX9_keep : MethodName := ⟨RX9, "keep", "()V"⟩
abbrev cX9_bring : ByteArray := prog_11_method_8_code
def yX9_bring : MethodName := ⟨RX9, "bring", "()V"⟩
abbrev cX9_limitOf : ByteArray := prog_11_method_9_code
def yX9_limitOf : MethodName := ⟨RX9, "limitOf", "(I)I"⟩
abbrev cX9_windAt : ByteArray := prog_11_method_10_code
def yX9_windAt : MethodName := ⟨RX9, "windAt", "(I)I"⟩
abbrev cX9_full : ByteArray := prog_11_method_11_code
def yX9_full : MethodName := ⟨RX9, "full", "(II)I"⟩
abbrev cX9_hoursOf : ByteArray := prog_11_method_12_code
def yX9_hoursOf : MethodName := ⟨RX9, "hoursOf", "(II)I"⟩
abbrev cX9_bladeFor : ByteArray := prog_11_method_13_code
def yX9_bladeFor : MethodName := ⟨RX9, "bladeFor", "(I)I"⟩
abbrev cX9_unload : ByteArray := prog_11_method_14_code
def yX9_unload : MethodName := ⟨RX9, "unload", "()V"⟩
abbrev cX9_takeOff : ByteArray := prog_11_method_15_code
def yX9_takeOff : MethodName := ⟨RX9, "takeOff", "(I)V"⟩
abbrev cX9_use : ByteArray := prog_11_method_16_code
def yX9_use : MethodName := ⟨RX9, "use", "(I)V"⟩
abbrev cX9_forget : ByteArray := prog_11_method_17_code
def yX9_forget : MethodName := ⟨RX9, "forget", "()V"⟩
abbrev cX9_serve : ByteArray := prog_11_method_18_code
def yX9_serve : MethodName := ⟨RX9, "serve", "(II)I"⟩
abbrev cX9_goHour : ByteArray := prog_11_method_19_code
def yX9_goHour : MethodName := ⟨RX9, "goHour", "()I"⟩
abbrev cX9_goHours : ByteArray := prog_11_method_20_code
def yX9_goHours : MethodName := ⟨RX9, "goHours", "(I)I"⟩
abbrev cX9_addTurbine : ByteArray := prog_11_method_21_code
def yX9_addTurbine : MethodName := ⟨RX9, "addTurbine", "(III)I"⟩
abbrev cX9_setFault : ByteArray := prog_11_method_22_code
def yX9_setFault : MethodName := ⟨RX9, "setFault", "(II)I"⟩
abbrev cX9_setBog : ByteArray := prog_11_method_23_code
def yX9_setBog : MethodName := ⟨RX9, "setBog", "(II)I"⟩
abbrev cX9_lowest : ByteArray := prog_11_method_24_code
def yX9_lowest : MethodName := ⟨RX9, "lowest", "(I)I"⟩
abbrev cX9_highest : ByteArray := prog_11_method_25_code
def yX9_highest : MethodName := ⟨RX9, "highest", "(I)I"⟩
abbrev cX9_set : ByteArray := prog_11_method_26_code
def yX9_set : MethodName := ⟨RX9, "set", "(II)I"⟩
abbrev cX9_placeOf : ByteArray := prog_11_method_27_code
def yX9_placeOf : MethodName := ⟨RX9, "placeOf", "(I)I"⟩
abbrev cX9_plan : ByteArray := prog_11_method_28_code
def yX9_plan : MethodName := ⟨RX9, "plan", "(II)I"⟩
abbrev cX9_unplan : ByteArray := prog_11_method_29_code
def yX9_unplan : MethodName := ⟨RX9, "unplan", "(I)I"⟩
abbrev cX9_orderBlade : ByteArray := prog_11_method_30_code
def yX9_orderBlade : MethodName := ⟨RX9, "orderBlade", "(I)I"⟩
abbrev cX9_pass : ByteArray := prog_11_method_31_code
def yX9_pass : MethodName := ⟨RX9, "pass", "(I)I"⟩
abbrev cX9_append : ByteArray := prog_11_method_32_code
def yX9_append : MethodName := ⟨RX9, "append", "(I)I"⟩
abbrev cX9_clearBuffer : ByteArray := prog_11_method_33_code
def yX9_clearBuffer : MethodName := ⟨RX9, "clearBuffer", "()I"⟩
abbrev cX9_close : ByteArray := prog_11_method_34_code
def yX9_close : MethodName := ⟨RX9, "close", "()V"⟩
abbrev cX9_first : ByteArray := prog_11_method_35_code
def yX9_first : MethodName := ⟨RX9, "first", "(I)Z"⟩
abbrev cX9_second : ByteArray := prog_11_method_36_code
def yX9_second : MethodName := ⟨RX9, "second", "(I)Z"⟩
abbrev cX9_ends : ByteArray := prog_11_method_37_code
def yX9_ends : MethodName := ⟨RX9, "ends", "(I)Z"⟩
abbrev cX9_often : ByteArray := prog_11_method_38_code
def yX9_often : MethodName := ⟨RX9, "often", "(I)Z"⟩
abbrev cX9_more : ByteArray := prog_11_method_39_code
def yX9_more : MethodName := ⟨RX9, "more", "(I)Z"⟩
abbrev cX9_goes : ByteArray := prog_11_method_40_code
def yX9_goes : MethodName := ⟨RX9, "goes", "(I)Z"⟩
abbrev cX9_readText : ByteArray := prog_11_method_41_code
def yX9_readText : MethodName := ⟨RX9, "readText", "()I"⟩
abbrev cX9_firstError : ByteArray := prog_11_method_42_code
def yX9_firstError : MethodName := ⟨RX9, "firstError", "()I"⟩
abbrev cX9_load : ByteArray := prog_11_method_43_code
def yX9_load : MethodName := ⟨RX9, "load", "()I"⟩
abbrev cX9_undo : ByteArray := prog_11_method_44_code
def yX9_undo : MethodName := ⟨RX9, "undo", "()I"⟩
abbrev cX9_turbineNow : ByteArray := prog_11_method_45_code
def yX9_turbineNow : MethodName := ⟨RX9, "turbineNow", "(II)I"⟩
abbrev cX9_ashore : ByteArray := prog_11_method_46_code
def yX9_ashore : MethodName := ⟨RX9, "ashore", "(I)I"⟩
abbrev cX9_turbine : ByteArray := prog_11_method_47_code
def yX9_turbine : MethodName := ⟨RX9, "turbine", "(II)I"⟩
abbrev cX9_blade : ByteArray := prog_11_method_48_code
def yX9_blade : MethodName := ⟨RX9, "blade", "(II)I"⟩
abbrev cX9_bog : ByteArray := prog_11_method_49_code
def yX9_bog : MethodName := ⟨RX9, "bog", "(II)I"⟩
abbrev cX9_claims : ByteArray := prog_11_method_50_code
def yX9_claims : MethodName := ⟨RX9, "claims", "(I)I"⟩
abbrev cX9_faulty : ByteArray := prog_11_method_51_code
def yX9_faulty : MethodName := ⟨RX9, "faulty", "()I"⟩
abbrev cX9_sum : ByteArray := prog_11_method_52_code
def yX9_sum : MethodName := ⟨RX9, "sum", "(I)I"⟩
abbrev cX9_counted : ByteArray := prog_11_method_53_code
def yX9_counted : MethodName := ⟨RX9, "counted", "(I)I"⟩
abbrev cX9_count : ByteArray := prog_11_method_54_code
def yX9_count : MethodName := ⟨RX9, "count", "(I)I"⟩
abbrev cX9_setting : ByteArray := prog_11_method_55_code
def yX9_setting : MethodName := ⟨RX9, "setting", "(I)I"⟩
abbrev cX9_way : ByteArray := prog_11_method_56_code
def yX9_way : MethodName := ⟨RX9, "way", "(II)I"⟩
abbrev cX9_told : ByteArray := prog_11_method_57_code
def yX9_told : MethodName := ⟨RX9, "told", "(I)I"⟩
abbrev cX9_after : ByteArray := prog_11_method_58_code
def yX9_after : MethodName := ⟨RX9, "after", "(II)I"⟩
abbrev cX9_ifPassed : ByteArray := prog_11_method_59_code
def yX9_ifPassed : MethodName := ⟨RX9, "ifPassed", "(II)I"⟩
abbrev cX9_bestNow : ByteArray := prog_11_method_60_code
def yX9_bestNow : MethodName := ⟨RX9, "bestNow", "()I"⟩
abbrev cX9_bestFirst : ByteArray := prog_11_method_61_code
def yX9_bestFirst : MethodName := ⟨RX9, "bestFirst", "()I"⟩
abbrev cX9_windowOf : ByteArray := prog_11_method_62_code
def yX9_windowOf : MethodName := ⟨RX9, "windowOf", "(II)I"⟩
abbrev cX9_window : ByteArray := prog_11_method_63_code
def yX9_window : MethodName := ⟨RX9, "window", "(II)I"⟩
abbrev cX9_doneNow : ByteArray := prog_11_method_64_code
def yX9_doneNow : MethodName := ⟨RX9, "doneNow", "()I"⟩
abbrev cX9_doneIn : ByteArray := prog_11_method_65_code
def yX9_doneIn : MethodName := ⟨RX9, "doneIn", "()I"⟩
abbrev cX9_meanNow : ByteArray := prog_11_method_66_code
def yX9_meanNow : MethodName := ⟨RX9, "meanNow", "()F"⟩
abbrev cX9_meanWind : ByteArray := prog_11_method_67_code
def yX9_meanWind : MethodName := ⟨RX9, "meanWind", "()F"⟩
abbrev cX9_shareNow : ByteArray := prog_11_method_68_code
def yX9_shareNow : MethodName := ⟨RX9, "shareNow", "()D"⟩
abbrev cX9_lostShare : ByteArray := prog_11_method_69_code
def yX9_lostShare : MethodName := ⟨RX9, "lostShare", "()D"⟩
abbrev cX9_mix : ByteArray := prog_11_method_70_code
def yX9_mix : MethodName := ⟨RX9, "mix", "(J)V"⟩
abbrev cX9_digest : ByteArray := prog_11_method_71_code
def yX9_digest : MethodName := ⟨RX9, "digest", "()J"⟩
def RJxe99ae : String := "java/lang/Double"
def TJxe99ae : u_T := fun k => match k with
  | _ => ("", "", "", false)
def tyJxe99ae : Nat → FieldType := fun k => match k with
  | _ => .int
abbrev wsJxe99ae0 : List Cond := u_ws RJxe99ae TJxe99ae 0
theorem nmJxe99ae : ∀ a, a < 0 → ∀ b, b < 0 → a ≠ b → (TJxe99ae a).2.1 ≠ (TJxe99ae b).2.1 := by decide +kernel
theorem tyJxe99ae_ok : ∀ k, k < 0 → parseFieldDescriptor (TJxe99ae k).2.2.1 = some (tyJxe99ae k) := by decide +kernel
abbrev cJxe99ae_isNaN_b9ae7 : ByteArray := prog_12_method_6_code
def yJxe99ae_isNaN_b9ae7 : MethodName := ⟨RJxe99ae, "isNaN", "(D)Z"⟩
abbrev cJxe99ae_doubleToLongBits_ccdee : ByteArray := prog_12_method_23_code
def yJxe99ae_doubleToLongBits_ccdee : MethodName := ⟨RJxe99ae, "doubleToLongBits", "(D)J"⟩
def RJxf58ca : String := "java/lang/Float"
def TJxf58ca : u_T := fun k => match k with
  | _ => ("", "", "", false)
def tyJxf58ca : Nat → FieldType := fun k => match k with
  | _ => .int
abbrev wsJxf58ca0 : List Cond := u_ws RJxf58ca TJxf58ca 0
theorem nmJxf58ca : ∀ a, a < 0 → ∀ b, b < 0 → a ≠ b → (TJxf58ca a).2.1 ≠ (TJxf58ca b).2.1 := by decide +kernel
theorem tyJxf58ca_ok : ∀ k, k < 0 → parseFieldDescriptor (TJxf58ca k).2.2.1 = some (tyJxf58ca k) := by decide +kernel
abbrev cJxf58ca_isNaN_12338 : ByteArray := prog_14_method_6_code
def yJxf58ca_isNaN_12338 : MethodName := ⟨RJxf58ca, "isNaN", "(F)Z"⟩
abbrev cJxf58ca_floatToIntBits_5c35a : ByteArray := prog_14_method_24_code
def yJxf58ca_floatToIntBits_5c35a : MethodName := ⟨RJxf58ca, "floatToIntBits", "(F)I"⟩
def RJ9 : String := "java/lang/Math"
def TJ9 : u_T := fun k => match k with
  | _ => ("", "", "", false)
def tyJ9 : Nat → FieldType := fun k => match k with
  | _ => .int
abbrev wsJ90 : List Cond := u_ws RJ9 TJ9 0
theorem nmJ9 : ∀ a, a < 0 → ∀ b, b < 0 → a ≠ b → (TJ9 a).2.1 ≠ (TJ9 b).2.1 := by decide +kernel
theorem tyJ9_ok : ∀ k, k < 0 → parseFieldDescriptor (TJ9 k).2.2.1 = some (tyJ9 k) := by decide +kernel
abbrev cJ9_abs_0f7a4 : ByteArray := prog_18_method_59_code
def yJ9_abs_0f7a4 : MethodName := ⟨RJ9, "abs", "(I)I"⟩
abbrev cJ9_max_7cf53 : ByteArray := prog_18_method_65_code
def yJ9_max_7cf53 : MethodName := ⟨RJ9, "max", "(II)I"⟩
abbrev cJ9_min_7cf53 : ByteArray := prog_18_method_69_code
def yJ9_min_7cf53 : MethodName := ⟨RJ9, "min", "(II)I"⟩
def RJ0 : String := "java/lang/String"
def TJ0 : u_T := fun k => match k with
  | _ => ("", "", "", false)
def tyJ0 : Nat → FieldType := fun k => match k with
  | _ => .int
abbrev wsJ00 : List Cond := u_ws RJ0 TJ0 0
theorem nmJ0 : ∀ a, a < 0 → ∀ b, b < 0 → a ≠ b → (TJ0 a).2.1 ≠ (TJ0 b).2.1 := by decide +kernel
theorem tyJ0_ok : ∀ k, k < 0 → parseFieldDescriptor (TJ0 k).2.2.1 = some (tyJ0 k) := by decide +kernel
def RJ10 : String := "java/lang/System"
def TJ10 : u_T := fun k => match k with
  | _ => ("", "", "", false)
def tyJ10 : Nat → FieldType := fun k => match k with
  | _ => .int
abbrev wsJ100 : List Cond := u_ws RJ10 TJ10 0
theorem nmJ10 : ∀ a, a < 0 → ∀ b, b < 0 → a ≠ b → (TJ10 a).2.1 ≠ (TJ10 b).2.1 := by decide +kernel
theorem tyJ10_ok : ∀ k, k < 0 → parseFieldDescriptor (TJ10 k).2.2.1 = some (tyJ10 k) := by decide +kernel
def RL : String := "CraneCampaignLaw"
abbrev cL_addTurbine : ByteArray := method_3_code
def yL_addTurbine : MethodName := ⟨RL, "addTurbine", "(LCraneCampaign;III[J)I"⟩
abbrev cL_setFault : ByteArray := method_4_code
def yL_setFault : MethodName := ⟨RL, "setFault", "(LCraneCampaign;II[J)I"⟩
abbrev cL_setBog : ByteArray := method_5_code
def yL_setBog : MethodName := ⟨RL, "setBog", "(LCraneCampaign;II[J)I"⟩
abbrev cL_set : ByteArray := method_6_code
def yL_set : MethodName := ⟨RL, "set", "(LCraneCampaign;II[J)I"⟩
abbrev cL_plan : ByteArray := method_7_code
def yL_plan : MethodName := ⟨RL, "plan", "(LCraneCampaign;II[J)I"⟩
abbrev cL_unplan : ByteArray := method_8_code
def yL_unplan : MethodName := ⟨RL, "unplan", "(LCraneCampaign;I[J)I"⟩
abbrev cL_orderBlade : ByteArray := method_9_code
def yL_orderBlade : MethodName := ⟨RL, "orderBlade", "(LCraneCampaign;I[J)I"⟩
abbrev cL_pass : ByteArray := method_10_code
def yL_pass : MethodName := ⟨RL, "pass", "(LCraneCampaign;I[J)I"⟩
abbrev cL_append : ByteArray := method_11_code
def yL_append : MethodName := ⟨RL, "append", "(LCraneCampaign;I[J)I"⟩
abbrev cL_load : ByteArray := method_12_code
def yL_load : MethodName := ⟨RL, "load", "(LCraneCampaign;[J)I"⟩
abbrev cL_undo : ByteArray := method_13_code
def yL_undo : MethodName := ⟨RL, "undo", "(LCraneCampaign;[J)I"⟩
abbrev cL_turbine : ByteArray := method_14_code
def yL_turbine : MethodName := ⟨RL, "turbine", "(LCraneCampaign;II[J)I"⟩
abbrev cL_blade : ByteArray := method_15_code
def yL_blade : MethodName := ⟨RL, "blade", "(LCraneCampaign;II[J)I"⟩
abbrev cL_bog : ByteArray := method_16_code
def yL_bog : MethodName := ⟨RL, "bog", "(LCraneCampaign;II[J)I"⟩
abbrev cL_claims : ByteArray := method_17_code
def yL_claims : MethodName := ⟨RL, "claims", "(LCraneCampaign;I[J)I"⟩
abbrev cL_count : ByteArray := method_18_code
def yL_count : MethodName := ⟨RL, "count", "(LCraneCampaign;I[J)I"⟩
abbrev cL_setting : ByteArray := method_19_code
def yL_setting : MethodName := ⟨RL, "setting", "(LCraneCampaign;I[J)I"⟩
abbrev cL_way : ByteArray := method_20_code
def yL_way : MethodName := ⟨RL, "way", "(LCraneCampaign;II[J)I"⟩
abbrev cL_ifPassed : ByteArray := method_21_code
def yL_ifPassed : MethodName := ⟨RL, "ifPassed", "(LCraneCampaign;II[J)I"⟩
abbrev cL_window : ByteArray := method_22_code
def yL_window : MethodName := ⟨RL, "window", "(LCraneCampaign;II[J)I"⟩
abbrev cL_law : ByteArray := code
def yL_law : MethodName := ⟨RL, "law", "([I)Z"⟩
def wsX0_init : List Cond := .code yX0_init cX0_init 1 none :: ([.methodLink RX0 3 objectInit, .instanceMethod objectInit, .code objectInit ⟨#[0xb1]⟩ 1 none, .arrayClass .int, .fieldLink RX0 9 "CraneCampaign$Bogs" "place" "[I", .fieldLink RX0 15 "CraneCampaign$Bogs" "need" "[I", .fieldLink RX0 18 "CraneCampaign$Bogs" "count" "I"] ++ wsX00)
def wsX0_copyFrom : List Cond := .code yX0_copyFrom cX0_copyFrom 2 none :: ([.fieldLink RX0 9 "CraneCampaign$Bogs" "place" "[I", .methodLink RX0 22 arraycopyName, .native arraycopyName, .static arraycopyName, .initialized "java/lang/System", .fieldLink RX0 15 "CraneCampaign$Bogs" "need" "[I", .fieldLink RX0 18 "CraneCampaign$Bogs" "count" "I"] ++ wsX00)
def wsX0_isFull : List Cond := .code yX0_isFull cX0_isFull 1 (some .boolean) :: ([.fieldLink RX0 18 "CraneCampaign$Bogs" "count" "I"] ++ wsX00)
def wsX0_indexAt : List Cond := .code yX0_indexAt cX0_indexAt 3 (some .int) :: ([.fieldLink RX0 18 "CraneCampaign$Bogs" "count" "I", .fieldLink RX0 9 "CraneCampaign$Bogs" "place" "[I"] ++ wsX00)
def wsX0_removeAt : List Cond := .code yX0_removeAt cX0_removeAt 3 none :: ([.fieldLink RX0 18 "CraneCampaign$Bogs" "count" "I", .fieldLink RX0 9 "CraneCampaign$Bogs" "place" "[I", .fieldLink RX0 15 "CraneCampaign$Bogs" "need" "[I"] ++ wsX00)
def wsX0_insert : List Cond := .code yX0_insert cX0_insert 5 none :: ([.fieldLink RX0 18 "CraneCampaign$Bogs" "count" "I", .fieldLink RX0 9 "CraneCampaign$Bogs" "place" "[I", .fieldLink RX0 15 "CraneCampaign$Bogs" "need" "[I", .methodLink RX0 40 yX0_isFull, .instanceMethod yX0_isFull, .selects RX0 yX0_isFull yX0_isFull, .initialized RX0, .code yX0_isFull cX0_isFull 1 (some .boolean)] ++ wsX00)
def wsX0_put : List Cond := .code yX0_put cX0_put 4 none :: ([.fieldLink RX0 15 "CraneCampaign$Bogs" "need" "[I", .methodLink RX0 28 yX0_indexAt, .instanceMethod yX0_indexAt, .selects RX0 yX0_indexAt yX0_indexAt, .initialized RX0, .code yX0_indexAt cX0_indexAt 3 (some .int), .fieldLink RX0 18 "CraneCampaign$Bogs" "count" "I", .fieldLink RX0 9 "CraneCampaign$Bogs" "place" "[I", .methodLink RX0 32 yX0_removeAt, .instanceMethod yX0_removeAt, .selects RX0 yX0_removeAt yX0_removeAt, .code yX0_removeAt cX0_removeAt 3 none, .methodLink RX0 36 yX0_insert, .instanceMethod yX0_insert, .selects RX0 yX0_insert yX0_insert, .code yX0_insert cX0_insert 5 none, .methodLink RX0 40 yX0_isFull, .instanceMethod yX0_isFull, .selects RX0 yX0_isFull yX0_isFull, .code yX0_isFull cX0_isFull 1 (some .boolean)] ++ wsX00)
def wsX0_countBetween : List Cond := .code yX0_countBetween cX0_countBetween 6 (some .int) :: ([.fieldLink RX0 18 "CraneCampaign$Bogs" "count" "I", .fieldLink RX0 9 "CraneCampaign$Bogs" "place" "[I", .fieldLink RX0 15 "CraneCampaign$Bogs" "need" "[I"] ++ wsX00)
def wsX1_init : List Cond := .code yX1_init cX1_init 1 none :: ([.methodLink RX1 3 objectInit, .instanceMethod objectInit, .code objectInit ⟨#[0xb1]⟩ 1 none, .fieldLink RX1 9 "CraneCampaign$Crane" "place" "I", .fieldLink RX1 15 "CraneCampaign$Crane" "hoursLeft" "I", .fieldLink RX1 18 "CraneCampaign$Crane" "goal" "I", .fieldLink RX1 21 "CraneCampaign$Crane" "workDone" "I", .fieldLink RX1 24 "CraneCampaign$Crane" "workedOn" "I"] ++ wsX10)
def wsX1_copyFrom : List Cond := .code yX1_copyFrom cX1_copyFrom 2 none :: ([.fieldLink RX1 9 "CraneCampaign$Crane" "place" "I", .fieldLink RX1 15 "CraneCampaign$Crane" "hoursLeft" "I", .fieldLink RX1 18 "CraneCampaign$Crane" "goal" "I", .fieldLink RX1 21 "CraneCampaign$Crane" "workDone" "I", .fieldLink RX1 24 "CraneCampaign$Crane" "workedOn" "I"] ++ wsX10)
def wsX1_isOnWay : List Cond := .code yX1_isOnWay cX1_isOnWay 1 (some .boolean) :: ([.fieldLink RX1 18 "CraneCampaign$Crane" "goal" "I"] ++ wsX10)
def wsX1_driveTo : List Cond := .code yX1_driveTo cX1_driveTo 4 none :: ([.fieldLink RX1 18 "CraneCampaign$Crane" "goal" "I", .fieldLink RX1 15 "CraneCampaign$Crane" "hoursLeft" "I", .methodLink RX1 27 Lib.Math.max.name, .static Lib.Math.max.name, .initialized "java/lang/Math", .code Lib.Math.max.name Lib.Math.max.code 2 (some .int), .fieldLink RX1 9 "CraneCampaign$Crane" "place" "I"] ++ wsX10)
def wsX1_workAnHourOn : List Cond := .code yX1_workAnHourOn cX1_workAnHourOn 2 none :: ([.fieldLink RX1 24 "CraneCampaign$Crane" "workedOn" "I", .fieldLink RX1 21 "CraneCampaign$Crane" "workDone" "I"] ++ wsX10)
def wsX1_forgetWork : List Cond := .code yX1_forgetWork cX1_forgetWork 1 none :: ([.fieldLink RX1 24 "CraneCampaign$Crane" "workedOn" "I", .fieldLink RX1 21 "CraneCampaign$Crane" "workDone" "I"] ++ wsX10)
def wsX1_workOn : List Cond := .code yX1_workOn cX1_workOn 2 (some .int) :: ([.fieldLink RX1 24 "CraneCampaign$Crane" "workedOn" "I", .fieldLink RX1 21 "CraneCampaign$Crane" "workDone" "I"] ++ wsX10)
def wsX3_init : List Cond := .code yX3_init cX3_init 1 none :: ([.methodLink RX3 3 objectInit, .instanceMethod objectInit, .code objectInit ⟨#[0xb1]⟩ 1 none, .arrayClass .int, .fieldLink RX3 9 "CraneCampaign$Harbour" "turbine" "[I", .fieldLink RX3 15 "CraneCampaign$Harbour" "weight" "[I", .fieldLink RX3 18 "CraneCampaign$Harbour" "count" "I"] ++ wsX30)
def wsX4_init : List Cond := .code yX4_init cX4_init 1 none :: ([.methodLink RX4 3 objectInit, .instanceMethod objectInit, .code objectInit ⟨#[0xb1]⟩ 1 none, .arrayClass .int, .fieldLink RX4 9 "CraneCampaign$Plan" "row" "[I", .fieldLink RX4 15 "CraneCampaign$Plan" "count" "I"] ++ wsX40)
def wsX7_init : List Cond := .code yX7_init cX7_init 1 none :: ([.methodLink RX7 3 objectInit, .instanceMethod objectInit, .code objectInit ⟨#[0xb1]⟩ 1 none, .arrayClass .int, .fieldLink RX7 9 "CraneCampaign$Winds" "row" "[I", .fieldLink RX7 15 "CraneCampaign$Winds" "count" "I"] ++ wsX70)
def wsX5_init : List Cond := .code yX5_init cX5_init 1 none :: ([.methodLink RX5 3 objectInit, .instanceMethod objectInit, .code objectInit ⟨#[0xb1]⟩ 1 none])
def wsX2_init_r1 : List Cond := [Cond.methodLink RX2 3 objectInit, Cond.instanceMethod objectInit, Cond.code objectInit ⟨#[0xb1]⟩ 1 none, Cond.classLink RX2 9 RX5, Cond.fieldLink RX2 11 "CraneCampaign$Farm" "turbines" "[LCraneCampaign$Turbine;", Cond.fieldLink RX2 17 "CraneCampaign$Farm" "turbineCount" "I", Cond.classLink RX2 21 RX0, Cond.instantiable RX0 3, Cond.initialized RX0, Cond.fieldLink RX2 24 "CraneCampaign$Farm" "bogs" "LCraneCampaign$Bogs;", Cond.classLink RX2 28 RX3, Cond.instantiable RX3 3, Cond.initialized RX3, Cond.fieldLink RX2 31 "CraneCampaign$Farm" "harbour" "LCraneCampaign$Harbour;", Cond.classLink RX2 35 RX4, Cond.instantiable RX4 2, Cond.initialized RX4, Cond.fieldLink RX2 38 "CraneCampaign$Farm" "plan" "LCraneCampaign$Plan;", Cond.classLink RX2 42 RX1, Cond.instantiable RX1 5, Cond.initialized RX1, Cond.fieldLink RX2 45 "CraneCampaign$Farm" "crane" "LCraneCampaign$Crane;", Cond.classLink RX2 49 RX7, Cond.instantiable RX7 2]
def wsX2_init_r2 : List Cond := [Cond.initialized RX7, Cond.fieldLink RX2 52 "CraneCampaign$Farm" "winds" "LCraneCampaign$Winds;", Cond.arrayClass .int, Cond.fieldLink RX2 56 "CraneCampaign$Farm" "settings" "[I", Cond.fieldLink RX2 60 "CraneCampaign$Farm" "lostBy" "[I", Cond.fieldLink RX2 63 "CraneCampaign$Farm" "hour" "I", Cond.instantiable RX5 7, Cond.initialized RX5, Cond.methodLink RX2 70 arraycopyName, Cond.native arraycopyName, Cond.static arraycopyName, Cond.initialized "java/lang/System", Cond.instanceMethod yX0_init, Cond.code yX0_init cX0_init 1 none, Cond.methodLink RX0 3 objectInit, Cond.fieldLink RX0 9 "CraneCampaign$Bogs" "place" "[I", Cond.fieldLink RX0 15 "CraneCampaign$Bogs" "need" "[I", Cond.fieldLink RX0 18 "CraneCampaign$Bogs" "count" "I", Cond.instanceMethod yX3_init, Cond.code yX3_init cX3_init 1 none, Cond.methodLink RX3 3 objectInit, Cond.fieldLink RX3 9 "CraneCampaign$Harbour" "turbine" "[I", Cond.fieldLink RX3 15 "CraneCampaign$Harbour" "weight" "[I", Cond.fieldLink RX3 18 "CraneCampaign$Harbour" "count" "I"]
def wsX2_init_r3 : List Cond := [Cond.instanceMethod yX4_init, Cond.code yX4_init cX4_init 1 none, Cond.methodLink RX4 3 objectInit, Cond.fieldLink RX4 9 "CraneCampaign$Plan" "row" "[I", Cond.fieldLink RX4 15 "CraneCampaign$Plan" "count" "I", Cond.instanceMethod yX1_init, Cond.code yX1_init cX1_init 1 none, Cond.methodLink RX1 3 objectInit, Cond.fieldLink RX1 9 "CraneCampaign$Crane" "place" "I", Cond.fieldLink RX1 15 "CraneCampaign$Crane" "hoursLeft" "I", Cond.fieldLink RX1 18 "CraneCampaign$Crane" "goal" "I", Cond.fieldLink RX1 21 "CraneCampaign$Crane" "workDone" "I", Cond.fieldLink RX1 24 "CraneCampaign$Crane" "workedOn" "I", Cond.instanceMethod yX7_init, Cond.code yX7_init cX7_init 1 none, Cond.methodLink RX7 3 objectInit, Cond.fieldLink RX7 9 "CraneCampaign$Winds" "row" "[I", Cond.fieldLink RX7 15 "CraneCampaign$Winds" "count" "I", Cond.instanceMethod yX5_init, Cond.code yX5_init cX5_init 1 none, Cond.methodLink RX5 3 objectInit]
def wsX2_init : List Cond := .code yX2_init cX2_init 2 none :: ((wsX2_init_r1 ++ (wsX2_init_r2 ++ wsX2_init_r3)) ++ wsX20 ++ wsX00 ++ wsX30 ++ wsX40 ++ wsX10 ++ wsX70 ++ wsX50)
def wsX5_copyFrom : List Cond := .code yX5_copyFrom cX5_copyFrom 2 none :: ([.fieldLink RX5 9 "CraneCampaign$Turbine" "place" "I", .fieldLink RX5 15 "CraneCampaign$Turbine" "height" "I", .fieldLink RX5 18 "CraneCampaign$Turbine" "rate" "I", .fieldLink RX5 21 "CraneCampaign$Turbine" "fault" "I", .fieldLink RX5 24 "CraneCampaign$Turbine" "age" "I", .fieldLink RX5 27 "CraneCampaign$Turbine" "lost" "I", .fieldLink RX5 30 "CraneCampaign$Turbine" "won" "I"] ++ wsX50)
def wsX3_copyFrom : List Cond := .code yX3_copyFrom cX3_copyFrom 2 none :: ([.fieldLink RX3 9 "CraneCampaign$Harbour" "turbine" "[I", .methodLink RX3 22 arraycopyName, .native arraycopyName, .static arraycopyName, .initialized "java/lang/System", .fieldLink RX3 15 "CraneCampaign$Harbour" "weight" "[I", .fieldLink RX3 18 "CraneCampaign$Harbour" "count" "I"] ++ wsX30)
def wsX4_copyFrom : List Cond := .code yX4_copyFrom cX4_copyFrom 2 none :: ([.fieldLink RX4 9 "CraneCampaign$Plan" "row" "[I", .methodLink RX4 19 arraycopyName, .native arraycopyName, .static arraycopyName, .initialized "java/lang/System", .fieldLink RX4 15 "CraneCampaign$Plan" "count" "I"] ++ wsX40)
def wsX7_copyFrom : List Cond := .code yX7_copyFrom cX7_copyFrom 2 none :: ([.fieldLink RX7 9 "CraneCampaign$Winds" "row" "[I", .methodLink RX7 19 arraycopyName, .native arraycopyName, .static arraycopyName, .initialized "java/lang/System", .fieldLink RX7 15 "CraneCampaign$Winds" "count" "I"] ++ wsX70)
def wsX2_copyFrom_r1 : List Cond := [Cond.fieldLink RX2 17 "CraneCampaign$Farm" "turbineCount" "I", Cond.fieldLink RX2 11 "CraneCampaign$Farm" "turbines" "[LCraneCampaign$Turbine;", Cond.fieldLink RX2 24 "CraneCampaign$Farm" "bogs" "LCraneCampaign$Bogs;", Cond.fieldLink RX2 31 "CraneCampaign$Farm" "harbour" "LCraneCampaign$Harbour;", Cond.fieldLink RX2 38 "CraneCampaign$Farm" "plan" "LCraneCampaign$Plan;", Cond.fieldLink RX2 45 "CraneCampaign$Farm" "crane" "LCraneCampaign$Crane;", Cond.fieldLink RX2 52 "CraneCampaign$Farm" "winds" "LCraneCampaign$Winds;", Cond.fieldLink RX2 56 "CraneCampaign$Farm" "settings" "[I", Cond.methodLink RX2 70 arraycopyName, Cond.native arraycopyName, Cond.static arraycopyName, Cond.initialized "java/lang/System", Cond.fieldLink RX2 60 "CraneCampaign$Farm" "lostBy" "[I", Cond.fieldLink RX2 63 "CraneCampaign$Farm" "hour" "I", Cond.methodLink RX2 76 yX5_copyFrom, Cond.instanceMethod yX5_copyFrom, Cond.selects RX5 yX5_copyFrom yX5_copyFrom, Cond.initialized RX5, Cond.code yX5_copyFrom cX5_copyFrom 2 none, Cond.fieldLink RX5 9 "CraneCampaign$Turbine" "place" "I", Cond.fieldLink RX5 15 "CraneCampaign$Turbine" "height" "I", Cond.fieldLink RX5 18 "CraneCampaign$Turbine" "rate" "I", Cond.fieldLink RX5 21 "CraneCampaign$Turbine" "fault" "I", Cond.fieldLink RX5 24 "CraneCampaign$Turbine" "age" "I"]
def wsX2_copyFrom_r2 : List Cond := [Cond.fieldLink RX5 27 "CraneCampaign$Turbine" "lost" "I", Cond.fieldLink RX5 30 "CraneCampaign$Turbine" "won" "I", Cond.methodLink RX2 80 yX0_copyFrom, Cond.instanceMethod yX0_copyFrom, Cond.selects RX0 yX0_copyFrom yX0_copyFrom, Cond.initialized RX0, Cond.code yX0_copyFrom cX0_copyFrom 2 none, Cond.fieldLink RX0 9 "CraneCampaign$Bogs" "place" "[I", Cond.methodLink RX0 22 arraycopyName, Cond.fieldLink RX0 15 "CraneCampaign$Bogs" "need" "[I", Cond.fieldLink RX0 18 "CraneCampaign$Bogs" "count" "I", Cond.methodLink RX2 83 yX3_copyFrom, Cond.instanceMethod yX3_copyFrom, Cond.selects RX3 yX3_copyFrom yX3_copyFrom, Cond.initialized RX3, Cond.code yX3_copyFrom cX3_copyFrom 2 none, Cond.fieldLink RX3 9 "CraneCampaign$Harbour" "turbine" "[I", Cond.methodLink RX3 22 arraycopyName, Cond.fieldLink RX3 15 "CraneCampaign$Harbour" "weight" "[I", Cond.fieldLink RX3 18 "CraneCampaign$Harbour" "count" "I", Cond.methodLink RX2 86 yX4_copyFrom, Cond.instanceMethod yX4_copyFrom, Cond.selects RX4 yX4_copyFrom yX4_copyFrom, Cond.initialized RX4]
def wsX2_copyFrom_r3 : List Cond := [Cond.code yX4_copyFrom cX4_copyFrom 2 none, Cond.fieldLink RX4 9 "CraneCampaign$Plan" "row" "[I", Cond.methodLink RX4 19 arraycopyName, Cond.fieldLink RX4 15 "CraneCampaign$Plan" "count" "I", Cond.methodLink RX2 89 yX1_copyFrom, Cond.instanceMethod yX1_copyFrom, Cond.selects RX1 yX1_copyFrom yX1_copyFrom, Cond.initialized RX1, Cond.code yX1_copyFrom cX1_copyFrom 2 none, Cond.fieldLink RX1 9 "CraneCampaign$Crane" "place" "I", Cond.fieldLink RX1 15 "CraneCampaign$Crane" "hoursLeft" "I", Cond.fieldLink RX1 18 "CraneCampaign$Crane" "goal" "I", Cond.fieldLink RX1 21 "CraneCampaign$Crane" "workDone" "I", Cond.fieldLink RX1 24 "CraneCampaign$Crane" "workedOn" "I", Cond.methodLink RX2 92 yX7_copyFrom, Cond.instanceMethod yX7_copyFrom, Cond.selects RX7 yX7_copyFrom yX7_copyFrom, Cond.initialized RX7, Cond.code yX7_copyFrom cX7_copyFrom 2 none, Cond.fieldLink RX7 9 "CraneCampaign$Winds" "row" "[I", Cond.methodLink RX7 19 arraycopyName, Cond.fieldLink RX7 15 "CraneCampaign$Winds" "count" "I"]
def wsX2_copyFrom : List Cond := .code yX2_copyFrom cX2_copyFrom 3 none :: ((wsX2_copyFrom_r1 ++ (wsX2_copyFrom_r2 ++ wsX2_copyFrom_r3)) ++ wsX20 ++ wsX50 ++ wsX00 ++ wsX30 ++ wsX40 ++ wsX10 ++ wsX70)
def wsX2_hasTurbine : List Cond := .code yX2_hasTurbine cX2_hasTurbine 2 (some .boolean) :: ([.fieldLink RX2 17 "CraneCampaign$Farm" "turbineCount" "I"] ++ wsX20)
def wsX2_hasTurbineAt : List Cond := .code yX2_hasTurbineAt cX2_hasTurbineAt 3 (some .boolean) :: ([.fieldLink RX2 17 "CraneCampaign$Farm" "turbineCount" "I", .fieldLink RX2 11 "CraneCampaign$Farm" "turbines" "[LCraneCampaign$Turbine;", .fieldLink RX2 95 "CraneCampaign$Turbine" "place" "I"] ++ wsX20 ++ wsX50)
def wsX5_begin : List Cond := .code yX5_begin cX5_begin 4 none :: ([.fieldLink RX5 9 "CraneCampaign$Turbine" "place" "I", .fieldLink RX5 15 "CraneCampaign$Turbine" "height" "I", .fieldLink RX5 18 "CraneCampaign$Turbine" "rate" "I", .fieldLink RX5 21 "CraneCampaign$Turbine" "fault" "I", .fieldLink RX5 24 "CraneCampaign$Turbine" "age" "I", .fieldLink RX5 27 "CraneCampaign$Turbine" "lost" "I", .fieldLink RX5 30 "CraneCampaign$Turbine" "won" "I"] ++ wsX50)
def wsX2_buildTurbine : List Cond := .code yX2_buildTurbine cX2_buildTurbine 4 (some .int) :: ([.fieldLink RX2 17 "CraneCampaign$Farm" "turbineCount" "I", .fieldLink RX2 11 "CraneCampaign$Farm" "turbines" "[LCraneCampaign$Turbine;", .methodLink RX2 98 yX5_begin, .instanceMethod yX5_begin, .selects RX5 yX5_begin yX5_begin, .initialized RX5, .code yX5_begin cX5_begin 4 none, .fieldLink RX5 9 "CraneCampaign$Turbine" "place" "I", .fieldLink RX5 15 "CraneCampaign$Turbine" "height" "I", .fieldLink RX5 18 "CraneCampaign$Turbine" "rate" "I", .fieldLink RX5 21 "CraneCampaign$Turbine" "fault" "I", .fieldLink RX5 24 "CraneCampaign$Turbine" "age" "I", .fieldLink RX5 27 "CraneCampaign$Turbine" "lost" "I", .fieldLink RX5 30 "CraneCampaign$Turbine" "won" "I"] ++ wsX20 ++ wsX50)
def wsX2_faultCount : List Cond := .code yX2_faultCount cX2_faultCount 3 (some .int) :: ([.fieldLink RX2 17 "CraneCampaign$Farm" "turbineCount" "I", .fieldLink RX2 11 "CraneCampaign$Farm" "turbines" "[LCraneCampaign$Turbine;", .fieldLink RX2 102 "CraneCampaign$Turbine" "fault" "I"] ++ wsX20 ++ wsX50)
def wsX2_lostPower : List Cond := .code yX2_lostPower cX2_lostPower 3 (some .int) :: ([.fieldLink RX2 60 "CraneCampaign$Farm" "lostBy" "[I"] ++ wsX20)
def wsX2_wonPower : List Cond := .code yX2_wonPower cX2_wonPower 3 (some .int) :: ([.fieldLink RX2 17 "CraneCampaign$Farm" "turbineCount" "I", .fieldLink RX2 11 "CraneCampaign$Farm" "turbines" "[LCraneCampaign$Turbine;", .fieldLink RX2 105 "CraneCampaign$Turbine" "won" "I"] ++ wsX20 ++ wsX50)
def wsX7_at : List Cond := .code yX7_at cX7_at 2 (some .int) :: ([.fieldLink RX7 15 "CraneCampaign$Winds" "count" "I", .fieldLink RX7 9 "CraneCampaign$Winds" "row" "[I"] ++ wsX70)
def wsX2_windNow : List Cond := .code yX2_windNow cX2_windNow 1 (some .int) :: ([.fieldLink RX2 52 "CraneCampaign$Farm" "winds" "LCraneCampaign$Winds;", .fieldLink RX2 63 "CraneCampaign$Farm" "hour" "I", .methodLink RX2 108 yX7_at, .instanceMethod yX7_at, .selects RX7 yX7_at yX7_at, .initialized RX7, .code yX7_at cX7_at 2 (some .int), .fieldLink RX7 15 "CraneCampaign$Winds" "count" "I", .fieldLink RX7 9 "CraneCampaign$Winds" "row" "[I"] ++ wsX20 ++ wsX70)
def wsX5_limit : List Cond := .code yX5_limit cX5_limit 2 (some .int) :: ([.fieldLink RX5 15 "CraneCampaign$Turbine" "height" "I"] ++ wsX50)
def wsX4_placeOf : List Cond := .code yX4_placeOf cX4_placeOf 3 (some .int) :: ([.fieldLink RX4 15 "CraneCampaign$Plan" "count" "I", .fieldLink RX4 9 "CraneCampaign$Plan" "row" "[I"] ++ wsX40)
def wsX3_unloadedFor : List Cond := .code yX3_unloadedFor cX3_unloadedFor 4 (some .int) :: ([.fieldLink RX3 18 "CraneCampaign$Harbour" "count" "I", .fieldLink RX3 9 "CraneCampaign$Harbour" "turbine" "[I", .fieldLink RX3 15 "CraneCampaign$Harbour" "weight" "[I"] ++ wsX30)
def wsX5_fullPower : List Cond := .code yX5_fullPower cX5_fullPower 2 (some .int) :: ([.fieldLink RX5 18 "CraneCampaign$Turbine" "rate" "I", .methodLink RX5 33 Lib.Math.min.name, .static Lib.Math.min.name, .initialized "java/lang/Math", .code Lib.Math.min.name Lib.Math.min.code 2 (some .int)] ++ wsX50)
def wsX2_turbineProperty_r1 : List Cond := [Cond.fieldLink RX2 11 "CraneCampaign$Farm" "turbines" "[LCraneCampaign$Turbine;", Cond.fieldLink RX2 95 "CraneCampaign$Turbine" "place" "I", Cond.fieldLink RX2 116 "CraneCampaign$Turbine" "height" "I", Cond.fieldLink RX2 119 "CraneCampaign$Turbine" "rate" "I", Cond.fieldLink RX2 102 "CraneCampaign$Turbine" "fault" "I", Cond.fieldLink RX2 122 "CraneCampaign$Turbine" "age" "I", Cond.fieldLink RX2 56 "CraneCampaign$Farm" "settings" "[I", Cond.fieldLink RX2 38 "CraneCampaign$Farm" "plan" "LCraneCampaign$Plan;", Cond.fieldLink RX2 31 "CraneCampaign$Farm" "harbour" "LCraneCampaign$Harbour;", Cond.fieldLink RX2 134 "CraneCampaign$Turbine" "lost" "I", Cond.fieldLink RX2 105 "CraneCampaign$Turbine" "won" "I", Cond.methodLink RX2 112 yX2_hasTurbine, Cond.instanceMethod yX2_hasTurbine, Cond.selects RX2 yX2_hasTurbine yX2_hasTurbine, Cond.initialized RX2, Cond.code yX2_hasTurbine cX2_hasTurbine 2 (some .boolean), Cond.fieldLink RX2 17 "CraneCampaign$Farm" "turbineCount" "I", Cond.methodLink RX2 125 yX5_limit, Cond.instanceMethod yX5_limit, Cond.selects RX5 yX5_limit yX5_limit, Cond.initialized RX5, Cond.code yX5_limit cX5_limit 2 (some .int), Cond.fieldLink RX5 15 "CraneCampaign$Turbine" "height" "I", Cond.methodLink RX2 128 yX4_placeOf]
def wsX2_turbineProperty_r2 : List Cond := [Cond.instanceMethod yX4_placeOf, Cond.selects RX4 yX4_placeOf yX4_placeOf, Cond.initialized RX4, Cond.code yX4_placeOf cX4_placeOf 3 (some .int), Cond.fieldLink RX4 15 "CraneCampaign$Plan" "count" "I", Cond.fieldLink RX4 9 "CraneCampaign$Plan" "row" "[I", Cond.methodLink RX2 131 yX3_unloadedFor, Cond.instanceMethod yX3_unloadedFor, Cond.selects RX3 yX3_unloadedFor yX3_unloadedFor, Cond.initialized RX3, Cond.code yX3_unloadedFor cX3_unloadedFor 4 (some .int), Cond.fieldLink RX3 18 "CraneCampaign$Harbour" "count" "I", Cond.fieldLink RX3 9 "CraneCampaign$Harbour" "turbine" "[I", Cond.fieldLink RX3 15 "CraneCampaign$Harbour" "weight" "[I", Cond.methodLink RX2 137 yX2_windNow, Cond.instanceMethod yX2_windNow, Cond.selects RX2 yX2_windNow yX2_windNow, Cond.code yX2_windNow cX2_windNow 1 (some .int), Cond.fieldLink RX2 52 "CraneCampaign$Farm" "winds" "LCraneCampaign$Winds;", Cond.fieldLink RX2 63 "CraneCampaign$Farm" "hour" "I", Cond.methodLink RX2 108 yX7_at, Cond.instanceMethod yX7_at, Cond.selects RX7 yX7_at yX7_at, Cond.initialized RX7]
def wsX2_turbineProperty_r3 : List Cond := [Cond.code yX7_at cX7_at 2 (some .int), Cond.fieldLink RX7 15 "CraneCampaign$Winds" "count" "I", Cond.fieldLink RX7 9 "CraneCampaign$Winds" "row" "[I", Cond.methodLink RX2 141 yX5_fullPower, Cond.instanceMethod yX5_fullPower, Cond.selects RX5 yX5_fullPower yX5_fullPower, Cond.code yX5_fullPower cX5_fullPower 2 (some .int), Cond.fieldLink RX5 18 "CraneCampaign$Turbine" "rate" "I", Cond.methodLink RX5 33 Lib.Math.min.name, Cond.static Lib.Math.min.name, Cond.initialized "java/lang/Math", Cond.code Lib.Math.min.name Lib.Math.min.code 2 (some .int)]
def wsX2_turbineProperty : List Cond := .code yX2_turbineProperty cX2_turbineProperty 4 (some .int) :: ((wsX2_turbineProperty_r1 ++ (wsX2_turbineProperty_r2 ++ wsX2_turbineProperty_r3)) ++ wsX20 ++ wsX50 ++ wsX40 ++ wsX30 ++ wsX70)
def wsX2_outcome : List Cond := .code yX2_outcome cX2_outcome 2 (some .int) :: ([.fieldLink RX2 38 "CraneCampaign$Farm" "plan" "LCraneCampaign$Plan;", .fieldLink RX2 153 "CraneCampaign$Plan" "count" "I", .fieldLink RX2 60 "CraneCampaign$Farm" "lostBy" "[I", .methodLink RX2 144 yX2_lostPower, .instanceMethod yX2_lostPower, .selects RX2 yX2_lostPower yX2_lostPower, .initialized RX2, .code yX2_lostPower cX2_lostPower 3 (some .int), .methodLink RX2 147 yX2_wonPower, .instanceMethod yX2_wonPower, .selects RX2 yX2_wonPower yX2_wonPower, .code yX2_wonPower cX2_wonPower 3 (some .int), .fieldLink RX2 17 "CraneCampaign$Farm" "turbineCount" "I", .fieldLink RX2 11 "CraneCampaign$Farm" "turbines" "[LCraneCampaign$Turbine;", .fieldLink RX2 105 "CraneCampaign$Turbine" "won" "I", .methodLink RX2 150 yX2_faultCount, .instanceMethod yX2_faultCount, .selects RX2 yX2_faultCount yX2_faultCount, .code yX2_faultCount cX2_faultCount 3 (some .int), .fieldLink RX2 102 "CraneCampaign$Turbine" "fault" "I"] ++ wsX20 ++ wsX40 ++ wsX50)
def wsX2_hoursBetween : List Cond := .code yX2_hoursBetween cX2_hoursBetween 6 (some .int) :: ([.fieldLink RX2 56 "CraneCampaign$Farm" "settings" "[I", .methodLink RX2 156 Lib.Math.max.name, .static Lib.Math.max.name, .initialized "java/lang/Math", .code Lib.Math.max.name Lib.Math.max.code 2 (some .int), .methodLink RX2 162 Lib.Math.abs.name, .static Lib.Math.abs.name, .code Lib.Math.abs.name Lib.Math.abs.code 1 (some .int), .fieldLink RX2 24 "CraneCampaign$Farm" "bogs" "LCraneCampaign$Bogs;", .methodLink RX2 165 Lib.Math.min.name, .static Lib.Math.min.name, .code Lib.Math.min.name Lib.Math.min.code 2 (some .int), .methodLink RX2 168 yX0_countBetween, .instanceMethod yX0_countBetween, .selects RX0 yX0_countBetween yX0_countBetween, .initialized RX0, .code yX0_countBetween cX0_countBetween 6 (some .int), .fieldLink RX0 18 "CraneCampaign$Bogs" "count" "I", .fieldLink RX0 9 "CraneCampaign$Bogs" "place" "[I", .fieldLink RX0 15 "CraneCampaign$Bogs" "need" "[I"] ++ wsX20 ++ wsX00)
def wsX2_hoursUntilCalm : List Cond := .code yX2_hoursUntilCalm cX2_hoursUntilCalm 6 (some .int) :: ([.fieldLink RX2 11 "CraneCampaign$Farm" "turbines" "[LCraneCampaign$Turbine;", .fieldLink RX2 56 "CraneCampaign$Farm" "settings" "[I", .fieldLink RX2 52 "CraneCampaign$Farm" "winds" "LCraneCampaign$Winds;", .fieldLink RX2 63 "CraneCampaign$Farm" "hour" "I", .methodLink RX2 112 yX2_hasTurbine, .instanceMethod yX2_hasTurbine, .selects RX2 yX2_hasTurbine yX2_hasTurbine, .initialized RX2, .code yX2_hasTurbine cX2_hasTurbine 2 (some .boolean), .fieldLink RX2 17 "CraneCampaign$Farm" "turbineCount" "I", .methodLink RX2 125 yX5_limit, .instanceMethod yX5_limit, .selects RX5 yX5_limit yX5_limit, .initialized RX5, .code yX5_limit cX5_limit 2 (some .int), .fieldLink RX5 15 "CraneCampaign$Turbine" "height" "I", .methodLink RX2 108 yX7_at, .instanceMethod yX7_at, .selects RX7 yX7_at yX7_at, .initialized RX7, .code yX7_at cX7_at 2 (some .int), .fieldLink RX7 15 "CraneCampaign$Winds" "count" "I", .fieldLink RX7 9 "CraneCampaign$Winds" "row" "[I"] ++ wsX20 ++ wsX50 ++ wsX70)
def wsX3_unload : List Cond := .code yX3_unload cX3_unload 5 none :: ([.fieldLink RX3 18 "CraneCampaign$Harbour" "count" "I", .fieldLink RX3 15 "CraneCampaign$Harbour" "weight" "[I", .methodLink RX3 32 Lib.Math.min.name, .static Lib.Math.min.name, .initialized "java/lang/Math", .code Lib.Math.min.name Lib.Math.min.code 2 (some .int)] ++ wsX30)
def wsX4_first : List Cond := .code yX4_first cX4_first 1 (some .int) :: ([.fieldLink RX4 15 "CraneCampaign$Plan" "count" "I", .fieldLink RX4 9 "CraneCampaign$Plan" "row" "[I"] ++ wsX40)
def wsX4_removeAt : List Cond := .code yX4_removeAt cX4_removeAt 3 none :: ([.fieldLink RX4 15 "CraneCampaign$Plan" "count" "I", .fieldLink RX4 9 "CraneCampaign$Plan" "row" "[I"] ++ wsX40)
def wsX2_dropFaultless_r1 : List Cond := [Cond.fieldLink RX2 38 "CraneCampaign$Farm" "plan" "LCraneCampaign$Plan;", Cond.fieldLink RX2 153 "CraneCampaign$Plan" "count" "I", Cond.fieldLink RX2 45 "CraneCampaign$Farm" "crane" "LCraneCampaign$Crane;", Cond.fieldLink RX2 197 "CraneCampaign$Crane" "workedOn" "I", Cond.fieldLink RX2 11 "CraneCampaign$Farm" "turbines" "[LCraneCampaign$Turbine;", Cond.fieldLink RX2 102 "CraneCampaign$Turbine" "fault" "I", Cond.methodLink RX2 182 yX4_first, Cond.instanceMethod yX4_first, Cond.selects RX4 yX4_first yX4_first, Cond.initialized RX4, Cond.code yX4_first cX4_first 1 (some .int), Cond.fieldLink RX4 15 "CraneCampaign$Plan" "count" "I", Cond.fieldLink RX4 9 "CraneCampaign$Plan" "row" "[I", Cond.methodLink RX2 200 yX1_forgetWork, Cond.instanceMethod yX1_forgetWork, Cond.selects RX1 yX1_forgetWork yX1_forgetWork, Cond.initialized RX1, Cond.code yX1_forgetWork cX1_forgetWork 1 none, Cond.fieldLink RX1 24 "CraneCampaign$Crane" "workedOn" "I", Cond.fieldLink RX1 21 "CraneCampaign$Crane" "workDone" "I", Cond.methodLink RX2 112 yX2_hasTurbine, Cond.instanceMethod yX2_hasTurbine, Cond.selects RX2 yX2_hasTurbine yX2_hasTurbine, Cond.initialized RX2]
def wsX2_dropFaultless_r2 : List Cond := [Cond.code yX2_hasTurbine cX2_hasTurbine 2 (some .boolean), Cond.fieldLink RX2 17 "CraneCampaign$Farm" "turbineCount" "I", Cond.methodLink RX2 203 yX4_removeAt, Cond.instanceMethod yX4_removeAt, Cond.selects RX4 yX4_removeAt yX4_removeAt, Cond.code yX4_removeAt cX4_removeAt 3 none]
def wsX2_dropFaultless : List Cond := .code yX2_dropFaultless cX2_dropFaultless 3 none :: ((wsX2_dropFaultless_r1 ++ wsX2_dropFaultless_r2) ++ wsX20 ++ wsX40 ++ wsX10 ++ wsX50)
def wsX2_serve_r1 : List Cond := [Cond.fieldLink RX2 11 "CraneCampaign$Farm" "turbines" "[LCraneCampaign$Turbine;", Cond.fieldLink RX2 45 "CraneCampaign$Farm" "crane" "LCraneCampaign$Crane;", Cond.fieldLink RX2 210 "CraneCampaign$Crane" "place" "I", Cond.fieldLink RX2 95 "CraneCampaign$Turbine" "place" "I", Cond.fieldLink RX2 31 "CraneCampaign$Farm" "harbour" "LCraneCampaign$Harbour;", Cond.fieldLink RX2 56 "CraneCampaign$Farm" "settings" "[I", Cond.methodLink RX2 112 yX2_hasTurbine, Cond.instanceMethod yX2_hasTurbine, Cond.selects RX2 yX2_hasTurbine yX2_hasTurbine, Cond.initialized RX2, Cond.code yX2_hasTurbine cX2_hasTurbine 2 (some .boolean), Cond.fieldLink RX2 17 "CraneCampaign$Farm" "turbineCount" "I", Cond.methodLink RX2 206 yX1_isOnWay, Cond.instanceMethod yX1_isOnWay, Cond.selects RX1 yX1_isOnWay yX1_isOnWay, Cond.initialized RX1, Cond.code yX1_isOnWay cX1_isOnWay 1 (some .boolean), Cond.fieldLink RX1 18 "CraneCampaign$Crane" "goal" "I", Cond.methodLink RX2 211 yX2_hoursBetween, Cond.instanceMethod yX2_hoursBetween, Cond.selects RX2 yX2_hoursBetween yX2_hoursBetween, Cond.code yX2_hoursBetween cX2_hoursBetween 6 (some .int), Cond.methodLink RX2 156 Lib.Math.max.name, Cond.static Lib.Math.max.name]
def wsX2_serve_r2 : List Cond := [Cond.initialized "java/lang/Math", Cond.code Lib.Math.max.name Lib.Math.max.code 2 (some .int), Cond.methodLink RX2 162 Lib.Math.abs.name, Cond.static Lib.Math.abs.name, Cond.code Lib.Math.abs.name Lib.Math.abs.code 1 (some .int), Cond.fieldLink RX2 24 "CraneCampaign$Farm" "bogs" "LCraneCampaign$Bogs;", Cond.methodLink RX2 165 Lib.Math.min.name, Cond.static Lib.Math.min.name, Cond.code Lib.Math.min.name Lib.Math.min.code 2 (some .int), Cond.methodLink RX2 168 yX0_countBetween, Cond.instanceMethod yX0_countBetween, Cond.selects RX0 yX0_countBetween yX0_countBetween, Cond.initialized RX0, Cond.code yX0_countBetween cX0_countBetween 6 (some .int), Cond.fieldLink RX0 18 "CraneCampaign$Bogs" "count" "I", Cond.fieldLink RX0 9 "CraneCampaign$Bogs" "place" "[I", Cond.fieldLink RX0 15 "CraneCampaign$Bogs" "need" "[I", Cond.methodLink RX2 214 yX1_driveTo, Cond.instanceMethod yX1_driveTo, Cond.selects RX1 yX1_driveTo yX1_driveTo, Cond.code yX1_driveTo cX1_driveTo 4 none, Cond.fieldLink RX1 15 "CraneCampaign$Crane" "hoursLeft" "I", Cond.methodLink RX1 27 Lib.Math.max.name, Cond.fieldLink RX1 9 "CraneCampaign$Crane" "place" "I"]
def wsX2_serve_r3 : List Cond := [Cond.methodLink RX2 131 yX3_unloadedFor, Cond.instanceMethod yX3_unloadedFor, Cond.selects RX3 yX3_unloadedFor yX3_unloadedFor, Cond.initialized RX3, Cond.code yX3_unloadedFor cX3_unloadedFor 4 (some .int), Cond.fieldLink RX3 18 "CraneCampaign$Harbour" "count" "I", Cond.fieldLink RX3 9 "CraneCampaign$Harbour" "turbine" "[I", Cond.fieldLink RX3 15 "CraneCampaign$Harbour" "weight" "[I", Cond.methodLink RX2 137 yX2_windNow, Cond.instanceMethod yX2_windNow, Cond.selects RX2 yX2_windNow yX2_windNow, Cond.code yX2_windNow cX2_windNow 1 (some .int), Cond.fieldLink RX2 52 "CraneCampaign$Farm" "winds" "LCraneCampaign$Winds;", Cond.fieldLink RX2 63 "CraneCampaign$Farm" "hour" "I", Cond.methodLink RX2 108 yX7_at, Cond.instanceMethod yX7_at, Cond.selects RX7 yX7_at yX7_at, Cond.initialized RX7, Cond.code yX7_at cX7_at 2 (some .int), Cond.fieldLink RX7 15 "CraneCampaign$Winds" "count" "I", Cond.fieldLink RX7 9 "CraneCampaign$Winds" "row" "[I", Cond.methodLink RX2 125 yX5_limit, Cond.instanceMethod yX5_limit, Cond.selects RX5 yX5_limit yX5_limit]
def wsX2_serve_r4 : List Cond := [Cond.initialized RX5, Cond.code yX5_limit cX5_limit 2 (some .int), Cond.fieldLink RX5 15 "CraneCampaign$Turbine" "height" "I", Cond.methodLink RX2 217 yX1_workAnHourOn, Cond.instanceMethod yX1_workAnHourOn, Cond.selects RX1 yX1_workAnHourOn yX1_workAnHourOn, Cond.code yX1_workAnHourOn cX1_workAnHourOn 2 none, Cond.fieldLink RX1 24 "CraneCampaign$Crane" "workedOn" "I", Cond.fieldLink RX1 21 "CraneCampaign$Crane" "workDone" "I"]
def wsX2_serve : List Cond := .code yX2_serve cX2_serve 3 (some .int) :: ((wsX2_serve_r1 ++ (wsX2_serve_r2 ++ (wsX2_serve_r3 ++ wsX2_serve_r4))) ++ wsX20 ++ wsX10 ++ wsX50 ++ wsX00 ++ wsX30 ++ wsX70)
def wsX2_sharePower_r1 : List Cond := [Cond.fieldLink RX2 17 "CraneCampaign$Farm" "turbineCount" "I", Cond.fieldLink RX2 11 "CraneCampaign$Farm" "turbines" "[LCraneCampaign$Turbine;", Cond.fieldLink RX2 102 "CraneCampaign$Turbine" "fault" "I", Cond.fieldLink RX2 134 "CraneCampaign$Turbine" "lost" "I", Cond.fieldLink RX2 105 "CraneCampaign$Turbine" "won" "I", Cond.fieldLink RX2 60 "CraneCampaign$Farm" "lostBy" "[I", Cond.methodLink RX2 137 yX2_windNow, Cond.instanceMethod yX2_windNow, Cond.selects RX2 yX2_windNow yX2_windNow, Cond.initialized RX2, Cond.code yX2_windNow cX2_windNow 1 (some .int), Cond.fieldLink RX2 52 "CraneCampaign$Farm" "winds" "LCraneCampaign$Winds;", Cond.fieldLink RX2 63 "CraneCampaign$Farm" "hour" "I", Cond.methodLink RX2 108 yX7_at, Cond.instanceMethod yX7_at, Cond.selects RX7 yX7_at yX7_at, Cond.initialized RX7, Cond.code yX7_at cX7_at 2 (some .int), Cond.fieldLink RX7 15 "CraneCampaign$Winds" "count" "I", Cond.fieldLink RX7 9 "CraneCampaign$Winds" "row" "[I", Cond.methodLink RX2 141 yX5_fullPower, Cond.instanceMethod yX5_fullPower, Cond.selects RX5 yX5_fullPower yX5_fullPower, Cond.initialized RX5]
def wsX2_sharePower_r2 : List Cond := [Cond.code yX5_fullPower cX5_fullPower 2 (some .int), Cond.fieldLink RX5 18 "CraneCampaign$Turbine" "rate" "I", Cond.methodLink RX5 33 Lib.Math.min.name, Cond.static Lib.Math.min.name, Cond.initialized "java/lang/Math", Cond.code Lib.Math.min.name Lib.Math.min.code 2 (some .int)]
def wsX2_sharePower : List Cond := .code yX2_sharePower cX2_sharePower 9 (some .int) :: ((wsX2_sharePower_r1 ++ wsX2_sharePower_r2) ++ wsX20 ++ wsX50 ++ wsX70)
def wsX3_removeAt : List Cond := .code yX3_removeAt cX3_removeAt 3 none :: ([.fieldLink RX3 18 "CraneCampaign$Harbour" "count" "I", .fieldLink RX3 9 "CraneCampaign$Harbour" "turbine" "[I", .fieldLink RX3 15 "CraneCampaign$Harbour" "weight" "[I"] ++ wsX30)
def wsX3_useBladeFor : List Cond := .code yX3_useBladeFor cX3_useBladeFor 3 none :: ([.fieldLink RX3 18 "CraneCampaign$Harbour" "count" "I", .fieldLink RX3 9 "CraneCampaign$Harbour" "turbine" "[I", .fieldLink RX3 15 "CraneCampaign$Harbour" "weight" "[I", .methodLink RX3 38 yX3_removeAt, .instanceMethod yX3_removeAt, .selects RX3 yX3_removeAt yX3_removeAt, .initialized RX3, .code yX3_removeAt cX3_removeAt 3 none] ++ wsX30)
def wsX2_finishIfDone_r1 : List Cond := [Cond.fieldLink RX2 45 "CraneCampaign$Farm" "crane" "LCraneCampaign$Crane;", Cond.fieldLink RX2 220 "CraneCampaign$Crane" "workDone" "I", Cond.fieldLink RX2 56 "CraneCampaign$Farm" "settings" "[I", Cond.fieldLink RX2 11 "CraneCampaign$Farm" "turbines" "[LCraneCampaign$Turbine;", Cond.fieldLink RX2 102 "CraneCampaign$Turbine" "fault" "I", Cond.fieldLink RX2 122 "CraneCampaign$Turbine" "age" "I", Cond.fieldLink RX2 31 "CraneCampaign$Farm" "harbour" "LCraneCampaign$Harbour;", Cond.fieldLink RX2 38 "CraneCampaign$Farm" "plan" "LCraneCampaign$Plan;", Cond.methodLink RX2 112 yX2_hasTurbine, Cond.instanceMethod yX2_hasTurbine, Cond.selects RX2 yX2_hasTurbine yX2_hasTurbine, Cond.initialized RX2, Cond.code yX2_hasTurbine cX2_hasTurbine 2 (some .boolean), Cond.fieldLink RX2 17 "CraneCampaign$Farm" "turbineCount" "I", Cond.methodLink RX2 223 yX3_useBladeFor, Cond.instanceMethod yX3_useBladeFor, Cond.selects RX3 yX3_useBladeFor yX3_useBladeFor, Cond.initialized RX3, Cond.code yX3_useBladeFor cX3_useBladeFor 3 none, Cond.fieldLink RX3 18 "CraneCampaign$Harbour" "count" "I", Cond.fieldLink RX3 9 "CraneCampaign$Harbour" "turbine" "[I", Cond.fieldLink RX3 15 "CraneCampaign$Harbour" "weight" "[I", Cond.methodLink RX3 38 yX3_removeAt, Cond.instanceMethod yX3_removeAt]
def wsX2_finishIfDone_r2 : List Cond := [Cond.selects RX3 yX3_removeAt yX3_removeAt, Cond.code yX3_removeAt cX3_removeAt 3 none, Cond.methodLink RX2 200 yX1_forgetWork, Cond.instanceMethod yX1_forgetWork, Cond.selects RX1 yX1_forgetWork yX1_forgetWork, Cond.initialized RX1, Cond.code yX1_forgetWork cX1_forgetWork 1 none, Cond.fieldLink RX1 24 "CraneCampaign$Crane" "workedOn" "I", Cond.fieldLink RX1 21 "CraneCampaign$Crane" "workDone" "I", Cond.methodLink RX2 128 yX4_placeOf, Cond.instanceMethod yX4_placeOf, Cond.selects RX4 yX4_placeOf yX4_placeOf, Cond.initialized RX4, Cond.code yX4_placeOf cX4_placeOf 3 (some .int), Cond.fieldLink RX4 15 "CraneCampaign$Plan" "count" "I", Cond.fieldLink RX4 9 "CraneCampaign$Plan" "row" "[I", Cond.methodLink RX2 203 yX4_removeAt, Cond.instanceMethod yX4_removeAt, Cond.selects RX4 yX4_removeAt yX4_removeAt, Cond.code yX4_removeAt cX4_removeAt 3 none]
def wsX2_finishIfDone : List Cond := .code yX2_finishIfDone cX2_finishIfDone 2 none :: ((wsX2_finishIfDone_r1 ++ wsX2_finishIfDone_r2) ++ wsX20 ++ wsX10 ++ wsX50 ++ wsX30 ++ wsX40)
def wsX5_growOlder : List Cond := .code yX5_growOlder cX5_growOlder 2 none :: ([.fieldLink RX5 21 "CraneCampaign$Turbine" "fault" "I", .fieldLink RX5 24 "CraneCampaign$Turbine" "age" "I"] ++ wsX50)
def wsX2_worsen : List Cond := .code yX2_worsen cX2_worsen 3 none :: ([.fieldLink RX2 17 "CraneCampaign$Farm" "turbineCount" "I", .fieldLink RX2 11 "CraneCampaign$Farm" "turbines" "[LCraneCampaign$Turbine;", .fieldLink RX2 56 "CraneCampaign$Farm" "settings" "[I", .methodLink RX2 226 yX5_growOlder, .instanceMethod yX5_growOlder, .selects RX5 yX5_growOlder yX5_growOlder, .initialized RX5, .code yX5_growOlder cX5_growOlder 2 none, .fieldLink RX5 21 "CraneCampaign$Turbine" "fault" "I", .fieldLink RX5 24 "CraneCampaign$Turbine" "age" "I"] ++ wsX20 ++ wsX50)
def wsX2_runHour_r1 : List Cond := [Cond.fieldLink RX2 31 "CraneCampaign$Farm" "harbour" "LCraneCampaign$Harbour;", Cond.fieldLink RX2 56 "CraneCampaign$Farm" "settings" "[I", Cond.fieldLink RX2 38 "CraneCampaign$Farm" "plan" "LCraneCampaign$Plan;", Cond.fieldLink RX2 63 "CraneCampaign$Farm" "hour" "I", Cond.methodLink RX2 175 yX3_unload, Cond.instanceMethod yX3_unload, Cond.selects RX3 yX3_unload yX3_unload, Cond.initialized RX3, Cond.code yX3_unload cX3_unload 5 none, Cond.fieldLink RX3 18 "CraneCampaign$Harbour" "count" "I", Cond.fieldLink RX3 15 "CraneCampaign$Harbour" "weight" "[I", Cond.methodLink RX3 32 Lib.Math.min.name, Cond.static Lib.Math.min.name, Cond.initialized "java/lang/Math", Cond.code Lib.Math.min.name Lib.Math.min.code 2 (some .int), Cond.methodLink RX2 179 yX2_dropFaultless, Cond.instanceMethod yX2_dropFaultless, Cond.selects RX2 yX2_dropFaultless yX2_dropFaultless, Cond.initialized RX2, Cond.code yX2_dropFaultless cX2_dropFaultless 3 none, Cond.fieldLink RX2 153 "CraneCampaign$Plan" "count" "I", Cond.fieldLink RX2 45 "CraneCampaign$Farm" "crane" "LCraneCampaign$Crane;", Cond.fieldLink RX2 197 "CraneCampaign$Crane" "workedOn" "I", Cond.fieldLink RX2 11 "CraneCampaign$Farm" "turbines" "[LCraneCampaign$Turbine;"]
def wsX2_runHour_r2 : List Cond := [Cond.fieldLink RX2 102 "CraneCampaign$Turbine" "fault" "I", Cond.methodLink RX2 182 yX4_first, Cond.instanceMethod yX4_first, Cond.selects RX4 yX4_first yX4_first, Cond.initialized RX4, Cond.code yX4_first cX4_first 1 (some .int), Cond.fieldLink RX4 15 "CraneCampaign$Plan" "count" "I", Cond.fieldLink RX4 9 "CraneCampaign$Plan" "row" "[I", Cond.methodLink RX2 200 yX1_forgetWork, Cond.instanceMethod yX1_forgetWork, Cond.selects RX1 yX1_forgetWork yX1_forgetWork, Cond.initialized RX1, Cond.code yX1_forgetWork cX1_forgetWork 1 none, Cond.fieldLink RX1 24 "CraneCampaign$Crane" "workedOn" "I", Cond.fieldLink RX1 21 "CraneCampaign$Crane" "workDone" "I", Cond.methodLink RX2 112 yX2_hasTurbine, Cond.instanceMethod yX2_hasTurbine, Cond.selects RX2 yX2_hasTurbine yX2_hasTurbine, Cond.code yX2_hasTurbine cX2_hasTurbine 2 (some .boolean), Cond.fieldLink RX2 17 "CraneCampaign$Farm" "turbineCount" "I", Cond.methodLink RX2 203 yX4_removeAt, Cond.instanceMethod yX4_removeAt, Cond.selects RX4 yX4_removeAt yX4_removeAt, Cond.code yX4_removeAt cX4_removeAt 3 none]
def wsX2_runHour_r3 : List Cond := [Cond.methodLink RX2 185 yX2_serve, Cond.instanceMethod yX2_serve, Cond.selects RX2 yX2_serve yX2_serve, Cond.code yX2_serve cX2_serve 3 (some .int), Cond.fieldLink RX2 210 "CraneCampaign$Crane" "place" "I", Cond.fieldLink RX2 95 "CraneCampaign$Turbine" "place" "I", Cond.methodLink RX2 206 yX1_isOnWay, Cond.instanceMethod yX1_isOnWay, Cond.selects RX1 yX1_isOnWay yX1_isOnWay, Cond.code yX1_isOnWay cX1_isOnWay 1 (some .boolean), Cond.fieldLink RX1 18 "CraneCampaign$Crane" "goal" "I", Cond.methodLink RX2 211 yX2_hoursBetween, Cond.instanceMethod yX2_hoursBetween, Cond.selects RX2 yX2_hoursBetween yX2_hoursBetween, Cond.code yX2_hoursBetween cX2_hoursBetween 6 (some .int), Cond.methodLink RX2 156 Lib.Math.max.name, Cond.static Lib.Math.max.name, Cond.code Lib.Math.max.name Lib.Math.max.code 2 (some .int), Cond.methodLink RX2 162 Lib.Math.abs.name, Cond.static Lib.Math.abs.name, Cond.code Lib.Math.abs.name Lib.Math.abs.code 1 (some .int), Cond.fieldLink RX2 24 "CraneCampaign$Farm" "bogs" "LCraneCampaign$Bogs;", Cond.methodLink RX2 165 Lib.Math.min.name, Cond.methodLink RX2 168 yX0_countBetween]
def wsX2_runHour_r4 : List Cond := [Cond.instanceMethod yX0_countBetween, Cond.selects RX0 yX0_countBetween yX0_countBetween, Cond.initialized RX0, Cond.code yX0_countBetween cX0_countBetween 6 (some .int), Cond.fieldLink RX0 18 "CraneCampaign$Bogs" "count" "I", Cond.fieldLink RX0 9 "CraneCampaign$Bogs" "place" "[I", Cond.fieldLink RX0 15 "CraneCampaign$Bogs" "need" "[I", Cond.methodLink RX2 214 yX1_driveTo, Cond.instanceMethod yX1_driveTo, Cond.selects RX1 yX1_driveTo yX1_driveTo, Cond.code yX1_driveTo cX1_driveTo 4 none, Cond.fieldLink RX1 15 "CraneCampaign$Crane" "hoursLeft" "I", Cond.methodLink RX1 27 Lib.Math.max.name, Cond.fieldLink RX1 9 "CraneCampaign$Crane" "place" "I", Cond.methodLink RX2 131 yX3_unloadedFor, Cond.instanceMethod yX3_unloadedFor, Cond.selects RX3 yX3_unloadedFor yX3_unloadedFor, Cond.code yX3_unloadedFor cX3_unloadedFor 4 (some .int), Cond.fieldLink RX3 9 "CraneCampaign$Harbour" "turbine" "[I", Cond.methodLink RX2 137 yX2_windNow, Cond.instanceMethod yX2_windNow, Cond.selects RX2 yX2_windNow yX2_windNow, Cond.code yX2_windNow cX2_windNow 1 (some .int), Cond.fieldLink RX2 52 "CraneCampaign$Farm" "winds" "LCraneCampaign$Winds;"]
def wsX2_runHour_r5 : List Cond := [Cond.methodLink RX2 108 yX7_at, Cond.instanceMethod yX7_at, Cond.selects RX7 yX7_at yX7_at, Cond.initialized RX7, Cond.code yX7_at cX7_at 2 (some .int), Cond.fieldLink RX7 15 "CraneCampaign$Winds" "count" "I", Cond.fieldLink RX7 9 "CraneCampaign$Winds" "row" "[I", Cond.methodLink RX2 125 yX5_limit, Cond.instanceMethod yX5_limit, Cond.selects RX5 yX5_limit yX5_limit, Cond.initialized RX5, Cond.code yX5_limit cX5_limit 2 (some .int), Cond.fieldLink RX5 15 "CraneCampaign$Turbine" "height" "I", Cond.methodLink RX2 217 yX1_workAnHourOn, Cond.instanceMethod yX1_workAnHourOn, Cond.selects RX1 yX1_workAnHourOn yX1_workAnHourOn, Cond.code yX1_workAnHourOn cX1_workAnHourOn 2 none, Cond.methodLink RX2 188 yX2_sharePower, Cond.instanceMethod yX2_sharePower, Cond.selects RX2 yX2_sharePower yX2_sharePower, Cond.code yX2_sharePower cX2_sharePower 9 (some .int), Cond.fieldLink RX2 134 "CraneCampaign$Turbine" "lost" "I", Cond.fieldLink RX2 105 "CraneCampaign$Turbine" "won" "I", Cond.fieldLink RX2 60 "CraneCampaign$Farm" "lostBy" "[I"]
def wsX2_runHour_r6 : List Cond := [Cond.methodLink RX2 141 yX5_fullPower, Cond.instanceMethod yX5_fullPower, Cond.selects RX5 yX5_fullPower yX5_fullPower, Cond.code yX5_fullPower cX5_fullPower 2 (some .int), Cond.fieldLink RX5 18 "CraneCampaign$Turbine" "rate" "I", Cond.methodLink RX5 33 Lib.Math.min.name, Cond.methodLink RX2 191 yX2_finishIfDone, Cond.instanceMethod yX2_finishIfDone, Cond.selects RX2 yX2_finishIfDone yX2_finishIfDone, Cond.code yX2_finishIfDone cX2_finishIfDone 2 none, Cond.fieldLink RX2 220 "CraneCampaign$Crane" "workDone" "I", Cond.fieldLink RX2 122 "CraneCampaign$Turbine" "age" "I", Cond.methodLink RX2 223 yX3_useBladeFor, Cond.instanceMethod yX3_useBladeFor, Cond.selects RX3 yX3_useBladeFor yX3_useBladeFor, Cond.code yX3_useBladeFor cX3_useBladeFor 3 none, Cond.methodLink RX3 38 yX3_removeAt, Cond.instanceMethod yX3_removeAt, Cond.selects RX3 yX3_removeAt yX3_removeAt, Cond.code yX3_removeAt cX3_removeAt 3 none, Cond.methodLink RX2 128 yX4_placeOf, Cond.instanceMethod yX4_placeOf, Cond.selects RX4 yX4_placeOf yX4_placeOf, Cond.code yX4_placeOf cX4_placeOf 3 (some .int)]
def wsX2_runHour_r7 : List Cond := [Cond.methodLink RX2 194 yX2_worsen, Cond.instanceMethod yX2_worsen, Cond.selects RX2 yX2_worsen yX2_worsen, Cond.code yX2_worsen cX2_worsen 3 none, Cond.methodLink RX2 226 yX5_growOlder, Cond.instanceMethod yX5_growOlder, Cond.selects RX5 yX5_growOlder yX5_growOlder, Cond.code yX5_growOlder cX5_growOlder 2 none, Cond.fieldLink RX5 21 "CraneCampaign$Turbine" "fault" "I", Cond.fieldLink RX5 24 "CraneCampaign$Turbine" "age" "I"]
def wsX2_runHour : List Cond := .code yX2_runHour cX2_runHour 4 (some .int) :: ((wsX2_runHour_r1 ++ (wsX2_runHour_r2 ++ (wsX2_runHour_r3 ++ (wsX2_runHour_r4 ++ (wsX2_runHour_r5 ++ (wsX2_runHour_r6 ++ wsX2_runHour_r7)))))) ++ wsX20 ++ wsX30 ++ wsX40 ++ wsX10 ++ wsX50 ++ wsX00 ++ wsX70)
def wsX2_runHours_r1 : List Cond := [Cond.methodLink RX2 172 yX2_runHour, Cond.instanceMethod yX2_runHour, Cond.selects RX2 yX2_runHour yX2_runHour, Cond.initialized RX2, Cond.code yX2_runHour cX2_runHour 4 (some .int), Cond.fieldLink RX2 31 "CraneCampaign$Farm" "harbour" "LCraneCampaign$Harbour;", Cond.fieldLink RX2 56 "CraneCampaign$Farm" "settings" "[I", Cond.fieldLink RX2 38 "CraneCampaign$Farm" "plan" "LCraneCampaign$Plan;", Cond.fieldLink RX2 63 "CraneCampaign$Farm" "hour" "I", Cond.methodLink RX2 175 yX3_unload, Cond.instanceMethod yX3_unload, Cond.selects RX3 yX3_unload yX3_unload, Cond.initialized RX3, Cond.code yX3_unload cX3_unload 5 none, Cond.fieldLink RX3 18 "CraneCampaign$Harbour" "count" "I", Cond.fieldLink RX3 15 "CraneCampaign$Harbour" "weight" "[I", Cond.methodLink RX3 32 Lib.Math.min.name, Cond.static Lib.Math.min.name, Cond.initialized "java/lang/Math", Cond.code Lib.Math.min.name Lib.Math.min.code 2 (some .int), Cond.methodLink RX2 179 yX2_dropFaultless, Cond.instanceMethod yX2_dropFaultless, Cond.selects RX2 yX2_dropFaultless yX2_dropFaultless, Cond.code yX2_dropFaultless cX2_dropFaultless 3 none]
def wsX2_runHours_r2 : List Cond := [Cond.fieldLink RX2 153 "CraneCampaign$Plan" "count" "I", Cond.fieldLink RX2 45 "CraneCampaign$Farm" "crane" "LCraneCampaign$Crane;", Cond.fieldLink RX2 197 "CraneCampaign$Crane" "workedOn" "I", Cond.fieldLink RX2 11 "CraneCampaign$Farm" "turbines" "[LCraneCampaign$Turbine;", Cond.fieldLink RX2 102 "CraneCampaign$Turbine" "fault" "I", Cond.methodLink RX2 182 yX4_first, Cond.instanceMethod yX4_first, Cond.selects RX4 yX4_first yX4_first, Cond.initialized RX4, Cond.code yX4_first cX4_first 1 (some .int), Cond.fieldLink RX4 15 "CraneCampaign$Plan" "count" "I", Cond.fieldLink RX4 9 "CraneCampaign$Plan" "row" "[I", Cond.methodLink RX2 200 yX1_forgetWork, Cond.instanceMethod yX1_forgetWork, Cond.selects RX1 yX1_forgetWork yX1_forgetWork, Cond.initialized RX1, Cond.code yX1_forgetWork cX1_forgetWork 1 none, Cond.fieldLink RX1 24 "CraneCampaign$Crane" "workedOn" "I", Cond.fieldLink RX1 21 "CraneCampaign$Crane" "workDone" "I", Cond.methodLink RX2 112 yX2_hasTurbine, Cond.instanceMethod yX2_hasTurbine, Cond.selects RX2 yX2_hasTurbine yX2_hasTurbine, Cond.code yX2_hasTurbine cX2_hasTurbine 2 (some .boolean), Cond.fieldLink RX2 17 "CraneCampaign$Farm" "turbineCount" "I"]
def wsX2_runHours_r3 : List Cond := [Cond.methodLink RX2 203 yX4_removeAt, Cond.instanceMethod yX4_removeAt, Cond.selects RX4 yX4_removeAt yX4_removeAt, Cond.code yX4_removeAt cX4_removeAt 3 none, Cond.methodLink RX2 185 yX2_serve, Cond.instanceMethod yX2_serve, Cond.selects RX2 yX2_serve yX2_serve, Cond.code yX2_serve cX2_serve 3 (some .int), Cond.fieldLink RX2 210 "CraneCampaign$Crane" "place" "I", Cond.fieldLink RX2 95 "CraneCampaign$Turbine" "place" "I", Cond.methodLink RX2 206 yX1_isOnWay, Cond.instanceMethod yX1_isOnWay, Cond.selects RX1 yX1_isOnWay yX1_isOnWay, Cond.code yX1_isOnWay cX1_isOnWay 1 (some .boolean), Cond.fieldLink RX1 18 "CraneCampaign$Crane" "goal" "I", Cond.methodLink RX2 211 yX2_hoursBetween, Cond.instanceMethod yX2_hoursBetween, Cond.selects RX2 yX2_hoursBetween yX2_hoursBetween, Cond.code yX2_hoursBetween cX2_hoursBetween 6 (some .int), Cond.methodLink RX2 156 Lib.Math.max.name, Cond.static Lib.Math.max.name, Cond.code Lib.Math.max.name Lib.Math.max.code 2 (some .int), Cond.methodLink RX2 162 Lib.Math.abs.name, Cond.static Lib.Math.abs.name]
def wsX2_runHours_r4 : List Cond := [Cond.code Lib.Math.abs.name Lib.Math.abs.code 1 (some .int), Cond.fieldLink RX2 24 "CraneCampaign$Farm" "bogs" "LCraneCampaign$Bogs;", Cond.methodLink RX2 165 Lib.Math.min.name, Cond.methodLink RX2 168 yX0_countBetween, Cond.instanceMethod yX0_countBetween, Cond.selects RX0 yX0_countBetween yX0_countBetween, Cond.initialized RX0, Cond.code yX0_countBetween cX0_countBetween 6 (some .int), Cond.fieldLink RX0 18 "CraneCampaign$Bogs" "count" "I", Cond.fieldLink RX0 9 "CraneCampaign$Bogs" "place" "[I", Cond.fieldLink RX0 15 "CraneCampaign$Bogs" "need" "[I", Cond.methodLink RX2 214 yX1_driveTo, Cond.instanceMethod yX1_driveTo, Cond.selects RX1 yX1_driveTo yX1_driveTo, Cond.code yX1_driveTo cX1_driveTo 4 none, Cond.fieldLink RX1 15 "CraneCampaign$Crane" "hoursLeft" "I", Cond.methodLink RX1 27 Lib.Math.max.name, Cond.fieldLink RX1 9 "CraneCampaign$Crane" "place" "I", Cond.methodLink RX2 131 yX3_unloadedFor, Cond.instanceMethod yX3_unloadedFor, Cond.selects RX3 yX3_unloadedFor yX3_unloadedFor, Cond.code yX3_unloadedFor cX3_unloadedFor 4 (some .int), Cond.fieldLink RX3 9 "CraneCampaign$Harbour" "turbine" "[I", Cond.methodLink RX2 137 yX2_windNow]
def wsX2_runHours_r5 : List Cond := [Cond.instanceMethod yX2_windNow, Cond.selects RX2 yX2_windNow yX2_windNow, Cond.code yX2_windNow cX2_windNow 1 (some .int), Cond.fieldLink RX2 52 "CraneCampaign$Farm" "winds" "LCraneCampaign$Winds;", Cond.methodLink RX2 108 yX7_at, Cond.instanceMethod yX7_at, Cond.selects RX7 yX7_at yX7_at, Cond.initialized RX7, Cond.code yX7_at cX7_at 2 (some .int), Cond.fieldLink RX7 15 "CraneCampaign$Winds" "count" "I", Cond.fieldLink RX7 9 "CraneCampaign$Winds" "row" "[I", Cond.methodLink RX2 125 yX5_limit, Cond.instanceMethod yX5_limit, Cond.selects RX5 yX5_limit yX5_limit, Cond.initialized RX5, Cond.code yX5_limit cX5_limit 2 (some .int), Cond.fieldLink RX5 15 "CraneCampaign$Turbine" "height" "I", Cond.methodLink RX2 217 yX1_workAnHourOn, Cond.instanceMethod yX1_workAnHourOn, Cond.selects RX1 yX1_workAnHourOn yX1_workAnHourOn, Cond.code yX1_workAnHourOn cX1_workAnHourOn 2 none, Cond.methodLink RX2 188 yX2_sharePower, Cond.instanceMethod yX2_sharePower, Cond.selects RX2 yX2_sharePower yX2_sharePower]
def wsX2_runHours_r6 : List Cond := [Cond.code yX2_sharePower cX2_sharePower 9 (some .int), Cond.fieldLink RX2 134 "CraneCampaign$Turbine" "lost" "I", Cond.fieldLink RX2 105 "CraneCampaign$Turbine" "won" "I", Cond.fieldLink RX2 60 "CraneCampaign$Farm" "lostBy" "[I", Cond.methodLink RX2 141 yX5_fullPower, Cond.instanceMethod yX5_fullPower, Cond.selects RX5 yX5_fullPower yX5_fullPower, Cond.code yX5_fullPower cX5_fullPower 2 (some .int), Cond.fieldLink RX5 18 "CraneCampaign$Turbine" "rate" "I", Cond.methodLink RX5 33 Lib.Math.min.name, Cond.methodLink RX2 191 yX2_finishIfDone, Cond.instanceMethod yX2_finishIfDone, Cond.selects RX2 yX2_finishIfDone yX2_finishIfDone, Cond.code yX2_finishIfDone cX2_finishIfDone 2 none, Cond.fieldLink RX2 220 "CraneCampaign$Crane" "workDone" "I", Cond.fieldLink RX2 122 "CraneCampaign$Turbine" "age" "I", Cond.methodLink RX2 223 yX3_useBladeFor, Cond.instanceMethod yX3_useBladeFor, Cond.selects RX3 yX3_useBladeFor yX3_useBladeFor, Cond.code yX3_useBladeFor cX3_useBladeFor 3 none, Cond.methodLink RX3 38 yX3_removeAt, Cond.instanceMethod yX3_removeAt, Cond.selects RX3 yX3_removeAt yX3_removeAt, Cond.code yX3_removeAt cX3_removeAt 3 none]
def wsX2_runHours_r7 : List Cond := [Cond.methodLink RX2 128 yX4_placeOf, Cond.instanceMethod yX4_placeOf, Cond.selects RX4 yX4_placeOf yX4_placeOf, Cond.code yX4_placeOf cX4_placeOf 3 (some .int), Cond.methodLink RX2 194 yX2_worsen, Cond.instanceMethod yX2_worsen, Cond.selects RX2 yX2_worsen yX2_worsen, Cond.code yX2_worsen cX2_worsen 3 none, Cond.methodLink RX2 226 yX5_growOlder, Cond.instanceMethod yX5_growOlder, Cond.selects RX5 yX5_growOlder yX5_growOlder, Cond.code yX5_growOlder cX5_growOlder 2 none, Cond.fieldLink RX5 21 "CraneCampaign$Turbine" "fault" "I", Cond.fieldLink RX5 24 "CraneCampaign$Turbine" "age" "I"]
def wsX2_runHours : List Cond := .code yX2_runHours cX2_runHours 4 (some .int) :: ((wsX2_runHours_r1 ++ (wsX2_runHours_r2 ++ (wsX2_runHours_r3 ++ (wsX2_runHours_r4 ++ (wsX2_runHours_r5 ++ (wsX2_runHours_r6 ++ wsX2_runHours_r7)))))) ++ wsX20 ++ wsX30 ++ wsX40 ++ wsX10 ++ wsX50 ++ wsX00 ++ wsX70)
def wsX3_isFull : List Cond := .code yX3_isFull cX3_isFull 1 (some .boolean) :: ([.fieldLink RX3 18 "CraneCampaign$Harbour" "count" "I"] ++ wsX30)
def wsX3_take : List Cond := .code yX3_take cX3_take 3 none :: ([.fieldLink RX3 9 "CraneCampaign$Harbour" "turbine" "[I", .fieldLink RX3 18 "CraneCampaign$Harbour" "count" "I", .fieldLink RX3 15 "CraneCampaign$Harbour" "weight" "[I", .methodLink RX3 28 yX3_isFull, .instanceMethod yX3_isFull, .selects RX3 yX3_isFull yX3_isFull, .initialized RX3, .code yX3_isFull cX3_isFull 1 (some .boolean)] ++ wsX30)
def wsX4_countWithout : List Cond := .code yX4_countWithout cX4_countWithout 2 (some .int) :: ([.fieldLink RX4 15 "CraneCampaign$Plan" "count" "I", .methodLink RX4 25 yX4_placeOf, .instanceMethod yX4_placeOf, .selects RX4 yX4_placeOf yX4_placeOf, .initialized RX4, .code yX4_placeOf cX4_placeOf 3 (some .int), .fieldLink RX4 9 "CraneCampaign$Plan" "row" "[I"] ++ wsX40)
def wsX4_moveTo : List Cond := .code yX4_moveTo cX4_moveTo 4 none :: ([.fieldLink RX4 15 "CraneCampaign$Plan" "count" "I", .fieldLink RX4 9 "CraneCampaign$Plan" "row" "[I", .methodLink RX4 25 yX4_placeOf, .instanceMethod yX4_placeOf, .selects RX4 yX4_placeOf yX4_placeOf, .initialized RX4, .code yX4_placeOf cX4_placeOf 3 (some .int), .methodLink RX4 29 yX4_removeAt, .instanceMethod yX4_removeAt, .selects RX4 yX4_removeAt yX4_removeAt, .code yX4_removeAt cX4_removeAt 3 none] ++ wsX40)
def wsX5_bladeWeight : List Cond := .code yX5_bladeWeight cX5_bladeWeight 1 (some .int) :: ([.fieldLink RX5 15 "CraneCampaign$Turbine" "height" "I"] ++ wsX50)
def wsX6_init : List Cond := .code yX6_init cX6_init 1 none :: ([.methodLink RX6 3 objectInit, .instanceMethod objectInit, .code objectInit ⟨#[0xb1]⟩ 1 none, .arrayClass .int, .fieldLink RX6 9 "CraneCampaign$WindText" "letters" "[I", .fieldLink RX6 15 "CraneCampaign$WindText" "length" "I"] ++ wsX60)
def wsX6_isFull : List Cond := .code yX6_isFull cX6_isFull 1 (some .boolean) :: ([.fieldLink RX6 15 "CraneCampaign$WindText" "length" "I"] ++ wsX60)
def wsX6_add : List Cond := .code yX6_add cX6_add 2 none :: ([.fieldLink RX6 9 "CraneCampaign$WindText" "letters" "[I", .fieldLink RX6 15 "CraneCampaign$WindText" "length" "I", .methodLink RX6 19 yX6_isFull, .instanceMethod yX6_isFull, .selects RX6 yX6_isFull yX6_isFull, .initialized RX6, .code yX6_isFull cX6_isFull 1 (some .boolean)] ++ wsX60)
def wsX6_isNumber : List Cond := .code yX6_isNumber cX6_isNumber 1 (some .boolean) :: ([])
def wsX6_isEndOfPart : List Cond := .code yX6_isEndOfPart cX6_isEndOfPart 1 (some .boolean) :: ([.methodLink RX6 31 yX6_isNumber, .static yX6_isNumber, .initialized RX6, .code yX6_isNumber cX6_isNumber 1 (some .boolean)])
def wsX6_afterFirstOfNumber : List Cond := .code yX6_afterFirstOfNumber cX6_afterFirstOfNumber 1 (some .int) :: ([])
def wsX6_afterFirstOfTimes : List Cond := .code yX6_afterFirstOfTimes cX6_afterFirstOfTimes 1 (some .int) :: ([])
def wsX6_afterDigit : List Cond := .code yX6_afterDigit cX6_afterDigit 2 (some .int) :: ([.methodLink RX6 37 yX6_afterFirstOfNumber, .static yX6_afterFirstOfNumber, .initialized RX6, .code yX6_afterFirstOfNumber cX6_afterFirstOfNumber 1 (some .int), .methodLink RX6 41 yX6_afterFirstOfTimes, .static yX6_afterFirstOfTimes, .code yX6_afterFirstOfTimes cX6_afterFirstOfTimes 1 (some .int)])
def wsX6_after : List Cond := .code yX6_after cX6_after 2 (some .int) :: ([.methodLink RX6 27 yX6_isEndOfPart, .static yX6_isEndOfPart, .initialized RX6, .code yX6_isEndOfPart cX6_isEndOfPart 1 (some .boolean), .methodLink RX6 31 yX6_isNumber, .static yX6_isNumber, .code yX6_isNumber cX6_isNumber 1 (some .boolean), .methodLink RX6 34 yX6_afterDigit, .static yX6_afterDigit, .code yX6_afterDigit cX6_afterDigit 2 (some .int), .methodLink RX6 37 yX6_afterFirstOfNumber, .static yX6_afterFirstOfNumber, .code yX6_afterFirstOfNumber cX6_afterFirstOfNumber 1 (some .int), .methodLink RX6 41 yX6_afterFirstOfTimes, .static yX6_afterFirstOfTimes, .code yX6_afterFirstOfTimes cX6_afterFirstOfTimes 1 (some .int)])
def wsX6_errorIndex : List Cond := .code yX6_errorIndex cX6_errorIndex 3 (some .int) :: ([.fieldLink RX6 15 "CraneCampaign$WindText" "length" "I", .fieldLink RX6 9 "CraneCampaign$WindText" "letters" "[I", .methodLink RX6 23 yX6_after, .static yX6_after, .initialized RX6, .code yX6_after cX6_after 2 (some .int), .methodLink RX6 27 yX6_isEndOfPart, .static yX6_isEndOfPart, .code yX6_isEndOfPart cX6_isEndOfPart 1 (some .boolean), .methodLink RX6 31 yX6_isNumber, .static yX6_isNumber, .code yX6_isNumber cX6_isNumber 1 (some .boolean), .methodLink RX6 34 yX6_afterDigit, .static yX6_afterDigit, .code yX6_afterDigit cX6_afterDigit 2 (some .int), .methodLink RX6 37 yX6_afterFirstOfNumber, .static yX6_afterFirstOfNumber, .code yX6_afterFirstOfNumber cX6_afterFirstOfNumber 1 (some .int), .methodLink RX6 41 yX6_afterFirstOfTimes, .static yX6_afterFirstOfTimes, .code yX6_afterFirstOfTimes cX6_afterFirstOfTimes 1 (some .int)] ++ wsX60)
def wsX6_isComplete : List Cond := .code yX6_isComplete cX6_isComplete 3 (some .boolean) :: ([.fieldLink RX6 15 "CraneCampaign$WindText" "length" "I", .fieldLink RX6 9 "CraneCampaign$WindText" "letters" "[I", .methodLink RX6 23 yX6_after, .static yX6_after, .initialized RX6, .code yX6_after cX6_after 2 (some .int), .methodLink RX6 27 yX6_isEndOfPart, .static yX6_isEndOfPart, .code yX6_isEndOfPart cX6_isEndOfPart 1 (some .boolean), .methodLink RX6 31 yX6_isNumber, .static yX6_isNumber, .code yX6_isNumber cX6_isNumber 1 (some .boolean), .methodLink RX6 34 yX6_afterDigit, .static yX6_afterDigit, .code yX6_afterDigit cX6_afterDigit 2 (some .int), .methodLink RX6 37 yX6_afterFirstOfNumber, .static yX6_afterFirstOfNumber, .code yX6_afterFirstOfNumber cX6_afterFirstOfNumber 1 (some .int), .methodLink RX6 41 yX6_afterFirstOfTimes, .static yX6_afterFirstOfTimes, .code yX6_afterFirstOfTimes cX6_afterFirstOfTimes 1 (some .int)] ++ wsX60)
def wsX6_valueFrom : List Cond := .code yX6_valueFrom cX6_valueFrom 4 (some .int) :: ([.fieldLink RX6 15 "CraneCampaign$WindText" "length" "I", .fieldLink RX6 9 "CraneCampaign$WindText" "letters" "[I"] ++ wsX60)
def wsX6_timesFrom : List Cond := .code yX6_timesFrom cX6_timesFrom 3 (some .int) :: ([.fieldLink RX6 15 "CraneCampaign$WindText" "length" "I", .fieldLink RX6 9 "CraneCampaign$WindText" "letters" "[I", .methodLink RX6 52 yX6_valueFrom, .instanceMethod yX6_valueFrom, .selects RX6 yX6_valueFrom yX6_valueFrom, .initialized RX6, .code yX6_valueFrom cX6_valueFrom 4 (some .int)] ++ wsX60)
def wsX6_numberCount : List Cond := .code yX6_numberCount cX6_numberCount 3 (some .int) :: ([.fieldLink RX6 15 "CraneCampaign$WindText" "length" "I", .fieldLink RX6 9 "CraneCampaign$WindText" "letters" "[I", .methodLink RX6 44 yX6_timesFrom, .instanceMethod yX6_timesFrom, .selects RX6 yX6_timesFrom yX6_timesFrom, .initialized RX6, .code yX6_timesFrom cX6_timesFrom 3 (some .int), .methodLink RX6 52 yX6_valueFrom, .instanceMethod yX6_valueFrom, .selects RX6 yX6_valueFrom yX6_valueFrom, .code yX6_valueFrom cX6_valueFrom 4 (some .int)] ++ wsX60)
def wsX7_add : List Cond := .code yX7_add cX7_add 2 none :: ([.fieldLink RX7 15 "CraneCampaign$Winds" "count" "I", .fieldLink RX7 9 "CraneCampaign$Winds" "row" "[I"] ++ wsX70)
def wsX6_writeTo : List Cond := .code yX6_writeTo cX6_writeTo 6 none :: ([.fieldLink RX6 47 "CraneCampaign$Winds" "count" "I", .fieldLink RX6 15 "CraneCampaign$WindText" "length" "I", .fieldLink RX6 9 "CraneCampaign$WindText" "letters" "[I", .methodLink RX6 52 yX6_valueFrom, .instanceMethod yX6_valueFrom, .selects RX6 yX6_valueFrom yX6_valueFrom, .initialized RX6, .code yX6_valueFrom cX6_valueFrom 4 (some .int), .methodLink RX6 44 yX6_timesFrom, .instanceMethod yX6_timesFrom, .selects RX6 yX6_timesFrom yX6_timesFrom, .code yX6_timesFrom cX6_timesFrom 3 (some .int), .methodLink RX6 55 yX7_add, .instanceMethod yX7_add, .selects RX7 yX7_add yX7_add, .initialized RX7, .code yX7_add cX7_add 2 none, .fieldLink RX7 15 "CraneCampaign$Winds" "count" "I", .fieldLink RX7 9 "CraneCampaign$Winds" "row" "[I"] ++ wsX70 ++ wsX60)
def wsX7_sum : List Cond := .code yX7_sum cX7_sum 3 (some .int) :: ([.fieldLink RX7 15 "CraneCampaign$Winds" "count" "I", .fieldLink RX7 9 "CraneCampaign$Winds" "row" "[I"] ++ wsX70)
def wsX8_init_r1 : List Cond := [Cond.methodLink RX8 1 objectInit, Cond.instanceMethod objectInit, Cond.code objectInit ⟨#[0xb1]⟩ 1 none, Cond.classLink RX8 7 RX2, Cond.instantiable RX2 10, Cond.initialized RX2, Cond.fieldLink RX8 10 "CraneCampaign" "farm" "LCraneCampaign$Farm;", Cond.fieldLink RX8 16 "CraneCampaign" "trial" "LCraneCampaign$Farm;", Cond.fieldLink RX8 19 "CraneCampaign" "saved" "[LCraneCampaign$Farm;", Cond.fieldLink RX8 23 "CraneCampaign" "oldestSaved" "I", Cond.fieldLink RX8 27 "CraneCampaign" "savedCount" "I", Cond.classLink RX8 30 RX6, Cond.instantiable RX6 2, Cond.initialized RX6, Cond.fieldLink RX8 33 "CraneCampaign" "buffer" "LCraneCampaign$WindText;", Cond.methodLink RX8 9 yX2_init, Cond.instanceMethod yX2_init, Cond.code yX2_init cX2_init 2 none, Cond.methodLink RX2 3 objectInit, Cond.classLink RX2 9 RX5, Cond.fieldLink RX2 11 "CraneCampaign$Farm" "turbines" "[LCraneCampaign$Turbine;", Cond.fieldLink RX2 17 "CraneCampaign$Farm" "turbineCount" "I", Cond.classLink RX2 21 RX0, Cond.instantiable RX0 3]
def wsX8_init_r2 : List Cond := [Cond.initialized RX0, Cond.fieldLink RX2 24 "CraneCampaign$Farm" "bogs" "LCraneCampaign$Bogs;", Cond.classLink RX2 28 RX3, Cond.instantiable RX3 3, Cond.initialized RX3, Cond.fieldLink RX2 31 "CraneCampaign$Farm" "harbour" "LCraneCampaign$Harbour;", Cond.classLink RX2 35 RX4, Cond.instantiable RX4 2, Cond.initialized RX4, Cond.fieldLink RX2 38 "CraneCampaign$Farm" "plan" "LCraneCampaign$Plan;", Cond.classLink RX2 42 RX1, Cond.instantiable RX1 5, Cond.initialized RX1, Cond.fieldLink RX2 45 "CraneCampaign$Farm" "crane" "LCraneCampaign$Crane;", Cond.classLink RX2 49 RX7, Cond.instantiable RX7 2, Cond.initialized RX7, Cond.fieldLink RX2 52 "CraneCampaign$Farm" "winds" "LCraneCampaign$Winds;", Cond.arrayClass .int, Cond.fieldLink RX2 56 "CraneCampaign$Farm" "settings" "[I", Cond.fieldLink RX2 60 "CraneCampaign$Farm" "lostBy" "[I", Cond.fieldLink RX2 63 "CraneCampaign$Farm" "hour" "I", Cond.instantiable RX5 7, Cond.initialized RX5]
def wsX8_init_r3 : List Cond := [Cond.methodLink RX2 70 arraycopyName, Cond.native arraycopyName, Cond.static arraycopyName, Cond.initialized "java/lang/System", Cond.instanceMethod yX0_init, Cond.code yX0_init cX0_init 1 none, Cond.methodLink RX0 3 objectInit, Cond.fieldLink RX0 9 "CraneCampaign$Bogs" "place" "[I", Cond.fieldLink RX0 15 "CraneCampaign$Bogs" "need" "[I", Cond.fieldLink RX0 18 "CraneCampaign$Bogs" "count" "I", Cond.instanceMethod yX3_init, Cond.code yX3_init cX3_init 1 none, Cond.methodLink RX3 3 objectInit, Cond.fieldLink RX3 9 "CraneCampaign$Harbour" "turbine" "[I", Cond.fieldLink RX3 15 "CraneCampaign$Harbour" "weight" "[I", Cond.fieldLink RX3 18 "CraneCampaign$Harbour" "count" "I", Cond.instanceMethod yX4_init, Cond.code yX4_init cX4_init 1 none, Cond.methodLink RX4 3 objectInit, Cond.fieldLink RX4 9 "CraneCampaign$Plan" "row" "[I", Cond.fieldLink RX4 15 "CraneCampaign$Plan" "count" "I", Cond.instanceMethod yX1_init, Cond.code yX1_init cX1_init 1 none, Cond.methodLink RX1 3 objectInit]
def wsX8_init_r4 : List Cond := [Cond.fieldLink RX1 9 "CraneCampaign$Crane" "place" "I", Cond.fieldLink RX1 15 "CraneCampaign$Crane" "hoursLeft" "I", Cond.fieldLink RX1 18 "CraneCampaign$Crane" "goal" "I", Cond.fieldLink RX1 21 "CraneCampaign$Crane" "workDone" "I", Cond.fieldLink RX1 24 "CraneCampaign$Crane" "workedOn" "I", Cond.instanceMethod yX7_init, Cond.code yX7_init cX7_init 1 none, Cond.methodLink RX7 3 objectInit, Cond.fieldLink RX7 9 "CraneCampaign$Winds" "row" "[I", Cond.fieldLink RX7 15 "CraneCampaign$Winds" "count" "I", Cond.instanceMethod yX5_init, Cond.code yX5_init cX5_init 1 none, Cond.methodLink RX5 3 objectInit, Cond.instanceMethod yX6_init, Cond.code yX6_init cX6_init 1 none, Cond.methodLink RX6 3 objectInit, Cond.fieldLink RX6 9 "CraneCampaign$WindText" "letters" "[I", Cond.fieldLink RX6 15 "CraneCampaign$WindText" "length" "I"]
def wsX8_init : List Cond := .code yX8_init cX8_init 2 none :: ((wsX8_init_r1 ++ (wsX8_init_r2 ++ (wsX8_init_r3 ++ wsX8_init_r4))) ++ wsX20 ++ wsX80 ++ wsX60 ++ wsX00 ++ wsX30 ++ wsX40 ++ wsX10 ++ wsX70 ++ wsX50)
def wsX8_isWithin : List Cond := .code yX8_isWithin cX8_isWithin 3 (some .boolean) :: ([])
def wsX8_saveState_r1 : List Cond := [Cond.fieldLink RX8 19 "CraneCampaign" "saved" "[LCraneCampaign$Farm;", Cond.fieldLink RX8 23 "CraneCampaign" "oldestSaved" "I", Cond.fieldLink RX8 27 "CraneCampaign" "savedCount" "I", Cond.fieldLink RX8 10 "CraneCampaign" "farm" "LCraneCampaign$Farm;", Cond.methodLink RX8 215 yX2_copyFrom, Cond.instanceMethod yX2_copyFrom, Cond.selects RX2 yX2_copyFrom yX2_copyFrom, Cond.initialized RX2, Cond.code yX2_copyFrom cX2_copyFrom 3 none, Cond.fieldLink RX2 17 "CraneCampaign$Farm" "turbineCount" "I", Cond.fieldLink RX2 11 "CraneCampaign$Farm" "turbines" "[LCraneCampaign$Turbine;", Cond.fieldLink RX2 24 "CraneCampaign$Farm" "bogs" "LCraneCampaign$Bogs;", Cond.fieldLink RX2 31 "CraneCampaign$Farm" "harbour" "LCraneCampaign$Harbour;", Cond.fieldLink RX2 38 "CraneCampaign$Farm" "plan" "LCraneCampaign$Plan;", Cond.fieldLink RX2 45 "CraneCampaign$Farm" "crane" "LCraneCampaign$Crane;", Cond.fieldLink RX2 52 "CraneCampaign$Farm" "winds" "LCraneCampaign$Winds;", Cond.fieldLink RX2 56 "CraneCampaign$Farm" "settings" "[I", Cond.methodLink RX2 70 arraycopyName, Cond.native arraycopyName, Cond.static arraycopyName, Cond.initialized "java/lang/System", Cond.fieldLink RX2 60 "CraneCampaign$Farm" "lostBy" "[I", Cond.fieldLink RX2 63 "CraneCampaign$Farm" "hour" "I", Cond.methodLink RX2 76 yX5_copyFrom]
def wsX8_saveState_r2 : List Cond := [Cond.instanceMethod yX5_copyFrom, Cond.selects RX5 yX5_copyFrom yX5_copyFrom, Cond.initialized RX5, Cond.code yX5_copyFrom cX5_copyFrom 2 none, Cond.fieldLink RX5 9 "CraneCampaign$Turbine" "place" "I", Cond.fieldLink RX5 15 "CraneCampaign$Turbine" "height" "I", Cond.fieldLink RX5 18 "CraneCampaign$Turbine" "rate" "I", Cond.fieldLink RX5 21 "CraneCampaign$Turbine" "fault" "I", Cond.fieldLink RX5 24 "CraneCampaign$Turbine" "age" "I", Cond.fieldLink RX5 27 "CraneCampaign$Turbine" "lost" "I", Cond.fieldLink RX5 30 "CraneCampaign$Turbine" "won" "I", Cond.methodLink RX2 80 yX0_copyFrom, Cond.instanceMethod yX0_copyFrom, Cond.selects RX0 yX0_copyFrom yX0_copyFrom, Cond.initialized RX0, Cond.code yX0_copyFrom cX0_copyFrom 2 none, Cond.fieldLink RX0 9 "CraneCampaign$Bogs" "place" "[I", Cond.methodLink RX0 22 arraycopyName, Cond.fieldLink RX0 15 "CraneCampaign$Bogs" "need" "[I", Cond.fieldLink RX0 18 "CraneCampaign$Bogs" "count" "I", Cond.methodLink RX2 83 yX3_copyFrom, Cond.instanceMethod yX3_copyFrom, Cond.selects RX3 yX3_copyFrom yX3_copyFrom, Cond.initialized RX3]
def wsX8_saveState_r3 : List Cond := [Cond.code yX3_copyFrom cX3_copyFrom 2 none, Cond.fieldLink RX3 9 "CraneCampaign$Harbour" "turbine" "[I", Cond.methodLink RX3 22 arraycopyName, Cond.fieldLink RX3 15 "CraneCampaign$Harbour" "weight" "[I", Cond.fieldLink RX3 18 "CraneCampaign$Harbour" "count" "I", Cond.methodLink RX2 86 yX4_copyFrom, Cond.instanceMethod yX4_copyFrom, Cond.selects RX4 yX4_copyFrom yX4_copyFrom, Cond.initialized RX4, Cond.code yX4_copyFrom cX4_copyFrom 2 none, Cond.fieldLink RX4 9 "CraneCampaign$Plan" "row" "[I", Cond.methodLink RX4 19 arraycopyName, Cond.fieldLink RX4 15 "CraneCampaign$Plan" "count" "I", Cond.methodLink RX2 89 yX1_copyFrom, Cond.instanceMethod yX1_copyFrom, Cond.selects RX1 yX1_copyFrom yX1_copyFrom, Cond.initialized RX1, Cond.code yX1_copyFrom cX1_copyFrom 2 none, Cond.fieldLink RX1 9 "CraneCampaign$Crane" "place" "I", Cond.fieldLink RX1 15 "CraneCampaign$Crane" "hoursLeft" "I", Cond.fieldLink RX1 18 "CraneCampaign$Crane" "goal" "I", Cond.fieldLink RX1 21 "CraneCampaign$Crane" "workDone" "I", Cond.fieldLink RX1 24 "CraneCampaign$Crane" "workedOn" "I", Cond.methodLink RX2 92 yX7_copyFrom]
def wsX8_saveState_r4 : List Cond := [Cond.instanceMethod yX7_copyFrom, Cond.selects RX7 yX7_copyFrom yX7_copyFrom, Cond.initialized RX7, Cond.code yX7_copyFrom cX7_copyFrom 2 none, Cond.fieldLink RX7 9 "CraneCampaign$Winds" "row" "[I", Cond.methodLink RX7 19 arraycopyName, Cond.fieldLink RX7 15 "CraneCampaign$Winds" "count" "I"]
def wsX8_saveState : List Cond := .code yX8_saveState cX8_saveState 1 none :: ((wsX8_saveState_r1 ++ (wsX8_saveState_r2 ++ (wsX8_saveState_r3 ++ wsX8_saveState_r4))) ++ wsX80 ++ wsX20 ++ wsX50 ++ wsX00 ++ wsX30 ++ wsX40 ++ wsX10 ++ wsX70)
def wsX8_addTurbine_r1 : List Cond := [Cond.classLink RX8 41 "java/lang/IllegalArgumentException", Cond.initialized "java/lang/IllegalArgumentException", Cond.classLink RX8 55 "java/lang/IllegalStateException", Cond.initialized "java/lang/IllegalStateException", Cond.fieldLink RX8 10 "CraneCampaign" "farm" "LCraneCampaign$Farm;", Cond.fieldLink RX8 48 "CraneCampaign$Farm" "turbineCount" "I", Cond.methodLink RX8 37 yX8_isWithin, Cond.static yX8_isWithin, Cond.initialized RX8, Cond.code yX8_isWithin cX8_isWithin 3 (some .boolean), Cond.methodLink RX8 51 yX2_hasTurbineAt, Cond.instanceMethod yX2_hasTurbineAt, Cond.selects RX2 yX2_hasTurbineAt yX2_hasTurbineAt, Cond.initialized RX2, Cond.code yX2_hasTurbineAt cX2_hasTurbineAt 3 (some .boolean), Cond.fieldLink RX2 17 "CraneCampaign$Farm" "turbineCount" "I", Cond.fieldLink RX2 11 "CraneCampaign$Farm" "turbines" "[LCraneCampaign$Turbine;", Cond.fieldLink RX2 95 "CraneCampaign$Turbine" "place" "I", Cond.methodLink RX8 60 yX8_saveState, Cond.instanceMethod yX8_saveState, Cond.selects RX8 yX8_saveState yX8_saveState, Cond.code yX8_saveState cX8_saveState 1 none, Cond.fieldLink RX8 19 "CraneCampaign" "saved" "[LCraneCampaign$Farm;", Cond.fieldLink RX8 23 "CraneCampaign" "oldestSaved" "I"]
def wsX8_addTurbine_r2 : List Cond := [Cond.fieldLink RX8 27 "CraneCampaign" "savedCount" "I", Cond.methodLink RX8 215 yX2_copyFrom, Cond.instanceMethod yX2_copyFrom, Cond.selects RX2 yX2_copyFrom yX2_copyFrom, Cond.code yX2_copyFrom cX2_copyFrom 3 none, Cond.fieldLink RX2 24 "CraneCampaign$Farm" "bogs" "LCraneCampaign$Bogs;", Cond.fieldLink RX2 31 "CraneCampaign$Farm" "harbour" "LCraneCampaign$Harbour;", Cond.fieldLink RX2 38 "CraneCampaign$Farm" "plan" "LCraneCampaign$Plan;", Cond.fieldLink RX2 45 "CraneCampaign$Farm" "crane" "LCraneCampaign$Crane;", Cond.fieldLink RX2 52 "CraneCampaign$Farm" "winds" "LCraneCampaign$Winds;", Cond.fieldLink RX2 56 "CraneCampaign$Farm" "settings" "[I", Cond.methodLink RX2 70 arraycopyName, Cond.native arraycopyName, Cond.static arraycopyName, Cond.initialized "java/lang/System", Cond.fieldLink RX2 60 "CraneCampaign$Farm" "lostBy" "[I", Cond.fieldLink RX2 63 "CraneCampaign$Farm" "hour" "I", Cond.methodLink RX2 76 yX5_copyFrom, Cond.instanceMethod yX5_copyFrom, Cond.selects RX5 yX5_copyFrom yX5_copyFrom, Cond.initialized RX5, Cond.code yX5_copyFrom cX5_copyFrom 2 none, Cond.fieldLink RX5 9 "CraneCampaign$Turbine" "place" "I", Cond.fieldLink RX5 15 "CraneCampaign$Turbine" "height" "I"]
def wsX8_addTurbine_r3 : List Cond := [Cond.fieldLink RX5 18 "CraneCampaign$Turbine" "rate" "I", Cond.fieldLink RX5 21 "CraneCampaign$Turbine" "fault" "I", Cond.fieldLink RX5 24 "CraneCampaign$Turbine" "age" "I", Cond.fieldLink RX5 27 "CraneCampaign$Turbine" "lost" "I", Cond.fieldLink RX5 30 "CraneCampaign$Turbine" "won" "I", Cond.methodLink RX2 80 yX0_copyFrom, Cond.instanceMethod yX0_copyFrom, Cond.selects RX0 yX0_copyFrom yX0_copyFrom, Cond.initialized RX0, Cond.code yX0_copyFrom cX0_copyFrom 2 none, Cond.fieldLink RX0 9 "CraneCampaign$Bogs" "place" "[I", Cond.methodLink RX0 22 arraycopyName, Cond.fieldLink RX0 15 "CraneCampaign$Bogs" "need" "[I", Cond.fieldLink RX0 18 "CraneCampaign$Bogs" "count" "I", Cond.methodLink RX2 83 yX3_copyFrom, Cond.instanceMethod yX3_copyFrom, Cond.selects RX3 yX3_copyFrom yX3_copyFrom, Cond.initialized RX3, Cond.code yX3_copyFrom cX3_copyFrom 2 none, Cond.fieldLink RX3 9 "CraneCampaign$Harbour" "turbine" "[I", Cond.methodLink RX3 22 arraycopyName, Cond.fieldLink RX3 15 "CraneCampaign$Harbour" "weight" "[I", Cond.fieldLink RX3 18 "CraneCampaign$Harbour" "count" "I", Cond.methodLink RX2 86 yX4_copyFrom]
def wsX8_addTurbine_r4 : List Cond := [Cond.instanceMethod yX4_copyFrom, Cond.selects RX4 yX4_copyFrom yX4_copyFrom, Cond.initialized RX4, Cond.code yX4_copyFrom cX4_copyFrom 2 none, Cond.fieldLink RX4 9 "CraneCampaign$Plan" "row" "[I", Cond.methodLink RX4 19 arraycopyName, Cond.fieldLink RX4 15 "CraneCampaign$Plan" "count" "I", Cond.methodLink RX2 89 yX1_copyFrom, Cond.instanceMethod yX1_copyFrom, Cond.selects RX1 yX1_copyFrom yX1_copyFrom, Cond.initialized RX1, Cond.code yX1_copyFrom cX1_copyFrom 2 none, Cond.fieldLink RX1 9 "CraneCampaign$Crane" "place" "I", Cond.fieldLink RX1 15 "CraneCampaign$Crane" "hoursLeft" "I", Cond.fieldLink RX1 18 "CraneCampaign$Crane" "goal" "I", Cond.fieldLink RX1 21 "CraneCampaign$Crane" "workDone" "I", Cond.fieldLink RX1 24 "CraneCampaign$Crane" "workedOn" "I", Cond.methodLink RX2 92 yX7_copyFrom, Cond.instanceMethod yX7_copyFrom, Cond.selects RX7 yX7_copyFrom yX7_copyFrom, Cond.initialized RX7, Cond.code yX7_copyFrom cX7_copyFrom 2 none, Cond.fieldLink RX7 9 "CraneCampaign$Winds" "row" "[I", Cond.methodLink RX7 19 arraycopyName]
def wsX8_addTurbine_r5 : List Cond := [Cond.fieldLink RX7 15 "CraneCampaign$Winds" "count" "I", Cond.methodLink RX8 63 yX2_buildTurbine, Cond.instanceMethod yX2_buildTurbine, Cond.selects RX2 yX2_buildTurbine yX2_buildTurbine, Cond.code yX2_buildTurbine cX2_buildTurbine 4 (some .int), Cond.methodLink RX2 98 yX5_begin, Cond.instanceMethod yX5_begin, Cond.selects RX5 yX5_begin yX5_begin, Cond.code yX5_begin cX5_begin 4 none]
def wsX8_addTurbine : List Cond := .code yX8_addTurbine cX8_addTurbine 4 (some .int) :: ((wsX8_addTurbine_r1 ++ (wsX8_addTurbine_r2 ++ (wsX8_addTurbine_r3 ++ (wsX8_addTurbine_r4 ++ wsX8_addTurbine_r5)))) ++ wsX80 ++ wsX20 ++ wsX50 ++ wsX00 ++ wsX30 ++ wsX40 ++ wsX10 ++ wsX70 ++ (vx_atS RX8 45 "java/lang/IllegalArgumentException" ["java/lang/RuntimeException", "java/lang/Exception"]).filter goodWord ++ (vx_atS RX8 59 "java/lang/IllegalStateException" ["java/lang/RuntimeException", "java/lang/Exception"]).filter goodWord)
def wsX8_requireTurbine : List Cond := .code yX8_requireTurbine cX8_requireTurbine 2 none :: ([.classLink RX8 134 "java/lang/IndexOutOfBoundsException", .initialized "java/lang/IndexOutOfBoundsException", .fieldLink RX8 10 "CraneCampaign" "farm" "LCraneCampaign$Farm;", .methodLink RX8 319 yX2_hasTurbine, .instanceMethod yX2_hasTurbine, .selects RX2 yX2_hasTurbine yX2_hasTurbine, .initialized RX2, .code yX2_hasTurbine cX2_hasTurbine 2 (some .boolean), .fieldLink RX2 17 "CraneCampaign$Farm" "turbineCount" "I"] ++ wsX80 ++ wsX20 ++ (vx_atS RX8 138 "java/lang/IndexOutOfBoundsException" ["java/lang/RuntimeException", "java/lang/Exception"]).filter goodWord)
def wsX8_setFault_r1 : List Cond := [Cond.classLink RX8 41 "java/lang/IllegalArgumentException", Cond.initialized "java/lang/IllegalArgumentException", Cond.fieldLink RX8 10 "CraneCampaign" "farm" "LCraneCampaign$Farm;", Cond.fieldLink RX8 73 "CraneCampaign$Farm" "turbines" "[LCraneCampaign$Turbine;", Cond.fieldLink RX8 77 "CraneCampaign$Turbine" "fault" "I", Cond.fieldLink RX8 82 "CraneCampaign$Turbine" "age" "I", Cond.methodLink RX8 67 yX8_requireTurbine, Cond.instanceMethod yX8_requireTurbine, Cond.selects RX8 yX8_requireTurbine yX8_requireTurbine, Cond.initialized RX8, Cond.code yX8_requireTurbine cX8_requireTurbine 2 none, Cond.classLink RX8 134 "java/lang/IndexOutOfBoundsException", Cond.initialized "java/lang/IndexOutOfBoundsException", Cond.methodLink RX8 319 yX2_hasTurbine, Cond.instanceMethod yX2_hasTurbine, Cond.selects RX2 yX2_hasTurbine yX2_hasTurbine, Cond.initialized RX2, Cond.code yX2_hasTurbine cX2_hasTurbine 2 (some .boolean), Cond.fieldLink RX2 17 "CraneCampaign$Farm" "turbineCount" "I", Cond.methodLink RX8 37 yX8_isWithin, Cond.static yX8_isWithin, Cond.code yX8_isWithin cX8_isWithin 3 (some .boolean), Cond.methodLink RX8 60 yX8_saveState, Cond.instanceMethod yX8_saveState]
def wsX8_setFault_r2 : List Cond := [Cond.selects RX8 yX8_saveState yX8_saveState, Cond.code yX8_saveState cX8_saveState 1 none, Cond.fieldLink RX8 19 "CraneCampaign" "saved" "[LCraneCampaign$Farm;", Cond.fieldLink RX8 23 "CraneCampaign" "oldestSaved" "I", Cond.fieldLink RX8 27 "CraneCampaign" "savedCount" "I", Cond.methodLink RX8 215 yX2_copyFrom, Cond.instanceMethod yX2_copyFrom, Cond.selects RX2 yX2_copyFrom yX2_copyFrom, Cond.code yX2_copyFrom cX2_copyFrom 3 none, Cond.fieldLink RX2 11 "CraneCampaign$Farm" "turbines" "[LCraneCampaign$Turbine;", Cond.fieldLink RX2 24 "CraneCampaign$Farm" "bogs" "LCraneCampaign$Bogs;", Cond.fieldLink RX2 31 "CraneCampaign$Farm" "harbour" "LCraneCampaign$Harbour;", Cond.fieldLink RX2 38 "CraneCampaign$Farm" "plan" "LCraneCampaign$Plan;", Cond.fieldLink RX2 45 "CraneCampaign$Farm" "crane" "LCraneCampaign$Crane;", Cond.fieldLink RX2 52 "CraneCampaign$Farm" "winds" "LCraneCampaign$Winds;", Cond.fieldLink RX2 56 "CraneCampaign$Farm" "settings" "[I", Cond.methodLink RX2 70 arraycopyName, Cond.native arraycopyName, Cond.static arraycopyName, Cond.initialized "java/lang/System", Cond.fieldLink RX2 60 "CraneCampaign$Farm" "lostBy" "[I", Cond.fieldLink RX2 63 "CraneCampaign$Farm" "hour" "I", Cond.methodLink RX2 76 yX5_copyFrom, Cond.instanceMethod yX5_copyFrom]
def wsX8_setFault_r3 : List Cond := [Cond.selects RX5 yX5_copyFrom yX5_copyFrom, Cond.initialized RX5, Cond.code yX5_copyFrom cX5_copyFrom 2 none, Cond.fieldLink RX5 9 "CraneCampaign$Turbine" "place" "I", Cond.fieldLink RX5 15 "CraneCampaign$Turbine" "height" "I", Cond.fieldLink RX5 18 "CraneCampaign$Turbine" "rate" "I", Cond.fieldLink RX5 21 "CraneCampaign$Turbine" "fault" "I", Cond.fieldLink RX5 24 "CraneCampaign$Turbine" "age" "I", Cond.fieldLink RX5 27 "CraneCampaign$Turbine" "lost" "I", Cond.fieldLink RX5 30 "CraneCampaign$Turbine" "won" "I", Cond.methodLink RX2 80 yX0_copyFrom, Cond.instanceMethod yX0_copyFrom, Cond.selects RX0 yX0_copyFrom yX0_copyFrom, Cond.initialized RX0, Cond.code yX0_copyFrom cX0_copyFrom 2 none, Cond.fieldLink RX0 9 "CraneCampaign$Bogs" "place" "[I", Cond.methodLink RX0 22 arraycopyName, Cond.fieldLink RX0 15 "CraneCampaign$Bogs" "need" "[I", Cond.fieldLink RX0 18 "CraneCampaign$Bogs" "count" "I", Cond.methodLink RX2 83 yX3_copyFrom, Cond.instanceMethod yX3_copyFrom, Cond.selects RX3 yX3_copyFrom yX3_copyFrom, Cond.initialized RX3, Cond.code yX3_copyFrom cX3_copyFrom 2 none]
def wsX8_setFault_r4 : List Cond := [Cond.fieldLink RX3 9 "CraneCampaign$Harbour" "turbine" "[I", Cond.methodLink RX3 22 arraycopyName, Cond.fieldLink RX3 15 "CraneCampaign$Harbour" "weight" "[I", Cond.fieldLink RX3 18 "CraneCampaign$Harbour" "count" "I", Cond.methodLink RX2 86 yX4_copyFrom, Cond.instanceMethod yX4_copyFrom, Cond.selects RX4 yX4_copyFrom yX4_copyFrom, Cond.initialized RX4, Cond.code yX4_copyFrom cX4_copyFrom 2 none, Cond.fieldLink RX4 9 "CraneCampaign$Plan" "row" "[I", Cond.methodLink RX4 19 arraycopyName, Cond.fieldLink RX4 15 "CraneCampaign$Plan" "count" "I", Cond.methodLink RX2 89 yX1_copyFrom, Cond.instanceMethod yX1_copyFrom, Cond.selects RX1 yX1_copyFrom yX1_copyFrom, Cond.initialized RX1, Cond.code yX1_copyFrom cX1_copyFrom 2 none, Cond.fieldLink RX1 9 "CraneCampaign$Crane" "place" "I", Cond.fieldLink RX1 15 "CraneCampaign$Crane" "hoursLeft" "I", Cond.fieldLink RX1 18 "CraneCampaign$Crane" "goal" "I", Cond.fieldLink RX1 21 "CraneCampaign$Crane" "workDone" "I", Cond.fieldLink RX1 24 "CraneCampaign$Crane" "workedOn" "I", Cond.methodLink RX2 92 yX7_copyFrom, Cond.instanceMethod yX7_copyFrom]
def wsX8_setFault_r5 : List Cond := [Cond.selects RX7 yX7_copyFrom yX7_copyFrom, Cond.initialized RX7, Cond.code yX7_copyFrom cX7_copyFrom 2 none, Cond.fieldLink RX7 9 "CraneCampaign$Winds" "row" "[I", Cond.methodLink RX7 19 arraycopyName, Cond.fieldLink RX7 15 "CraneCampaign$Winds" "count" "I"]
def wsX8_setFault : List Cond := .code yX8_setFault cX8_setFault 5 (some .int) :: ((wsX8_setFault_r1 ++ (wsX8_setFault_r2 ++ (wsX8_setFault_r3 ++ (wsX8_setFault_r4 ++ wsX8_setFault_r5)))) ++ wsX80 ++ wsX20 ++ wsX50 ++ wsX00 ++ wsX30 ++ wsX40 ++ wsX10 ++ wsX70 ++ (vx_atS RX8 45 "java/lang/IllegalArgumentException" ["java/lang/RuntimeException", "java/lang/Exception"]).filter goodWord ++ (vx_atS RX8 138 "java/lang/IndexOutOfBoundsException" ["java/lang/RuntimeException", "java/lang/Exception"]).filter goodWord)
def wsX8_setBog_r1 : List Cond := [Cond.classLink RX8 41 "java/lang/IllegalArgumentException", Cond.initialized "java/lang/IllegalArgumentException", Cond.classLink RX8 55 "java/lang/IllegalStateException", Cond.initialized "java/lang/IllegalStateException", Cond.fieldLink RX8 10 "CraneCampaign" "farm" "LCraneCampaign$Farm;", Cond.fieldLink RX8 87 "CraneCampaign$Farm" "bogs" "LCraneCampaign$Bogs;", Cond.fieldLink RX8 107 "CraneCampaign$Bogs" "count" "I", Cond.methodLink RX8 37 yX8_isWithin, Cond.static yX8_isWithin, Cond.initialized RX8, Cond.code yX8_isWithin cX8_isWithin 3 (some .boolean), Cond.methodLink RX8 91 yX0_isFull, Cond.instanceMethod yX0_isFull, Cond.selects RX0 yX0_isFull yX0_isFull, Cond.initialized RX0, Cond.code yX0_isFull cX0_isFull 1 (some .boolean), Cond.fieldLink RX0 18 "CraneCampaign$Bogs" "count" "I", Cond.methodLink RX8 97 yX0_indexAt, Cond.instanceMethod yX0_indexAt, Cond.selects RX0 yX0_indexAt yX0_indexAt, Cond.code yX0_indexAt cX0_indexAt 3 (some .int), Cond.fieldLink RX0 9 "CraneCampaign$Bogs" "place" "[I", Cond.methodLink RX8 60 yX8_saveState, Cond.instanceMethod yX8_saveState]
def wsX8_setBog_r2 : List Cond := [Cond.selects RX8 yX8_saveState yX8_saveState, Cond.code yX8_saveState cX8_saveState 1 none, Cond.fieldLink RX8 19 "CraneCampaign" "saved" "[LCraneCampaign$Farm;", Cond.fieldLink RX8 23 "CraneCampaign" "oldestSaved" "I", Cond.fieldLink RX8 27 "CraneCampaign" "savedCount" "I", Cond.methodLink RX8 215 yX2_copyFrom, Cond.instanceMethod yX2_copyFrom, Cond.selects RX2 yX2_copyFrom yX2_copyFrom, Cond.initialized RX2, Cond.code yX2_copyFrom cX2_copyFrom 3 none, Cond.fieldLink RX2 17 "CraneCampaign$Farm" "turbineCount" "I", Cond.fieldLink RX2 11 "CraneCampaign$Farm" "turbines" "[LCraneCampaign$Turbine;", Cond.fieldLink RX2 24 "CraneCampaign$Farm" "bogs" "LCraneCampaign$Bogs;", Cond.fieldLink RX2 31 "CraneCampaign$Farm" "harbour" "LCraneCampaign$Harbour;", Cond.fieldLink RX2 38 "CraneCampaign$Farm" "plan" "LCraneCampaign$Plan;", Cond.fieldLink RX2 45 "CraneCampaign$Farm" "crane" "LCraneCampaign$Crane;", Cond.fieldLink RX2 52 "CraneCampaign$Farm" "winds" "LCraneCampaign$Winds;", Cond.fieldLink RX2 56 "CraneCampaign$Farm" "settings" "[I", Cond.methodLink RX2 70 arraycopyName, Cond.native arraycopyName, Cond.static arraycopyName, Cond.initialized "java/lang/System", Cond.fieldLink RX2 60 "CraneCampaign$Farm" "lostBy" "[I", Cond.fieldLink RX2 63 "CraneCampaign$Farm" "hour" "I"]
def wsX8_setBog_r3 : List Cond := [Cond.methodLink RX2 76 yX5_copyFrom, Cond.instanceMethod yX5_copyFrom, Cond.selects RX5 yX5_copyFrom yX5_copyFrom, Cond.initialized RX5, Cond.code yX5_copyFrom cX5_copyFrom 2 none, Cond.fieldLink RX5 9 "CraneCampaign$Turbine" "place" "I", Cond.fieldLink RX5 15 "CraneCampaign$Turbine" "height" "I", Cond.fieldLink RX5 18 "CraneCampaign$Turbine" "rate" "I", Cond.fieldLink RX5 21 "CraneCampaign$Turbine" "fault" "I", Cond.fieldLink RX5 24 "CraneCampaign$Turbine" "age" "I", Cond.fieldLink RX5 27 "CraneCampaign$Turbine" "lost" "I", Cond.fieldLink RX5 30 "CraneCampaign$Turbine" "won" "I", Cond.methodLink RX2 80 yX0_copyFrom, Cond.instanceMethod yX0_copyFrom, Cond.selects RX0 yX0_copyFrom yX0_copyFrom, Cond.code yX0_copyFrom cX0_copyFrom 2 none, Cond.methodLink RX0 22 arraycopyName, Cond.fieldLink RX0 15 "CraneCampaign$Bogs" "need" "[I", Cond.methodLink RX2 83 yX3_copyFrom, Cond.instanceMethod yX3_copyFrom, Cond.selects RX3 yX3_copyFrom yX3_copyFrom, Cond.initialized RX3, Cond.code yX3_copyFrom cX3_copyFrom 2 none, Cond.fieldLink RX3 9 "CraneCampaign$Harbour" "turbine" "[I"]
def wsX8_setBog_r4 : List Cond := [Cond.methodLink RX3 22 arraycopyName, Cond.fieldLink RX3 15 "CraneCampaign$Harbour" "weight" "[I", Cond.fieldLink RX3 18 "CraneCampaign$Harbour" "count" "I", Cond.methodLink RX2 86 yX4_copyFrom, Cond.instanceMethod yX4_copyFrom, Cond.selects RX4 yX4_copyFrom yX4_copyFrom, Cond.initialized RX4, Cond.code yX4_copyFrom cX4_copyFrom 2 none, Cond.fieldLink RX4 9 "CraneCampaign$Plan" "row" "[I", Cond.methodLink RX4 19 arraycopyName, Cond.fieldLink RX4 15 "CraneCampaign$Plan" "count" "I", Cond.methodLink RX2 89 yX1_copyFrom, Cond.instanceMethod yX1_copyFrom, Cond.selects RX1 yX1_copyFrom yX1_copyFrom, Cond.initialized RX1, Cond.code yX1_copyFrom cX1_copyFrom 2 none, Cond.fieldLink RX1 9 "CraneCampaign$Crane" "place" "I", Cond.fieldLink RX1 15 "CraneCampaign$Crane" "hoursLeft" "I", Cond.fieldLink RX1 18 "CraneCampaign$Crane" "goal" "I", Cond.fieldLink RX1 21 "CraneCampaign$Crane" "workDone" "I", Cond.fieldLink RX1 24 "CraneCampaign$Crane" "workedOn" "I", Cond.methodLink RX2 92 yX7_copyFrom, Cond.instanceMethod yX7_copyFrom, Cond.selects RX7 yX7_copyFrom yX7_copyFrom]
def wsX8_setBog_r5 : List Cond := [Cond.initialized RX7, Cond.code yX7_copyFrom cX7_copyFrom 2 none, Cond.fieldLink RX7 9 "CraneCampaign$Winds" "row" "[I", Cond.methodLink RX7 19 arraycopyName, Cond.fieldLink RX7 15 "CraneCampaign$Winds" "count" "I", Cond.methodLink RX8 103 yX0_put, Cond.instanceMethod yX0_put, Cond.selects RX0 yX0_put yX0_put, Cond.code yX0_put cX0_put 4 none, Cond.methodLink RX0 28 yX0_indexAt, Cond.methodLink RX0 32 yX0_removeAt, Cond.instanceMethod yX0_removeAt, Cond.selects RX0 yX0_removeAt yX0_removeAt, Cond.code yX0_removeAt cX0_removeAt 3 none, Cond.methodLink RX0 36 yX0_insert, Cond.instanceMethod yX0_insert, Cond.selects RX0 yX0_insert yX0_insert, Cond.code yX0_insert cX0_insert 5 none, Cond.methodLink RX0 40 yX0_isFull]
def wsX8_setBog : List Cond := .code yX8_setBog cX8_setBog 3 (some .int) :: ((wsX8_setBog_r1 ++ (wsX8_setBog_r2 ++ (wsX8_setBog_r3 ++ (wsX8_setBog_r4 ++ wsX8_setBog_r5)))) ++ wsX80 ++ wsX20 ++ wsX00 ++ wsX50 ++ wsX30 ++ wsX40 ++ wsX10 ++ wsX70 ++ (vx_atS RX8 45 "java/lang/IllegalArgumentException" ["java/lang/RuntimeException", "java/lang/Exception"]).filter goodWord ++ (vx_atS RX8 59 "java/lang/IllegalStateException" ["java/lang/RuntimeException", "java/lang/Exception"]).filter goodWord)
def wsX8_requireSetting : List Cond := .code yX8_requireSetting cX8_requireSetting 1 none :: ([.classLink RX8 134 "java/lang/IndexOutOfBoundsException", .initialized "java/lang/IndexOutOfBoundsException", .methodLink RX8 37 yX8_isWithin, .static yX8_isWithin, .initialized RX8, .code yX8_isWithin cX8_isWithin 3 (some .boolean)] ++ (vx_atS RX8 138 "java/lang/IndexOutOfBoundsException" ["java/lang/RuntimeException", "java/lang/Exception"]).filter goodWord)
def wsX8_set_r1 : List Cond := [Cond.classLink RX8 41 "java/lang/IllegalArgumentException", Cond.initialized "java/lang/IllegalArgumentException", Cond.fieldLink RX8 113 "CraneCampaign" "SETTING_LOWEST" "[I", Cond.fieldLink RX8 117 "CraneCampaign" "SETTING_HIGHEST" "[I", Cond.fieldLink RX8 10 "CraneCampaign" "farm" "LCraneCampaign$Farm;", Cond.fieldLink RX8 122 "CraneCampaign$Farm" "settings" "[I", Cond.methodLink RX8 110 yX8_requireSetting, Cond.static yX8_requireSetting, Cond.initialized RX8, Cond.code yX8_requireSetting cX8_requireSetting 1 none, Cond.classLink RX8 134 "java/lang/IndexOutOfBoundsException", Cond.initialized "java/lang/IndexOutOfBoundsException", Cond.methodLink RX8 37 yX8_isWithin, Cond.static yX8_isWithin, Cond.code yX8_isWithin cX8_isWithin 3 (some .boolean), Cond.methodLink RX8 60 yX8_saveState, Cond.instanceMethod yX8_saveState, Cond.selects RX8 yX8_saveState yX8_saveState, Cond.code yX8_saveState cX8_saveState 1 none, Cond.fieldLink RX8 19 "CraneCampaign" "saved" "[LCraneCampaign$Farm;", Cond.fieldLink RX8 23 "CraneCampaign" "oldestSaved" "I", Cond.fieldLink RX8 27 "CraneCampaign" "savedCount" "I", Cond.methodLink RX8 215 yX2_copyFrom, Cond.instanceMethod yX2_copyFrom]
def wsX8_set_r2 : List Cond := [Cond.selects RX2 yX2_copyFrom yX2_copyFrom, Cond.initialized RX2, Cond.code yX2_copyFrom cX2_copyFrom 3 none, Cond.fieldLink RX2 17 "CraneCampaign$Farm" "turbineCount" "I", Cond.fieldLink RX2 11 "CraneCampaign$Farm" "turbines" "[LCraneCampaign$Turbine;", Cond.fieldLink RX2 24 "CraneCampaign$Farm" "bogs" "LCraneCampaign$Bogs;", Cond.fieldLink RX2 31 "CraneCampaign$Farm" "harbour" "LCraneCampaign$Harbour;", Cond.fieldLink RX2 38 "CraneCampaign$Farm" "plan" "LCraneCampaign$Plan;", Cond.fieldLink RX2 45 "CraneCampaign$Farm" "crane" "LCraneCampaign$Crane;", Cond.fieldLink RX2 52 "CraneCampaign$Farm" "winds" "LCraneCampaign$Winds;", Cond.fieldLink RX2 56 "CraneCampaign$Farm" "settings" "[I", Cond.methodLink RX2 70 arraycopyName, Cond.native arraycopyName, Cond.static arraycopyName, Cond.initialized "java/lang/System", Cond.fieldLink RX2 60 "CraneCampaign$Farm" "lostBy" "[I", Cond.fieldLink RX2 63 "CraneCampaign$Farm" "hour" "I", Cond.methodLink RX2 76 yX5_copyFrom, Cond.instanceMethod yX5_copyFrom, Cond.selects RX5 yX5_copyFrom yX5_copyFrom, Cond.initialized RX5, Cond.code yX5_copyFrom cX5_copyFrom 2 none, Cond.fieldLink RX5 9 "CraneCampaign$Turbine" "place" "I", Cond.fieldLink RX5 15 "CraneCampaign$Turbine" "height" "I"]
def wsX8_set_r3 : List Cond := [Cond.fieldLink RX5 18 "CraneCampaign$Turbine" "rate" "I", Cond.fieldLink RX5 21 "CraneCampaign$Turbine" "fault" "I", Cond.fieldLink RX5 24 "CraneCampaign$Turbine" "age" "I", Cond.fieldLink RX5 27 "CraneCampaign$Turbine" "lost" "I", Cond.fieldLink RX5 30 "CraneCampaign$Turbine" "won" "I", Cond.methodLink RX2 80 yX0_copyFrom, Cond.instanceMethod yX0_copyFrom, Cond.selects RX0 yX0_copyFrom yX0_copyFrom, Cond.initialized RX0, Cond.code yX0_copyFrom cX0_copyFrom 2 none, Cond.fieldLink RX0 9 "CraneCampaign$Bogs" "place" "[I", Cond.methodLink RX0 22 arraycopyName, Cond.fieldLink RX0 15 "CraneCampaign$Bogs" "need" "[I", Cond.fieldLink RX0 18 "CraneCampaign$Bogs" "count" "I", Cond.methodLink RX2 83 yX3_copyFrom, Cond.instanceMethod yX3_copyFrom, Cond.selects RX3 yX3_copyFrom yX3_copyFrom, Cond.initialized RX3, Cond.code yX3_copyFrom cX3_copyFrom 2 none, Cond.fieldLink RX3 9 "CraneCampaign$Harbour" "turbine" "[I", Cond.methodLink RX3 22 arraycopyName, Cond.fieldLink RX3 15 "CraneCampaign$Harbour" "weight" "[I", Cond.fieldLink RX3 18 "CraneCampaign$Harbour" "count" "I", Cond.methodLink RX2 86 yX4_copyFrom]
def wsX8_set_r4 : List Cond := [Cond.instanceMethod yX4_copyFrom, Cond.selects RX4 yX4_copyFrom yX4_copyFrom, Cond.initialized RX4, Cond.code yX4_copyFrom cX4_copyFrom 2 none, Cond.fieldLink RX4 9 "CraneCampaign$Plan" "row" "[I", Cond.methodLink RX4 19 arraycopyName, Cond.fieldLink RX4 15 "CraneCampaign$Plan" "count" "I", Cond.methodLink RX2 89 yX1_copyFrom, Cond.instanceMethod yX1_copyFrom, Cond.selects RX1 yX1_copyFrom yX1_copyFrom, Cond.initialized RX1, Cond.code yX1_copyFrom cX1_copyFrom 2 none, Cond.fieldLink RX1 9 "CraneCampaign$Crane" "place" "I", Cond.fieldLink RX1 15 "CraneCampaign$Crane" "hoursLeft" "I", Cond.fieldLink RX1 18 "CraneCampaign$Crane" "goal" "I", Cond.fieldLink RX1 21 "CraneCampaign$Crane" "workDone" "I", Cond.fieldLink RX1 24 "CraneCampaign$Crane" "workedOn" "I", Cond.methodLink RX2 92 yX7_copyFrom, Cond.instanceMethod yX7_copyFrom, Cond.selects RX7 yX7_copyFrom yX7_copyFrom, Cond.initialized RX7, Cond.code yX7_copyFrom cX7_copyFrom 2 none, Cond.fieldLink RX7 9 "CraneCampaign$Winds" "row" "[I", Cond.methodLink RX7 19 arraycopyName]
def wsX8_set_r5 : List Cond := [Cond.fieldLink RX7 15 "CraneCampaign$Winds" "count" "I"]
def wsX8_set : List Cond := .code yX8_set cX8_set 4 (some .int) :: ((wsX8_set_r1 ++ (wsX8_set_r2 ++ (wsX8_set_r3 ++ (wsX8_set_r4 ++ wsX8_set_r5)))) ++ wsX80 ++ wsX20 ++ wsX50 ++ wsX00 ++ wsX30 ++ wsX40 ++ wsX10 ++ wsX70 ++ (vx_atS RX8 45 "java/lang/IllegalArgumentException" ["java/lang/RuntimeException", "java/lang/Exception"]).filter goodWord ++ (vx_atS RX8 138 "java/lang/IndexOutOfBoundsException" ["java/lang/RuntimeException", "java/lang/Exception"]).filter goodWord)
def wsX8_plan_r1 : List Cond := [Cond.classLink RX8 134 "java/lang/IndexOutOfBoundsException", Cond.initialized "java/lang/IndexOutOfBoundsException", Cond.fieldLink RX8 10 "CraneCampaign" "farm" "LCraneCampaign$Farm;", Cond.fieldLink RX8 125 "CraneCampaign$Farm" "plan" "LCraneCampaign$Plan;", Cond.fieldLink RX8 142 "CraneCampaign$Plan" "count" "I", Cond.methodLink RX8 67 yX8_requireTurbine, Cond.instanceMethod yX8_requireTurbine, Cond.selects RX8 yX8_requireTurbine yX8_requireTurbine, Cond.initialized RX8, Cond.code yX8_requireTurbine cX8_requireTurbine 2 none, Cond.methodLink RX8 319 yX2_hasTurbine, Cond.instanceMethod yX2_hasTurbine, Cond.selects RX2 yX2_hasTurbine yX2_hasTurbine, Cond.initialized RX2, Cond.code yX2_hasTurbine cX2_hasTurbine 2 (some .boolean), Cond.fieldLink RX2 17 "CraneCampaign$Farm" "turbineCount" "I", Cond.methodLink RX8 129 yX4_countWithout, Cond.instanceMethod yX4_countWithout, Cond.selects RX4 yX4_countWithout yX4_countWithout, Cond.initialized RX4, Cond.code yX4_countWithout cX4_countWithout 2 (some .int), Cond.fieldLink RX4 15 "CraneCampaign$Plan" "count" "I", Cond.methodLink RX4 25 yX4_placeOf, Cond.instanceMethod yX4_placeOf]
def wsX8_plan_r2 : List Cond := [Cond.selects RX4 yX4_placeOf yX4_placeOf, Cond.code yX4_placeOf cX4_placeOf 3 (some .int), Cond.fieldLink RX4 9 "CraneCampaign$Plan" "row" "[I", Cond.methodLink RX8 37 yX8_isWithin, Cond.static yX8_isWithin, Cond.code yX8_isWithin cX8_isWithin 3 (some .boolean), Cond.methodLink RX8 60 yX8_saveState, Cond.instanceMethod yX8_saveState, Cond.selects RX8 yX8_saveState yX8_saveState, Cond.code yX8_saveState cX8_saveState 1 none, Cond.fieldLink RX8 19 "CraneCampaign" "saved" "[LCraneCampaign$Farm;", Cond.fieldLink RX8 23 "CraneCampaign" "oldestSaved" "I", Cond.fieldLink RX8 27 "CraneCampaign" "savedCount" "I", Cond.methodLink RX8 215 yX2_copyFrom, Cond.instanceMethod yX2_copyFrom, Cond.selects RX2 yX2_copyFrom yX2_copyFrom, Cond.code yX2_copyFrom cX2_copyFrom 3 none, Cond.fieldLink RX2 11 "CraneCampaign$Farm" "turbines" "[LCraneCampaign$Turbine;", Cond.fieldLink RX2 24 "CraneCampaign$Farm" "bogs" "LCraneCampaign$Bogs;", Cond.fieldLink RX2 31 "CraneCampaign$Farm" "harbour" "LCraneCampaign$Harbour;", Cond.fieldLink RX2 38 "CraneCampaign$Farm" "plan" "LCraneCampaign$Plan;", Cond.fieldLink RX2 45 "CraneCampaign$Farm" "crane" "LCraneCampaign$Crane;", Cond.fieldLink RX2 52 "CraneCampaign$Farm" "winds" "LCraneCampaign$Winds;", Cond.fieldLink RX2 56 "CraneCampaign$Farm" "settings" "[I"]
def wsX8_plan_r3 : List Cond := [Cond.methodLink RX2 70 arraycopyName, Cond.native arraycopyName, Cond.static arraycopyName, Cond.initialized "java/lang/System", Cond.fieldLink RX2 60 "CraneCampaign$Farm" "lostBy" "[I", Cond.fieldLink RX2 63 "CraneCampaign$Farm" "hour" "I", Cond.methodLink RX2 76 yX5_copyFrom, Cond.instanceMethod yX5_copyFrom, Cond.selects RX5 yX5_copyFrom yX5_copyFrom, Cond.initialized RX5, Cond.code yX5_copyFrom cX5_copyFrom 2 none, Cond.fieldLink RX5 9 "CraneCampaign$Turbine" "place" "I", Cond.fieldLink RX5 15 "CraneCampaign$Turbine" "height" "I", Cond.fieldLink RX5 18 "CraneCampaign$Turbine" "rate" "I", Cond.fieldLink RX5 21 "CraneCampaign$Turbine" "fault" "I", Cond.fieldLink RX5 24 "CraneCampaign$Turbine" "age" "I", Cond.fieldLink RX5 27 "CraneCampaign$Turbine" "lost" "I", Cond.fieldLink RX5 30 "CraneCampaign$Turbine" "won" "I", Cond.methodLink RX2 80 yX0_copyFrom, Cond.instanceMethod yX0_copyFrom, Cond.selects RX0 yX0_copyFrom yX0_copyFrom, Cond.initialized RX0, Cond.code yX0_copyFrom cX0_copyFrom 2 none, Cond.fieldLink RX0 9 "CraneCampaign$Bogs" "place" "[I"]
def wsX8_plan_r4 : List Cond := [Cond.methodLink RX0 22 arraycopyName, Cond.fieldLink RX0 15 "CraneCampaign$Bogs" "need" "[I", Cond.fieldLink RX0 18 "CraneCampaign$Bogs" "count" "I", Cond.methodLink RX2 83 yX3_copyFrom, Cond.instanceMethod yX3_copyFrom, Cond.selects RX3 yX3_copyFrom yX3_copyFrom, Cond.initialized RX3, Cond.code yX3_copyFrom cX3_copyFrom 2 none, Cond.fieldLink RX3 9 "CraneCampaign$Harbour" "turbine" "[I", Cond.methodLink RX3 22 arraycopyName, Cond.fieldLink RX3 15 "CraneCampaign$Harbour" "weight" "[I", Cond.fieldLink RX3 18 "CraneCampaign$Harbour" "count" "I", Cond.methodLink RX2 86 yX4_copyFrom, Cond.instanceMethod yX4_copyFrom, Cond.selects RX4 yX4_copyFrom yX4_copyFrom, Cond.code yX4_copyFrom cX4_copyFrom 2 none, Cond.methodLink RX4 19 arraycopyName, Cond.methodLink RX2 89 yX1_copyFrom, Cond.instanceMethod yX1_copyFrom, Cond.selects RX1 yX1_copyFrom yX1_copyFrom, Cond.initialized RX1, Cond.code yX1_copyFrom cX1_copyFrom 2 none, Cond.fieldLink RX1 9 "CraneCampaign$Crane" "place" "I", Cond.fieldLink RX1 15 "CraneCampaign$Crane" "hoursLeft" "I"]
def wsX8_plan_r5 : List Cond := [Cond.fieldLink RX1 18 "CraneCampaign$Crane" "goal" "I", Cond.fieldLink RX1 21 "CraneCampaign$Crane" "workDone" "I", Cond.fieldLink RX1 24 "CraneCampaign$Crane" "workedOn" "I", Cond.methodLink RX2 92 yX7_copyFrom, Cond.instanceMethod yX7_copyFrom, Cond.selects RX7 yX7_copyFrom yX7_copyFrom, Cond.initialized RX7, Cond.code yX7_copyFrom cX7_copyFrom 2 none, Cond.fieldLink RX7 9 "CraneCampaign$Winds" "row" "[I", Cond.methodLink RX7 19 arraycopyName, Cond.fieldLink RX7 15 "CraneCampaign$Winds" "count" "I", Cond.methodLink RX8 139 yX4_moveTo, Cond.instanceMethod yX4_moveTo, Cond.selects RX4 yX4_moveTo yX4_moveTo, Cond.code yX4_moveTo cX4_moveTo 4 none, Cond.methodLink RX4 29 yX4_removeAt, Cond.instanceMethod yX4_removeAt, Cond.selects RX4 yX4_removeAt yX4_removeAt, Cond.code yX4_removeAt cX4_removeAt 3 none]
def wsX8_plan : List Cond := .code yX8_plan cX8_plan 3 (some .int) :: ((wsX8_plan_r1 ++ (wsX8_plan_r2 ++ (wsX8_plan_r3 ++ (wsX8_plan_r4 ++ wsX8_plan_r5)))) ++ wsX80 ++ wsX20 ++ wsX40 ++ wsX50 ++ wsX00 ++ wsX30 ++ wsX10 ++ wsX70 ++ (vx_atS RX8 138 "java/lang/IndexOutOfBoundsException" ["java/lang/RuntimeException", "java/lang/Exception"]).filter goodWord)
def wsX8_unplan_r1 : List Cond := [Cond.classLink RX8 55 "java/lang/IllegalStateException", Cond.initialized "java/lang/IllegalStateException", Cond.fieldLink RX8 10 "CraneCampaign" "farm" "LCraneCampaign$Farm;", Cond.fieldLink RX8 125 "CraneCampaign$Farm" "plan" "LCraneCampaign$Plan;", Cond.methodLink RX8 67 yX8_requireTurbine, Cond.instanceMethod yX8_requireTurbine, Cond.selects RX8 yX8_requireTurbine yX8_requireTurbine, Cond.initialized RX8, Cond.code yX8_requireTurbine cX8_requireTurbine 2 none, Cond.classLink RX8 134 "java/lang/IndexOutOfBoundsException", Cond.initialized "java/lang/IndexOutOfBoundsException", Cond.methodLink RX8 319 yX2_hasTurbine, Cond.instanceMethod yX2_hasTurbine, Cond.selects RX2 yX2_hasTurbine yX2_hasTurbine, Cond.initialized RX2, Cond.code yX2_hasTurbine cX2_hasTurbine 2 (some .boolean), Cond.fieldLink RX2 17 "CraneCampaign$Farm" "turbineCount" "I", Cond.methodLink RX8 143 yX4_placeOf, Cond.instanceMethod yX4_placeOf, Cond.selects RX4 yX4_placeOf yX4_placeOf, Cond.initialized RX4, Cond.code yX4_placeOf cX4_placeOf 3 (some .int), Cond.fieldLink RX4 15 "CraneCampaign$Plan" "count" "I", Cond.fieldLink RX4 9 "CraneCampaign$Plan" "row" "[I"]
def wsX8_unplan_r2 : List Cond := [Cond.methodLink RX8 60 yX8_saveState, Cond.instanceMethod yX8_saveState, Cond.selects RX8 yX8_saveState yX8_saveState, Cond.code yX8_saveState cX8_saveState 1 none, Cond.fieldLink RX8 19 "CraneCampaign" "saved" "[LCraneCampaign$Farm;", Cond.fieldLink RX8 23 "CraneCampaign" "oldestSaved" "I", Cond.fieldLink RX8 27 "CraneCampaign" "savedCount" "I", Cond.methodLink RX8 215 yX2_copyFrom, Cond.instanceMethod yX2_copyFrom, Cond.selects RX2 yX2_copyFrom yX2_copyFrom, Cond.code yX2_copyFrom cX2_copyFrom 3 none, Cond.fieldLink RX2 11 "CraneCampaign$Farm" "turbines" "[LCraneCampaign$Turbine;", Cond.fieldLink RX2 24 "CraneCampaign$Farm" "bogs" "LCraneCampaign$Bogs;", Cond.fieldLink RX2 31 "CraneCampaign$Farm" "harbour" "LCraneCampaign$Harbour;", Cond.fieldLink RX2 38 "CraneCampaign$Farm" "plan" "LCraneCampaign$Plan;", Cond.fieldLink RX2 45 "CraneCampaign$Farm" "crane" "LCraneCampaign$Crane;", Cond.fieldLink RX2 52 "CraneCampaign$Farm" "winds" "LCraneCampaign$Winds;", Cond.fieldLink RX2 56 "CraneCampaign$Farm" "settings" "[I", Cond.methodLink RX2 70 arraycopyName, Cond.native arraycopyName, Cond.static arraycopyName, Cond.initialized "java/lang/System", Cond.fieldLink RX2 60 "CraneCampaign$Farm" "lostBy" "[I", Cond.fieldLink RX2 63 "CraneCampaign$Farm" "hour" "I"]
def wsX8_unplan_r3 : List Cond := [Cond.methodLink RX2 76 yX5_copyFrom, Cond.instanceMethod yX5_copyFrom, Cond.selects RX5 yX5_copyFrom yX5_copyFrom, Cond.initialized RX5, Cond.code yX5_copyFrom cX5_copyFrom 2 none, Cond.fieldLink RX5 9 "CraneCampaign$Turbine" "place" "I", Cond.fieldLink RX5 15 "CraneCampaign$Turbine" "height" "I", Cond.fieldLink RX5 18 "CraneCampaign$Turbine" "rate" "I", Cond.fieldLink RX5 21 "CraneCampaign$Turbine" "fault" "I", Cond.fieldLink RX5 24 "CraneCampaign$Turbine" "age" "I", Cond.fieldLink RX5 27 "CraneCampaign$Turbine" "lost" "I", Cond.fieldLink RX5 30 "CraneCampaign$Turbine" "won" "I", Cond.methodLink RX2 80 yX0_copyFrom, Cond.instanceMethod yX0_copyFrom, Cond.selects RX0 yX0_copyFrom yX0_copyFrom, Cond.initialized RX0, Cond.code yX0_copyFrom cX0_copyFrom 2 none, Cond.fieldLink RX0 9 "CraneCampaign$Bogs" "place" "[I", Cond.methodLink RX0 22 arraycopyName, Cond.fieldLink RX0 15 "CraneCampaign$Bogs" "need" "[I", Cond.fieldLink RX0 18 "CraneCampaign$Bogs" "count" "I", Cond.methodLink RX2 83 yX3_copyFrom, Cond.instanceMethod yX3_copyFrom, Cond.selects RX3 yX3_copyFrom yX3_copyFrom]
def wsX8_unplan_r4 : List Cond := [Cond.initialized RX3, Cond.code yX3_copyFrom cX3_copyFrom 2 none, Cond.fieldLink RX3 9 "CraneCampaign$Harbour" "turbine" "[I", Cond.methodLink RX3 22 arraycopyName, Cond.fieldLink RX3 15 "CraneCampaign$Harbour" "weight" "[I", Cond.fieldLink RX3 18 "CraneCampaign$Harbour" "count" "I", Cond.methodLink RX2 86 yX4_copyFrom, Cond.instanceMethod yX4_copyFrom, Cond.selects RX4 yX4_copyFrom yX4_copyFrom, Cond.code yX4_copyFrom cX4_copyFrom 2 none, Cond.methodLink RX4 19 arraycopyName, Cond.methodLink RX2 89 yX1_copyFrom, Cond.instanceMethod yX1_copyFrom, Cond.selects RX1 yX1_copyFrom yX1_copyFrom, Cond.initialized RX1, Cond.code yX1_copyFrom cX1_copyFrom 2 none, Cond.fieldLink RX1 9 "CraneCampaign$Crane" "place" "I", Cond.fieldLink RX1 15 "CraneCampaign$Crane" "hoursLeft" "I", Cond.fieldLink RX1 18 "CraneCampaign$Crane" "goal" "I", Cond.fieldLink RX1 21 "CraneCampaign$Crane" "workDone" "I", Cond.fieldLink RX1 24 "CraneCampaign$Crane" "workedOn" "I", Cond.methodLink RX2 92 yX7_copyFrom, Cond.instanceMethod yX7_copyFrom, Cond.selects RX7 yX7_copyFrom yX7_copyFrom]
def wsX8_unplan_r5 : List Cond := [Cond.initialized RX7, Cond.code yX7_copyFrom cX7_copyFrom 2 none, Cond.fieldLink RX7 9 "CraneCampaign$Winds" "row" "[I", Cond.methodLink RX7 19 arraycopyName, Cond.fieldLink RX7 15 "CraneCampaign$Winds" "count" "I", Cond.methodLink RX8 148 yX4_removeAt, Cond.instanceMethod yX4_removeAt, Cond.selects RX4 yX4_removeAt yX4_removeAt, Cond.code yX4_removeAt cX4_removeAt 3 none]
def wsX8_unplan : List Cond := .code yX8_unplan cX8_unplan 3 (some .int) :: ((wsX8_unplan_r1 ++ (wsX8_unplan_r2 ++ (wsX8_unplan_r3 ++ (wsX8_unplan_r4 ++ wsX8_unplan_r5)))) ++ wsX80 ++ wsX20 ++ wsX40 ++ wsX50 ++ wsX00 ++ wsX30 ++ wsX10 ++ wsX70 ++ (vx_atS RX8 59 "java/lang/IllegalStateException" ["java/lang/RuntimeException", "java/lang/Exception"]).filter goodWord ++ (vx_atS RX8 138 "java/lang/IndexOutOfBoundsException" ["java/lang/RuntimeException", "java/lang/Exception"]).filter goodWord)
def wsX8_orderBlade_r1 : List Cond := [Cond.classLink RX8 55 "java/lang/IllegalStateException", Cond.initialized "java/lang/IllegalStateException", Cond.fieldLink RX8 10 "CraneCampaign" "farm" "LCraneCampaign$Farm;", Cond.fieldLink RX8 151 "CraneCampaign$Farm" "harbour" "LCraneCampaign$Harbour;", Cond.fieldLink RX8 73 "CraneCampaign$Farm" "turbines" "[LCraneCampaign$Turbine;", Cond.fieldLink RX8 167 "CraneCampaign$Harbour" "count" "I", Cond.methodLink RX8 67 yX8_requireTurbine, Cond.instanceMethod yX8_requireTurbine, Cond.selects RX8 yX8_requireTurbine yX8_requireTurbine, Cond.initialized RX8, Cond.code yX8_requireTurbine cX8_requireTurbine 2 none, Cond.classLink RX8 134 "java/lang/IndexOutOfBoundsException", Cond.initialized "java/lang/IndexOutOfBoundsException", Cond.methodLink RX8 319 yX2_hasTurbine, Cond.instanceMethod yX2_hasTurbine, Cond.selects RX2 yX2_hasTurbine yX2_hasTurbine, Cond.initialized RX2, Cond.code yX2_hasTurbine cX2_hasTurbine 2 (some .boolean), Cond.fieldLink RX2 17 "CraneCampaign$Farm" "turbineCount" "I", Cond.methodLink RX8 155 yX3_isFull, Cond.instanceMethod yX3_isFull, Cond.selects RX3 yX3_isFull yX3_isFull, Cond.initialized RX3, Cond.code yX3_isFull cX3_isFull 1 (some .boolean)]
def wsX8_orderBlade_r2 : List Cond := [Cond.fieldLink RX3 18 "CraneCampaign$Harbour" "count" "I", Cond.methodLink RX8 60 yX8_saveState, Cond.instanceMethod yX8_saveState, Cond.selects RX8 yX8_saveState yX8_saveState, Cond.code yX8_saveState cX8_saveState 1 none, Cond.fieldLink RX8 19 "CraneCampaign" "saved" "[LCraneCampaign$Farm;", Cond.fieldLink RX8 23 "CraneCampaign" "oldestSaved" "I", Cond.fieldLink RX8 27 "CraneCampaign" "savedCount" "I", Cond.methodLink RX8 215 yX2_copyFrom, Cond.instanceMethod yX2_copyFrom, Cond.selects RX2 yX2_copyFrom yX2_copyFrom, Cond.code yX2_copyFrom cX2_copyFrom 3 none, Cond.fieldLink RX2 11 "CraneCampaign$Farm" "turbines" "[LCraneCampaign$Turbine;", Cond.fieldLink RX2 24 "CraneCampaign$Farm" "bogs" "LCraneCampaign$Bogs;", Cond.fieldLink RX2 31 "CraneCampaign$Farm" "harbour" "LCraneCampaign$Harbour;", Cond.fieldLink RX2 38 "CraneCampaign$Farm" "plan" "LCraneCampaign$Plan;", Cond.fieldLink RX2 45 "CraneCampaign$Farm" "crane" "LCraneCampaign$Crane;", Cond.fieldLink RX2 52 "CraneCampaign$Farm" "winds" "LCraneCampaign$Winds;", Cond.fieldLink RX2 56 "CraneCampaign$Farm" "settings" "[I", Cond.methodLink RX2 70 arraycopyName, Cond.native arraycopyName, Cond.static arraycopyName, Cond.initialized "java/lang/System", Cond.fieldLink RX2 60 "CraneCampaign$Farm" "lostBy" "[I"]
def wsX8_orderBlade_r3 : List Cond := [Cond.fieldLink RX2 63 "CraneCampaign$Farm" "hour" "I", Cond.methodLink RX2 76 yX5_copyFrom, Cond.instanceMethod yX5_copyFrom, Cond.selects RX5 yX5_copyFrom yX5_copyFrom, Cond.initialized RX5, Cond.code yX5_copyFrom cX5_copyFrom 2 none, Cond.fieldLink RX5 9 "CraneCampaign$Turbine" "place" "I", Cond.fieldLink RX5 15 "CraneCampaign$Turbine" "height" "I", Cond.fieldLink RX5 18 "CraneCampaign$Turbine" "rate" "I", Cond.fieldLink RX5 21 "CraneCampaign$Turbine" "fault" "I", Cond.fieldLink RX5 24 "CraneCampaign$Turbine" "age" "I", Cond.fieldLink RX5 27 "CraneCampaign$Turbine" "lost" "I", Cond.fieldLink RX5 30 "CraneCampaign$Turbine" "won" "I", Cond.methodLink RX2 80 yX0_copyFrom, Cond.instanceMethod yX0_copyFrom, Cond.selects RX0 yX0_copyFrom yX0_copyFrom, Cond.initialized RX0, Cond.code yX0_copyFrom cX0_copyFrom 2 none, Cond.fieldLink RX0 9 "CraneCampaign$Bogs" "place" "[I", Cond.methodLink RX0 22 arraycopyName, Cond.fieldLink RX0 15 "CraneCampaign$Bogs" "need" "[I", Cond.fieldLink RX0 18 "CraneCampaign$Bogs" "count" "I", Cond.methodLink RX2 83 yX3_copyFrom, Cond.instanceMethod yX3_copyFrom]
def wsX8_orderBlade_r4 : List Cond := [Cond.selects RX3 yX3_copyFrom yX3_copyFrom, Cond.code yX3_copyFrom cX3_copyFrom 2 none, Cond.fieldLink RX3 9 "CraneCampaign$Harbour" "turbine" "[I", Cond.methodLink RX3 22 arraycopyName, Cond.fieldLink RX3 15 "CraneCampaign$Harbour" "weight" "[I", Cond.methodLink RX2 86 yX4_copyFrom, Cond.instanceMethod yX4_copyFrom, Cond.selects RX4 yX4_copyFrom yX4_copyFrom, Cond.initialized RX4, Cond.code yX4_copyFrom cX4_copyFrom 2 none, Cond.fieldLink RX4 9 "CraneCampaign$Plan" "row" "[I", Cond.methodLink RX4 19 arraycopyName, Cond.fieldLink RX4 15 "CraneCampaign$Plan" "count" "I", Cond.methodLink RX2 89 yX1_copyFrom, Cond.instanceMethod yX1_copyFrom, Cond.selects RX1 yX1_copyFrom yX1_copyFrom, Cond.initialized RX1, Cond.code yX1_copyFrom cX1_copyFrom 2 none, Cond.fieldLink RX1 9 "CraneCampaign$Crane" "place" "I", Cond.fieldLink RX1 15 "CraneCampaign$Crane" "hoursLeft" "I", Cond.fieldLink RX1 18 "CraneCampaign$Crane" "goal" "I", Cond.fieldLink RX1 21 "CraneCampaign$Crane" "workDone" "I", Cond.fieldLink RX1 24 "CraneCampaign$Crane" "workedOn" "I", Cond.methodLink RX2 92 yX7_copyFrom]
def wsX8_orderBlade_r5 : List Cond := [Cond.instanceMethod yX7_copyFrom, Cond.selects RX7 yX7_copyFrom yX7_copyFrom, Cond.initialized RX7, Cond.code yX7_copyFrom cX7_copyFrom 2 none, Cond.fieldLink RX7 9 "CraneCampaign$Winds" "row" "[I", Cond.methodLink RX7 19 arraycopyName, Cond.fieldLink RX7 15 "CraneCampaign$Winds" "count" "I", Cond.methodLink RX8 160 yX5_bladeWeight, Cond.instanceMethod yX5_bladeWeight, Cond.selects RX5 yX5_bladeWeight yX5_bladeWeight, Cond.code yX5_bladeWeight cX5_bladeWeight 1 (some .int), Cond.methodLink RX8 164 yX3_take, Cond.instanceMethod yX3_take, Cond.selects RX3 yX3_take yX3_take, Cond.code yX3_take cX3_take 3 none, Cond.methodLink RX3 28 yX3_isFull]
def wsX8_orderBlade : List Cond := .code yX8_orderBlade cX8_orderBlade 2 (some .int) :: ((wsX8_orderBlade_r1 ++ (wsX8_orderBlade_r2 ++ (wsX8_orderBlade_r3 ++ (wsX8_orderBlade_r4 ++ wsX8_orderBlade_r5)))) ++ wsX80 ++ wsX20 ++ wsX30 ++ wsX50 ++ wsX00 ++ wsX40 ++ wsX10 ++ wsX70 ++ (vx_atS RX8 59 "java/lang/IllegalStateException" ["java/lang/RuntimeException", "java/lang/Exception"]).filter goodWord ++ (vx_atS RX8 138 "java/lang/IndexOutOfBoundsException" ["java/lang/RuntimeException", "java/lang/Exception"]).filter goodWord)
def wsX8_pass_r1 : List Cond := [Cond.classLink RX8 41 "java/lang/IllegalArgumentException", Cond.initialized "java/lang/IllegalArgumentException", Cond.classLink RX8 55 "java/lang/IllegalStateException", Cond.initialized "java/lang/IllegalStateException", Cond.fieldLink RX8 10 "CraneCampaign" "farm" "LCraneCampaign$Farm;", Cond.fieldLink RX8 170 "CraneCampaign$Farm" "hour" "I", Cond.methodLink RX8 37 yX8_isWithin, Cond.static yX8_isWithin, Cond.initialized RX8, Cond.code yX8_isWithin cX8_isWithin 3 (some .boolean), Cond.methodLink RX8 60 yX8_saveState, Cond.instanceMethod yX8_saveState, Cond.selects RX8 yX8_saveState yX8_saveState, Cond.code yX8_saveState cX8_saveState 1 none, Cond.fieldLink RX8 19 "CraneCampaign" "saved" "[LCraneCampaign$Farm;", Cond.fieldLink RX8 23 "CraneCampaign" "oldestSaved" "I", Cond.fieldLink RX8 27 "CraneCampaign" "savedCount" "I", Cond.methodLink RX8 215 yX2_copyFrom, Cond.instanceMethod yX2_copyFrom, Cond.selects RX2 yX2_copyFrom yX2_copyFrom, Cond.initialized RX2, Cond.code yX2_copyFrom cX2_copyFrom 3 none, Cond.fieldLink RX2 17 "CraneCampaign$Farm" "turbineCount" "I", Cond.fieldLink RX2 11 "CraneCampaign$Farm" "turbines" "[LCraneCampaign$Turbine;"]
def wsX8_pass_r2 : List Cond := [Cond.fieldLink RX2 24 "CraneCampaign$Farm" "bogs" "LCraneCampaign$Bogs;", Cond.fieldLink RX2 31 "CraneCampaign$Farm" "harbour" "LCraneCampaign$Harbour;", Cond.fieldLink RX2 38 "CraneCampaign$Farm" "plan" "LCraneCampaign$Plan;", Cond.fieldLink RX2 45 "CraneCampaign$Farm" "crane" "LCraneCampaign$Crane;", Cond.fieldLink RX2 52 "CraneCampaign$Farm" "winds" "LCraneCampaign$Winds;", Cond.fieldLink RX2 56 "CraneCampaign$Farm" "settings" "[I", Cond.methodLink RX2 70 arraycopyName, Cond.native arraycopyName, Cond.static arraycopyName, Cond.initialized "java/lang/System", Cond.fieldLink RX2 60 "CraneCampaign$Farm" "lostBy" "[I", Cond.fieldLink RX2 63 "CraneCampaign$Farm" "hour" "I", Cond.methodLink RX2 76 yX5_copyFrom, Cond.instanceMethod yX5_copyFrom, Cond.selects RX5 yX5_copyFrom yX5_copyFrom, Cond.initialized RX5, Cond.code yX5_copyFrom cX5_copyFrom 2 none, Cond.fieldLink RX5 9 "CraneCampaign$Turbine" "place" "I", Cond.fieldLink RX5 15 "CraneCampaign$Turbine" "height" "I", Cond.fieldLink RX5 18 "CraneCampaign$Turbine" "rate" "I", Cond.fieldLink RX5 21 "CraneCampaign$Turbine" "fault" "I", Cond.fieldLink RX5 24 "CraneCampaign$Turbine" "age" "I", Cond.fieldLink RX5 27 "CraneCampaign$Turbine" "lost" "I", Cond.fieldLink RX5 30 "CraneCampaign$Turbine" "won" "I"]
def wsX8_pass_r3 : List Cond := [Cond.methodLink RX2 80 yX0_copyFrom, Cond.instanceMethod yX0_copyFrom, Cond.selects RX0 yX0_copyFrom yX0_copyFrom, Cond.initialized RX0, Cond.code yX0_copyFrom cX0_copyFrom 2 none, Cond.fieldLink RX0 9 "CraneCampaign$Bogs" "place" "[I", Cond.methodLink RX0 22 arraycopyName, Cond.fieldLink RX0 15 "CraneCampaign$Bogs" "need" "[I", Cond.fieldLink RX0 18 "CraneCampaign$Bogs" "count" "I", Cond.methodLink RX2 83 yX3_copyFrom, Cond.instanceMethod yX3_copyFrom, Cond.selects RX3 yX3_copyFrom yX3_copyFrom, Cond.initialized RX3, Cond.code yX3_copyFrom cX3_copyFrom 2 none, Cond.fieldLink RX3 9 "CraneCampaign$Harbour" "turbine" "[I", Cond.methodLink RX3 22 arraycopyName, Cond.fieldLink RX3 15 "CraneCampaign$Harbour" "weight" "[I", Cond.fieldLink RX3 18 "CraneCampaign$Harbour" "count" "I", Cond.methodLink RX2 86 yX4_copyFrom, Cond.instanceMethod yX4_copyFrom, Cond.selects RX4 yX4_copyFrom yX4_copyFrom, Cond.initialized RX4, Cond.code yX4_copyFrom cX4_copyFrom 2 none, Cond.fieldLink RX4 9 "CraneCampaign$Plan" "row" "[I"]
def wsX8_pass_r4 : List Cond := [Cond.methodLink RX4 19 arraycopyName, Cond.fieldLink RX4 15 "CraneCampaign$Plan" "count" "I", Cond.methodLink RX2 89 yX1_copyFrom, Cond.instanceMethod yX1_copyFrom, Cond.selects RX1 yX1_copyFrom yX1_copyFrom, Cond.initialized RX1, Cond.code yX1_copyFrom cX1_copyFrom 2 none, Cond.fieldLink RX1 9 "CraneCampaign$Crane" "place" "I", Cond.fieldLink RX1 15 "CraneCampaign$Crane" "hoursLeft" "I", Cond.fieldLink RX1 18 "CraneCampaign$Crane" "goal" "I", Cond.fieldLink RX1 21 "CraneCampaign$Crane" "workDone" "I", Cond.fieldLink RX1 24 "CraneCampaign$Crane" "workedOn" "I", Cond.methodLink RX2 92 yX7_copyFrom, Cond.instanceMethod yX7_copyFrom, Cond.selects RX7 yX7_copyFrom yX7_copyFrom, Cond.initialized RX7, Cond.code yX7_copyFrom cX7_copyFrom 2 none, Cond.fieldLink RX7 9 "CraneCampaign$Winds" "row" "[I", Cond.methodLink RX7 19 arraycopyName, Cond.fieldLink RX7 15 "CraneCampaign$Winds" "count" "I", Cond.methodLink RX8 175 yX2_runHours, Cond.instanceMethod yX2_runHours, Cond.selects RX2 yX2_runHours yX2_runHours, Cond.code yX2_runHours cX2_runHours 4 (some .int)]
def wsX8_pass_r5 : List Cond := [Cond.methodLink RX2 172 yX2_runHour, Cond.instanceMethod yX2_runHour, Cond.selects RX2 yX2_runHour yX2_runHour, Cond.code yX2_runHour cX2_runHour 4 (some .int), Cond.methodLink RX2 175 yX3_unload, Cond.instanceMethod yX3_unload, Cond.selects RX3 yX3_unload yX3_unload, Cond.code yX3_unload cX3_unload 5 none, Cond.methodLink RX3 32 Lib.Math.min.name, Cond.static Lib.Math.min.name, Cond.initialized "java/lang/Math", Cond.code Lib.Math.min.name Lib.Math.min.code 2 (some .int), Cond.methodLink RX2 179 yX2_dropFaultless, Cond.instanceMethod yX2_dropFaultless, Cond.selects RX2 yX2_dropFaultless yX2_dropFaultless, Cond.code yX2_dropFaultless cX2_dropFaultless 3 none, Cond.fieldLink RX2 153 "CraneCampaign$Plan" "count" "I", Cond.fieldLink RX2 197 "CraneCampaign$Crane" "workedOn" "I", Cond.fieldLink RX2 102 "CraneCampaign$Turbine" "fault" "I", Cond.methodLink RX2 182 yX4_first, Cond.instanceMethod yX4_first, Cond.selects RX4 yX4_first yX4_first, Cond.code yX4_first cX4_first 1 (some .int), Cond.methodLink RX2 200 yX1_forgetWork]
def wsX8_pass_r6 : List Cond := [Cond.instanceMethod yX1_forgetWork, Cond.selects RX1 yX1_forgetWork yX1_forgetWork, Cond.code yX1_forgetWork cX1_forgetWork 1 none, Cond.methodLink RX2 112 yX2_hasTurbine, Cond.instanceMethod yX2_hasTurbine, Cond.selects RX2 yX2_hasTurbine yX2_hasTurbine, Cond.code yX2_hasTurbine cX2_hasTurbine 2 (some .boolean), Cond.methodLink RX2 203 yX4_removeAt, Cond.instanceMethod yX4_removeAt, Cond.selects RX4 yX4_removeAt yX4_removeAt, Cond.code yX4_removeAt cX4_removeAt 3 none, Cond.methodLink RX2 185 yX2_serve, Cond.instanceMethod yX2_serve, Cond.selects RX2 yX2_serve yX2_serve, Cond.code yX2_serve cX2_serve 3 (some .int), Cond.fieldLink RX2 210 "CraneCampaign$Crane" "place" "I", Cond.fieldLink RX2 95 "CraneCampaign$Turbine" "place" "I", Cond.methodLink RX2 206 yX1_isOnWay, Cond.instanceMethod yX1_isOnWay, Cond.selects RX1 yX1_isOnWay yX1_isOnWay, Cond.code yX1_isOnWay cX1_isOnWay 1 (some .boolean), Cond.methodLink RX2 211 yX2_hoursBetween, Cond.instanceMethod yX2_hoursBetween, Cond.selects RX2 yX2_hoursBetween yX2_hoursBetween]
def wsX8_pass_r7 : List Cond := [Cond.code yX2_hoursBetween cX2_hoursBetween 6 (some .int), Cond.methodLink RX2 156 Lib.Math.max.name, Cond.static Lib.Math.max.name, Cond.code Lib.Math.max.name Lib.Math.max.code 2 (some .int), Cond.methodLink RX2 162 Lib.Math.abs.name, Cond.static Lib.Math.abs.name, Cond.code Lib.Math.abs.name Lib.Math.abs.code 1 (some .int), Cond.methodLink RX2 165 Lib.Math.min.name, Cond.methodLink RX2 168 yX0_countBetween, Cond.instanceMethod yX0_countBetween, Cond.selects RX0 yX0_countBetween yX0_countBetween, Cond.code yX0_countBetween cX0_countBetween 6 (some .int), Cond.methodLink RX2 214 yX1_driveTo, Cond.instanceMethod yX1_driveTo, Cond.selects RX1 yX1_driveTo yX1_driveTo, Cond.code yX1_driveTo cX1_driveTo 4 none, Cond.methodLink RX1 27 Lib.Math.max.name, Cond.methodLink RX2 131 yX3_unloadedFor, Cond.instanceMethod yX3_unloadedFor, Cond.selects RX3 yX3_unloadedFor yX3_unloadedFor, Cond.code yX3_unloadedFor cX3_unloadedFor 4 (some .int), Cond.methodLink RX2 137 yX2_windNow, Cond.instanceMethod yX2_windNow, Cond.selects RX2 yX2_windNow yX2_windNow]
def wsX8_pass_r8 : List Cond := [Cond.code yX2_windNow cX2_windNow 1 (some .int), Cond.methodLink RX2 108 yX7_at, Cond.instanceMethod yX7_at, Cond.selects RX7 yX7_at yX7_at, Cond.code yX7_at cX7_at 2 (some .int), Cond.methodLink RX2 125 yX5_limit, Cond.instanceMethod yX5_limit, Cond.selects RX5 yX5_limit yX5_limit, Cond.code yX5_limit cX5_limit 2 (some .int), Cond.methodLink RX2 217 yX1_workAnHourOn, Cond.instanceMethod yX1_workAnHourOn, Cond.selects RX1 yX1_workAnHourOn yX1_workAnHourOn, Cond.code yX1_workAnHourOn cX1_workAnHourOn 2 none, Cond.methodLink RX2 188 yX2_sharePower, Cond.instanceMethod yX2_sharePower, Cond.selects RX2 yX2_sharePower yX2_sharePower, Cond.code yX2_sharePower cX2_sharePower 9 (some .int), Cond.fieldLink RX2 134 "CraneCampaign$Turbine" "lost" "I", Cond.fieldLink RX2 105 "CraneCampaign$Turbine" "won" "I", Cond.methodLink RX2 141 yX5_fullPower, Cond.instanceMethod yX5_fullPower, Cond.selects RX5 yX5_fullPower yX5_fullPower, Cond.code yX5_fullPower cX5_fullPower 2 (some .int), Cond.methodLink RX5 33 Lib.Math.min.name]
def wsX8_pass_r9 : List Cond := [Cond.methodLink RX2 191 yX2_finishIfDone, Cond.instanceMethod yX2_finishIfDone, Cond.selects RX2 yX2_finishIfDone yX2_finishIfDone, Cond.code yX2_finishIfDone cX2_finishIfDone 2 none, Cond.fieldLink RX2 220 "CraneCampaign$Crane" "workDone" "I", Cond.fieldLink RX2 122 "CraneCampaign$Turbine" "age" "I", Cond.methodLink RX2 223 yX3_useBladeFor, Cond.instanceMethod yX3_useBladeFor, Cond.selects RX3 yX3_useBladeFor yX3_useBladeFor, Cond.code yX3_useBladeFor cX3_useBladeFor 3 none, Cond.methodLink RX3 38 yX3_removeAt, Cond.instanceMethod yX3_removeAt, Cond.selects RX3 yX3_removeAt yX3_removeAt, Cond.code yX3_removeAt cX3_removeAt 3 none, Cond.methodLink RX2 128 yX4_placeOf, Cond.instanceMethod yX4_placeOf, Cond.selects RX4 yX4_placeOf yX4_placeOf, Cond.code yX4_placeOf cX4_placeOf 3 (some .int), Cond.methodLink RX2 194 yX2_worsen, Cond.instanceMethod yX2_worsen, Cond.selects RX2 yX2_worsen yX2_worsen, Cond.code yX2_worsen cX2_worsen 3 none, Cond.methodLink RX2 226 yX5_growOlder, Cond.instanceMethod yX5_growOlder]
def wsX8_pass_r10 : List Cond := [Cond.selects RX5 yX5_growOlder yX5_growOlder, Cond.code yX5_growOlder cX5_growOlder 2 none]
def wsX8_pass : List Cond := .code yX8_pass cX8_pass 2 (some .int) :: ((wsX8_pass_r1 ++ (wsX8_pass_r2 ++ (wsX8_pass_r3 ++ (wsX8_pass_r4 ++ (wsX8_pass_r5 ++ (wsX8_pass_r6 ++ (wsX8_pass_r7 ++ (wsX8_pass_r8 ++ (wsX8_pass_r9 ++ wsX8_pass_r10))))))))) ++ wsX80 ++ wsX20 ++ wsX50 ++ wsX00 ++ wsX30 ++ wsX40 ++ wsX10 ++ wsX70 ++ (vx_atS RX8 45 "java/lang/IllegalArgumentException" ["java/lang/RuntimeException", "java/lang/Exception"]).filter goodWord ++ (vx_atS RX8 59 "java/lang/IllegalStateException" ["java/lang/RuntimeException", "java/lang/Exception"]).filter goodWord)
def wsX8_append : List Cond := .code yX8_append cX8_append 2 (some .int) :: ([.classLink RX8 41 "java/lang/IllegalArgumentException", .initialized "java/lang/IllegalArgumentException", .classLink RX8 55 "java/lang/IllegalStateException", .initialized "java/lang/IllegalStateException", .fieldLink RX8 33 "CraneCampaign" "buffer" "LCraneCampaign$WindText;", .fieldLink RX8 186 "CraneCampaign$WindText" "length" "I", .methodLink RX8 37 yX8_isWithin, .static yX8_isWithin, .initialized RX8, .code yX8_isWithin cX8_isWithin 3 (some .boolean), .methodLink RX8 180 yX6_isFull, .instanceMethod yX6_isFull, .selects RX6 yX6_isFull yX6_isFull, .initialized RX6, .code yX6_isFull cX6_isFull 1 (some .boolean), .fieldLink RX6 15 "CraneCampaign$WindText" "length" "I", .methodLink RX8 183 yX6_add, .instanceMethod yX6_add, .selects RX6 yX6_add yX6_add, .code yX6_add cX6_add 2 none, .fieldLink RX6 9 "CraneCampaign$WindText" "letters" "[I", .methodLink RX6 19 yX6_isFull] ++ wsX80 ++ wsX60 ++ (vx_atS RX8 45 "java/lang/IllegalArgumentException" ["java/lang/RuntimeException", "java/lang/Exception"]).filter goodWord ++ (vx_atS RX8 59 "java/lang/IllegalStateException" ["java/lang/RuntimeException", "java/lang/Exception"]).filter goodWord)
def wsX8_clearBuffer : List Cond := .code yX8_clearBuffer cX8_clearBuffer 2 (some .int) :: ([.fieldLink RX8 33 "CraneCampaign" "buffer" "LCraneCampaign$WindText;", .fieldLink RX8 186 "CraneCampaign$WindText" "length" "I"] ++ wsX80 ++ wsX60)
def wsX8_firstError_r1 : List Cond := [Cond.fieldLink RX8 33 "CraneCampaign" "buffer" "LCraneCampaign$WindText;", Cond.methodLink RX8 189 yX6_errorIndex, Cond.instanceMethod yX6_errorIndex, Cond.selects RX6 yX6_errorIndex yX6_errorIndex, Cond.initialized RX6, Cond.code yX6_errorIndex cX6_errorIndex 3 (some .int), Cond.fieldLink RX6 15 "CraneCampaign$WindText" "length" "I", Cond.fieldLink RX6 9 "CraneCampaign$WindText" "letters" "[I", Cond.methodLink RX6 23 yX6_after, Cond.static yX6_after, Cond.code yX6_after cX6_after 2 (some .int), Cond.methodLink RX6 27 yX6_isEndOfPart, Cond.static yX6_isEndOfPart, Cond.code yX6_isEndOfPart cX6_isEndOfPart 1 (some .boolean), Cond.methodLink RX6 31 yX6_isNumber, Cond.static yX6_isNumber, Cond.code yX6_isNumber cX6_isNumber 1 (some .boolean), Cond.methodLink RX6 34 yX6_afterDigit, Cond.static yX6_afterDigit, Cond.code yX6_afterDigit cX6_afterDigit 2 (some .int), Cond.methodLink RX6 37 yX6_afterFirstOfNumber, Cond.static yX6_afterFirstOfNumber, Cond.code yX6_afterFirstOfNumber cX6_afterFirstOfNumber 1 (some .int), Cond.methodLink RX6 41 yX6_afterFirstOfTimes]
def wsX8_firstError_r2 : List Cond := [Cond.static yX6_afterFirstOfTimes, Cond.code yX6_afterFirstOfTimes cX6_afterFirstOfTimes 1 (some .int)]
def wsX8_firstError : List Cond := .code yX8_firstError cX8_firstError 1 (some .int) :: ((wsX8_firstError_r1 ++ wsX8_firstError_r2) ++ wsX80 ++ wsX60)
def wsX8_load_r1 : List Cond := [Cond.classLink RX8 41 "java/lang/IllegalArgumentException", Cond.initialized "java/lang/IllegalArgumentException", Cond.classLink RX8 55 "java/lang/IllegalStateException", Cond.initialized "java/lang/IllegalStateException", Cond.fieldLink RX8 33 "CraneCampaign" "buffer" "LCraneCampaign$WindText;", Cond.fieldLink RX8 10 "CraneCampaign" "farm" "LCraneCampaign$Farm;", Cond.fieldLink RX8 202 "CraneCampaign$Farm" "winds" "LCraneCampaign$Winds;", Cond.fieldLink RX8 186 "CraneCampaign$WindText" "length" "I", Cond.fieldLink RX8 210 "CraneCampaign$Winds" "count" "I", Cond.methodLink RX8 192 yX6_isComplete, Cond.instanceMethod yX6_isComplete, Cond.selects RX6 yX6_isComplete yX6_isComplete, Cond.initialized RX6, Cond.code yX6_isComplete cX6_isComplete 3 (some .boolean), Cond.fieldLink RX6 15 "CraneCampaign$WindText" "length" "I", Cond.fieldLink RX6 9 "CraneCampaign$WindText" "letters" "[I", Cond.methodLink RX6 23 yX6_after, Cond.static yX6_after, Cond.code yX6_after cX6_after 2 (some .int), Cond.methodLink RX6 27 yX6_isEndOfPart, Cond.static yX6_isEndOfPart, Cond.code yX6_isEndOfPart cX6_isEndOfPart 1 (some .boolean), Cond.methodLink RX6 31 yX6_isNumber, Cond.static yX6_isNumber]
def wsX8_load_r2 : List Cond := [Cond.code yX6_isNumber cX6_isNumber 1 (some .boolean), Cond.methodLink RX6 34 yX6_afterDigit, Cond.static yX6_afterDigit, Cond.code yX6_afterDigit cX6_afterDigit 2 (some .int), Cond.methodLink RX6 37 yX6_afterFirstOfNumber, Cond.static yX6_afterFirstOfNumber, Cond.code yX6_afterFirstOfNumber cX6_afterFirstOfNumber 1 (some .int), Cond.methodLink RX6 41 yX6_afterFirstOfTimes, Cond.static yX6_afterFirstOfTimes, Cond.code yX6_afterFirstOfTimes cX6_afterFirstOfTimes 1 (some .int), Cond.methodLink RX8 197 yX6_numberCount, Cond.instanceMethod yX6_numberCount, Cond.selects RX6 yX6_numberCount yX6_numberCount, Cond.code yX6_numberCount cX6_numberCount 3 (some .int), Cond.methodLink RX6 44 yX6_timesFrom, Cond.instanceMethod yX6_timesFrom, Cond.selects RX6 yX6_timesFrom yX6_timesFrom, Cond.code yX6_timesFrom cX6_timesFrom 3 (some .int), Cond.methodLink RX6 52 yX6_valueFrom, Cond.instanceMethod yX6_valueFrom, Cond.selects RX6 yX6_valueFrom yX6_valueFrom, Cond.code yX6_valueFrom cX6_valueFrom 4 (some .int), Cond.methodLink RX8 60 yX8_saveState, Cond.instanceMethod yX8_saveState]
def wsX8_load_r3 : List Cond := [Cond.selects RX8 yX8_saveState yX8_saveState, Cond.initialized RX8, Cond.code yX8_saveState cX8_saveState 1 none, Cond.fieldLink RX8 19 "CraneCampaign" "saved" "[LCraneCampaign$Farm;", Cond.fieldLink RX8 23 "CraneCampaign" "oldestSaved" "I", Cond.fieldLink RX8 27 "CraneCampaign" "savedCount" "I", Cond.methodLink RX8 215 yX2_copyFrom, Cond.instanceMethod yX2_copyFrom, Cond.selects RX2 yX2_copyFrom yX2_copyFrom, Cond.initialized RX2, Cond.code yX2_copyFrom cX2_copyFrom 3 none, Cond.fieldLink RX2 17 "CraneCampaign$Farm" "turbineCount" "I", Cond.fieldLink RX2 11 "CraneCampaign$Farm" "turbines" "[LCraneCampaign$Turbine;", Cond.fieldLink RX2 24 "CraneCampaign$Farm" "bogs" "LCraneCampaign$Bogs;", Cond.fieldLink RX2 31 "CraneCampaign$Farm" "harbour" "LCraneCampaign$Harbour;", Cond.fieldLink RX2 38 "CraneCampaign$Farm" "plan" "LCraneCampaign$Plan;", Cond.fieldLink RX2 45 "CraneCampaign$Farm" "crane" "LCraneCampaign$Crane;", Cond.fieldLink RX2 52 "CraneCampaign$Farm" "winds" "LCraneCampaign$Winds;", Cond.fieldLink RX2 56 "CraneCampaign$Farm" "settings" "[I", Cond.methodLink RX2 70 arraycopyName, Cond.native arraycopyName, Cond.static arraycopyName, Cond.initialized "java/lang/System", Cond.fieldLink RX2 60 "CraneCampaign$Farm" "lostBy" "[I"]
def wsX8_load_r4 : List Cond := [Cond.fieldLink RX2 63 "CraneCampaign$Farm" "hour" "I", Cond.methodLink RX2 76 yX5_copyFrom, Cond.instanceMethod yX5_copyFrom, Cond.selects RX5 yX5_copyFrom yX5_copyFrom, Cond.initialized RX5, Cond.code yX5_copyFrom cX5_copyFrom 2 none, Cond.fieldLink RX5 9 "CraneCampaign$Turbine" "place" "I", Cond.fieldLink RX5 15 "CraneCampaign$Turbine" "height" "I", Cond.fieldLink RX5 18 "CraneCampaign$Turbine" "rate" "I", Cond.fieldLink RX5 21 "CraneCampaign$Turbine" "fault" "I", Cond.fieldLink RX5 24 "CraneCampaign$Turbine" "age" "I", Cond.fieldLink RX5 27 "CraneCampaign$Turbine" "lost" "I", Cond.fieldLink RX5 30 "CraneCampaign$Turbine" "won" "I", Cond.methodLink RX2 80 yX0_copyFrom, Cond.instanceMethod yX0_copyFrom, Cond.selects RX0 yX0_copyFrom yX0_copyFrom, Cond.initialized RX0, Cond.code yX0_copyFrom cX0_copyFrom 2 none, Cond.fieldLink RX0 9 "CraneCampaign$Bogs" "place" "[I", Cond.methodLink RX0 22 arraycopyName, Cond.fieldLink RX0 15 "CraneCampaign$Bogs" "need" "[I", Cond.fieldLink RX0 18 "CraneCampaign$Bogs" "count" "I", Cond.methodLink RX2 83 yX3_copyFrom, Cond.instanceMethod yX3_copyFrom]
def wsX8_load_r5 : List Cond := [Cond.selects RX3 yX3_copyFrom yX3_copyFrom, Cond.initialized RX3, Cond.code yX3_copyFrom cX3_copyFrom 2 none, Cond.fieldLink RX3 9 "CraneCampaign$Harbour" "turbine" "[I", Cond.methodLink RX3 22 arraycopyName, Cond.fieldLink RX3 15 "CraneCampaign$Harbour" "weight" "[I", Cond.fieldLink RX3 18 "CraneCampaign$Harbour" "count" "I", Cond.methodLink RX2 86 yX4_copyFrom, Cond.instanceMethod yX4_copyFrom, Cond.selects RX4 yX4_copyFrom yX4_copyFrom, Cond.initialized RX4, Cond.code yX4_copyFrom cX4_copyFrom 2 none, Cond.fieldLink RX4 9 "CraneCampaign$Plan" "row" "[I", Cond.methodLink RX4 19 arraycopyName, Cond.fieldLink RX4 15 "CraneCampaign$Plan" "count" "I", Cond.methodLink RX2 89 yX1_copyFrom, Cond.instanceMethod yX1_copyFrom, Cond.selects RX1 yX1_copyFrom yX1_copyFrom, Cond.initialized RX1, Cond.code yX1_copyFrom cX1_copyFrom 2 none, Cond.fieldLink RX1 9 "CraneCampaign$Crane" "place" "I", Cond.fieldLink RX1 15 "CraneCampaign$Crane" "hoursLeft" "I", Cond.fieldLink RX1 18 "CraneCampaign$Crane" "goal" "I", Cond.fieldLink RX1 21 "CraneCampaign$Crane" "workDone" "I"]
def wsX8_load_r6 : List Cond := [Cond.fieldLink RX1 24 "CraneCampaign$Crane" "workedOn" "I", Cond.methodLink RX2 92 yX7_copyFrom, Cond.instanceMethod yX7_copyFrom, Cond.selects RX7 yX7_copyFrom yX7_copyFrom, Cond.initialized RX7, Cond.code yX7_copyFrom cX7_copyFrom 2 none, Cond.fieldLink RX7 9 "CraneCampaign$Winds" "row" "[I", Cond.methodLink RX7 19 arraycopyName, Cond.fieldLink RX7 15 "CraneCampaign$Winds" "count" "I", Cond.methodLink RX8 206 yX6_writeTo, Cond.instanceMethod yX6_writeTo, Cond.selects RX6 yX6_writeTo yX6_writeTo, Cond.code yX6_writeTo cX6_writeTo 6 none, Cond.fieldLink RX6 47 "CraneCampaign$Winds" "count" "I", Cond.methodLink RX6 55 yX7_add, Cond.instanceMethod yX7_add, Cond.selects RX7 yX7_add yX7_add, Cond.code yX7_add cX7_add 2 none]
def wsX8_load : List Cond := .code yX8_load cX8_load 1 (some .int) :: ((wsX8_load_r1 ++ (wsX8_load_r2 ++ (wsX8_load_r3 ++ (wsX8_load_r4 ++ (wsX8_load_r5 ++ wsX8_load_r6))))) ++ wsX80 ++ wsX20 ++ wsX60 ++ wsX70 ++ wsX50 ++ wsX00 ++ wsX30 ++ wsX40 ++ wsX10 ++ (vx_atS RX8 45 "java/lang/IllegalArgumentException" ["java/lang/RuntimeException", "java/lang/Exception"]).filter goodWord ++ (vx_atS RX8 59 "java/lang/IllegalStateException" ["java/lang/RuntimeException", "java/lang/Exception"]).filter goodWord)
def wsX8_undo_r1 : List Cond := [Cond.classLink RX8 55 "java/lang/IllegalStateException", Cond.initialized "java/lang/IllegalStateException", Cond.fieldLink RX8 27 "CraneCampaign" "savedCount" "I", Cond.fieldLink RX8 10 "CraneCampaign" "farm" "LCraneCampaign$Farm;", Cond.fieldLink RX8 19 "CraneCampaign" "saved" "[LCraneCampaign$Farm;", Cond.fieldLink RX8 23 "CraneCampaign" "oldestSaved" "I", Cond.methodLink RX8 215 yX2_copyFrom, Cond.instanceMethod yX2_copyFrom, Cond.selects RX2 yX2_copyFrom yX2_copyFrom, Cond.initialized RX2, Cond.code yX2_copyFrom cX2_copyFrom 3 none, Cond.fieldLink RX2 17 "CraneCampaign$Farm" "turbineCount" "I", Cond.fieldLink RX2 11 "CraneCampaign$Farm" "turbines" "[LCraneCampaign$Turbine;", Cond.fieldLink RX2 24 "CraneCampaign$Farm" "bogs" "LCraneCampaign$Bogs;", Cond.fieldLink RX2 31 "CraneCampaign$Farm" "harbour" "LCraneCampaign$Harbour;", Cond.fieldLink RX2 38 "CraneCampaign$Farm" "plan" "LCraneCampaign$Plan;", Cond.fieldLink RX2 45 "CraneCampaign$Farm" "crane" "LCraneCampaign$Crane;", Cond.fieldLink RX2 52 "CraneCampaign$Farm" "winds" "LCraneCampaign$Winds;", Cond.fieldLink RX2 56 "CraneCampaign$Farm" "settings" "[I", Cond.methodLink RX2 70 arraycopyName, Cond.native arraycopyName, Cond.static arraycopyName, Cond.initialized "java/lang/System", Cond.fieldLink RX2 60 "CraneCampaign$Farm" "lostBy" "[I"]
def wsX8_undo_r2 : List Cond := [Cond.fieldLink RX2 63 "CraneCampaign$Farm" "hour" "I", Cond.methodLink RX2 76 yX5_copyFrom, Cond.instanceMethod yX5_copyFrom, Cond.selects RX5 yX5_copyFrom yX5_copyFrom, Cond.initialized RX5, Cond.code yX5_copyFrom cX5_copyFrom 2 none, Cond.fieldLink RX5 9 "CraneCampaign$Turbine" "place" "I", Cond.fieldLink RX5 15 "CraneCampaign$Turbine" "height" "I", Cond.fieldLink RX5 18 "CraneCampaign$Turbine" "rate" "I", Cond.fieldLink RX5 21 "CraneCampaign$Turbine" "fault" "I", Cond.fieldLink RX5 24 "CraneCampaign$Turbine" "age" "I", Cond.fieldLink RX5 27 "CraneCampaign$Turbine" "lost" "I", Cond.fieldLink RX5 30 "CraneCampaign$Turbine" "won" "I", Cond.methodLink RX2 80 yX0_copyFrom, Cond.instanceMethod yX0_copyFrom, Cond.selects RX0 yX0_copyFrom yX0_copyFrom, Cond.initialized RX0, Cond.code yX0_copyFrom cX0_copyFrom 2 none, Cond.fieldLink RX0 9 "CraneCampaign$Bogs" "place" "[I", Cond.methodLink RX0 22 arraycopyName, Cond.fieldLink RX0 15 "CraneCampaign$Bogs" "need" "[I", Cond.fieldLink RX0 18 "CraneCampaign$Bogs" "count" "I", Cond.methodLink RX2 83 yX3_copyFrom, Cond.instanceMethod yX3_copyFrom]
def wsX8_undo_r3 : List Cond := [Cond.selects RX3 yX3_copyFrom yX3_copyFrom, Cond.initialized RX3, Cond.code yX3_copyFrom cX3_copyFrom 2 none, Cond.fieldLink RX3 9 "CraneCampaign$Harbour" "turbine" "[I", Cond.methodLink RX3 22 arraycopyName, Cond.fieldLink RX3 15 "CraneCampaign$Harbour" "weight" "[I", Cond.fieldLink RX3 18 "CraneCampaign$Harbour" "count" "I", Cond.methodLink RX2 86 yX4_copyFrom, Cond.instanceMethod yX4_copyFrom, Cond.selects RX4 yX4_copyFrom yX4_copyFrom, Cond.initialized RX4, Cond.code yX4_copyFrom cX4_copyFrom 2 none, Cond.fieldLink RX4 9 "CraneCampaign$Plan" "row" "[I", Cond.methodLink RX4 19 arraycopyName, Cond.fieldLink RX4 15 "CraneCampaign$Plan" "count" "I", Cond.methodLink RX2 89 yX1_copyFrom, Cond.instanceMethod yX1_copyFrom, Cond.selects RX1 yX1_copyFrom yX1_copyFrom, Cond.initialized RX1, Cond.code yX1_copyFrom cX1_copyFrom 2 none, Cond.fieldLink RX1 9 "CraneCampaign$Crane" "place" "I", Cond.fieldLink RX1 15 "CraneCampaign$Crane" "hoursLeft" "I", Cond.fieldLink RX1 18 "CraneCampaign$Crane" "goal" "I", Cond.fieldLink RX1 21 "CraneCampaign$Crane" "workDone" "I"]
def wsX8_undo_r4 : List Cond := [Cond.fieldLink RX1 24 "CraneCampaign$Crane" "workedOn" "I", Cond.methodLink RX2 92 yX7_copyFrom, Cond.instanceMethod yX7_copyFrom, Cond.selects RX7 yX7_copyFrom yX7_copyFrom, Cond.initialized RX7, Cond.code yX7_copyFrom cX7_copyFrom 2 none, Cond.fieldLink RX7 9 "CraneCampaign$Winds" "row" "[I", Cond.methodLink RX7 19 arraycopyName, Cond.fieldLink RX7 15 "CraneCampaign$Winds" "count" "I"]
def wsX8_undo : List Cond := .code yX8_undo cX8_undo 1 (some .int) :: ((wsX8_undo_r1 ++ (wsX8_undo_r2 ++ (wsX8_undo_r3 ++ wsX8_undo_r4))) ++ wsX80 ++ wsX20 ++ wsX50 ++ wsX00 ++ wsX30 ++ wsX40 ++ wsX10 ++ wsX70 ++ (vx_atS RX8 59 "java/lang/IllegalStateException" ["java/lang/RuntimeException", "java/lang/Exception"]).filter goodWord)
def wsX8_turbine_r1 : List Cond := [Cond.classLink RX8 41 "java/lang/IllegalArgumentException", Cond.initialized "java/lang/IllegalArgumentException", Cond.fieldLink RX8 10 "CraneCampaign" "farm" "LCraneCampaign$Farm;", Cond.methodLink RX8 67 yX8_requireTurbine, Cond.instanceMethod yX8_requireTurbine, Cond.selects RX8 yX8_requireTurbine yX8_requireTurbine, Cond.initialized RX8, Cond.code yX8_requireTurbine cX8_requireTurbine 2 none, Cond.classLink RX8 134 "java/lang/IndexOutOfBoundsException", Cond.initialized "java/lang/IndexOutOfBoundsException", Cond.methodLink RX8 319 yX2_hasTurbine, Cond.instanceMethod yX2_hasTurbine, Cond.selects RX2 yX2_hasTurbine yX2_hasTurbine, Cond.initialized RX2, Cond.code yX2_hasTurbine cX2_hasTurbine 2 (some .boolean), Cond.fieldLink RX2 17 "CraneCampaign$Farm" "turbineCount" "I", Cond.methodLink RX8 37 yX8_isWithin, Cond.static yX8_isWithin, Cond.code yX8_isWithin cX8_isWithin 3 (some .boolean), Cond.methodLink RX8 221 yX2_turbineProperty, Cond.instanceMethod yX2_turbineProperty, Cond.selects RX2 yX2_turbineProperty yX2_turbineProperty, Cond.code yX2_turbineProperty cX2_turbineProperty 4 (some .int), Cond.fieldLink RX2 11 "CraneCampaign$Farm" "turbines" "[LCraneCampaign$Turbine;"]
def wsX8_turbine_r2 : List Cond := [Cond.fieldLink RX2 95 "CraneCampaign$Turbine" "place" "I", Cond.fieldLink RX2 116 "CraneCampaign$Turbine" "height" "I", Cond.fieldLink RX2 119 "CraneCampaign$Turbine" "rate" "I", Cond.fieldLink RX2 102 "CraneCampaign$Turbine" "fault" "I", Cond.fieldLink RX2 122 "CraneCampaign$Turbine" "age" "I", Cond.fieldLink RX2 56 "CraneCampaign$Farm" "settings" "[I", Cond.fieldLink RX2 38 "CraneCampaign$Farm" "plan" "LCraneCampaign$Plan;", Cond.fieldLink RX2 31 "CraneCampaign$Farm" "harbour" "LCraneCampaign$Harbour;", Cond.fieldLink RX2 134 "CraneCampaign$Turbine" "lost" "I", Cond.fieldLink RX2 105 "CraneCampaign$Turbine" "won" "I", Cond.methodLink RX2 112 yX2_hasTurbine, Cond.methodLink RX2 125 yX5_limit, Cond.instanceMethod yX5_limit, Cond.selects RX5 yX5_limit yX5_limit, Cond.initialized RX5, Cond.code yX5_limit cX5_limit 2 (some .int), Cond.fieldLink RX5 15 "CraneCampaign$Turbine" "height" "I", Cond.methodLink RX2 128 yX4_placeOf, Cond.instanceMethod yX4_placeOf, Cond.selects RX4 yX4_placeOf yX4_placeOf, Cond.initialized RX4, Cond.code yX4_placeOf cX4_placeOf 3 (some .int), Cond.fieldLink RX4 15 "CraneCampaign$Plan" "count" "I", Cond.fieldLink RX4 9 "CraneCampaign$Plan" "row" "[I"]
def wsX8_turbine_r3 : List Cond := [Cond.methodLink RX2 131 yX3_unloadedFor, Cond.instanceMethod yX3_unloadedFor, Cond.selects RX3 yX3_unloadedFor yX3_unloadedFor, Cond.initialized RX3, Cond.code yX3_unloadedFor cX3_unloadedFor 4 (some .int), Cond.fieldLink RX3 18 "CraneCampaign$Harbour" "count" "I", Cond.fieldLink RX3 9 "CraneCampaign$Harbour" "turbine" "[I", Cond.fieldLink RX3 15 "CraneCampaign$Harbour" "weight" "[I", Cond.methodLink RX2 137 yX2_windNow, Cond.instanceMethod yX2_windNow, Cond.selects RX2 yX2_windNow yX2_windNow, Cond.code yX2_windNow cX2_windNow 1 (some .int), Cond.fieldLink RX2 52 "CraneCampaign$Farm" "winds" "LCraneCampaign$Winds;", Cond.fieldLink RX2 63 "CraneCampaign$Farm" "hour" "I", Cond.methodLink RX2 108 yX7_at, Cond.instanceMethod yX7_at, Cond.selects RX7 yX7_at yX7_at, Cond.initialized RX7, Cond.code yX7_at cX7_at 2 (some .int), Cond.fieldLink RX7 15 "CraneCampaign$Winds" "count" "I", Cond.fieldLink RX7 9 "CraneCampaign$Winds" "row" "[I", Cond.methodLink RX2 141 yX5_fullPower, Cond.instanceMethod yX5_fullPower, Cond.selects RX5 yX5_fullPower yX5_fullPower]
def wsX8_turbine_r4 : List Cond := [Cond.code yX5_fullPower cX5_fullPower 2 (some .int), Cond.fieldLink RX5 18 "CraneCampaign$Turbine" "rate" "I", Cond.methodLink RX5 33 Lib.Math.min.name, Cond.static Lib.Math.min.name, Cond.initialized "java/lang/Math", Cond.code Lib.Math.min.name Lib.Math.min.code 2 (some .int)]
def wsX8_turbine : List Cond := .code yX8_turbine cX8_turbine 3 (some .int) :: ((wsX8_turbine_r1 ++ (wsX8_turbine_r2 ++ (wsX8_turbine_r3 ++ wsX8_turbine_r4))) ++ wsX80 ++ wsX20 ++ wsX50 ++ wsX40 ++ wsX30 ++ wsX70 ++ (vx_atS RX8 45 "java/lang/IllegalArgumentException" ["java/lang/RuntimeException", "java/lang/Exception"]).filter goodWord ++ (vx_atS RX8 138 "java/lang/IndexOutOfBoundsException" ["java/lang/RuntimeException", "java/lang/Exception"]).filter goodWord)
def wsX8_blade : List Cond := .code yX8_blade cX8_blade 3 (some .int) :: ([.classLink RX8 134 "java/lang/IndexOutOfBoundsException", .initialized "java/lang/IndexOutOfBoundsException", .classLink RX8 41 "java/lang/IllegalArgumentException", .initialized "java/lang/IllegalArgumentException", .fieldLink RX8 10 "CraneCampaign" "farm" "LCraneCampaign$Farm;", .fieldLink RX8 151 "CraneCampaign$Farm" "harbour" "LCraneCampaign$Harbour;", .fieldLink RX8 167 "CraneCampaign$Harbour" "count" "I", .fieldLink RX8 229 "CraneCampaign$Harbour" "turbine" "[I", .fieldLink RX8 232 "CraneCampaign$Harbour" "weight" "[I", .methodLink RX8 37 yX8_isWithin, .static yX8_isWithin, .initialized RX8, .code yX8_isWithin cX8_isWithin 3 (some .boolean)] ++ wsX80 ++ wsX20 ++ wsX30 ++ (vx_atS RX8 138 "java/lang/IndexOutOfBoundsException" ["java/lang/RuntimeException", "java/lang/Exception"]).filter goodWord ++ (vx_atS RX8 45 "java/lang/IllegalArgumentException" ["java/lang/RuntimeException", "java/lang/Exception"]).filter goodWord)
def wsX8_bog : List Cond := .code yX8_bog cX8_bog 3 (some .int) :: ([.classLink RX8 134 "java/lang/IndexOutOfBoundsException", .initialized "java/lang/IndexOutOfBoundsException", .classLink RX8 41 "java/lang/IllegalArgumentException", .initialized "java/lang/IllegalArgumentException", .fieldLink RX8 10 "CraneCampaign" "farm" "LCraneCampaign$Farm;", .fieldLink RX8 87 "CraneCampaign$Farm" "bogs" "LCraneCampaign$Bogs;", .fieldLink RX8 107 "CraneCampaign$Bogs" "count" "I", .fieldLink RX8 237 "CraneCampaign$Bogs" "place" "[I", .fieldLink RX8 240 "CraneCampaign$Bogs" "need" "[I", .methodLink RX8 37 yX8_isWithin, .static yX8_isWithin, .initialized RX8, .code yX8_isWithin cX8_isWithin 3 (some .boolean)] ++ wsX80 ++ wsX20 ++ wsX00 ++ (vx_atS RX8 138 "java/lang/IndexOutOfBoundsException" ["java/lang/RuntimeException", "java/lang/Exception"]).filter goodWord ++ (vx_atS RX8 45 "java/lang/IllegalArgumentException" ["java/lang/RuntimeException", "java/lang/Exception"]).filter goodWord)
def wsX8_claims : List Cond := .code yX8_claims cX8_claims 2 (some .int) :: ([.classLink RX8 41 "java/lang/IllegalArgumentException", .initialized "java/lang/IllegalArgumentException", .fieldLink RX8 10 "CraneCampaign" "farm" "LCraneCampaign$Farm;", .fieldLink RX8 245 "CraneCampaign$Farm" "lostBy" "[I", .methodLink RX8 37 yX8_isWithin, .static yX8_isWithin, .initialized RX8, .code yX8_isWithin cX8_isWithin 3 (some .boolean)] ++ wsX80 ++ wsX20 ++ (vx_atS RX8 45 "java/lang/IllegalArgumentException" ["java/lang/RuntimeException", "java/lang/Exception"]).filter goodWord)
def wsX8_numberOf_r1 : List Cond := [Cond.fieldLink RX8 10 "CraneCampaign" "farm" "LCraneCampaign$Farm;", Cond.fieldLink RX8 326 "CraneCampaign$Farm" "crane" "LCraneCampaign$Crane;", Cond.fieldLink RX8 48 "CraneCampaign$Farm" "turbineCount" "I", Cond.fieldLink RX8 170 "CraneCampaign$Farm" "hour" "I", Cond.fieldLink RX8 202 "CraneCampaign$Farm" "winds" "LCraneCampaign$Winds;", Cond.fieldLink RX8 210 "CraneCampaign$Winds" "count" "I", Cond.fieldLink RX8 125 "CraneCampaign$Farm" "plan" "LCraneCampaign$Plan;", Cond.fieldLink RX8 142 "CraneCampaign$Plan" "count" "I", Cond.fieldLink RX8 339 "CraneCampaign$Crane" "place" "I", Cond.fieldLink RX8 343 "CraneCampaign$Crane" "hoursLeft" "I", Cond.fieldLink RX8 346 "CraneCampaign$Crane" "goal" "I", Cond.fieldLink RX8 151 "CraneCampaign$Farm" "harbour" "LCraneCampaign$Harbour;", Cond.fieldLink RX8 167 "CraneCampaign$Harbour" "count" "I", Cond.fieldLink RX8 27 "CraneCampaign" "savedCount" "I", Cond.methodLink RX8 330 yX2_faultCount, Cond.instanceMethod yX2_faultCount, Cond.selects RX2 yX2_faultCount yX2_faultCount, Cond.initialized RX2, Cond.code yX2_faultCount cX2_faultCount 3 (some .int), Cond.fieldLink RX2 17 "CraneCampaign$Farm" "turbineCount" "I", Cond.fieldLink RX2 11 "CraneCampaign$Farm" "turbines" "[LCraneCampaign$Turbine;", Cond.fieldLink RX2 102 "CraneCampaign$Turbine" "fault" "I", Cond.methodLink RX8 333 yX2_windNow, Cond.instanceMethod yX2_windNow]
def wsX8_numberOf_r2 : List Cond := [Cond.selects RX2 yX2_windNow yX2_windNow, Cond.code yX2_windNow cX2_windNow 1 (some .int), Cond.fieldLink RX2 52 "CraneCampaign$Farm" "winds" "LCraneCampaign$Winds;", Cond.fieldLink RX2 63 "CraneCampaign$Farm" "hour" "I", Cond.methodLink RX2 108 yX7_at, Cond.instanceMethod yX7_at, Cond.selects RX7 yX7_at yX7_at, Cond.initialized RX7, Cond.code yX7_at cX7_at 2 (some .int), Cond.fieldLink RX7 15 "CraneCampaign$Winds" "count" "I", Cond.fieldLink RX7 9 "CraneCampaign$Winds" "row" "[I", Cond.methodLink RX8 336 yX4_first, Cond.instanceMethod yX4_first, Cond.selects RX4 yX4_first yX4_first, Cond.initialized RX4, Cond.code yX4_first cX4_first 1 (some .int), Cond.fieldLink RX4 15 "CraneCampaign$Plan" "count" "I", Cond.fieldLink RX4 9 "CraneCampaign$Plan" "row" "[I", Cond.methodLink RX8 349 yX1_workOn, Cond.instanceMethod yX1_workOn, Cond.selects RX1 yX1_workOn yX1_workOn, Cond.initialized RX1, Cond.code yX1_workOn cX1_workOn 2 (some .int), Cond.fieldLink RX1 24 "CraneCampaign$Crane" "workedOn" "I"]
def wsX8_numberOf_r3 : List Cond := [Cond.fieldLink RX1 21 "CraneCampaign$Crane" "workDone" "I", Cond.methodLink RX8 278 yX2_lostPower, Cond.instanceMethod yX2_lostPower, Cond.selects RX2 yX2_lostPower yX2_lostPower, Cond.code yX2_lostPower cX2_lostPower 3 (some .int), Cond.fieldLink RX2 60 "CraneCampaign$Farm" "lostBy" "[I", Cond.methodLink RX8 281 yX2_wonPower, Cond.instanceMethod yX2_wonPower, Cond.selects RX2 yX2_wonPower yX2_wonPower, Cond.code yX2_wonPower cX2_wonPower 3 (some .int), Cond.fieldLink RX2 105 "CraneCampaign$Turbine" "won" "I"]
def wsX8_numberOf : List Cond := .code yX8_numberOf cX8_numberOf 3 (some .int) :: ((wsX8_numberOf_r1 ++ (wsX8_numberOf_r2 ++ wsX8_numberOf_r3)) ++ wsX80 ++ wsX20 ++ wsX70 ++ wsX40 ++ wsX10 ++ wsX30 ++ wsX50)
def wsX8_count_r1 : List Cond := [Cond.classLink RX8 41 "java/lang/IllegalArgumentException", Cond.initialized "java/lang/IllegalArgumentException", Cond.methodLink RX8 37 yX8_isWithin, Cond.static yX8_isWithin, Cond.initialized RX8, Cond.code yX8_isWithin cX8_isWithin 3 (some .boolean), Cond.methodLink RX8 250 yX8_numberOf, Cond.instanceMethod yX8_numberOf, Cond.selects RX8 yX8_numberOf yX8_numberOf, Cond.code yX8_numberOf cX8_numberOf 3 (some .int), Cond.fieldLink RX8 10 "CraneCampaign" "farm" "LCraneCampaign$Farm;", Cond.fieldLink RX8 326 "CraneCampaign$Farm" "crane" "LCraneCampaign$Crane;", Cond.fieldLink RX8 48 "CraneCampaign$Farm" "turbineCount" "I", Cond.fieldLink RX8 170 "CraneCampaign$Farm" "hour" "I", Cond.fieldLink RX8 202 "CraneCampaign$Farm" "winds" "LCraneCampaign$Winds;", Cond.fieldLink RX8 210 "CraneCampaign$Winds" "count" "I", Cond.fieldLink RX8 125 "CraneCampaign$Farm" "plan" "LCraneCampaign$Plan;", Cond.fieldLink RX8 142 "CraneCampaign$Plan" "count" "I", Cond.fieldLink RX8 339 "CraneCampaign$Crane" "place" "I", Cond.fieldLink RX8 343 "CraneCampaign$Crane" "hoursLeft" "I", Cond.fieldLink RX8 346 "CraneCampaign$Crane" "goal" "I", Cond.fieldLink RX8 151 "CraneCampaign$Farm" "harbour" "LCraneCampaign$Harbour;", Cond.fieldLink RX8 167 "CraneCampaign$Harbour" "count" "I", Cond.fieldLink RX8 27 "CraneCampaign" "savedCount" "I"]
def wsX8_count_r2 : List Cond := [Cond.methodLink RX8 330 yX2_faultCount, Cond.instanceMethod yX2_faultCount, Cond.selects RX2 yX2_faultCount yX2_faultCount, Cond.initialized RX2, Cond.code yX2_faultCount cX2_faultCount 3 (some .int), Cond.fieldLink RX2 17 "CraneCampaign$Farm" "turbineCount" "I", Cond.fieldLink RX2 11 "CraneCampaign$Farm" "turbines" "[LCraneCampaign$Turbine;", Cond.fieldLink RX2 102 "CraneCampaign$Turbine" "fault" "I", Cond.methodLink RX8 333 yX2_windNow, Cond.instanceMethod yX2_windNow, Cond.selects RX2 yX2_windNow yX2_windNow, Cond.code yX2_windNow cX2_windNow 1 (some .int), Cond.fieldLink RX2 52 "CraneCampaign$Farm" "winds" "LCraneCampaign$Winds;", Cond.fieldLink RX2 63 "CraneCampaign$Farm" "hour" "I", Cond.methodLink RX2 108 yX7_at, Cond.instanceMethod yX7_at, Cond.selects RX7 yX7_at yX7_at, Cond.initialized RX7, Cond.code yX7_at cX7_at 2 (some .int), Cond.fieldLink RX7 15 "CraneCampaign$Winds" "count" "I", Cond.fieldLink RX7 9 "CraneCampaign$Winds" "row" "[I", Cond.methodLink RX8 336 yX4_first, Cond.instanceMethod yX4_first, Cond.selects RX4 yX4_first yX4_first]
def wsX8_count_r3 : List Cond := [Cond.initialized RX4, Cond.code yX4_first cX4_first 1 (some .int), Cond.fieldLink RX4 15 "CraneCampaign$Plan" "count" "I", Cond.fieldLink RX4 9 "CraneCampaign$Plan" "row" "[I", Cond.methodLink RX8 349 yX1_workOn, Cond.instanceMethod yX1_workOn, Cond.selects RX1 yX1_workOn yX1_workOn, Cond.initialized RX1, Cond.code yX1_workOn cX1_workOn 2 (some .int), Cond.fieldLink RX1 24 "CraneCampaign$Crane" "workedOn" "I", Cond.fieldLink RX1 21 "CraneCampaign$Crane" "workDone" "I", Cond.methodLink RX8 278 yX2_lostPower, Cond.instanceMethod yX2_lostPower, Cond.selects RX2 yX2_lostPower yX2_lostPower, Cond.code yX2_lostPower cX2_lostPower 3 (some .int), Cond.fieldLink RX2 60 "CraneCampaign$Farm" "lostBy" "[I", Cond.methodLink RX8 281 yX2_wonPower, Cond.instanceMethod yX2_wonPower, Cond.selects RX2 yX2_wonPower yX2_wonPower, Cond.code yX2_wonPower cX2_wonPower 3 (some .int), Cond.fieldLink RX2 105 "CraneCampaign$Turbine" "won" "I"]
def wsX8_count : List Cond := .code yX8_count cX8_count 2 (some .int) :: ((wsX8_count_r1 ++ (wsX8_count_r2 ++ wsX8_count_r3)) ++ wsX80 ++ wsX20 ++ wsX70 ++ wsX40 ++ wsX10 ++ wsX30 ++ wsX50 ++ (vx_atS RX8 45 "java/lang/IllegalArgumentException" ["java/lang/RuntimeException", "java/lang/Exception"]).filter goodWord)
def wsX8_setting : List Cond := .code yX8_setting cX8_setting 2 (some .int) :: ([.fieldLink RX8 10 "CraneCampaign" "farm" "LCraneCampaign$Farm;", .fieldLink RX8 122 "CraneCampaign$Farm" "settings" "[I", .methodLink RX8 110 yX8_requireSetting, .static yX8_requireSetting, .initialized RX8, .code yX8_requireSetting cX8_requireSetting 1 none, .classLink RX8 134 "java/lang/IndexOutOfBoundsException", .initialized "java/lang/IndexOutOfBoundsException", .methodLink RX8 37 yX8_isWithin, .static yX8_isWithin, .code yX8_isWithin cX8_isWithin 3 (some .boolean)] ++ wsX80 ++ wsX20 ++ (vx_atS RX8 138 "java/lang/IndexOutOfBoundsException" ["java/lang/RuntimeException", "java/lang/Exception"]).filter goodWord)
def wsX8_way_r1 : List Cond := [Cond.classLink RX8 41 "java/lang/IllegalArgumentException", Cond.initialized "java/lang/IllegalArgumentException", Cond.fieldLink RX8 10 "CraneCampaign" "farm" "LCraneCampaign$Farm;", Cond.methodLink RX8 37 yX8_isWithin, Cond.static yX8_isWithin, Cond.initialized RX8, Cond.code yX8_isWithin cX8_isWithin 3 (some .boolean), Cond.methodLink RX8 255 yX2_hoursBetween, Cond.instanceMethod yX2_hoursBetween, Cond.selects RX2 yX2_hoursBetween yX2_hoursBetween, Cond.initialized RX2, Cond.code yX2_hoursBetween cX2_hoursBetween 6 (some .int), Cond.fieldLink RX2 56 "CraneCampaign$Farm" "settings" "[I", Cond.methodLink RX2 156 Lib.Math.max.name, Cond.static Lib.Math.max.name, Cond.initialized "java/lang/Math", Cond.code Lib.Math.max.name Lib.Math.max.code 2 (some .int), Cond.methodLink RX2 162 Lib.Math.abs.name, Cond.static Lib.Math.abs.name, Cond.code Lib.Math.abs.name Lib.Math.abs.code 1 (some .int), Cond.fieldLink RX2 24 "CraneCampaign$Farm" "bogs" "LCraneCampaign$Bogs;", Cond.methodLink RX2 165 Lib.Math.min.name, Cond.static Lib.Math.min.name, Cond.code Lib.Math.min.name Lib.Math.min.code 2 (some .int)]
def wsX8_way_r2 : List Cond := [Cond.methodLink RX2 168 yX0_countBetween, Cond.instanceMethod yX0_countBetween, Cond.selects RX0 yX0_countBetween yX0_countBetween, Cond.initialized RX0, Cond.code yX0_countBetween cX0_countBetween 6 (some .int), Cond.fieldLink RX0 18 "CraneCampaign$Bogs" "count" "I", Cond.fieldLink RX0 9 "CraneCampaign$Bogs" "place" "[I", Cond.fieldLink RX0 15 "CraneCampaign$Bogs" "need" "[I"]
def wsX8_way : List Cond := .code yX8_way cX8_way 3 (some .int) :: ((wsX8_way_r1 ++ wsX8_way_r2) ++ wsX80 ++ wsX20 ++ wsX00 ++ (vx_atS RX8 45 "java/lang/IllegalArgumentException" ["java/lang/RuntimeException", "java/lang/Exception"]).filter goodWord)
def wsX8_ifPassed_r1 : List Cond := [Cond.classLink RX8 41 "java/lang/IllegalArgumentException", Cond.initialized "java/lang/IllegalArgumentException", Cond.fieldLink RX8 16 "CraneCampaign" "trial" "LCraneCampaign$Farm;", Cond.fieldLink RX8 10 "CraneCampaign" "farm" "LCraneCampaign$Farm;", Cond.methodLink RX8 37 yX8_isWithin, Cond.static yX8_isWithin, Cond.initialized RX8, Cond.code yX8_isWithin cX8_isWithin 3 (some .boolean), Cond.methodLink RX8 215 yX2_copyFrom, Cond.instanceMethod yX2_copyFrom, Cond.selects RX2 yX2_copyFrom yX2_copyFrom, Cond.initialized RX2, Cond.code yX2_copyFrom cX2_copyFrom 3 none, Cond.fieldLink RX2 17 "CraneCampaign$Farm" "turbineCount" "I", Cond.fieldLink RX2 11 "CraneCampaign$Farm" "turbines" "[LCraneCampaign$Turbine;", Cond.fieldLink RX2 24 "CraneCampaign$Farm" "bogs" "LCraneCampaign$Bogs;", Cond.fieldLink RX2 31 "CraneCampaign$Farm" "harbour" "LCraneCampaign$Harbour;", Cond.fieldLink RX2 38 "CraneCampaign$Farm" "plan" "LCraneCampaign$Plan;", Cond.fieldLink RX2 45 "CraneCampaign$Farm" "crane" "LCraneCampaign$Crane;", Cond.fieldLink RX2 52 "CraneCampaign$Farm" "winds" "LCraneCampaign$Winds;", Cond.fieldLink RX2 56 "CraneCampaign$Farm" "settings" "[I", Cond.methodLink RX2 70 arraycopyName, Cond.native arraycopyName, Cond.static arraycopyName]
def wsX8_ifPassed_r2 : List Cond := [Cond.initialized "java/lang/System", Cond.fieldLink RX2 60 "CraneCampaign$Farm" "lostBy" "[I", Cond.fieldLink RX2 63 "CraneCampaign$Farm" "hour" "I", Cond.methodLink RX2 76 yX5_copyFrom, Cond.instanceMethod yX5_copyFrom, Cond.selects RX5 yX5_copyFrom yX5_copyFrom, Cond.initialized RX5, Cond.code yX5_copyFrom cX5_copyFrom 2 none, Cond.fieldLink RX5 9 "CraneCampaign$Turbine" "place" "I", Cond.fieldLink RX5 15 "CraneCampaign$Turbine" "height" "I", Cond.fieldLink RX5 18 "CraneCampaign$Turbine" "rate" "I", Cond.fieldLink RX5 21 "CraneCampaign$Turbine" "fault" "I", Cond.fieldLink RX5 24 "CraneCampaign$Turbine" "age" "I", Cond.fieldLink RX5 27 "CraneCampaign$Turbine" "lost" "I", Cond.fieldLink RX5 30 "CraneCampaign$Turbine" "won" "I", Cond.methodLink RX2 80 yX0_copyFrom, Cond.instanceMethod yX0_copyFrom, Cond.selects RX0 yX0_copyFrom yX0_copyFrom, Cond.initialized RX0, Cond.code yX0_copyFrom cX0_copyFrom 2 none, Cond.fieldLink RX0 9 "CraneCampaign$Bogs" "place" "[I", Cond.methodLink RX0 22 arraycopyName, Cond.fieldLink RX0 15 "CraneCampaign$Bogs" "need" "[I", Cond.fieldLink RX0 18 "CraneCampaign$Bogs" "count" "I"]
def wsX8_ifPassed_r3 : List Cond := [Cond.methodLink RX2 83 yX3_copyFrom, Cond.instanceMethod yX3_copyFrom, Cond.selects RX3 yX3_copyFrom yX3_copyFrom, Cond.initialized RX3, Cond.code yX3_copyFrom cX3_copyFrom 2 none, Cond.fieldLink RX3 9 "CraneCampaign$Harbour" "turbine" "[I", Cond.methodLink RX3 22 arraycopyName, Cond.fieldLink RX3 15 "CraneCampaign$Harbour" "weight" "[I", Cond.fieldLink RX3 18 "CraneCampaign$Harbour" "count" "I", Cond.methodLink RX2 86 yX4_copyFrom, Cond.instanceMethod yX4_copyFrom, Cond.selects RX4 yX4_copyFrom yX4_copyFrom, Cond.initialized RX4, Cond.code yX4_copyFrom cX4_copyFrom 2 none, Cond.fieldLink RX4 9 "CraneCampaign$Plan" "row" "[I", Cond.methodLink RX4 19 arraycopyName, Cond.fieldLink RX4 15 "CraneCampaign$Plan" "count" "I", Cond.methodLink RX2 89 yX1_copyFrom, Cond.instanceMethod yX1_copyFrom, Cond.selects RX1 yX1_copyFrom yX1_copyFrom, Cond.initialized RX1, Cond.code yX1_copyFrom cX1_copyFrom 2 none, Cond.fieldLink RX1 9 "CraneCampaign$Crane" "place" "I", Cond.fieldLink RX1 15 "CraneCampaign$Crane" "hoursLeft" "I"]
def wsX8_ifPassed_r4 : List Cond := [Cond.fieldLink RX1 18 "CraneCampaign$Crane" "goal" "I", Cond.fieldLink RX1 21 "CraneCampaign$Crane" "workDone" "I", Cond.fieldLink RX1 24 "CraneCampaign$Crane" "workedOn" "I", Cond.methodLink RX2 92 yX7_copyFrom, Cond.instanceMethod yX7_copyFrom, Cond.selects RX7 yX7_copyFrom yX7_copyFrom, Cond.initialized RX7, Cond.code yX7_copyFrom cX7_copyFrom 2 none, Cond.fieldLink RX7 9 "CraneCampaign$Winds" "row" "[I", Cond.methodLink RX7 19 arraycopyName, Cond.fieldLink RX7 15 "CraneCampaign$Winds" "count" "I", Cond.methodLink RX8 175 yX2_runHours, Cond.instanceMethod yX2_runHours, Cond.selects RX2 yX2_runHours yX2_runHours, Cond.code yX2_runHours cX2_runHours 4 (some .int), Cond.methodLink RX2 172 yX2_runHour, Cond.instanceMethod yX2_runHour, Cond.selects RX2 yX2_runHour yX2_runHour, Cond.code yX2_runHour cX2_runHour 4 (some .int), Cond.methodLink RX2 175 yX3_unload, Cond.instanceMethod yX3_unload, Cond.selects RX3 yX3_unload yX3_unload, Cond.code yX3_unload cX3_unload 5 none, Cond.methodLink RX3 32 Lib.Math.min.name]
def wsX8_ifPassed_r5 : List Cond := [Cond.static Lib.Math.min.name, Cond.initialized "java/lang/Math", Cond.code Lib.Math.min.name Lib.Math.min.code 2 (some .int), Cond.methodLink RX2 179 yX2_dropFaultless, Cond.instanceMethod yX2_dropFaultless, Cond.selects RX2 yX2_dropFaultless yX2_dropFaultless, Cond.code yX2_dropFaultless cX2_dropFaultless 3 none, Cond.fieldLink RX2 153 "CraneCampaign$Plan" "count" "I", Cond.fieldLink RX2 197 "CraneCampaign$Crane" "workedOn" "I", Cond.fieldLink RX2 102 "CraneCampaign$Turbine" "fault" "I", Cond.methodLink RX2 182 yX4_first, Cond.instanceMethod yX4_first, Cond.selects RX4 yX4_first yX4_first, Cond.code yX4_first cX4_first 1 (some .int), Cond.methodLink RX2 200 yX1_forgetWork, Cond.instanceMethod yX1_forgetWork, Cond.selects RX1 yX1_forgetWork yX1_forgetWork, Cond.code yX1_forgetWork cX1_forgetWork 1 none, Cond.methodLink RX2 112 yX2_hasTurbine, Cond.instanceMethod yX2_hasTurbine, Cond.selects RX2 yX2_hasTurbine yX2_hasTurbine, Cond.code yX2_hasTurbine cX2_hasTurbine 2 (some .boolean), Cond.methodLink RX2 203 yX4_removeAt, Cond.instanceMethod yX4_removeAt]
def wsX8_ifPassed_r6 : List Cond := [Cond.selects RX4 yX4_removeAt yX4_removeAt, Cond.code yX4_removeAt cX4_removeAt 3 none, Cond.methodLink RX2 185 yX2_serve, Cond.instanceMethod yX2_serve, Cond.selects RX2 yX2_serve yX2_serve, Cond.code yX2_serve cX2_serve 3 (some .int), Cond.fieldLink RX2 210 "CraneCampaign$Crane" "place" "I", Cond.fieldLink RX2 95 "CraneCampaign$Turbine" "place" "I", Cond.methodLink RX2 206 yX1_isOnWay, Cond.instanceMethod yX1_isOnWay, Cond.selects RX1 yX1_isOnWay yX1_isOnWay, Cond.code yX1_isOnWay cX1_isOnWay 1 (some .boolean), Cond.methodLink RX2 211 yX2_hoursBetween, Cond.instanceMethod yX2_hoursBetween, Cond.selects RX2 yX2_hoursBetween yX2_hoursBetween, Cond.code yX2_hoursBetween cX2_hoursBetween 6 (some .int), Cond.methodLink RX2 156 Lib.Math.max.name, Cond.static Lib.Math.max.name, Cond.code Lib.Math.max.name Lib.Math.max.code 2 (some .int), Cond.methodLink RX2 162 Lib.Math.abs.name, Cond.static Lib.Math.abs.name, Cond.code Lib.Math.abs.name Lib.Math.abs.code 1 (some .int), Cond.methodLink RX2 165 Lib.Math.min.name, Cond.methodLink RX2 168 yX0_countBetween]
def wsX8_ifPassed_r7 : List Cond := [Cond.instanceMethod yX0_countBetween, Cond.selects RX0 yX0_countBetween yX0_countBetween, Cond.code yX0_countBetween cX0_countBetween 6 (some .int), Cond.methodLink RX2 214 yX1_driveTo, Cond.instanceMethod yX1_driveTo, Cond.selects RX1 yX1_driveTo yX1_driveTo, Cond.code yX1_driveTo cX1_driveTo 4 none, Cond.methodLink RX1 27 Lib.Math.max.name, Cond.methodLink RX2 131 yX3_unloadedFor, Cond.instanceMethod yX3_unloadedFor, Cond.selects RX3 yX3_unloadedFor yX3_unloadedFor, Cond.code yX3_unloadedFor cX3_unloadedFor 4 (some .int), Cond.methodLink RX2 137 yX2_windNow, Cond.instanceMethod yX2_windNow, Cond.selects RX2 yX2_windNow yX2_windNow, Cond.code yX2_windNow cX2_windNow 1 (some .int), Cond.methodLink RX2 108 yX7_at, Cond.instanceMethod yX7_at, Cond.selects RX7 yX7_at yX7_at, Cond.code yX7_at cX7_at 2 (some .int), Cond.methodLink RX2 125 yX5_limit, Cond.instanceMethod yX5_limit, Cond.selects RX5 yX5_limit yX5_limit, Cond.code yX5_limit cX5_limit 2 (some .int)]
def wsX8_ifPassed_r8 : List Cond := [Cond.methodLink RX2 217 yX1_workAnHourOn, Cond.instanceMethod yX1_workAnHourOn, Cond.selects RX1 yX1_workAnHourOn yX1_workAnHourOn, Cond.code yX1_workAnHourOn cX1_workAnHourOn 2 none, Cond.methodLink RX2 188 yX2_sharePower, Cond.instanceMethod yX2_sharePower, Cond.selects RX2 yX2_sharePower yX2_sharePower, Cond.code yX2_sharePower cX2_sharePower 9 (some .int), Cond.fieldLink RX2 134 "CraneCampaign$Turbine" "lost" "I", Cond.fieldLink RX2 105 "CraneCampaign$Turbine" "won" "I", Cond.methodLink RX2 141 yX5_fullPower, Cond.instanceMethod yX5_fullPower, Cond.selects RX5 yX5_fullPower yX5_fullPower, Cond.code yX5_fullPower cX5_fullPower 2 (some .int), Cond.methodLink RX5 33 Lib.Math.min.name, Cond.methodLink RX2 191 yX2_finishIfDone, Cond.instanceMethod yX2_finishIfDone, Cond.selects RX2 yX2_finishIfDone yX2_finishIfDone, Cond.code yX2_finishIfDone cX2_finishIfDone 2 none, Cond.fieldLink RX2 220 "CraneCampaign$Crane" "workDone" "I", Cond.fieldLink RX2 122 "CraneCampaign$Turbine" "age" "I", Cond.methodLink RX2 223 yX3_useBladeFor, Cond.instanceMethod yX3_useBladeFor, Cond.selects RX3 yX3_useBladeFor yX3_useBladeFor]
def wsX8_ifPassed_r9 : List Cond := [Cond.code yX3_useBladeFor cX3_useBladeFor 3 none, Cond.methodLink RX3 38 yX3_removeAt, Cond.instanceMethod yX3_removeAt, Cond.selects RX3 yX3_removeAt yX3_removeAt, Cond.code yX3_removeAt cX3_removeAt 3 none, Cond.methodLink RX2 128 yX4_placeOf, Cond.instanceMethod yX4_placeOf, Cond.selects RX4 yX4_placeOf yX4_placeOf, Cond.code yX4_placeOf cX4_placeOf 3 (some .int), Cond.methodLink RX2 194 yX2_worsen, Cond.instanceMethod yX2_worsen, Cond.selects RX2 yX2_worsen yX2_worsen, Cond.code yX2_worsen cX2_worsen 3 none, Cond.methodLink RX2 226 yX5_growOlder, Cond.instanceMethod yX5_growOlder, Cond.selects RX5 yX5_growOlder yX5_growOlder, Cond.code yX5_growOlder cX5_growOlder 2 none, Cond.methodLink RX8 260 yX2_outcome, Cond.instanceMethod yX2_outcome, Cond.selects RX2 yX2_outcome yX2_outcome, Cond.code yX2_outcome cX2_outcome 2 (some .int), Cond.methodLink RX2 144 yX2_lostPower, Cond.instanceMethod yX2_lostPower, Cond.selects RX2 yX2_lostPower yX2_lostPower]
def wsX8_ifPassed_r10 : List Cond := [Cond.code yX2_lostPower cX2_lostPower 3 (some .int), Cond.methodLink RX2 147 yX2_wonPower, Cond.instanceMethod yX2_wonPower, Cond.selects RX2 yX2_wonPower yX2_wonPower, Cond.code yX2_wonPower cX2_wonPower 3 (some .int), Cond.methodLink RX2 150 yX2_faultCount, Cond.instanceMethod yX2_faultCount, Cond.selects RX2 yX2_faultCount yX2_faultCount, Cond.code yX2_faultCount cX2_faultCount 3 (some .int)]
def wsX8_ifPassed : List Cond := .code yX8_ifPassed cX8_ifPassed 3 (some .int) :: ((wsX8_ifPassed_r1 ++ (wsX8_ifPassed_r2 ++ (wsX8_ifPassed_r3 ++ (wsX8_ifPassed_r4 ++ (wsX8_ifPassed_r5 ++ (wsX8_ifPassed_r6 ++ (wsX8_ifPassed_r7 ++ (wsX8_ifPassed_r8 ++ (wsX8_ifPassed_r9 ++ wsX8_ifPassed_r10))))))))) ++ wsX80 ++ wsX20 ++ wsX50 ++ wsX00 ++ wsX30 ++ wsX40 ++ wsX10 ++ wsX70 ++ (vx_atS RX8 45 "java/lang/IllegalArgumentException" ["java/lang/RuntimeException", "java/lang/Exception"]).filter goodWord)
def wsX8_bestFirst_r1 : List Cond := [Cond.fieldLink RX8 10 "CraneCampaign" "farm" "LCraneCampaign$Farm;", Cond.fieldLink RX8 125 "CraneCampaign$Farm" "plan" "LCraneCampaign$Plan;", Cond.fieldLink RX8 142 "CraneCampaign$Plan" "count" "I", Cond.fieldLink RX8 263 "CraneCampaign$Plan" "row" "[I", Cond.fieldLink RX8 16 "CraneCampaign" "trial" "LCraneCampaign$Farm;", Cond.methodLink RX8 215 yX2_copyFrom, Cond.instanceMethod yX2_copyFrom, Cond.selects RX2 yX2_copyFrom yX2_copyFrom, Cond.initialized RX2, Cond.code yX2_copyFrom cX2_copyFrom 3 none, Cond.fieldLink RX2 17 "CraneCampaign$Farm" "turbineCount" "I", Cond.fieldLink RX2 11 "CraneCampaign$Farm" "turbines" "[LCraneCampaign$Turbine;", Cond.fieldLink RX2 24 "CraneCampaign$Farm" "bogs" "LCraneCampaign$Bogs;", Cond.fieldLink RX2 31 "CraneCampaign$Farm" "harbour" "LCraneCampaign$Harbour;", Cond.fieldLink RX2 38 "CraneCampaign$Farm" "plan" "LCraneCampaign$Plan;", Cond.fieldLink RX2 45 "CraneCampaign$Farm" "crane" "LCraneCampaign$Crane;", Cond.fieldLink RX2 52 "CraneCampaign$Farm" "winds" "LCraneCampaign$Winds;", Cond.fieldLink RX2 56 "CraneCampaign$Farm" "settings" "[I", Cond.methodLink RX2 70 arraycopyName, Cond.native arraycopyName, Cond.static arraycopyName, Cond.initialized "java/lang/System", Cond.fieldLink RX2 60 "CraneCampaign$Farm" "lostBy" "[I", Cond.fieldLink RX2 63 "CraneCampaign$Farm" "hour" "I"]
def wsX8_bestFirst_r2 : List Cond := [Cond.methodLink RX2 76 yX5_copyFrom, Cond.instanceMethod yX5_copyFrom, Cond.selects RX5 yX5_copyFrom yX5_copyFrom, Cond.initialized RX5, Cond.code yX5_copyFrom cX5_copyFrom 2 none, Cond.fieldLink RX5 9 "CraneCampaign$Turbine" "place" "I", Cond.fieldLink RX5 15 "CraneCampaign$Turbine" "height" "I", Cond.fieldLink RX5 18 "CraneCampaign$Turbine" "rate" "I", Cond.fieldLink RX5 21 "CraneCampaign$Turbine" "fault" "I", Cond.fieldLink RX5 24 "CraneCampaign$Turbine" "age" "I", Cond.fieldLink RX5 27 "CraneCampaign$Turbine" "lost" "I", Cond.fieldLink RX5 30 "CraneCampaign$Turbine" "won" "I", Cond.methodLink RX2 80 yX0_copyFrom, Cond.instanceMethod yX0_copyFrom, Cond.selects RX0 yX0_copyFrom yX0_copyFrom, Cond.initialized RX0, Cond.code yX0_copyFrom cX0_copyFrom 2 none, Cond.fieldLink RX0 9 "CraneCampaign$Bogs" "place" "[I", Cond.methodLink RX0 22 arraycopyName, Cond.fieldLink RX0 15 "CraneCampaign$Bogs" "need" "[I", Cond.fieldLink RX0 18 "CraneCampaign$Bogs" "count" "I", Cond.methodLink RX2 83 yX3_copyFrom, Cond.instanceMethod yX3_copyFrom, Cond.selects RX3 yX3_copyFrom yX3_copyFrom]
def wsX8_bestFirst_r3 : List Cond := [Cond.initialized RX3, Cond.code yX3_copyFrom cX3_copyFrom 2 none, Cond.fieldLink RX3 9 "CraneCampaign$Harbour" "turbine" "[I", Cond.methodLink RX3 22 arraycopyName, Cond.fieldLink RX3 15 "CraneCampaign$Harbour" "weight" "[I", Cond.fieldLink RX3 18 "CraneCampaign$Harbour" "count" "I", Cond.methodLink RX2 86 yX4_copyFrom, Cond.instanceMethod yX4_copyFrom, Cond.selects RX4 yX4_copyFrom yX4_copyFrom, Cond.initialized RX4, Cond.code yX4_copyFrom cX4_copyFrom 2 none, Cond.fieldLink RX4 9 "CraneCampaign$Plan" "row" "[I", Cond.methodLink RX4 19 arraycopyName, Cond.fieldLink RX4 15 "CraneCampaign$Plan" "count" "I", Cond.methodLink RX2 89 yX1_copyFrom, Cond.instanceMethod yX1_copyFrom, Cond.selects RX1 yX1_copyFrom yX1_copyFrom, Cond.initialized RX1, Cond.code yX1_copyFrom cX1_copyFrom 2 none, Cond.fieldLink RX1 9 "CraneCampaign$Crane" "place" "I", Cond.fieldLink RX1 15 "CraneCampaign$Crane" "hoursLeft" "I", Cond.fieldLink RX1 18 "CraneCampaign$Crane" "goal" "I", Cond.fieldLink RX1 21 "CraneCampaign$Crane" "workDone" "I", Cond.fieldLink RX1 24 "CraneCampaign$Crane" "workedOn" "I"]
def wsX8_bestFirst_r4 : List Cond := [Cond.methodLink RX2 92 yX7_copyFrom, Cond.instanceMethod yX7_copyFrom, Cond.selects RX7 yX7_copyFrom yX7_copyFrom, Cond.initialized RX7, Cond.code yX7_copyFrom cX7_copyFrom 2 none, Cond.fieldLink RX7 9 "CraneCampaign$Winds" "row" "[I", Cond.methodLink RX7 19 arraycopyName, Cond.fieldLink RX7 15 "CraneCampaign$Winds" "count" "I", Cond.methodLink RX8 139 yX4_moveTo, Cond.instanceMethod yX4_moveTo, Cond.selects RX4 yX4_moveTo yX4_moveTo, Cond.code yX4_moveTo cX4_moveTo 4 none, Cond.methodLink RX4 25 yX4_placeOf, Cond.instanceMethod yX4_placeOf, Cond.selects RX4 yX4_placeOf yX4_placeOf, Cond.code yX4_placeOf cX4_placeOf 3 (some .int), Cond.methodLink RX4 29 yX4_removeAt, Cond.instanceMethod yX4_removeAt, Cond.selects RX4 yX4_removeAt yX4_removeAt, Cond.code yX4_removeAt cX4_removeAt 3 none, Cond.methodLink RX8 175 yX2_runHours, Cond.instanceMethod yX2_runHours, Cond.selects RX2 yX2_runHours yX2_runHours, Cond.code yX2_runHours cX2_runHours 4 (some .int)]
def wsX8_bestFirst_r5 : List Cond := [Cond.methodLink RX2 172 yX2_runHour, Cond.instanceMethod yX2_runHour, Cond.selects RX2 yX2_runHour yX2_runHour, Cond.code yX2_runHour cX2_runHour 4 (some .int), Cond.methodLink RX2 175 yX3_unload, Cond.instanceMethod yX3_unload, Cond.selects RX3 yX3_unload yX3_unload, Cond.code yX3_unload cX3_unload 5 none, Cond.methodLink RX3 32 Lib.Math.min.name, Cond.static Lib.Math.min.name, Cond.initialized "java/lang/Math", Cond.code Lib.Math.min.name Lib.Math.min.code 2 (some .int), Cond.methodLink RX2 179 yX2_dropFaultless, Cond.instanceMethod yX2_dropFaultless, Cond.selects RX2 yX2_dropFaultless yX2_dropFaultless, Cond.code yX2_dropFaultless cX2_dropFaultless 3 none, Cond.fieldLink RX2 153 "CraneCampaign$Plan" "count" "I", Cond.fieldLink RX2 197 "CraneCampaign$Crane" "workedOn" "I", Cond.fieldLink RX2 102 "CraneCampaign$Turbine" "fault" "I", Cond.methodLink RX2 182 yX4_first, Cond.instanceMethod yX4_first, Cond.selects RX4 yX4_first yX4_first, Cond.code yX4_first cX4_first 1 (some .int), Cond.methodLink RX2 200 yX1_forgetWork]
def wsX8_bestFirst_r6 : List Cond := [Cond.instanceMethod yX1_forgetWork, Cond.selects RX1 yX1_forgetWork yX1_forgetWork, Cond.code yX1_forgetWork cX1_forgetWork 1 none, Cond.methodLink RX2 112 yX2_hasTurbine, Cond.instanceMethod yX2_hasTurbine, Cond.selects RX2 yX2_hasTurbine yX2_hasTurbine, Cond.code yX2_hasTurbine cX2_hasTurbine 2 (some .boolean), Cond.methodLink RX2 203 yX4_removeAt, Cond.methodLink RX2 185 yX2_serve, Cond.instanceMethod yX2_serve, Cond.selects RX2 yX2_serve yX2_serve, Cond.code yX2_serve cX2_serve 3 (some .int), Cond.fieldLink RX2 210 "CraneCampaign$Crane" "place" "I", Cond.fieldLink RX2 95 "CraneCampaign$Turbine" "place" "I", Cond.methodLink RX2 206 yX1_isOnWay, Cond.instanceMethod yX1_isOnWay, Cond.selects RX1 yX1_isOnWay yX1_isOnWay, Cond.code yX1_isOnWay cX1_isOnWay 1 (some .boolean), Cond.methodLink RX2 211 yX2_hoursBetween, Cond.instanceMethod yX2_hoursBetween, Cond.selects RX2 yX2_hoursBetween yX2_hoursBetween, Cond.code yX2_hoursBetween cX2_hoursBetween 6 (some .int), Cond.methodLink RX2 156 Lib.Math.max.name, Cond.static Lib.Math.max.name]
def wsX8_bestFirst_r7 : List Cond := [Cond.code Lib.Math.max.name Lib.Math.max.code 2 (some .int), Cond.methodLink RX2 162 Lib.Math.abs.name, Cond.static Lib.Math.abs.name, Cond.code Lib.Math.abs.name Lib.Math.abs.code 1 (some .int), Cond.methodLink RX2 165 Lib.Math.min.name, Cond.methodLink RX2 168 yX0_countBetween, Cond.instanceMethod yX0_countBetween, Cond.selects RX0 yX0_countBetween yX0_countBetween, Cond.code yX0_countBetween cX0_countBetween 6 (some .int), Cond.methodLink RX2 214 yX1_driveTo, Cond.instanceMethod yX1_driveTo, Cond.selects RX1 yX1_driveTo yX1_driveTo, Cond.code yX1_driveTo cX1_driveTo 4 none, Cond.methodLink RX1 27 Lib.Math.max.name, Cond.methodLink RX2 131 yX3_unloadedFor, Cond.instanceMethod yX3_unloadedFor, Cond.selects RX3 yX3_unloadedFor yX3_unloadedFor, Cond.code yX3_unloadedFor cX3_unloadedFor 4 (some .int), Cond.methodLink RX2 137 yX2_windNow, Cond.instanceMethod yX2_windNow, Cond.selects RX2 yX2_windNow yX2_windNow, Cond.code yX2_windNow cX2_windNow 1 (some .int), Cond.methodLink RX2 108 yX7_at, Cond.instanceMethod yX7_at]
def wsX8_bestFirst_r8 : List Cond := [Cond.selects RX7 yX7_at yX7_at, Cond.code yX7_at cX7_at 2 (some .int), Cond.methodLink RX2 125 yX5_limit, Cond.instanceMethod yX5_limit, Cond.selects RX5 yX5_limit yX5_limit, Cond.code yX5_limit cX5_limit 2 (some .int), Cond.methodLink RX2 217 yX1_workAnHourOn, Cond.instanceMethod yX1_workAnHourOn, Cond.selects RX1 yX1_workAnHourOn yX1_workAnHourOn, Cond.code yX1_workAnHourOn cX1_workAnHourOn 2 none, Cond.methodLink RX2 188 yX2_sharePower, Cond.instanceMethod yX2_sharePower, Cond.selects RX2 yX2_sharePower yX2_sharePower, Cond.code yX2_sharePower cX2_sharePower 9 (some .int), Cond.fieldLink RX2 134 "CraneCampaign$Turbine" "lost" "I", Cond.fieldLink RX2 105 "CraneCampaign$Turbine" "won" "I", Cond.methodLink RX2 141 yX5_fullPower, Cond.instanceMethod yX5_fullPower, Cond.selects RX5 yX5_fullPower yX5_fullPower, Cond.code yX5_fullPower cX5_fullPower 2 (some .int), Cond.methodLink RX5 33 Lib.Math.min.name, Cond.methodLink RX2 191 yX2_finishIfDone, Cond.instanceMethod yX2_finishIfDone, Cond.selects RX2 yX2_finishIfDone yX2_finishIfDone]
def wsX8_bestFirst_r9 : List Cond := [Cond.code yX2_finishIfDone cX2_finishIfDone 2 none, Cond.fieldLink RX2 220 "CraneCampaign$Crane" "workDone" "I", Cond.fieldLink RX2 122 "CraneCampaign$Turbine" "age" "I", Cond.methodLink RX2 223 yX3_useBladeFor, Cond.instanceMethod yX3_useBladeFor, Cond.selects RX3 yX3_useBladeFor yX3_useBladeFor, Cond.code yX3_useBladeFor cX3_useBladeFor 3 none, Cond.methodLink RX3 38 yX3_removeAt, Cond.instanceMethod yX3_removeAt, Cond.selects RX3 yX3_removeAt yX3_removeAt, Cond.code yX3_removeAt cX3_removeAt 3 none, Cond.methodLink RX2 128 yX4_placeOf, Cond.methodLink RX2 194 yX2_worsen, Cond.instanceMethod yX2_worsen, Cond.selects RX2 yX2_worsen yX2_worsen, Cond.code yX2_worsen cX2_worsen 3 none, Cond.methodLink RX2 226 yX5_growOlder, Cond.instanceMethod yX5_growOlder, Cond.selects RX5 yX5_growOlder yX5_growOlder, Cond.code yX5_growOlder cX5_growOlder 2 none]
def wsX8_bestFirst : List Cond := .code yX8_bestFirst cX8_bestFirst 6 (some .int) :: ((wsX8_bestFirst_r1 ++ (wsX8_bestFirst_r2 ++ (wsX8_bestFirst_r3 ++ (wsX8_bestFirst_r4 ++ (wsX8_bestFirst_r5 ++ (wsX8_bestFirst_r6 ++ (wsX8_bestFirst_r7 ++ (wsX8_bestFirst_r8 ++ wsX8_bestFirst_r9)))))))) ++ wsX80 ++ wsX20 ++ wsX40 ++ wsX50 ++ wsX00 ++ wsX30 ++ wsX10 ++ wsX70)
def wsX8_window_r1 : List Cond := [Cond.classLink RX8 41 "java/lang/IllegalArgumentException", Cond.initialized "java/lang/IllegalArgumentException", Cond.fieldLink RX8 10 "CraneCampaign" "farm" "LCraneCampaign$Farm;", Cond.methodLink RX8 67 yX8_requireTurbine, Cond.instanceMethod yX8_requireTurbine, Cond.selects RX8 yX8_requireTurbine yX8_requireTurbine, Cond.initialized RX8, Cond.code yX8_requireTurbine cX8_requireTurbine 2 none, Cond.classLink RX8 134 "java/lang/IndexOutOfBoundsException", Cond.initialized "java/lang/IndexOutOfBoundsException", Cond.methodLink RX8 319 yX2_hasTurbine, Cond.instanceMethod yX2_hasTurbine, Cond.selects RX2 yX2_hasTurbine yX2_hasTurbine, Cond.initialized RX2, Cond.code yX2_hasTurbine cX2_hasTurbine 2 (some .boolean), Cond.fieldLink RX2 17 "CraneCampaign$Farm" "turbineCount" "I", Cond.methodLink RX8 37 yX8_isWithin, Cond.static yX8_isWithin, Cond.code yX8_isWithin cX8_isWithin 3 (some .boolean), Cond.methodLink RX8 268 yX2_hoursUntilCalm, Cond.instanceMethod yX2_hoursUntilCalm, Cond.selects RX2 yX2_hoursUntilCalm yX2_hoursUntilCalm, Cond.code yX2_hoursUntilCalm cX2_hoursUntilCalm 6 (some .int), Cond.fieldLink RX2 11 "CraneCampaign$Farm" "turbines" "[LCraneCampaign$Turbine;"]
def wsX8_window_r2 : List Cond := [Cond.fieldLink RX2 56 "CraneCampaign$Farm" "settings" "[I", Cond.fieldLink RX2 52 "CraneCampaign$Farm" "winds" "LCraneCampaign$Winds;", Cond.fieldLink RX2 63 "CraneCampaign$Farm" "hour" "I", Cond.methodLink RX2 112 yX2_hasTurbine, Cond.methodLink RX2 125 yX5_limit, Cond.instanceMethod yX5_limit, Cond.selects RX5 yX5_limit yX5_limit, Cond.initialized RX5, Cond.code yX5_limit cX5_limit 2 (some .int), Cond.fieldLink RX5 15 "CraneCampaign$Turbine" "height" "I", Cond.methodLink RX2 108 yX7_at, Cond.instanceMethod yX7_at, Cond.selects RX7 yX7_at yX7_at, Cond.initialized RX7, Cond.code yX7_at cX7_at 2 (some .int), Cond.fieldLink RX7 15 "CraneCampaign$Winds" "count" "I", Cond.fieldLink RX7 9 "CraneCampaign$Winds" "row" "[I"]
def wsX8_window : List Cond := .code yX8_window cX8_window 3 (some .int) :: ((wsX8_window_r1 ++ wsX8_window_r2) ++ wsX80 ++ wsX20 ++ wsX50 ++ wsX70 ++ (vx_atS RX8 45 "java/lang/IllegalArgumentException" ["java/lang/RuntimeException", "java/lang/Exception"]).filter goodWord ++ (vx_atS RX8 138 "java/lang/IndexOutOfBoundsException" ["java/lang/RuntimeException", "java/lang/Exception"]).filter goodWord)
def wsX8_doneIn_r1 : List Cond := [Cond.fieldLink RX8 16 "CraneCampaign" "trial" "LCraneCampaign$Farm;", Cond.fieldLink RX8 10 "CraneCampaign" "farm" "LCraneCampaign$Farm;", Cond.fieldLink RX8 125 "CraneCampaign$Farm" "plan" "LCraneCampaign$Plan;", Cond.fieldLink RX8 142 "CraneCampaign$Plan" "count" "I", Cond.methodLink RX8 215 yX2_copyFrom, Cond.instanceMethod yX2_copyFrom, Cond.selects RX2 yX2_copyFrom yX2_copyFrom, Cond.initialized RX2, Cond.code yX2_copyFrom cX2_copyFrom 3 none, Cond.fieldLink RX2 17 "CraneCampaign$Farm" "turbineCount" "I", Cond.fieldLink RX2 11 "CraneCampaign$Farm" "turbines" "[LCraneCampaign$Turbine;", Cond.fieldLink RX2 24 "CraneCampaign$Farm" "bogs" "LCraneCampaign$Bogs;", Cond.fieldLink RX2 31 "CraneCampaign$Farm" "harbour" "LCraneCampaign$Harbour;", Cond.fieldLink RX2 38 "CraneCampaign$Farm" "plan" "LCraneCampaign$Plan;", Cond.fieldLink RX2 45 "CraneCampaign$Farm" "crane" "LCraneCampaign$Crane;", Cond.fieldLink RX2 52 "CraneCampaign$Farm" "winds" "LCraneCampaign$Winds;", Cond.fieldLink RX2 56 "CraneCampaign$Farm" "settings" "[I", Cond.methodLink RX2 70 arraycopyName, Cond.native arraycopyName, Cond.static arraycopyName, Cond.initialized "java/lang/System", Cond.fieldLink RX2 60 "CraneCampaign$Farm" "lostBy" "[I", Cond.fieldLink RX2 63 "CraneCampaign$Farm" "hour" "I", Cond.methodLink RX2 76 yX5_copyFrom]
def wsX8_doneIn_r2 : List Cond := [Cond.instanceMethod yX5_copyFrom, Cond.selects RX5 yX5_copyFrom yX5_copyFrom, Cond.initialized RX5, Cond.code yX5_copyFrom cX5_copyFrom 2 none, Cond.fieldLink RX5 9 "CraneCampaign$Turbine" "place" "I", Cond.fieldLink RX5 15 "CraneCampaign$Turbine" "height" "I", Cond.fieldLink RX5 18 "CraneCampaign$Turbine" "rate" "I", Cond.fieldLink RX5 21 "CraneCampaign$Turbine" "fault" "I", Cond.fieldLink RX5 24 "CraneCampaign$Turbine" "age" "I", Cond.fieldLink RX5 27 "CraneCampaign$Turbine" "lost" "I", Cond.fieldLink RX5 30 "CraneCampaign$Turbine" "won" "I", Cond.methodLink RX2 80 yX0_copyFrom, Cond.instanceMethod yX0_copyFrom, Cond.selects RX0 yX0_copyFrom yX0_copyFrom, Cond.initialized RX0, Cond.code yX0_copyFrom cX0_copyFrom 2 none, Cond.fieldLink RX0 9 "CraneCampaign$Bogs" "place" "[I", Cond.methodLink RX0 22 arraycopyName, Cond.fieldLink RX0 15 "CraneCampaign$Bogs" "need" "[I", Cond.fieldLink RX0 18 "CraneCampaign$Bogs" "count" "I", Cond.methodLink RX2 83 yX3_copyFrom, Cond.instanceMethod yX3_copyFrom, Cond.selects RX3 yX3_copyFrom yX3_copyFrom, Cond.initialized RX3]
def wsX8_doneIn_r3 : List Cond := [Cond.code yX3_copyFrom cX3_copyFrom 2 none, Cond.fieldLink RX3 9 "CraneCampaign$Harbour" "turbine" "[I", Cond.methodLink RX3 22 arraycopyName, Cond.fieldLink RX3 15 "CraneCampaign$Harbour" "weight" "[I", Cond.fieldLink RX3 18 "CraneCampaign$Harbour" "count" "I", Cond.methodLink RX2 86 yX4_copyFrom, Cond.instanceMethod yX4_copyFrom, Cond.selects RX4 yX4_copyFrom yX4_copyFrom, Cond.initialized RX4, Cond.code yX4_copyFrom cX4_copyFrom 2 none, Cond.fieldLink RX4 9 "CraneCampaign$Plan" "row" "[I", Cond.methodLink RX4 19 arraycopyName, Cond.fieldLink RX4 15 "CraneCampaign$Plan" "count" "I", Cond.methodLink RX2 89 yX1_copyFrom, Cond.instanceMethod yX1_copyFrom, Cond.selects RX1 yX1_copyFrom yX1_copyFrom, Cond.initialized RX1, Cond.code yX1_copyFrom cX1_copyFrom 2 none, Cond.fieldLink RX1 9 "CraneCampaign$Crane" "place" "I", Cond.fieldLink RX1 15 "CraneCampaign$Crane" "hoursLeft" "I", Cond.fieldLink RX1 18 "CraneCampaign$Crane" "goal" "I", Cond.fieldLink RX1 21 "CraneCampaign$Crane" "workDone" "I", Cond.fieldLink RX1 24 "CraneCampaign$Crane" "workedOn" "I", Cond.methodLink RX2 92 yX7_copyFrom]
def wsX8_doneIn_r4 : List Cond := [Cond.instanceMethod yX7_copyFrom, Cond.selects RX7 yX7_copyFrom yX7_copyFrom, Cond.initialized RX7, Cond.code yX7_copyFrom cX7_copyFrom 2 none, Cond.fieldLink RX7 9 "CraneCampaign$Winds" "row" "[I", Cond.methodLink RX7 19 arraycopyName, Cond.fieldLink RX7 15 "CraneCampaign$Winds" "count" "I", Cond.methodLink RX8 271 yX2_runHour, Cond.instanceMethod yX2_runHour, Cond.selects RX2 yX2_runHour yX2_runHour, Cond.code yX2_runHour cX2_runHour 4 (some .int), Cond.methodLink RX2 175 yX3_unload, Cond.instanceMethod yX3_unload, Cond.selects RX3 yX3_unload yX3_unload, Cond.code yX3_unload cX3_unload 5 none, Cond.methodLink RX3 32 Lib.Math.min.name, Cond.static Lib.Math.min.name, Cond.initialized "java/lang/Math", Cond.code Lib.Math.min.name Lib.Math.min.code 2 (some .int), Cond.methodLink RX2 179 yX2_dropFaultless, Cond.instanceMethod yX2_dropFaultless, Cond.selects RX2 yX2_dropFaultless yX2_dropFaultless, Cond.code yX2_dropFaultless cX2_dropFaultless 3 none, Cond.fieldLink RX2 153 "CraneCampaign$Plan" "count" "I"]
def wsX8_doneIn_r5 : List Cond := [Cond.fieldLink RX2 197 "CraneCampaign$Crane" "workedOn" "I", Cond.fieldLink RX2 102 "CraneCampaign$Turbine" "fault" "I", Cond.methodLink RX2 182 yX4_first, Cond.instanceMethod yX4_first, Cond.selects RX4 yX4_first yX4_first, Cond.code yX4_first cX4_first 1 (some .int), Cond.methodLink RX2 200 yX1_forgetWork, Cond.instanceMethod yX1_forgetWork, Cond.selects RX1 yX1_forgetWork yX1_forgetWork, Cond.code yX1_forgetWork cX1_forgetWork 1 none, Cond.methodLink RX2 112 yX2_hasTurbine, Cond.instanceMethod yX2_hasTurbine, Cond.selects RX2 yX2_hasTurbine yX2_hasTurbine, Cond.code yX2_hasTurbine cX2_hasTurbine 2 (some .boolean), Cond.methodLink RX2 203 yX4_removeAt, Cond.instanceMethod yX4_removeAt, Cond.selects RX4 yX4_removeAt yX4_removeAt, Cond.code yX4_removeAt cX4_removeAt 3 none, Cond.methodLink RX2 185 yX2_serve, Cond.instanceMethod yX2_serve, Cond.selects RX2 yX2_serve yX2_serve, Cond.code yX2_serve cX2_serve 3 (some .int), Cond.fieldLink RX2 210 "CraneCampaign$Crane" "place" "I", Cond.fieldLink RX2 95 "CraneCampaign$Turbine" "place" "I"]
def wsX8_doneIn_r6 : List Cond := [Cond.methodLink RX2 206 yX1_isOnWay, Cond.instanceMethod yX1_isOnWay, Cond.selects RX1 yX1_isOnWay yX1_isOnWay, Cond.code yX1_isOnWay cX1_isOnWay 1 (some .boolean), Cond.methodLink RX2 211 yX2_hoursBetween, Cond.instanceMethod yX2_hoursBetween, Cond.selects RX2 yX2_hoursBetween yX2_hoursBetween, Cond.code yX2_hoursBetween cX2_hoursBetween 6 (some .int), Cond.methodLink RX2 156 Lib.Math.max.name, Cond.static Lib.Math.max.name, Cond.code Lib.Math.max.name Lib.Math.max.code 2 (some .int), Cond.methodLink RX2 162 Lib.Math.abs.name, Cond.static Lib.Math.abs.name, Cond.code Lib.Math.abs.name Lib.Math.abs.code 1 (some .int), Cond.methodLink RX2 165 Lib.Math.min.name, Cond.methodLink RX2 168 yX0_countBetween, Cond.instanceMethod yX0_countBetween, Cond.selects RX0 yX0_countBetween yX0_countBetween, Cond.code yX0_countBetween cX0_countBetween 6 (some .int), Cond.methodLink RX2 214 yX1_driveTo, Cond.instanceMethod yX1_driveTo, Cond.selects RX1 yX1_driveTo yX1_driveTo, Cond.code yX1_driveTo cX1_driveTo 4 none, Cond.methodLink RX1 27 Lib.Math.max.name]
def wsX8_doneIn_r7 : List Cond := [Cond.methodLink RX2 131 yX3_unloadedFor, Cond.instanceMethod yX3_unloadedFor, Cond.selects RX3 yX3_unloadedFor yX3_unloadedFor, Cond.code yX3_unloadedFor cX3_unloadedFor 4 (some .int), Cond.methodLink RX2 137 yX2_windNow, Cond.instanceMethod yX2_windNow, Cond.selects RX2 yX2_windNow yX2_windNow, Cond.code yX2_windNow cX2_windNow 1 (some .int), Cond.methodLink RX2 108 yX7_at, Cond.instanceMethod yX7_at, Cond.selects RX7 yX7_at yX7_at, Cond.code yX7_at cX7_at 2 (some .int), Cond.methodLink RX2 125 yX5_limit, Cond.instanceMethod yX5_limit, Cond.selects RX5 yX5_limit yX5_limit, Cond.code yX5_limit cX5_limit 2 (some .int), Cond.methodLink RX2 217 yX1_workAnHourOn, Cond.instanceMethod yX1_workAnHourOn, Cond.selects RX1 yX1_workAnHourOn yX1_workAnHourOn, Cond.code yX1_workAnHourOn cX1_workAnHourOn 2 none, Cond.methodLink RX2 188 yX2_sharePower, Cond.instanceMethod yX2_sharePower, Cond.selects RX2 yX2_sharePower yX2_sharePower, Cond.code yX2_sharePower cX2_sharePower 9 (some .int)]
def wsX8_doneIn_r8 : List Cond := [Cond.fieldLink RX2 134 "CraneCampaign$Turbine" "lost" "I", Cond.fieldLink RX2 105 "CraneCampaign$Turbine" "won" "I", Cond.methodLink RX2 141 yX5_fullPower, Cond.instanceMethod yX5_fullPower, Cond.selects RX5 yX5_fullPower yX5_fullPower, Cond.code yX5_fullPower cX5_fullPower 2 (some .int), Cond.methodLink RX5 33 Lib.Math.min.name, Cond.methodLink RX2 191 yX2_finishIfDone, Cond.instanceMethod yX2_finishIfDone, Cond.selects RX2 yX2_finishIfDone yX2_finishIfDone, Cond.code yX2_finishIfDone cX2_finishIfDone 2 none, Cond.fieldLink RX2 220 "CraneCampaign$Crane" "workDone" "I", Cond.fieldLink RX2 122 "CraneCampaign$Turbine" "age" "I", Cond.methodLink RX2 223 yX3_useBladeFor, Cond.instanceMethod yX3_useBladeFor, Cond.selects RX3 yX3_useBladeFor yX3_useBladeFor, Cond.code yX3_useBladeFor cX3_useBladeFor 3 none, Cond.methodLink RX3 38 yX3_removeAt, Cond.instanceMethod yX3_removeAt, Cond.selects RX3 yX3_removeAt yX3_removeAt, Cond.code yX3_removeAt cX3_removeAt 3 none, Cond.methodLink RX2 128 yX4_placeOf, Cond.instanceMethod yX4_placeOf, Cond.selects RX4 yX4_placeOf yX4_placeOf]
def wsX8_doneIn_r9 : List Cond := [Cond.code yX4_placeOf cX4_placeOf 3 (some .int), Cond.methodLink RX2 194 yX2_worsen, Cond.instanceMethod yX2_worsen, Cond.selects RX2 yX2_worsen yX2_worsen, Cond.code yX2_worsen cX2_worsen 3 none, Cond.methodLink RX2 226 yX5_growOlder, Cond.instanceMethod yX5_growOlder, Cond.selects RX5 yX5_growOlder yX5_growOlder, Cond.code yX5_growOlder cX5_growOlder 2 none]
def wsX8_doneIn : List Cond := .code yX8_doneIn cX8_doneIn 2 (some .int) :: ((wsX8_doneIn_r1 ++ (wsX8_doneIn_r2 ++ (wsX8_doneIn_r3 ++ (wsX8_doneIn_r4 ++ (wsX8_doneIn_r5 ++ (wsX8_doneIn_r6 ++ (wsX8_doneIn_r7 ++ (wsX8_doneIn_r8 ++ wsX8_doneIn_r9)))))))) ++ wsX80 ++ wsX20 ++ wsX40 ++ wsX50 ++ wsX00 ++ wsX30 ++ wsX10 ++ wsX70)
def wsX8_meanWind : List Cond := .code yX8_meanWind cX8_meanWind 2 (some .float) :: ([.fieldLink RX8 10 "CraneCampaign" "farm" "LCraneCampaign$Farm;", .fieldLink RX8 202 "CraneCampaign$Farm" "winds" "LCraneCampaign$Winds;", .fieldLink RX8 210 "CraneCampaign$Winds" "count" "I", .constantFloat RX8 277 (1090519040), .methodLink RX8 274 yX7_sum, .instanceMethod yX7_sum, .selects RX7 yX7_sum yX7_sum, .initialized RX7, .code yX7_sum cX7_sum 3 (some .int), .fieldLink RX7 15 "CraneCampaign$Winds" "count" "I", .fieldLink RX7 9 "CraneCampaign$Winds" "row" "[I"] ++ wsX80 ++ wsX20 ++ wsX70)
def wsX8_lostShare : List Cond := .code yX8_lostShare cX8_lostShare 3 (some .double) :: ([.fieldLink RX8 10 "CraneCampaign" "farm" "LCraneCampaign$Farm;", .methodLink RX8 278 yX2_lostPower, .instanceMethod yX2_lostPower, .selects RX2 yX2_lostPower yX2_lostPower, .initialized RX2, .code yX2_lostPower cX2_lostPower 3 (some .int), .fieldLink RX2 60 "CraneCampaign$Farm" "lostBy" "[I", .methodLink RX8 281 yX2_wonPower, .instanceMethod yX2_wonPower, .selects RX2 yX2_wonPower yX2_wonPower, .code yX2_wonPower cX2_wonPower 3 (some .int), .fieldLink RX2 17 "CraneCampaign$Farm" "turbineCount" "I", .fieldLink RX2 11 "CraneCampaign$Farm" "turbines" "[LCraneCampaign$Turbine;", .fieldLink RX2 105 "CraneCampaign$Turbine" "won" "I"] ++ wsX80 ++ wsX20 ++ wsX50)
def wsX8_mix : List Cond := .code yX8_mix cX8_mix 4 (some .long) :: ([.constantLong RX8 352 (31)])
def wsX8_mixFarm_r1 : List Cond := [Cond.fieldLink RX8 10 "CraneCampaign" "farm" "LCraneCampaign$Farm;", Cond.fieldLink RX8 122 "CraneCampaign$Farm" "settings" "[I", Cond.fieldLink RX8 48 "CraneCampaign$Farm" "turbineCount" "I", Cond.fieldLink RX8 151 "CraneCampaign$Farm" "harbour" "LCraneCampaign$Harbour;", Cond.fieldLink RX8 167 "CraneCampaign$Harbour" "count" "I", Cond.fieldLink RX8 229 "CraneCampaign$Harbour" "turbine" "[I", Cond.fieldLink RX8 232 "CraneCampaign$Harbour" "weight" "[I", Cond.fieldLink RX8 87 "CraneCampaign$Farm" "bogs" "LCraneCampaign$Bogs;", Cond.fieldLink RX8 107 "CraneCampaign$Bogs" "count" "I", Cond.fieldLink RX8 237 "CraneCampaign$Bogs" "place" "[I", Cond.fieldLink RX8 240 "CraneCampaign$Bogs" "need" "[I", Cond.fieldLink RX8 245 "CraneCampaign$Farm" "lostBy" "[I", Cond.methodLink RX8 286 yX8_mix, Cond.static yX8_mix, Cond.initialized RX8, Cond.code yX8_mix cX8_mix 4 (some .long), Cond.constantLong RX8 352 (31), Cond.methodLink RX8 221 yX2_turbineProperty, Cond.instanceMethod yX2_turbineProperty, Cond.selects RX2 yX2_turbineProperty yX2_turbineProperty, Cond.initialized RX2, Cond.code yX2_turbineProperty cX2_turbineProperty 4 (some .int), Cond.fieldLink RX2 11 "CraneCampaign$Farm" "turbines" "[LCraneCampaign$Turbine;", Cond.fieldLink RX2 95 "CraneCampaign$Turbine" "place" "I"]
def wsX8_mixFarm_r2 : List Cond := [Cond.fieldLink RX2 116 "CraneCampaign$Turbine" "height" "I", Cond.fieldLink RX2 119 "CraneCampaign$Turbine" "rate" "I", Cond.fieldLink RX2 102 "CraneCampaign$Turbine" "fault" "I", Cond.fieldLink RX2 122 "CraneCampaign$Turbine" "age" "I", Cond.fieldLink RX2 56 "CraneCampaign$Farm" "settings" "[I", Cond.fieldLink RX2 38 "CraneCampaign$Farm" "plan" "LCraneCampaign$Plan;", Cond.fieldLink RX2 31 "CraneCampaign$Farm" "harbour" "LCraneCampaign$Harbour;", Cond.fieldLink RX2 134 "CraneCampaign$Turbine" "lost" "I", Cond.fieldLink RX2 105 "CraneCampaign$Turbine" "won" "I", Cond.methodLink RX2 112 yX2_hasTurbine, Cond.instanceMethod yX2_hasTurbine, Cond.selects RX2 yX2_hasTurbine yX2_hasTurbine, Cond.code yX2_hasTurbine cX2_hasTurbine 2 (some .boolean), Cond.fieldLink RX2 17 "CraneCampaign$Farm" "turbineCount" "I", Cond.methodLink RX2 125 yX5_limit, Cond.instanceMethod yX5_limit, Cond.selects RX5 yX5_limit yX5_limit, Cond.initialized RX5, Cond.code yX5_limit cX5_limit 2 (some .int), Cond.fieldLink RX5 15 "CraneCampaign$Turbine" "height" "I", Cond.methodLink RX2 128 yX4_placeOf, Cond.instanceMethod yX4_placeOf, Cond.selects RX4 yX4_placeOf yX4_placeOf, Cond.initialized RX4]
def wsX8_mixFarm_r3 : List Cond := [Cond.code yX4_placeOf cX4_placeOf 3 (some .int), Cond.fieldLink RX4 15 "CraneCampaign$Plan" "count" "I", Cond.fieldLink RX4 9 "CraneCampaign$Plan" "row" "[I", Cond.methodLink RX2 131 yX3_unloadedFor, Cond.instanceMethod yX3_unloadedFor, Cond.selects RX3 yX3_unloadedFor yX3_unloadedFor, Cond.initialized RX3, Cond.code yX3_unloadedFor cX3_unloadedFor 4 (some .int), Cond.fieldLink RX3 18 "CraneCampaign$Harbour" "count" "I", Cond.fieldLink RX3 9 "CraneCampaign$Harbour" "turbine" "[I", Cond.fieldLink RX3 15 "CraneCampaign$Harbour" "weight" "[I", Cond.methodLink RX2 137 yX2_windNow, Cond.instanceMethod yX2_windNow, Cond.selects RX2 yX2_windNow yX2_windNow, Cond.code yX2_windNow cX2_windNow 1 (some .int), Cond.fieldLink RX2 52 "CraneCampaign$Farm" "winds" "LCraneCampaign$Winds;", Cond.fieldLink RX2 63 "CraneCampaign$Farm" "hour" "I", Cond.methodLink RX2 108 yX7_at, Cond.instanceMethod yX7_at, Cond.selects RX7 yX7_at yX7_at, Cond.initialized RX7, Cond.code yX7_at cX7_at 2 (some .int), Cond.fieldLink RX7 15 "CraneCampaign$Winds" "count" "I", Cond.fieldLink RX7 9 "CraneCampaign$Winds" "row" "[I"]
def wsX8_mixFarm_r4 : List Cond := [Cond.methodLink RX2 141 yX5_fullPower, Cond.instanceMethod yX5_fullPower, Cond.selects RX5 yX5_fullPower yX5_fullPower, Cond.code yX5_fullPower cX5_fullPower 2 (some .int), Cond.fieldLink RX5 18 "CraneCampaign$Turbine" "rate" "I", Cond.methodLink RX5 33 Lib.Math.min.name, Cond.static Lib.Math.min.name, Cond.initialized "java/lang/Math", Cond.code Lib.Math.min.name Lib.Math.min.code 2 (some .int), Cond.methodLink RX8 268 yX2_hoursUntilCalm, Cond.instanceMethod yX2_hoursUntilCalm, Cond.selects RX2 yX2_hoursUntilCalm yX2_hoursUntilCalm, Cond.code yX2_hoursUntilCalm cX2_hoursUntilCalm 6 (some .int)]
def wsX8_mixFarm : List Cond := .code yX8_mixFarm cX8_mixFarm 7 (some .long) :: ((wsX8_mixFarm_r1 ++ (wsX8_mixFarm_r2 ++ (wsX8_mixFarm_r3 ++ wsX8_mixFarm_r4))) ++ wsX80 ++ wsX20 ++ wsX30 ++ wsX00 ++ wsX50 ++ wsX40 ++ wsX70)
def wsX8_bitsOfFloat : List Cond := .code yX8_bitsOfFloat cX8_bitsOfFloat 4 (some .int) :: ([.constantFloat RX8 354 (1258291200)])
def wsX8_bitsOfDouble : List Cond := .code yX8_bitsOfDouble cX8_bitsOfDouble 7 (some .long) :: ([.constantLong RX8 355 (1023), .constantDouble RX8 357 (4611686018427387904), .constantDouble RX8 359 (4841369599423283200)])
def wsX8_digest_r1 : List Cond := [Cond.constantLong RX8 284 (2269), Cond.fieldLink RX8 16 "CraneCampaign" "trial" "LCraneCampaign$Farm;", Cond.fieldLink RX8 10 "CraneCampaign" "farm" "LCraneCampaign$Farm;", Cond.fieldLink RX8 33 "CraneCampaign" "buffer" "LCraneCampaign$WindText;", Cond.fieldLink RX8 186 "CraneCampaign$WindText" "length" "I", Cond.fieldLink RX8 316 "CraneCampaign$WindText" "letters" "[I", Cond.methodLink RX8 250 yX8_numberOf, Cond.instanceMethod yX8_numberOf, Cond.selects RX8 yX8_numberOf yX8_numberOf, Cond.initialized RX8, Cond.code yX8_numberOf cX8_numberOf 3 (some .int), Cond.fieldLink RX8 326 "CraneCampaign$Farm" "crane" "LCraneCampaign$Crane;", Cond.fieldLink RX8 48 "CraneCampaign$Farm" "turbineCount" "I", Cond.fieldLink RX8 170 "CraneCampaign$Farm" "hour" "I", Cond.fieldLink RX8 202 "CraneCampaign$Farm" "winds" "LCraneCampaign$Winds;", Cond.fieldLink RX8 210 "CraneCampaign$Winds" "count" "I", Cond.fieldLink RX8 125 "CraneCampaign$Farm" "plan" "LCraneCampaign$Plan;", Cond.fieldLink RX8 142 "CraneCampaign$Plan" "count" "I", Cond.fieldLink RX8 339 "CraneCampaign$Crane" "place" "I", Cond.fieldLink RX8 343 "CraneCampaign$Crane" "hoursLeft" "I", Cond.fieldLink RX8 346 "CraneCampaign$Crane" "goal" "I", Cond.fieldLink RX8 151 "CraneCampaign$Farm" "harbour" "LCraneCampaign$Harbour;", Cond.fieldLink RX8 167 "CraneCampaign$Harbour" "count" "I", Cond.fieldLink RX8 27 "CraneCampaign" "savedCount" "I"]
def wsX8_digest_r2 : List Cond := [Cond.methodLink RX8 330 yX2_faultCount, Cond.instanceMethod yX2_faultCount, Cond.selects RX2 yX2_faultCount yX2_faultCount, Cond.initialized RX2, Cond.code yX2_faultCount cX2_faultCount 3 (some .int), Cond.fieldLink RX2 17 "CraneCampaign$Farm" "turbineCount" "I", Cond.fieldLink RX2 11 "CraneCampaign$Farm" "turbines" "[LCraneCampaign$Turbine;", Cond.fieldLink RX2 102 "CraneCampaign$Turbine" "fault" "I", Cond.methodLink RX8 333 yX2_windNow, Cond.instanceMethod yX2_windNow, Cond.selects RX2 yX2_windNow yX2_windNow, Cond.code yX2_windNow cX2_windNow 1 (some .int), Cond.fieldLink RX2 52 "CraneCampaign$Farm" "winds" "LCraneCampaign$Winds;", Cond.fieldLink RX2 63 "CraneCampaign$Farm" "hour" "I", Cond.methodLink RX2 108 yX7_at, Cond.instanceMethod yX7_at, Cond.selects RX7 yX7_at yX7_at, Cond.initialized RX7, Cond.code yX7_at cX7_at 2 (some .int), Cond.fieldLink RX7 15 "CraneCampaign$Winds" "count" "I", Cond.fieldLink RX7 9 "CraneCampaign$Winds" "row" "[I", Cond.methodLink RX8 336 yX4_first, Cond.instanceMethod yX4_first, Cond.selects RX4 yX4_first yX4_first]
def wsX8_digest_r3 : List Cond := [Cond.initialized RX4, Cond.code yX4_first cX4_first 1 (some .int), Cond.fieldLink RX4 15 "CraneCampaign$Plan" "count" "I", Cond.fieldLink RX4 9 "CraneCampaign$Plan" "row" "[I", Cond.methodLink RX8 349 yX1_workOn, Cond.instanceMethod yX1_workOn, Cond.selects RX1 yX1_workOn yX1_workOn, Cond.initialized RX1, Cond.code yX1_workOn cX1_workOn 2 (some .int), Cond.fieldLink RX1 24 "CraneCampaign$Crane" "workedOn" "I", Cond.fieldLink RX1 21 "CraneCampaign$Crane" "workDone" "I", Cond.methodLink RX8 278 yX2_lostPower, Cond.instanceMethod yX2_lostPower, Cond.selects RX2 yX2_lostPower yX2_lostPower, Cond.code yX2_lostPower cX2_lostPower 3 (some .int), Cond.fieldLink RX2 60 "CraneCampaign$Farm" "lostBy" "[I", Cond.methodLink RX8 281 yX2_wonPower, Cond.instanceMethod yX2_wonPower, Cond.selects RX2 yX2_wonPower yX2_wonPower, Cond.code yX2_wonPower cX2_wonPower 3 (some .int), Cond.fieldLink RX2 105 "CraneCampaign$Turbine" "won" "I", Cond.methodLink RX8 286 yX8_mix, Cond.static yX8_mix, Cond.code yX8_mix cX8_mix 4 (some .long)]
def wsX8_digest_r4 : List Cond := [Cond.constantLong RX8 352 (31), Cond.methodLink RX8 290 yX8_mixFarm, Cond.instanceMethod yX8_mixFarm, Cond.selects RX8 yX8_mixFarm yX8_mixFarm, Cond.code yX8_mixFarm cX8_mixFarm 7 (some .long), Cond.fieldLink RX8 122 "CraneCampaign$Farm" "settings" "[I", Cond.fieldLink RX8 229 "CraneCampaign$Harbour" "turbine" "[I", Cond.fieldLink RX8 232 "CraneCampaign$Harbour" "weight" "[I", Cond.fieldLink RX8 87 "CraneCampaign$Farm" "bogs" "LCraneCampaign$Bogs;", Cond.fieldLink RX8 107 "CraneCampaign$Bogs" "count" "I", Cond.fieldLink RX8 237 "CraneCampaign$Bogs" "place" "[I", Cond.fieldLink RX8 240 "CraneCampaign$Bogs" "need" "[I", Cond.fieldLink RX8 245 "CraneCampaign$Farm" "lostBy" "[I", Cond.methodLink RX8 221 yX2_turbineProperty, Cond.instanceMethod yX2_turbineProperty, Cond.selects RX2 yX2_turbineProperty yX2_turbineProperty, Cond.code yX2_turbineProperty cX2_turbineProperty 4 (some .int), Cond.fieldLink RX2 95 "CraneCampaign$Turbine" "place" "I", Cond.fieldLink RX2 116 "CraneCampaign$Turbine" "height" "I", Cond.fieldLink RX2 119 "CraneCampaign$Turbine" "rate" "I", Cond.fieldLink RX2 122 "CraneCampaign$Turbine" "age" "I", Cond.fieldLink RX2 56 "CraneCampaign$Farm" "settings" "[I", Cond.fieldLink RX2 38 "CraneCampaign$Farm" "plan" "LCraneCampaign$Plan;", Cond.fieldLink RX2 31 "CraneCampaign$Farm" "harbour" "LCraneCampaign$Harbour;"]
def wsX8_digest_r5 : List Cond := [Cond.fieldLink RX2 134 "CraneCampaign$Turbine" "lost" "I", Cond.methodLink RX2 112 yX2_hasTurbine, Cond.instanceMethod yX2_hasTurbine, Cond.selects RX2 yX2_hasTurbine yX2_hasTurbine, Cond.code yX2_hasTurbine cX2_hasTurbine 2 (some .boolean), Cond.methodLink RX2 125 yX5_limit, Cond.instanceMethod yX5_limit, Cond.selects RX5 yX5_limit yX5_limit, Cond.initialized RX5, Cond.code yX5_limit cX5_limit 2 (some .int), Cond.fieldLink RX5 15 "CraneCampaign$Turbine" "height" "I", Cond.methodLink RX2 128 yX4_placeOf, Cond.instanceMethod yX4_placeOf, Cond.selects RX4 yX4_placeOf yX4_placeOf, Cond.code yX4_placeOf cX4_placeOf 3 (some .int), Cond.methodLink RX2 131 yX3_unloadedFor, Cond.instanceMethod yX3_unloadedFor, Cond.selects RX3 yX3_unloadedFor yX3_unloadedFor, Cond.initialized RX3, Cond.code yX3_unloadedFor cX3_unloadedFor 4 (some .int), Cond.fieldLink RX3 18 "CraneCampaign$Harbour" "count" "I", Cond.fieldLink RX3 9 "CraneCampaign$Harbour" "turbine" "[I", Cond.fieldLink RX3 15 "CraneCampaign$Harbour" "weight" "[I", Cond.methodLink RX2 137 yX2_windNow]
def wsX8_digest_r6 : List Cond := [Cond.methodLink RX2 141 yX5_fullPower, Cond.instanceMethod yX5_fullPower, Cond.selects RX5 yX5_fullPower yX5_fullPower, Cond.code yX5_fullPower cX5_fullPower 2 (some .int), Cond.fieldLink RX5 18 "CraneCampaign$Turbine" "rate" "I", Cond.methodLink RX5 33 Lib.Math.min.name, Cond.static Lib.Math.min.name, Cond.initialized "java/lang/Math", Cond.code Lib.Math.min.name Lib.Math.min.code 2 (some .int), Cond.methodLink RX8 268 yX2_hoursUntilCalm, Cond.instanceMethod yX2_hoursUntilCalm, Cond.selects RX2 yX2_hoursUntilCalm yX2_hoursUntilCalm, Cond.code yX2_hoursUntilCalm cX2_hoursUntilCalm 6 (some .int), Cond.methodLink RX8 215 yX2_copyFrom, Cond.instanceMethod yX2_copyFrom, Cond.selects RX2 yX2_copyFrom yX2_copyFrom, Cond.code yX2_copyFrom cX2_copyFrom 3 none, Cond.fieldLink RX2 24 "CraneCampaign$Farm" "bogs" "LCraneCampaign$Bogs;", Cond.fieldLink RX2 45 "CraneCampaign$Farm" "crane" "LCraneCampaign$Crane;", Cond.methodLink RX2 70 arraycopyName, Cond.native arraycopyName, Cond.static arraycopyName, Cond.initialized "java/lang/System", Cond.methodLink RX2 76 yX5_copyFrom]
def wsX8_digest_r7 : List Cond := [Cond.instanceMethod yX5_copyFrom, Cond.selects RX5 yX5_copyFrom yX5_copyFrom, Cond.code yX5_copyFrom cX5_copyFrom 2 none, Cond.fieldLink RX5 9 "CraneCampaign$Turbine" "place" "I", Cond.fieldLink RX5 21 "CraneCampaign$Turbine" "fault" "I", Cond.fieldLink RX5 24 "CraneCampaign$Turbine" "age" "I", Cond.fieldLink RX5 27 "CraneCampaign$Turbine" "lost" "I", Cond.fieldLink RX5 30 "CraneCampaign$Turbine" "won" "I", Cond.methodLink RX2 80 yX0_copyFrom, Cond.instanceMethod yX0_copyFrom, Cond.selects RX0 yX0_copyFrom yX0_copyFrom, Cond.initialized RX0, Cond.code yX0_copyFrom cX0_copyFrom 2 none, Cond.fieldLink RX0 9 "CraneCampaign$Bogs" "place" "[I", Cond.methodLink RX0 22 arraycopyName, Cond.fieldLink RX0 15 "CraneCampaign$Bogs" "need" "[I", Cond.fieldLink RX0 18 "CraneCampaign$Bogs" "count" "I", Cond.methodLink RX2 83 yX3_copyFrom, Cond.instanceMethod yX3_copyFrom, Cond.selects RX3 yX3_copyFrom yX3_copyFrom, Cond.code yX3_copyFrom cX3_copyFrom 2 none, Cond.methodLink RX3 22 arraycopyName, Cond.methodLink RX2 86 yX4_copyFrom, Cond.instanceMethod yX4_copyFrom]
def wsX8_digest_r8 : List Cond := [Cond.selects RX4 yX4_copyFrom yX4_copyFrom, Cond.code yX4_copyFrom cX4_copyFrom 2 none, Cond.methodLink RX4 19 arraycopyName, Cond.methodLink RX2 89 yX1_copyFrom, Cond.instanceMethod yX1_copyFrom, Cond.selects RX1 yX1_copyFrom yX1_copyFrom, Cond.code yX1_copyFrom cX1_copyFrom 2 none, Cond.fieldLink RX1 9 "CraneCampaign$Crane" "place" "I", Cond.fieldLink RX1 15 "CraneCampaign$Crane" "hoursLeft" "I", Cond.fieldLink RX1 18 "CraneCampaign$Crane" "goal" "I", Cond.methodLink RX2 92 yX7_copyFrom, Cond.instanceMethod yX7_copyFrom, Cond.selects RX7 yX7_copyFrom yX7_copyFrom, Cond.code yX7_copyFrom cX7_copyFrom 2 none, Cond.methodLink RX7 19 arraycopyName, Cond.methodLink RX8 175 yX2_runHours, Cond.instanceMethod yX2_runHours, Cond.selects RX2 yX2_runHours yX2_runHours, Cond.code yX2_runHours cX2_runHours 4 (some .int), Cond.methodLink RX2 172 yX2_runHour, Cond.instanceMethod yX2_runHour, Cond.selects RX2 yX2_runHour yX2_runHour, Cond.code yX2_runHour cX2_runHour 4 (some .int), Cond.methodLink RX2 175 yX3_unload]
def wsX8_digest_r9 : List Cond := [Cond.instanceMethod yX3_unload, Cond.selects RX3 yX3_unload yX3_unload, Cond.code yX3_unload cX3_unload 5 none, Cond.methodLink RX3 32 Lib.Math.min.name, Cond.methodLink RX2 179 yX2_dropFaultless, Cond.instanceMethod yX2_dropFaultless, Cond.selects RX2 yX2_dropFaultless yX2_dropFaultless, Cond.code yX2_dropFaultless cX2_dropFaultless 3 none, Cond.fieldLink RX2 153 "CraneCampaign$Plan" "count" "I", Cond.fieldLink RX2 197 "CraneCampaign$Crane" "workedOn" "I", Cond.methodLink RX2 182 yX4_first, Cond.methodLink RX2 200 yX1_forgetWork, Cond.instanceMethod yX1_forgetWork, Cond.selects RX1 yX1_forgetWork yX1_forgetWork, Cond.code yX1_forgetWork cX1_forgetWork 1 none, Cond.methodLink RX2 203 yX4_removeAt, Cond.instanceMethod yX4_removeAt, Cond.selects RX4 yX4_removeAt yX4_removeAt, Cond.code yX4_removeAt cX4_removeAt 3 none, Cond.methodLink RX2 185 yX2_serve, Cond.instanceMethod yX2_serve, Cond.selects RX2 yX2_serve yX2_serve, Cond.code yX2_serve cX2_serve 3 (some .int), Cond.fieldLink RX2 210 "CraneCampaign$Crane" "place" "I"]
def wsX8_digest_r10 : List Cond := [Cond.methodLink RX2 206 yX1_isOnWay, Cond.instanceMethod yX1_isOnWay, Cond.selects RX1 yX1_isOnWay yX1_isOnWay, Cond.code yX1_isOnWay cX1_isOnWay 1 (some .boolean), Cond.methodLink RX2 211 yX2_hoursBetween, Cond.instanceMethod yX2_hoursBetween, Cond.selects RX2 yX2_hoursBetween yX2_hoursBetween, Cond.code yX2_hoursBetween cX2_hoursBetween 6 (some .int), Cond.methodLink RX2 156 Lib.Math.max.name, Cond.static Lib.Math.max.name, Cond.code Lib.Math.max.name Lib.Math.max.code 2 (some .int), Cond.methodLink RX2 162 Lib.Math.abs.name, Cond.static Lib.Math.abs.name, Cond.code Lib.Math.abs.name Lib.Math.abs.code 1 (some .int), Cond.methodLink RX2 165 Lib.Math.min.name, Cond.methodLink RX2 168 yX0_countBetween, Cond.instanceMethod yX0_countBetween, Cond.selects RX0 yX0_countBetween yX0_countBetween, Cond.code yX0_countBetween cX0_countBetween 6 (some .int), Cond.methodLink RX2 214 yX1_driveTo, Cond.instanceMethod yX1_driveTo, Cond.selects RX1 yX1_driveTo yX1_driveTo, Cond.code yX1_driveTo cX1_driveTo 4 none, Cond.methodLink RX1 27 Lib.Math.max.name]
def wsX8_digest_r11 : List Cond := [Cond.methodLink RX2 217 yX1_workAnHourOn, Cond.instanceMethod yX1_workAnHourOn, Cond.selects RX1 yX1_workAnHourOn yX1_workAnHourOn, Cond.code yX1_workAnHourOn cX1_workAnHourOn 2 none, Cond.methodLink RX2 188 yX2_sharePower, Cond.instanceMethod yX2_sharePower, Cond.selects RX2 yX2_sharePower yX2_sharePower, Cond.code yX2_sharePower cX2_sharePower 9 (some .int), Cond.methodLink RX2 191 yX2_finishIfDone, Cond.instanceMethod yX2_finishIfDone, Cond.selects RX2 yX2_finishIfDone yX2_finishIfDone, Cond.code yX2_finishIfDone cX2_finishIfDone 2 none, Cond.fieldLink RX2 220 "CraneCampaign$Crane" "workDone" "I", Cond.methodLink RX2 223 yX3_useBladeFor, Cond.instanceMethod yX3_useBladeFor, Cond.selects RX3 yX3_useBladeFor yX3_useBladeFor, Cond.code yX3_useBladeFor cX3_useBladeFor 3 none, Cond.methodLink RX3 38 yX3_removeAt, Cond.instanceMethod yX3_removeAt, Cond.selects RX3 yX3_removeAt yX3_removeAt, Cond.code yX3_removeAt cX3_removeAt 3 none, Cond.methodLink RX2 194 yX2_worsen, Cond.instanceMethod yX2_worsen, Cond.selects RX2 yX2_worsen yX2_worsen]
def wsX8_digest_r12 : List Cond := [Cond.code yX2_worsen cX2_worsen 3 none, Cond.methodLink RX2 226 yX5_growOlder, Cond.instanceMethod yX5_growOlder, Cond.selects RX5 yX5_growOlder yX5_growOlder, Cond.code yX5_growOlder cX5_growOlder 2 none, Cond.methodLink RX8 260 yX2_outcome, Cond.instanceMethod yX2_outcome, Cond.selects RX2 yX2_outcome yX2_outcome, Cond.code yX2_outcome cX2_outcome 2 (some .int), Cond.methodLink RX2 144 yX2_lostPower, Cond.methodLink RX2 147 yX2_wonPower, Cond.methodLink RX2 150 yX2_faultCount, Cond.methodLink RX8 294 yX8_bestFirst, Cond.instanceMethod yX8_bestFirst, Cond.selects RX8 yX8_bestFirst yX8_bestFirst, Cond.code yX8_bestFirst cX8_bestFirst 6 (some .int), Cond.fieldLink RX8 263 "CraneCampaign$Plan" "row" "[I", Cond.methodLink RX8 139 yX4_moveTo, Cond.instanceMethod yX4_moveTo, Cond.selects RX4 yX4_moveTo yX4_moveTo, Cond.code yX4_moveTo cX4_moveTo 4 none, Cond.methodLink RX4 25 yX4_placeOf, Cond.methodLink RX4 29 yX4_removeAt, Cond.methodLink RX8 297 yX8_doneIn]
def wsX8_digest_r13 : List Cond := [Cond.instanceMethod yX8_doneIn, Cond.selects RX8 yX8_doneIn yX8_doneIn, Cond.code yX8_doneIn cX8_doneIn 2 (some .int), Cond.methodLink RX8 271 yX2_runHour, Cond.methodLink RX8 300 yX8_meanWind, Cond.instanceMethod yX8_meanWind, Cond.selects RX8 yX8_meanWind yX8_meanWind, Cond.code yX8_meanWind cX8_meanWind 2 (some .float), Cond.constantFloat RX8 277 (1090519040), Cond.methodLink RX8 274 yX7_sum, Cond.instanceMethod yX7_sum, Cond.selects RX7 yX7_sum yX7_sum, Cond.code yX7_sum cX7_sum 3 (some .int), Cond.methodLink RX8 304 yX8_bitsOfFloat, Cond.static yX8_bitsOfFloat, Cond.code yX8_bitsOfFloat cX8_bitsOfFloat 4 (some .int), Cond.constantFloat RX8 354 (1258291200), Cond.methodLink RX8 308 yX8_lostShare, Cond.instanceMethod yX8_lostShare, Cond.selects RX8 yX8_lostShare yX8_lostShare, Cond.code yX8_lostShare cX8_lostShare 3 (some .double), Cond.methodLink RX8 312 yX8_bitsOfDouble, Cond.static yX8_bitsOfDouble, Cond.code yX8_bitsOfDouble cX8_bitsOfDouble 7 (some .long)]
def wsX8_digest_r14 : List Cond := [Cond.constantLong RX8 355 (1023), Cond.constantDouble RX8 357 (4611686018427387904), Cond.constantDouble RX8 359 (4841369599423283200)]
def wsX8_digest : List Cond := .code yX8_digest cX8_digest 4 (some .long) :: ((wsX8_digest_r1 ++ (wsX8_digest_r2 ++ (wsX8_digest_r3 ++ (wsX8_digest_r4 ++ (wsX8_digest_r5 ++ (wsX8_digest_r6 ++ (wsX8_digest_r7 ++ (wsX8_digest_r8 ++ (wsX8_digest_r9 ++ (wsX8_digest_r10 ++ (wsX8_digest_r11 ++ (wsX8_digest_r12 ++ (wsX8_digest_r13 ++ wsX8_digest_r14))))))))))))) ++ wsX80 ++ wsX60 ++ wsX20 ++ wsX70 ++ wsX40 ++ wsX10 ++ wsX30 ++ wsX50 ++ wsX00)
def wsX9_init : List Cond := .code yX9_init cX9_init 1 none :: ([.methodLink RX9 1 objectInit, .instanceMethod objectInit, .code objectInit ⟨#[0xb1]⟩ 1 none, .arrayClass .int, .fieldLink RX9 7 "CraneCampaignModel" "z" "[I", .fieldLink RX9 13 "CraneCampaignModel" "aside" "[I", .fieldLink RX9 16 "CraneCampaignModel" "rows" "[I", .fieldLink RX9 19 "CraneCampaignModel" "text" "[I", .fieldLink RX9 22 "CraneCampaignModel" "other" "[I", .fieldLink RX9 25 "CraneCampaignModel" "read" "[I"] ++ wsX90)
def wsX9_thrown : List Cond := .code yX9_thrown cX9_thrown 1 (some .int) :: ([.fieldLink RX9 28 "CraneCampaignModel" "thrown" "I"] ++ wsX90)
def wsX9_fails : List Cond := .code yX9_fails cX9_fails 2 (some .int) :: ([.fieldLink RX9 28 "CraneCampaignModel" "thrown" "I"] ++ wsX90)
def wsX9_within : List Cond := .code yX9_within cX9_within 3 (some .boolean) :: ([])
def wsX9_isTurbine : List Cond := .code yX9_isTurbine cX9_isTurbine 2 (some .boolean) :: ([.fieldLink RX9 7 "CraneCampaignModel" "z" "[I", .methodLink RX9 32 yX9_within, .static yX9_within, .initialized RX9, .code yX9_within cX9_within 3 (some .boolean)] ++ wsX90)
def wsX9_save : List Cond := .code yX9_save cX9_save 2 none :: ([.fieldLink RX9 36 "CraneCampaignModel" "saved" "I", .fieldLink RX9 16 "CraneCampaignModel" "rows" "[I", .fieldLink RX9 7 "CraneCampaignModel" "z" "[I"] ++ wsX90)
def wsX9_keep : List Cond := .code yX9_keep cX9_keep 2 none :: ([.fieldLink RX9 13 "CraneCampaignModel" "aside" "[I", .fieldLink RX9 7 "CraneCampaignModel" "z" "[I"] ++ wsX90)
def wsX9_bring : List Cond := .code yX9_bring cX9_bring 2 none :: ([.fieldLink RX9 7 "CraneCampaignModel" "z" "[I", .fieldLink RX9 13 "CraneCampaignModel" "aside" "[I"] ++ wsX90)
def wsX9_limitOf : List Cond := .code yX9_limitOf cX9_limitOf 2 (some .int) :: ([.fieldLink RX9 7 "CraneCampaignModel" "z" "[I"] ++ wsX90)
def wsX9_windAt : List Cond := .code yX9_windAt cX9_windAt 2 (some .int) :: ([.fieldLink RX9 7 "CraneCampaignModel" "z" "[I"] ++ wsX90)
def wsX9_full : List Cond := .code yX9_full cX9_full 3 (some .int) :: ([.fieldLink RX9 7 "CraneCampaignModel" "z" "[I"] ++ wsX90)
def wsX9_hoursOf : List Cond := .code yX9_hoursOf cX9_hoursOf 8 (some .int) :: ([.fieldLink RX9 7 "CraneCampaignModel" "z" "[I"] ++ wsX90)
def wsX9_bladeFor : List Cond := .code yX9_bladeFor cX9_bladeFor 4 (some .int) :: ([.fieldLink RX9 7 "CraneCampaignModel" "z" "[I"] ++ wsX90)
def wsX9_unload : List Cond := .code yX9_unload cX9_unload 4 none :: ([.fieldLink RX9 7 "CraneCampaignModel" "z" "[I"] ++ wsX90)
def wsX9_takeOff : List Cond := .code yX9_takeOff cX9_takeOff 3 none :: ([.fieldLink RX9 7 "CraneCampaignModel" "z" "[I"] ++ wsX90)
def wsX9_use : List Cond := .code yX9_use cX9_use 3 none :: ([.fieldLink RX9 7 "CraneCampaignModel" "z" "[I"] ++ wsX90)
def wsX9_forget : List Cond := .code yX9_forget cX9_forget 1 none :: ([.fieldLink RX9 7 "CraneCampaignModel" "z" "[I"] ++ wsX90)
def wsX9_serve : List Cond := .code yX9_serve cX9_serve 4 (some .int) :: ([.fieldLink RX9 7 "CraneCampaignModel" "z" "[I", .methodLink RX9 39 yX9_hoursOf, .instanceMethod yX9_hoursOf, .selects RX9 yX9_hoursOf yX9_hoursOf, .initialized RX9, .code yX9_hoursOf cX9_hoursOf 8 (some .int), .methodLink RX9 43 yX9_bladeFor, .instanceMethod yX9_bladeFor, .selects RX9 yX9_bladeFor yX9_bladeFor, .code yX9_bladeFor cX9_bladeFor 4 (some .int), .methodLink RX9 47 yX9_limitOf, .instanceMethod yX9_limitOf, .selects RX9 yX9_limitOf yX9_limitOf, .code yX9_limitOf cX9_limitOf 2 (some .int)] ++ wsX90)
def wsX9_goHour_r1 : List Cond := [Cond.fieldLink RX9 7 "CraneCampaignModel" "z" "[I", Cond.methodLink RX9 50 yX9_unload, Cond.instanceMethod yX9_unload, Cond.selects RX9 yX9_unload yX9_unload, Cond.initialized RX9, Cond.code yX9_unload cX9_unload 4 none, Cond.methodLink RX9 53 yX9_forget, Cond.instanceMethod yX9_forget, Cond.selects RX9 yX9_forget yX9_forget, Cond.code yX9_forget cX9_forget 1 none, Cond.methodLink RX9 56 yX9_takeOff, Cond.instanceMethod yX9_takeOff, Cond.selects RX9 yX9_takeOff yX9_takeOff, Cond.code yX9_takeOff cX9_takeOff 3 none, Cond.methodLink RX9 60 yX9_windAt, Cond.instanceMethod yX9_windAt, Cond.selects RX9 yX9_windAt yX9_windAt, Cond.code yX9_windAt cX9_windAt 2 (some .int), Cond.methodLink RX9 63 yX9_serve, Cond.instanceMethod yX9_serve, Cond.selects RX9 yX9_serve yX9_serve, Cond.code yX9_serve cX9_serve 4 (some .int), Cond.methodLink RX9 39 yX9_hoursOf, Cond.instanceMethod yX9_hoursOf]
def wsX9_goHour_r2 : List Cond := [Cond.selects RX9 yX9_hoursOf yX9_hoursOf, Cond.code yX9_hoursOf cX9_hoursOf 8 (some .int), Cond.methodLink RX9 43 yX9_bladeFor, Cond.instanceMethod yX9_bladeFor, Cond.selects RX9 yX9_bladeFor yX9_bladeFor, Cond.code yX9_bladeFor cX9_bladeFor 4 (some .int), Cond.methodLink RX9 47 yX9_limitOf, Cond.instanceMethod yX9_limitOf, Cond.selects RX9 yX9_limitOf yX9_limitOf, Cond.code yX9_limitOf cX9_limitOf 2 (some .int), Cond.methodLink RX9 66 yX9_full, Cond.instanceMethod yX9_full, Cond.selects RX9 yX9_full yX9_full, Cond.code yX9_full cX9_full 3 (some .int), Cond.methodLink RX9 69 yX9_use, Cond.instanceMethod yX9_use, Cond.selects RX9 yX9_use yX9_use, Cond.code yX9_use cX9_use 3 none, Cond.methodLink RX9 32 yX9_within, Cond.static yX9_within, Cond.code yX9_within cX9_within 3 (some .boolean)]
def wsX9_goHour : List Cond := .code yX9_goHour cX9_goHour 9 (some .int) :: ((wsX9_goHour_r1 ++ wsX9_goHour_r2) ++ wsX90)
def wsX9_goHours_r1 : List Cond := [Cond.methodLink RX9 72 yX9_goHour, Cond.instanceMethod yX9_goHour, Cond.selects RX9 yX9_goHour yX9_goHour, Cond.initialized RX9, Cond.code yX9_goHour cX9_goHour 9 (some .int), Cond.fieldLink RX9 7 "CraneCampaignModel" "z" "[I", Cond.methodLink RX9 50 yX9_unload, Cond.instanceMethod yX9_unload, Cond.selects RX9 yX9_unload yX9_unload, Cond.code yX9_unload cX9_unload 4 none, Cond.methodLink RX9 53 yX9_forget, Cond.instanceMethod yX9_forget, Cond.selects RX9 yX9_forget yX9_forget, Cond.code yX9_forget cX9_forget 1 none, Cond.methodLink RX9 56 yX9_takeOff, Cond.instanceMethod yX9_takeOff, Cond.selects RX9 yX9_takeOff yX9_takeOff, Cond.code yX9_takeOff cX9_takeOff 3 none, Cond.methodLink RX9 60 yX9_windAt, Cond.instanceMethod yX9_windAt, Cond.selects RX9 yX9_windAt yX9_windAt, Cond.code yX9_windAt cX9_windAt 2 (some .int), Cond.methodLink RX9 63 yX9_serve, Cond.instanceMethod yX9_serve]
def wsX9_goHours_r2 : List Cond := [Cond.selects RX9 yX9_serve yX9_serve, Cond.code yX9_serve cX9_serve 4 (some .int), Cond.methodLink RX9 39 yX9_hoursOf, Cond.instanceMethod yX9_hoursOf, Cond.selects RX9 yX9_hoursOf yX9_hoursOf, Cond.code yX9_hoursOf cX9_hoursOf 8 (some .int), Cond.methodLink RX9 43 yX9_bladeFor, Cond.instanceMethod yX9_bladeFor, Cond.selects RX9 yX9_bladeFor yX9_bladeFor, Cond.code yX9_bladeFor cX9_bladeFor 4 (some .int), Cond.methodLink RX9 47 yX9_limitOf, Cond.instanceMethod yX9_limitOf, Cond.selects RX9 yX9_limitOf yX9_limitOf, Cond.code yX9_limitOf cX9_limitOf 2 (some .int), Cond.methodLink RX9 66 yX9_full, Cond.instanceMethod yX9_full, Cond.selects RX9 yX9_full yX9_full, Cond.code yX9_full cX9_full 3 (some .int), Cond.methodLink RX9 69 yX9_use, Cond.instanceMethod yX9_use, Cond.selects RX9 yX9_use yX9_use, Cond.code yX9_use cX9_use 3 none, Cond.methodLink RX9 32 yX9_within, Cond.static yX9_within]
def wsX9_goHours_r3 : List Cond := [Cond.code yX9_within cX9_within 3 (some .boolean)]
def wsX9_goHours : List Cond := .code yX9_goHours cX9_goHours 4 (some .int) :: ((wsX9_goHours_r1 ++ (wsX9_goHours_r2 ++ wsX9_goHours_r3)) ++ wsX90)
def wsX9_addTurbine : List Cond := .code yX9_addTurbine cX9_addTurbine 6 (some .int) :: ([.fieldLink RX9 28 "CraneCampaignModel" "thrown" "I", .fieldLink RX9 7 "CraneCampaignModel" "z" "[I", .methodLink RX9 32 yX9_within, .static yX9_within, .initialized RX9, .code yX9_within cX9_within 3 (some .boolean), .methodLink RX9 76 yX9_fails, .instanceMethod yX9_fails, .selects RX9 yX9_fails yX9_fails, .code yX9_fails cX9_fails 2 (some .int), .methodLink RX9 79 yX9_save, .instanceMethod yX9_save, .selects RX9 yX9_save yX9_save, .code yX9_save cX9_save 2 none, .fieldLink RX9 36 "CraneCampaignModel" "saved" "I", .fieldLink RX9 16 "CraneCampaignModel" "rows" "[I"] ++ wsX90)
def wsX9_setFault : List Cond := .code yX9_setFault cX9_setFault 4 (some .int) :: ([.fieldLink RX9 28 "CraneCampaignModel" "thrown" "I", .fieldLink RX9 7 "CraneCampaignModel" "z" "[I", .methodLink RX9 82 yX9_isTurbine, .instanceMethod yX9_isTurbine, .selects RX9 yX9_isTurbine yX9_isTurbine, .initialized RX9, .code yX9_isTurbine cX9_isTurbine 2 (some .boolean), .methodLink RX9 32 yX9_within, .static yX9_within, .code yX9_within cX9_within 3 (some .boolean), .methodLink RX9 76 yX9_fails, .instanceMethod yX9_fails, .selects RX9 yX9_fails yX9_fails, .code yX9_fails cX9_fails 2 (some .int), .methodLink RX9 79 yX9_save, .instanceMethod yX9_save, .selects RX9 yX9_save yX9_save, .code yX9_save cX9_save 2 none, .fieldLink RX9 36 "CraneCampaignModel" "saved" "I", .fieldLink RX9 16 "CraneCampaignModel" "rows" "[I"] ++ wsX90)
def wsX9_setBog : List Cond := .code yX9_setBog cX9_setBog 6 (some .int) :: ([.fieldLink RX9 28 "CraneCampaignModel" "thrown" "I", .fieldLink RX9 7 "CraneCampaignModel" "z" "[I", .methodLink RX9 32 yX9_within, .static yX9_within, .initialized RX9, .code yX9_within cX9_within 3 (some .boolean), .methodLink RX9 76 yX9_fails, .instanceMethod yX9_fails, .selects RX9 yX9_fails yX9_fails, .code yX9_fails cX9_fails 2 (some .int), .methodLink RX9 79 yX9_save, .instanceMethod yX9_save, .selects RX9 yX9_save yX9_save, .code yX9_save cX9_save 2 none, .fieldLink RX9 36 "CraneCampaignModel" "saved" "I", .fieldLink RX9 16 "CraneCampaignModel" "rows" "[I"] ++ wsX90)
def wsX9_lowest : List Cond := .code yX9_lowest cX9_lowest 1 (some .int) :: ([])
def wsX9_highest : List Cond := .code yX9_highest cX9_highest 1 (some .int) :: ([])
def wsX9_set : List Cond := .code yX9_set cX9_set 4 (some .int) :: ([.fieldLink RX9 28 "CraneCampaignModel" "thrown" "I", .fieldLink RX9 7 "CraneCampaignModel" "z" "[I", .methodLink RX9 32 yX9_within, .static yX9_within, .initialized RX9, .code yX9_within cX9_within 3 (some .boolean), .methodLink RX9 76 yX9_fails, .instanceMethod yX9_fails, .selects RX9 yX9_fails yX9_fails, .code yX9_fails cX9_fails 2 (some .int), .methodLink RX9 86 yX9_lowest, .static yX9_lowest, .code yX9_lowest cX9_lowest 1 (some .int), .methodLink RX9 89 yX9_highest, .static yX9_highest, .code yX9_highest cX9_highest 1 (some .int), .methodLink RX9 79 yX9_save, .instanceMethod yX9_save, .selects RX9 yX9_save yX9_save, .code yX9_save cX9_save 2 none, .fieldLink RX9 36 "CraneCampaignModel" "saved" "I", .fieldLink RX9 16 "CraneCampaignModel" "rows" "[I"] ++ wsX90)
def wsX9_placeOf : List Cond := .code yX9_placeOf cX9_placeOf 4 (some .int) :: ([.fieldLink RX9 7 "CraneCampaignModel" "z" "[I"] ++ wsX90)
def wsX9_plan_r1 : List Cond := [Cond.fieldLink RX9 28 "CraneCampaignModel" "thrown" "I", Cond.fieldLink RX9 7 "CraneCampaignModel" "z" "[I", Cond.methodLink RX9 82 yX9_isTurbine, Cond.instanceMethod yX9_isTurbine, Cond.selects RX9 yX9_isTurbine yX9_isTurbine, Cond.initialized RX9, Cond.code yX9_isTurbine cX9_isTurbine 2 (some .boolean), Cond.methodLink RX9 32 yX9_within, Cond.static yX9_within, Cond.code yX9_within cX9_within 3 (some .boolean), Cond.methodLink RX9 76 yX9_fails, Cond.instanceMethod yX9_fails, Cond.selects RX9 yX9_fails yX9_fails, Cond.code yX9_fails cX9_fails 2 (some .int), Cond.methodLink RX9 92 yX9_placeOf, Cond.instanceMethod yX9_placeOf, Cond.selects RX9 yX9_placeOf yX9_placeOf, Cond.code yX9_placeOf cX9_placeOf 4 (some .int), Cond.methodLink RX9 79 yX9_save, Cond.instanceMethod yX9_save, Cond.selects RX9 yX9_save yX9_save, Cond.code yX9_save cX9_save 2 none, Cond.fieldLink RX9 36 "CraneCampaignModel" "saved" "I", Cond.fieldLink RX9 16 "CraneCampaignModel" "rows" "[I"]
def wsX9_plan_r2 : List Cond := [Cond.methodLink RX9 56 yX9_takeOff, Cond.instanceMethod yX9_takeOff, Cond.selects RX9 yX9_takeOff yX9_takeOff, Cond.code yX9_takeOff cX9_takeOff 3 none]
def wsX9_plan : List Cond := .code yX9_plan cX9_plan 6 (some .int) :: ((wsX9_plan_r1 ++ wsX9_plan_r2) ++ wsX90)
def wsX9_unplan_r1 : List Cond := [Cond.fieldLink RX9 28 "CraneCampaignModel" "thrown" "I", Cond.methodLink RX9 82 yX9_isTurbine, Cond.instanceMethod yX9_isTurbine, Cond.selects RX9 yX9_isTurbine yX9_isTurbine, Cond.initialized RX9, Cond.code yX9_isTurbine cX9_isTurbine 2 (some .boolean), Cond.fieldLink RX9 7 "CraneCampaignModel" "z" "[I", Cond.methodLink RX9 32 yX9_within, Cond.static yX9_within, Cond.code yX9_within cX9_within 3 (some .boolean), Cond.methodLink RX9 76 yX9_fails, Cond.instanceMethod yX9_fails, Cond.selects RX9 yX9_fails yX9_fails, Cond.code yX9_fails cX9_fails 2 (some .int), Cond.methodLink RX9 92 yX9_placeOf, Cond.instanceMethod yX9_placeOf, Cond.selects RX9 yX9_placeOf yX9_placeOf, Cond.code yX9_placeOf cX9_placeOf 4 (some .int), Cond.methodLink RX9 79 yX9_save, Cond.instanceMethod yX9_save, Cond.selects RX9 yX9_save yX9_save, Cond.code yX9_save cX9_save 2 none, Cond.fieldLink RX9 36 "CraneCampaignModel" "saved" "I", Cond.fieldLink RX9 16 "CraneCampaignModel" "rows" "[I"]
def wsX9_unplan_r2 : List Cond := [Cond.methodLink RX9 56 yX9_takeOff, Cond.instanceMethod yX9_takeOff, Cond.selects RX9 yX9_takeOff yX9_takeOff, Cond.code yX9_takeOff cX9_takeOff 3 none]
def wsX9_unplan : List Cond := .code yX9_unplan cX9_unplan 3 (some .int) :: ((wsX9_unplan_r1 ++ wsX9_unplan_r2) ++ wsX90)
def wsX9_orderBlade : List Cond := .code yX9_orderBlade cX9_orderBlade 2 (some .int) :: ([.fieldLink RX9 28 "CraneCampaignModel" "thrown" "I", .fieldLink RX9 7 "CraneCampaignModel" "z" "[I", .methodLink RX9 82 yX9_isTurbine, .instanceMethod yX9_isTurbine, .selects RX9 yX9_isTurbine yX9_isTurbine, .initialized RX9, .code yX9_isTurbine cX9_isTurbine 2 (some .boolean), .methodLink RX9 32 yX9_within, .static yX9_within, .code yX9_within cX9_within 3 (some .boolean), .methodLink RX9 76 yX9_fails, .instanceMethod yX9_fails, .selects RX9 yX9_fails yX9_fails, .code yX9_fails cX9_fails 2 (some .int), .methodLink RX9 79 yX9_save, .instanceMethod yX9_save, .selects RX9 yX9_save yX9_save, .code yX9_save cX9_save 2 none, .fieldLink RX9 36 "CraneCampaignModel" "saved" "I", .fieldLink RX9 16 "CraneCampaignModel" "rows" "[I"] ++ wsX90)
def wsX9_pass_r1 : List Cond := [Cond.fieldLink RX9 28 "CraneCampaignModel" "thrown" "I", Cond.fieldLink RX9 7 "CraneCampaignModel" "z" "[I", Cond.methodLink RX9 32 yX9_within, Cond.static yX9_within, Cond.initialized RX9, Cond.code yX9_within cX9_within 3 (some .boolean), Cond.methodLink RX9 76 yX9_fails, Cond.instanceMethod yX9_fails, Cond.selects RX9 yX9_fails yX9_fails, Cond.code yX9_fails cX9_fails 2 (some .int), Cond.methodLink RX9 79 yX9_save, Cond.instanceMethod yX9_save, Cond.selects RX9 yX9_save yX9_save, Cond.code yX9_save cX9_save 2 none, Cond.fieldLink RX9 36 "CraneCampaignModel" "saved" "I", Cond.fieldLink RX9 16 "CraneCampaignModel" "rows" "[I", Cond.methodLink RX9 95 yX9_goHours, Cond.instanceMethod yX9_goHours, Cond.selects RX9 yX9_goHours yX9_goHours, Cond.code yX9_goHours cX9_goHours 4 (some .int), Cond.methodLink RX9 72 yX9_goHour, Cond.instanceMethod yX9_goHour, Cond.selects RX9 yX9_goHour yX9_goHour, Cond.code yX9_goHour cX9_goHour 9 (some .int)]
def wsX9_pass_r2 : List Cond := [Cond.methodLink RX9 50 yX9_unload, Cond.instanceMethod yX9_unload, Cond.selects RX9 yX9_unload yX9_unload, Cond.code yX9_unload cX9_unload 4 none, Cond.methodLink RX9 53 yX9_forget, Cond.instanceMethod yX9_forget, Cond.selects RX9 yX9_forget yX9_forget, Cond.code yX9_forget cX9_forget 1 none, Cond.methodLink RX9 56 yX9_takeOff, Cond.instanceMethod yX9_takeOff, Cond.selects RX9 yX9_takeOff yX9_takeOff, Cond.code yX9_takeOff cX9_takeOff 3 none, Cond.methodLink RX9 60 yX9_windAt, Cond.instanceMethod yX9_windAt, Cond.selects RX9 yX9_windAt yX9_windAt, Cond.code yX9_windAt cX9_windAt 2 (some .int), Cond.methodLink RX9 63 yX9_serve, Cond.instanceMethod yX9_serve, Cond.selects RX9 yX9_serve yX9_serve, Cond.code yX9_serve cX9_serve 4 (some .int), Cond.methodLink RX9 39 yX9_hoursOf, Cond.instanceMethod yX9_hoursOf, Cond.selects RX9 yX9_hoursOf yX9_hoursOf, Cond.code yX9_hoursOf cX9_hoursOf 8 (some .int)]
def wsX9_pass_r3 : List Cond := [Cond.methodLink RX9 43 yX9_bladeFor, Cond.instanceMethod yX9_bladeFor, Cond.selects RX9 yX9_bladeFor yX9_bladeFor, Cond.code yX9_bladeFor cX9_bladeFor 4 (some .int), Cond.methodLink RX9 47 yX9_limitOf, Cond.instanceMethod yX9_limitOf, Cond.selects RX9 yX9_limitOf yX9_limitOf, Cond.code yX9_limitOf cX9_limitOf 2 (some .int), Cond.methodLink RX9 66 yX9_full, Cond.instanceMethod yX9_full, Cond.selects RX9 yX9_full yX9_full, Cond.code yX9_full cX9_full 3 (some .int), Cond.methodLink RX9 69 yX9_use, Cond.instanceMethod yX9_use, Cond.selects RX9 yX9_use yX9_use, Cond.code yX9_use cX9_use 3 none]
def wsX9_pass : List Cond := .code yX9_pass cX9_pass 2 (some .int) :: ((wsX9_pass_r1 ++ (wsX9_pass_r2 ++ wsX9_pass_r3)) ++ wsX90)
def wsX9_append : List Cond := .code yX9_append cX9_append 2 (some .int) :: ([.fieldLink RX9 28 "CraneCampaignModel" "thrown" "I", .fieldLink RX9 98 "CraneCampaignModel" "length" "I", .fieldLink RX9 19 "CraneCampaignModel" "text" "[I", .methodLink RX9 32 yX9_within, .static yX9_within, .initialized RX9, .code yX9_within cX9_within 3 (some .boolean), .methodLink RX9 76 yX9_fails, .instanceMethod yX9_fails, .selects RX9 yX9_fails yX9_fails, .code yX9_fails cX9_fails 2 (some .int)] ++ wsX90)
def wsX9_clearBuffer : List Cond := .code yX9_clearBuffer cX9_clearBuffer 2 (some .int) :: ([.fieldLink RX9 28 "CraneCampaignModel" "thrown" "I", .fieldLink RX9 98 "CraneCampaignModel" "length" "I"] ++ wsX90)
def wsX9_close : List Cond := .code yX9_close cX9_close 2 none :: ([.fieldLink RX9 101 "CraneCampaignModel" "times" "I", .fieldLink RX9 104 "CraneCampaignModel" "all" "I", .fieldLink RX9 25 "CraneCampaignModel" "read" "[I", .fieldLink RX9 107 "CraneCampaignModel" "number" "I"] ++ wsX90)
def wsX9_first : List Cond := .code yX9_first cX9_first 2 (some .boolean) :: ([.fieldLink RX9 107 "CraneCampaignModel" "number" "I", .fieldLink RX9 101 "CraneCampaignModel" "times" "I", .fieldLink RX9 110 "CraneCampaignModel" "state" "I", .methodLink RX9 32 yX9_within, .static yX9_within, .initialized RX9, .code yX9_within cX9_within 3 (some .boolean)] ++ wsX90)
def wsX9_second : List Cond := .code yX9_second cX9_second 2 (some .boolean) :: ([.fieldLink RX9 107 "CraneCampaignModel" "number" "I", .fieldLink RX9 110 "CraneCampaignModel" "state" "I"] ++ wsX90)
def wsX9_ends : List Cond := .code yX9_ends cX9_ends 2 (some .boolean) :: ([.fieldLink RX9 110 "CraneCampaignModel" "state" "I", .methodLink RX9 113 yX9_close, .instanceMethod yX9_close, .selects RX9 yX9_close yX9_close, .initialized RX9, .code yX9_close cX9_close 2 none, .fieldLink RX9 101 "CraneCampaignModel" "times" "I", .fieldLink RX9 104 "CraneCampaignModel" "all" "I", .fieldLink RX9 25 "CraneCampaignModel" "read" "[I", .fieldLink RX9 107 "CraneCampaignModel" "number" "I"] ++ wsX90)
def wsX9_often : List Cond := .code yX9_often cX9_often 2 (some .boolean) :: ([.fieldLink RX9 101 "CraneCampaignModel" "times" "I", .fieldLink RX9 110 "CraneCampaignModel" "state" "I", .methodLink RX9 32 yX9_within, .static yX9_within, .initialized RX9, .code yX9_within cX9_within 3 (some .boolean)] ++ wsX90)
def wsX9_more : List Cond := .code yX9_more cX9_more 2 (some .boolean) :: ([.fieldLink RX9 101 "CraneCampaignModel" "times" "I", .fieldLink RX9 110 "CraneCampaignModel" "state" "I"] ++ wsX90)
def wsX9_goes_r1 : List Cond := [Cond.fieldLink RX9 110 "CraneCampaignModel" "state" "I", Cond.methodLink RX9 32 yX9_within, Cond.static yX9_within, Cond.initialized RX9, Cond.code yX9_within cX9_within 3 (some .boolean), Cond.methodLink RX9 116 yX9_first, Cond.instanceMethod yX9_first, Cond.selects RX9 yX9_first yX9_first, Cond.code yX9_first cX9_first 2 (some .boolean), Cond.fieldLink RX9 107 "CraneCampaignModel" "number" "I", Cond.fieldLink RX9 101 "CraneCampaignModel" "times" "I", Cond.methodLink RX9 119 yX9_second, Cond.instanceMethod yX9_second, Cond.selects RX9 yX9_second yX9_second, Cond.code yX9_second cX9_second 2 (some .boolean), Cond.methodLink RX9 122 yX9_ends, Cond.instanceMethod yX9_ends, Cond.selects RX9 yX9_ends yX9_ends, Cond.code yX9_ends cX9_ends 2 (some .boolean), Cond.methodLink RX9 113 yX9_close, Cond.instanceMethod yX9_close, Cond.selects RX9 yX9_close yX9_close, Cond.code yX9_close cX9_close 2 none, Cond.fieldLink RX9 104 "CraneCampaignModel" "all" "I"]
def wsX9_goes_r2 : List Cond := [Cond.fieldLink RX9 25 "CraneCampaignModel" "read" "[I", Cond.methodLink RX9 125 yX9_often, Cond.instanceMethod yX9_often, Cond.selects RX9 yX9_often yX9_often, Cond.code yX9_often cX9_often 2 (some .boolean), Cond.methodLink RX9 128 yX9_more, Cond.instanceMethod yX9_more, Cond.selects RX9 yX9_more yX9_more, Cond.code yX9_more cX9_more 2 (some .boolean)]
def wsX9_goes : List Cond := .code yX9_goes cX9_goes 4 (some .boolean) :: ((wsX9_goes_r1 ++ wsX9_goes_r2) ++ wsX90)
def wsX9_readText_r1 : List Cond := [Cond.fieldLink RX9 110 "CraneCampaignModel" "state" "I", Cond.fieldLink RX9 104 "CraneCampaignModel" "all" "I", Cond.fieldLink RX9 131 "CraneCampaignModel" "isWhole" "Z", Cond.fieldLink RX9 98 "CraneCampaignModel" "length" "I", Cond.fieldLink RX9 19 "CraneCampaignModel" "text" "[I", Cond.methodLink RX9 135 yX9_goes, Cond.instanceMethod yX9_goes, Cond.selects RX9 yX9_goes yX9_goes, Cond.initialized RX9, Cond.code yX9_goes cX9_goes 4 (some .boolean), Cond.methodLink RX9 32 yX9_within, Cond.static yX9_within, Cond.code yX9_within cX9_within 3 (some .boolean), Cond.methodLink RX9 116 yX9_first, Cond.instanceMethod yX9_first, Cond.selects RX9 yX9_first yX9_first, Cond.code yX9_first cX9_first 2 (some .boolean), Cond.fieldLink RX9 107 "CraneCampaignModel" "number" "I", Cond.fieldLink RX9 101 "CraneCampaignModel" "times" "I", Cond.methodLink RX9 119 yX9_second, Cond.instanceMethod yX9_second, Cond.selects RX9 yX9_second yX9_second, Cond.code yX9_second cX9_second 2 (some .boolean), Cond.methodLink RX9 122 yX9_ends]
def wsX9_readText_r2 : List Cond := [Cond.instanceMethod yX9_ends, Cond.selects RX9 yX9_ends yX9_ends, Cond.code yX9_ends cX9_ends 2 (some .boolean), Cond.methodLink RX9 113 yX9_close, Cond.instanceMethod yX9_close, Cond.selects RX9 yX9_close yX9_close, Cond.code yX9_close cX9_close 2 none, Cond.fieldLink RX9 25 "CraneCampaignModel" "read" "[I", Cond.methodLink RX9 125 yX9_often, Cond.instanceMethod yX9_often, Cond.selects RX9 yX9_often yX9_often, Cond.code yX9_often cX9_often 2 (some .boolean), Cond.methodLink RX9 128 yX9_more, Cond.instanceMethod yX9_more, Cond.selects RX9 yX9_more yX9_more, Cond.code yX9_more cX9_more 2 (some .boolean)]
def wsX9_readText : List Cond := .code yX9_readText cX9_readText 2 (some .int) :: ((wsX9_readText_r1 ++ wsX9_readText_r2) ++ wsX90)
def wsX9_firstError_r1 : List Cond := [Cond.fieldLink RX9 28 "CraneCampaignModel" "thrown" "I", Cond.methodLink RX9 138 yX9_readText, Cond.instanceMethod yX9_readText, Cond.selects RX9 yX9_readText yX9_readText, Cond.initialized RX9, Cond.code yX9_readText cX9_readText 2 (some .int), Cond.fieldLink RX9 110 "CraneCampaignModel" "state" "I", Cond.fieldLink RX9 104 "CraneCampaignModel" "all" "I", Cond.fieldLink RX9 131 "CraneCampaignModel" "isWhole" "Z", Cond.fieldLink RX9 98 "CraneCampaignModel" "length" "I", Cond.fieldLink RX9 19 "CraneCampaignModel" "text" "[I", Cond.methodLink RX9 135 yX9_goes, Cond.instanceMethod yX9_goes, Cond.selects RX9 yX9_goes yX9_goes, Cond.code yX9_goes cX9_goes 4 (some .boolean), Cond.methodLink RX9 32 yX9_within, Cond.static yX9_within, Cond.code yX9_within cX9_within 3 (some .boolean), Cond.methodLink RX9 116 yX9_first, Cond.instanceMethod yX9_first, Cond.selects RX9 yX9_first yX9_first, Cond.code yX9_first cX9_first 2 (some .boolean), Cond.fieldLink RX9 107 "CraneCampaignModel" "number" "I", Cond.fieldLink RX9 101 "CraneCampaignModel" "times" "I"]
def wsX9_firstError_r2 : List Cond := [Cond.methodLink RX9 119 yX9_second, Cond.instanceMethod yX9_second, Cond.selects RX9 yX9_second yX9_second, Cond.code yX9_second cX9_second 2 (some .boolean), Cond.methodLink RX9 122 yX9_ends, Cond.instanceMethod yX9_ends, Cond.selects RX9 yX9_ends yX9_ends, Cond.code yX9_ends cX9_ends 2 (some .boolean), Cond.methodLink RX9 113 yX9_close, Cond.instanceMethod yX9_close, Cond.selects RX9 yX9_close yX9_close, Cond.code yX9_close cX9_close 2 none, Cond.fieldLink RX9 25 "CraneCampaignModel" "read" "[I", Cond.methodLink RX9 125 yX9_often, Cond.instanceMethod yX9_often, Cond.selects RX9 yX9_often yX9_often, Cond.code yX9_often cX9_often 2 (some .boolean), Cond.methodLink RX9 128 yX9_more, Cond.instanceMethod yX9_more, Cond.selects RX9 yX9_more yX9_more, Cond.code yX9_more cX9_more 2 (some .boolean)]
def wsX9_firstError : List Cond := .code yX9_firstError cX9_firstError 1 (some .int) :: ((wsX9_firstError_r1 ++ wsX9_firstError_r2) ++ wsX90)
def wsX9_load_r1 : List Cond := [Cond.fieldLink RX9 28 "CraneCampaignModel" "thrown" "I", Cond.fieldLink RX9 131 "CraneCampaignModel" "isWhole" "Z", Cond.fieldLink RX9 104 "CraneCampaignModel" "all" "I", Cond.fieldLink RX9 98 "CraneCampaignModel" "length" "I", Cond.fieldLink RX9 7 "CraneCampaignModel" "z" "[I", Cond.fieldLink RX9 25 "CraneCampaignModel" "read" "[I", Cond.methodLink RX9 138 yX9_readText, Cond.instanceMethod yX9_readText, Cond.selects RX9 yX9_readText yX9_readText, Cond.initialized RX9, Cond.code yX9_readText cX9_readText 2 (some .int), Cond.fieldLink RX9 110 "CraneCampaignModel" "state" "I", Cond.fieldLink RX9 19 "CraneCampaignModel" "text" "[I", Cond.methodLink RX9 135 yX9_goes, Cond.instanceMethod yX9_goes, Cond.selects RX9 yX9_goes yX9_goes, Cond.code yX9_goes cX9_goes 4 (some .boolean), Cond.methodLink RX9 32 yX9_within, Cond.static yX9_within, Cond.code yX9_within cX9_within 3 (some .boolean), Cond.methodLink RX9 116 yX9_first, Cond.instanceMethod yX9_first, Cond.selects RX9 yX9_first yX9_first, Cond.code yX9_first cX9_first 2 (some .boolean)]
def wsX9_load_r2 : List Cond := [Cond.fieldLink RX9 107 "CraneCampaignModel" "number" "I", Cond.fieldLink RX9 101 "CraneCampaignModel" "times" "I", Cond.methodLink RX9 119 yX9_second, Cond.instanceMethod yX9_second, Cond.selects RX9 yX9_second yX9_second, Cond.code yX9_second cX9_second 2 (some .boolean), Cond.methodLink RX9 122 yX9_ends, Cond.instanceMethod yX9_ends, Cond.selects RX9 yX9_ends yX9_ends, Cond.code yX9_ends cX9_ends 2 (some .boolean), Cond.methodLink RX9 113 yX9_close, Cond.instanceMethod yX9_close, Cond.selects RX9 yX9_close yX9_close, Cond.code yX9_close cX9_close 2 none, Cond.methodLink RX9 125 yX9_often, Cond.instanceMethod yX9_often, Cond.selects RX9 yX9_often yX9_often, Cond.code yX9_often cX9_often 2 (some .boolean), Cond.methodLink RX9 128 yX9_more, Cond.instanceMethod yX9_more, Cond.selects RX9 yX9_more yX9_more, Cond.code yX9_more cX9_more 2 (some .boolean), Cond.methodLink RX9 76 yX9_fails, Cond.instanceMethod yX9_fails]
def wsX9_load_r3 : List Cond := [Cond.selects RX9 yX9_fails yX9_fails, Cond.code yX9_fails cX9_fails 2 (some .int), Cond.methodLink RX9 79 yX9_save, Cond.instanceMethod yX9_save, Cond.selects RX9 yX9_save yX9_save, Cond.code yX9_save cX9_save 2 none, Cond.fieldLink RX9 36 "CraneCampaignModel" "saved" "I", Cond.fieldLink RX9 16 "CraneCampaignModel" "rows" "[I"]
def wsX9_load : List Cond := .code yX9_load cX9_load 2 (some .int) :: ((wsX9_load_r1 ++ (wsX9_load_r2 ++ wsX9_load_r3)) ++ wsX90)
def wsX9_undo : List Cond := .code yX9_undo cX9_undo 2 (some .int) :: ([.fieldLink RX9 28 "CraneCampaignModel" "thrown" "I", .fieldLink RX9 36 "CraneCampaignModel" "saved" "I", .fieldLink RX9 7 "CraneCampaignModel" "z" "[I", .fieldLink RX9 16 "CraneCampaignModel" "rows" "[I", .methodLink RX9 76 yX9_fails, .instanceMethod yX9_fails, .selects RX9 yX9_fails yX9_fails, .initialized RX9, .code yX9_fails cX9_fails 2 (some .int)] ++ wsX90)
def wsX9_ashore : List Cond := .code yX9_ashore cX9_ashore 4 (some .int) :: ([.fieldLink RX9 7 "CraneCampaignModel" "z" "[I"] ++ wsX90)
def wsX9_turbineNow : List Cond := .code yX9_turbineNow cX9_turbineNow 3 (some .int) :: ([.fieldLink RX9 7 "CraneCampaignModel" "z" "[I", .methodLink RX9 47 yX9_limitOf, .instanceMethod yX9_limitOf, .selects RX9 yX9_limitOf yX9_limitOf, .initialized RX9, .code yX9_limitOf cX9_limitOf 2 (some .int), .methodLink RX9 92 yX9_placeOf, .instanceMethod yX9_placeOf, .selects RX9 yX9_placeOf yX9_placeOf, .code yX9_placeOf cX9_placeOf 4 (some .int), .methodLink RX9 141 yX9_ashore, .instanceMethod yX9_ashore, .selects RX9 yX9_ashore yX9_ashore, .code yX9_ashore cX9_ashore 4 (some .int), .methodLink RX9 60 yX9_windAt, .instanceMethod yX9_windAt, .selects RX9 yX9_windAt yX9_windAt, .code yX9_windAt cX9_windAt 2 (some .int), .methodLink RX9 66 yX9_full, .instanceMethod yX9_full, .selects RX9 yX9_full yX9_full, .code yX9_full cX9_full 3 (some .int)] ++ wsX90)
def wsX9_turbine_r1 : List Cond := [Cond.fieldLink RX9 28 "CraneCampaignModel" "thrown" "I", Cond.methodLink RX9 82 yX9_isTurbine, Cond.instanceMethod yX9_isTurbine, Cond.selects RX9 yX9_isTurbine yX9_isTurbine, Cond.initialized RX9, Cond.code yX9_isTurbine cX9_isTurbine 2 (some .boolean), Cond.fieldLink RX9 7 "CraneCampaignModel" "z" "[I", Cond.methodLink RX9 32 yX9_within, Cond.static yX9_within, Cond.code yX9_within cX9_within 3 (some .boolean), Cond.methodLink RX9 76 yX9_fails, Cond.instanceMethod yX9_fails, Cond.selects RX9 yX9_fails yX9_fails, Cond.code yX9_fails cX9_fails 2 (some .int), Cond.methodLink RX9 144 yX9_turbineNow, Cond.instanceMethod yX9_turbineNow, Cond.selects RX9 yX9_turbineNow yX9_turbineNow, Cond.code yX9_turbineNow cX9_turbineNow 3 (some .int), Cond.methodLink RX9 47 yX9_limitOf, Cond.instanceMethod yX9_limitOf, Cond.selects RX9 yX9_limitOf yX9_limitOf, Cond.code yX9_limitOf cX9_limitOf 2 (some .int), Cond.methodLink RX9 92 yX9_placeOf, Cond.instanceMethod yX9_placeOf]
def wsX9_turbine_r2 : List Cond := [Cond.selects RX9 yX9_placeOf yX9_placeOf, Cond.code yX9_placeOf cX9_placeOf 4 (some .int), Cond.methodLink RX9 141 yX9_ashore, Cond.instanceMethod yX9_ashore, Cond.selects RX9 yX9_ashore yX9_ashore, Cond.code yX9_ashore cX9_ashore 4 (some .int), Cond.methodLink RX9 60 yX9_windAt, Cond.instanceMethod yX9_windAt, Cond.selects RX9 yX9_windAt yX9_windAt, Cond.code yX9_windAt cX9_windAt 2 (some .int), Cond.methodLink RX9 66 yX9_full, Cond.instanceMethod yX9_full, Cond.selects RX9 yX9_full yX9_full, Cond.code yX9_full cX9_full 3 (some .int)]
def wsX9_turbine : List Cond := .code yX9_turbine cX9_turbine 3 (some .int) :: ((wsX9_turbine_r1 ++ wsX9_turbine_r2) ++ wsX90)
def wsX9_blade : List Cond := .code yX9_blade cX9_blade 3 (some .int) :: ([.fieldLink RX9 28 "CraneCampaignModel" "thrown" "I", .fieldLink RX9 7 "CraneCampaignModel" "z" "[I", .methodLink RX9 32 yX9_within, .static yX9_within, .initialized RX9, .code yX9_within cX9_within 3 (some .boolean), .methodLink RX9 76 yX9_fails, .instanceMethod yX9_fails, .selects RX9 yX9_fails yX9_fails, .code yX9_fails cX9_fails 2 (some .int)] ++ wsX90)
def wsX9_bog : List Cond := .code yX9_bog cX9_bog 3 (some .int) :: ([.fieldLink RX9 28 "CraneCampaignModel" "thrown" "I", .fieldLink RX9 7 "CraneCampaignModel" "z" "[I", .methodLink RX9 32 yX9_within, .static yX9_within, .initialized RX9, .code yX9_within cX9_within 3 (some .boolean), .methodLink RX9 76 yX9_fails, .instanceMethod yX9_fails, .selects RX9 yX9_fails yX9_fails, .code yX9_fails cX9_fails 2 (some .int)] ++ wsX90)
def wsX9_claims : List Cond := .code yX9_claims cX9_claims 2 (some .int) :: ([.fieldLink RX9 28 "CraneCampaignModel" "thrown" "I", .fieldLink RX9 7 "CraneCampaignModel" "z" "[I", .methodLink RX9 32 yX9_within, .static yX9_within, .initialized RX9, .code yX9_within cX9_within 3 (some .boolean), .methodLink RX9 76 yX9_fails, .instanceMethod yX9_fails, .selects RX9 yX9_fails yX9_fails, .code yX9_fails cX9_fails 2 (some .int)] ++ wsX90)
def wsX9_faulty : List Cond := .code yX9_faulty cX9_faulty 3 (some .int) :: ([.fieldLink RX9 7 "CraneCampaignModel" "z" "[I"] ++ wsX90)
def wsX9_sum : List Cond := .code yX9_sum cX9_sum 4 (some .int) :: ([.fieldLink RX9 7 "CraneCampaignModel" "z" "[I"] ++ wsX90)
def wsX9_counted : List Cond := .code yX9_counted cX9_counted 2 (some .int) :: ([.fieldLink RX9 7 "CraneCampaignModel" "z" "[I", .fieldLink RX9 36 "CraneCampaignModel" "saved" "I", .methodLink RX9 147 yX9_faulty, .instanceMethod yX9_faulty, .selects RX9 yX9_faulty yX9_faulty, .initialized RX9, .code yX9_faulty cX9_faulty 3 (some .int), .methodLink RX9 60 yX9_windAt, .instanceMethod yX9_windAt, .selects RX9 yX9_windAt yX9_windAt, .code yX9_windAt cX9_windAt 2 (some .int), .methodLink RX9 150 yX9_sum, .instanceMethod yX9_sum, .selects RX9 yX9_sum yX9_sum, .code yX9_sum cX9_sum 4 (some .int)] ++ wsX90)
def wsX9_count_r1 : List Cond := [Cond.fieldLink RX9 28 "CraneCampaignModel" "thrown" "I", Cond.methodLink RX9 32 yX9_within, Cond.static yX9_within, Cond.initialized RX9, Cond.code yX9_within cX9_within 3 (some .boolean), Cond.methodLink RX9 153 yX9_counted, Cond.instanceMethod yX9_counted, Cond.selects RX9 yX9_counted yX9_counted, Cond.code yX9_counted cX9_counted 2 (some .int), Cond.fieldLink RX9 7 "CraneCampaignModel" "z" "[I", Cond.fieldLink RX9 36 "CraneCampaignModel" "saved" "I", Cond.methodLink RX9 147 yX9_faulty, Cond.instanceMethod yX9_faulty, Cond.selects RX9 yX9_faulty yX9_faulty, Cond.code yX9_faulty cX9_faulty 3 (some .int), Cond.methodLink RX9 60 yX9_windAt, Cond.instanceMethod yX9_windAt, Cond.selects RX9 yX9_windAt yX9_windAt, Cond.code yX9_windAt cX9_windAt 2 (some .int), Cond.methodLink RX9 150 yX9_sum, Cond.instanceMethod yX9_sum, Cond.selects RX9 yX9_sum yX9_sum, Cond.code yX9_sum cX9_sum 4 (some .int), Cond.methodLink RX9 76 yX9_fails]
def wsX9_count_r2 : List Cond := [Cond.instanceMethod yX9_fails, Cond.selects RX9 yX9_fails yX9_fails, Cond.code yX9_fails cX9_fails 2 (some .int)]
def wsX9_count : List Cond := .code yX9_count cX9_count 2 (some .int) :: ((wsX9_count_r1 ++ wsX9_count_r2) ++ wsX90)
def wsX9_setting : List Cond := .code yX9_setting cX9_setting 2 (some .int) :: ([.fieldLink RX9 28 "CraneCampaignModel" "thrown" "I", .fieldLink RX9 7 "CraneCampaignModel" "z" "[I", .methodLink RX9 32 yX9_within, .static yX9_within, .initialized RX9, .code yX9_within cX9_within 3 (some .boolean), .methodLink RX9 76 yX9_fails, .instanceMethod yX9_fails, .selects RX9 yX9_fails yX9_fails, .code yX9_fails cX9_fails 2 (some .int)] ++ wsX90)
def wsX9_way : List Cond := .code yX9_way cX9_way 3 (some .int) :: ([.fieldLink RX9 28 "CraneCampaignModel" "thrown" "I", .methodLink RX9 32 yX9_within, .static yX9_within, .initialized RX9, .code yX9_within cX9_within 3 (some .boolean), .methodLink RX9 39 yX9_hoursOf, .instanceMethod yX9_hoursOf, .selects RX9 yX9_hoursOf yX9_hoursOf, .code yX9_hoursOf cX9_hoursOf 8 (some .int), .fieldLink RX9 7 "CraneCampaignModel" "z" "[I", .methodLink RX9 76 yX9_fails, .instanceMethod yX9_fails, .selects RX9 yX9_fails yX9_fails, .code yX9_fails cX9_fails 2 (some .int)] ++ wsX90)
def wsX9_told : List Cond := .code yX9_told cX9_told 2 (some .int) :: ([.fieldLink RX9 7 "CraneCampaignModel" "z" "[I", .methodLink RX9 150 yX9_sum, .instanceMethod yX9_sum, .selects RX9 yX9_sum yX9_sum, .initialized RX9, .code yX9_sum cX9_sum 4 (some .int), .methodLink RX9 147 yX9_faulty, .instanceMethod yX9_faulty, .selects RX9 yX9_faulty yX9_faulty, .code yX9_faulty cX9_faulty 3 (some .int)] ++ wsX90)
def wsX9_after_r1 : List Cond := [Cond.methodLink RX9 156 yX9_keep, Cond.instanceMethod yX9_keep, Cond.selects RX9 yX9_keep yX9_keep, Cond.initialized RX9, Cond.code yX9_keep cX9_keep 2 none, Cond.fieldLink RX9 13 "CraneCampaignModel" "aside" "[I", Cond.fieldLink RX9 7 "CraneCampaignModel" "z" "[I", Cond.methodLink RX9 95 yX9_goHours, Cond.instanceMethod yX9_goHours, Cond.selects RX9 yX9_goHours yX9_goHours, Cond.code yX9_goHours cX9_goHours 4 (some .int), Cond.methodLink RX9 72 yX9_goHour, Cond.instanceMethod yX9_goHour, Cond.selects RX9 yX9_goHour yX9_goHour, Cond.code yX9_goHour cX9_goHour 9 (some .int), Cond.methodLink RX9 50 yX9_unload, Cond.instanceMethod yX9_unload, Cond.selects RX9 yX9_unload yX9_unload, Cond.code yX9_unload cX9_unload 4 none, Cond.methodLink RX9 53 yX9_forget, Cond.instanceMethod yX9_forget, Cond.selects RX9 yX9_forget yX9_forget, Cond.code yX9_forget cX9_forget 1 none, Cond.methodLink RX9 56 yX9_takeOff]
def wsX9_after_r2 : List Cond := [Cond.instanceMethod yX9_takeOff, Cond.selects RX9 yX9_takeOff yX9_takeOff, Cond.code yX9_takeOff cX9_takeOff 3 none, Cond.methodLink RX9 60 yX9_windAt, Cond.instanceMethod yX9_windAt, Cond.selects RX9 yX9_windAt yX9_windAt, Cond.code yX9_windAt cX9_windAt 2 (some .int), Cond.methodLink RX9 63 yX9_serve, Cond.instanceMethod yX9_serve, Cond.selects RX9 yX9_serve yX9_serve, Cond.code yX9_serve cX9_serve 4 (some .int), Cond.methodLink RX9 39 yX9_hoursOf, Cond.instanceMethod yX9_hoursOf, Cond.selects RX9 yX9_hoursOf yX9_hoursOf, Cond.code yX9_hoursOf cX9_hoursOf 8 (some .int), Cond.methodLink RX9 43 yX9_bladeFor, Cond.instanceMethod yX9_bladeFor, Cond.selects RX9 yX9_bladeFor yX9_bladeFor, Cond.code yX9_bladeFor cX9_bladeFor 4 (some .int), Cond.methodLink RX9 47 yX9_limitOf, Cond.instanceMethod yX9_limitOf, Cond.selects RX9 yX9_limitOf yX9_limitOf, Cond.code yX9_limitOf cX9_limitOf 2 (some .int), Cond.methodLink RX9 66 yX9_full]
def wsX9_after_r3 : List Cond := [Cond.instanceMethod yX9_full, Cond.selects RX9 yX9_full yX9_full, Cond.code yX9_full cX9_full 3 (some .int), Cond.methodLink RX9 69 yX9_use, Cond.instanceMethod yX9_use, Cond.selects RX9 yX9_use yX9_use, Cond.code yX9_use cX9_use 3 none, Cond.methodLink RX9 32 yX9_within, Cond.static yX9_within, Cond.code yX9_within cX9_within 3 (some .boolean), Cond.methodLink RX9 159 yX9_told, Cond.instanceMethod yX9_told, Cond.selects RX9 yX9_told yX9_told, Cond.code yX9_told cX9_told 2 (some .int), Cond.methodLink RX9 150 yX9_sum, Cond.instanceMethod yX9_sum, Cond.selects RX9 yX9_sum yX9_sum, Cond.code yX9_sum cX9_sum 4 (some .int), Cond.methodLink RX9 147 yX9_faulty, Cond.instanceMethod yX9_faulty, Cond.selects RX9 yX9_faulty yX9_faulty, Cond.code yX9_faulty cX9_faulty 3 (some .int), Cond.methodLink RX9 162 yX9_bring, Cond.instanceMethod yX9_bring]
def wsX9_after_r4 : List Cond := [Cond.selects RX9 yX9_bring yX9_bring, Cond.code yX9_bring cX9_bring 2 none]
def wsX9_after : List Cond := .code yX9_after cX9_after 4 (some .int) :: ((wsX9_after_r1 ++ (wsX9_after_r2 ++ (wsX9_after_r3 ++ wsX9_after_r4))) ++ wsX90)
def wsX9_ifPassed_r1 : List Cond := [Cond.fieldLink RX9 28 "CraneCampaignModel" "thrown" "I", Cond.methodLink RX9 32 yX9_within, Cond.static yX9_within, Cond.initialized RX9, Cond.code yX9_within cX9_within 3 (some .boolean), Cond.methodLink RX9 165 yX9_after, Cond.instanceMethod yX9_after, Cond.selects RX9 yX9_after yX9_after, Cond.code yX9_after cX9_after 4 (some .int), Cond.methodLink RX9 156 yX9_keep, Cond.instanceMethod yX9_keep, Cond.selects RX9 yX9_keep yX9_keep, Cond.code yX9_keep cX9_keep 2 none, Cond.fieldLink RX9 13 "CraneCampaignModel" "aside" "[I", Cond.fieldLink RX9 7 "CraneCampaignModel" "z" "[I", Cond.methodLink RX9 95 yX9_goHours, Cond.instanceMethod yX9_goHours, Cond.selects RX9 yX9_goHours yX9_goHours, Cond.code yX9_goHours cX9_goHours 4 (some .int), Cond.methodLink RX9 72 yX9_goHour, Cond.instanceMethod yX9_goHour, Cond.selects RX9 yX9_goHour yX9_goHour, Cond.code yX9_goHour cX9_goHour 9 (some .int), Cond.methodLink RX9 50 yX9_unload]
def wsX9_ifPassed_r2 : List Cond := [Cond.instanceMethod yX9_unload, Cond.selects RX9 yX9_unload yX9_unload, Cond.code yX9_unload cX9_unload 4 none, Cond.methodLink RX9 53 yX9_forget, Cond.instanceMethod yX9_forget, Cond.selects RX9 yX9_forget yX9_forget, Cond.code yX9_forget cX9_forget 1 none, Cond.methodLink RX9 56 yX9_takeOff, Cond.instanceMethod yX9_takeOff, Cond.selects RX9 yX9_takeOff yX9_takeOff, Cond.code yX9_takeOff cX9_takeOff 3 none, Cond.methodLink RX9 60 yX9_windAt, Cond.instanceMethod yX9_windAt, Cond.selects RX9 yX9_windAt yX9_windAt, Cond.code yX9_windAt cX9_windAt 2 (some .int), Cond.methodLink RX9 63 yX9_serve, Cond.instanceMethod yX9_serve, Cond.selects RX9 yX9_serve yX9_serve, Cond.code yX9_serve cX9_serve 4 (some .int), Cond.methodLink RX9 39 yX9_hoursOf, Cond.instanceMethod yX9_hoursOf, Cond.selects RX9 yX9_hoursOf yX9_hoursOf, Cond.code yX9_hoursOf cX9_hoursOf 8 (some .int), Cond.methodLink RX9 43 yX9_bladeFor]
def wsX9_ifPassed_r3 : List Cond := [Cond.instanceMethod yX9_bladeFor, Cond.selects RX9 yX9_bladeFor yX9_bladeFor, Cond.code yX9_bladeFor cX9_bladeFor 4 (some .int), Cond.methodLink RX9 47 yX9_limitOf, Cond.instanceMethod yX9_limitOf, Cond.selects RX9 yX9_limitOf yX9_limitOf, Cond.code yX9_limitOf cX9_limitOf 2 (some .int), Cond.methodLink RX9 66 yX9_full, Cond.instanceMethod yX9_full, Cond.selects RX9 yX9_full yX9_full, Cond.code yX9_full cX9_full 3 (some .int), Cond.methodLink RX9 69 yX9_use, Cond.instanceMethod yX9_use, Cond.selects RX9 yX9_use yX9_use, Cond.code yX9_use cX9_use 3 none, Cond.methodLink RX9 159 yX9_told, Cond.instanceMethod yX9_told, Cond.selects RX9 yX9_told yX9_told, Cond.code yX9_told cX9_told 2 (some .int), Cond.methodLink RX9 150 yX9_sum, Cond.instanceMethod yX9_sum, Cond.selects RX9 yX9_sum yX9_sum, Cond.code yX9_sum cX9_sum 4 (some .int), Cond.methodLink RX9 147 yX9_faulty]
def wsX9_ifPassed_r4 : List Cond := [Cond.instanceMethod yX9_faulty, Cond.selects RX9 yX9_faulty yX9_faulty, Cond.code yX9_faulty cX9_faulty 3 (some .int), Cond.methodLink RX9 162 yX9_bring, Cond.instanceMethod yX9_bring, Cond.selects RX9 yX9_bring yX9_bring, Cond.code yX9_bring cX9_bring 2 none, Cond.methodLink RX9 76 yX9_fails, Cond.instanceMethod yX9_fails, Cond.selects RX9 yX9_fails yX9_fails, Cond.code yX9_fails cX9_fails 2 (some .int)]
def wsX9_ifPassed : List Cond := .code yX9_ifPassed cX9_ifPassed 3 (some .int) :: ((wsX9_ifPassed_r1 ++ (wsX9_ifPassed_r2 ++ (wsX9_ifPassed_r3 ++ wsX9_ifPassed_r4))) ++ wsX90)
def wsX9_bestNow_r1 : List Cond := [Cond.fieldLink RX9 7 "CraneCampaignModel" "z" "[I", Cond.fieldLink RX9 13 "CraneCampaignModel" "aside" "[I", Cond.methodLink RX9 156 yX9_keep, Cond.instanceMethod yX9_keep, Cond.selects RX9 yX9_keep yX9_keep, Cond.initialized RX9, Cond.code yX9_keep cX9_keep 2 none, Cond.methodLink RX9 95 yX9_goHours, Cond.instanceMethod yX9_goHours, Cond.selects RX9 yX9_goHours yX9_goHours, Cond.code yX9_goHours cX9_goHours 4 (some .int), Cond.methodLink RX9 72 yX9_goHour, Cond.instanceMethod yX9_goHour, Cond.selects RX9 yX9_goHour yX9_goHour, Cond.code yX9_goHour cX9_goHour 9 (some .int), Cond.methodLink RX9 50 yX9_unload, Cond.instanceMethod yX9_unload, Cond.selects RX9 yX9_unload yX9_unload, Cond.code yX9_unload cX9_unload 4 none, Cond.methodLink RX9 53 yX9_forget, Cond.instanceMethod yX9_forget, Cond.selects RX9 yX9_forget yX9_forget, Cond.code yX9_forget cX9_forget 1 none, Cond.methodLink RX9 56 yX9_takeOff]
def wsX9_bestNow_r2 : List Cond := [Cond.instanceMethod yX9_takeOff, Cond.selects RX9 yX9_takeOff yX9_takeOff, Cond.code yX9_takeOff cX9_takeOff 3 none, Cond.methodLink RX9 60 yX9_windAt, Cond.instanceMethod yX9_windAt, Cond.selects RX9 yX9_windAt yX9_windAt, Cond.code yX9_windAt cX9_windAt 2 (some .int), Cond.methodLink RX9 63 yX9_serve, Cond.instanceMethod yX9_serve, Cond.selects RX9 yX9_serve yX9_serve, Cond.code yX9_serve cX9_serve 4 (some .int), Cond.methodLink RX9 39 yX9_hoursOf, Cond.instanceMethod yX9_hoursOf, Cond.selects RX9 yX9_hoursOf yX9_hoursOf, Cond.code yX9_hoursOf cX9_hoursOf 8 (some .int), Cond.methodLink RX9 43 yX9_bladeFor, Cond.instanceMethod yX9_bladeFor, Cond.selects RX9 yX9_bladeFor yX9_bladeFor, Cond.code yX9_bladeFor cX9_bladeFor 4 (some .int), Cond.methodLink RX9 47 yX9_limitOf, Cond.instanceMethod yX9_limitOf, Cond.selects RX9 yX9_limitOf yX9_limitOf, Cond.code yX9_limitOf cX9_limitOf 2 (some .int), Cond.methodLink RX9 66 yX9_full]
def wsX9_bestNow_r3 : List Cond := [Cond.instanceMethod yX9_full, Cond.selects RX9 yX9_full yX9_full, Cond.code yX9_full cX9_full 3 (some .int), Cond.methodLink RX9 69 yX9_use, Cond.instanceMethod yX9_use, Cond.selects RX9 yX9_use yX9_use, Cond.code yX9_use cX9_use 3 none, Cond.methodLink RX9 32 yX9_within, Cond.static yX9_within, Cond.code yX9_within cX9_within 3 (some .boolean), Cond.methodLink RX9 162 yX9_bring, Cond.instanceMethod yX9_bring, Cond.selects RX9 yX9_bring yX9_bring, Cond.code yX9_bring cX9_bring 2 none]
def wsX9_bestNow : List Cond := .code yX9_bestNow cX9_bestNow 6 (some .int) :: ((wsX9_bestNow_r1 ++ (wsX9_bestNow_r2 ++ wsX9_bestNow_r3)) ++ wsX90)
def wsX9_bestFirst_r1 : List Cond := [Cond.fieldLink RX9 28 "CraneCampaignModel" "thrown" "I", Cond.methodLink RX9 168 yX9_bestNow, Cond.instanceMethod yX9_bestNow, Cond.selects RX9 yX9_bestNow yX9_bestNow, Cond.initialized RX9, Cond.code yX9_bestNow cX9_bestNow 6 (some .int), Cond.fieldLink RX9 7 "CraneCampaignModel" "z" "[I", Cond.fieldLink RX9 13 "CraneCampaignModel" "aside" "[I", Cond.methodLink RX9 156 yX9_keep, Cond.instanceMethod yX9_keep, Cond.selects RX9 yX9_keep yX9_keep, Cond.code yX9_keep cX9_keep 2 none, Cond.methodLink RX9 95 yX9_goHours, Cond.instanceMethod yX9_goHours, Cond.selects RX9 yX9_goHours yX9_goHours, Cond.code yX9_goHours cX9_goHours 4 (some .int), Cond.methodLink RX9 72 yX9_goHour, Cond.instanceMethod yX9_goHour, Cond.selects RX9 yX9_goHour yX9_goHour, Cond.code yX9_goHour cX9_goHour 9 (some .int), Cond.methodLink RX9 50 yX9_unload, Cond.instanceMethod yX9_unload, Cond.selects RX9 yX9_unload yX9_unload, Cond.code yX9_unload cX9_unload 4 none]
def wsX9_bestFirst_r2 : List Cond := [Cond.methodLink RX9 53 yX9_forget, Cond.instanceMethod yX9_forget, Cond.selects RX9 yX9_forget yX9_forget, Cond.code yX9_forget cX9_forget 1 none, Cond.methodLink RX9 56 yX9_takeOff, Cond.instanceMethod yX9_takeOff, Cond.selects RX9 yX9_takeOff yX9_takeOff, Cond.code yX9_takeOff cX9_takeOff 3 none, Cond.methodLink RX9 60 yX9_windAt, Cond.instanceMethod yX9_windAt, Cond.selects RX9 yX9_windAt yX9_windAt, Cond.code yX9_windAt cX9_windAt 2 (some .int), Cond.methodLink RX9 63 yX9_serve, Cond.instanceMethod yX9_serve, Cond.selects RX9 yX9_serve yX9_serve, Cond.code yX9_serve cX9_serve 4 (some .int), Cond.methodLink RX9 39 yX9_hoursOf, Cond.instanceMethod yX9_hoursOf, Cond.selects RX9 yX9_hoursOf yX9_hoursOf, Cond.code yX9_hoursOf cX9_hoursOf 8 (some .int), Cond.methodLink RX9 43 yX9_bladeFor, Cond.instanceMethod yX9_bladeFor, Cond.selects RX9 yX9_bladeFor yX9_bladeFor, Cond.code yX9_bladeFor cX9_bladeFor 4 (some .int)]
def wsX9_bestFirst_r3 : List Cond := [Cond.methodLink RX9 47 yX9_limitOf, Cond.instanceMethod yX9_limitOf, Cond.selects RX9 yX9_limitOf yX9_limitOf, Cond.code yX9_limitOf cX9_limitOf 2 (some .int), Cond.methodLink RX9 66 yX9_full, Cond.instanceMethod yX9_full, Cond.selects RX9 yX9_full yX9_full, Cond.code yX9_full cX9_full 3 (some .int), Cond.methodLink RX9 69 yX9_use, Cond.instanceMethod yX9_use, Cond.selects RX9 yX9_use yX9_use, Cond.code yX9_use cX9_use 3 none, Cond.methodLink RX9 32 yX9_within, Cond.static yX9_within, Cond.code yX9_within cX9_within 3 (some .boolean), Cond.methodLink RX9 162 yX9_bring, Cond.instanceMethod yX9_bring, Cond.selects RX9 yX9_bring yX9_bring, Cond.code yX9_bring cX9_bring 2 none]
def wsX9_bestFirst : List Cond := .code yX9_bestFirst cX9_bestFirst 1 (some .int) :: ((wsX9_bestFirst_r1 ++ (wsX9_bestFirst_r2 ++ wsX9_bestFirst_r3)) ++ wsX90)
def wsX9_windowOf : List Cond := .code yX9_windowOf cX9_windowOf 5 (some .int) :: ([.fieldLink RX9 7 "CraneCampaignModel" "z" "[I", .methodLink RX9 60 yX9_windAt, .instanceMethod yX9_windAt, .selects RX9 yX9_windAt yX9_windAt, .initialized RX9, .code yX9_windAt cX9_windAt 2 (some .int), .methodLink RX9 47 yX9_limitOf, .instanceMethod yX9_limitOf, .selects RX9 yX9_limitOf yX9_limitOf, .code yX9_limitOf cX9_limitOf 2 (some .int)] ++ wsX90)
def wsX9_window_r1 : List Cond := [Cond.fieldLink RX9 28 "CraneCampaignModel" "thrown" "I", Cond.methodLink RX9 82 yX9_isTurbine, Cond.instanceMethod yX9_isTurbine, Cond.selects RX9 yX9_isTurbine yX9_isTurbine, Cond.initialized RX9, Cond.code yX9_isTurbine cX9_isTurbine 2 (some .boolean), Cond.fieldLink RX9 7 "CraneCampaignModel" "z" "[I", Cond.methodLink RX9 32 yX9_within, Cond.static yX9_within, Cond.code yX9_within cX9_within 3 (some .boolean), Cond.methodLink RX9 76 yX9_fails, Cond.instanceMethod yX9_fails, Cond.selects RX9 yX9_fails yX9_fails, Cond.code yX9_fails cX9_fails 2 (some .int), Cond.methodLink RX9 171 yX9_windowOf, Cond.instanceMethod yX9_windowOf, Cond.selects RX9 yX9_windowOf yX9_windowOf, Cond.code yX9_windowOf cX9_windowOf 5 (some .int), Cond.methodLink RX9 60 yX9_windAt, Cond.instanceMethod yX9_windAt, Cond.selects RX9 yX9_windAt yX9_windAt, Cond.code yX9_windAt cX9_windAt 2 (some .int), Cond.methodLink RX9 47 yX9_limitOf, Cond.instanceMethod yX9_limitOf]
def wsX9_window_r2 : List Cond := [Cond.selects RX9 yX9_limitOf yX9_limitOf, Cond.code yX9_limitOf cX9_limitOf 2 (some .int)]
def wsX9_window : List Cond := .code yX9_window cX9_window 3 (some .int) :: ((wsX9_window_r1 ++ wsX9_window_r2) ++ wsX90)
def wsX9_doneNow_r1 : List Cond := [Cond.fieldLink RX9 7 "CraneCampaignModel" "z" "[I", Cond.methodLink RX9 156 yX9_keep, Cond.instanceMethod yX9_keep, Cond.selects RX9 yX9_keep yX9_keep, Cond.initialized RX9, Cond.code yX9_keep cX9_keep 2 none, Cond.fieldLink RX9 13 "CraneCampaignModel" "aside" "[I", Cond.methodLink RX9 72 yX9_goHour, Cond.instanceMethod yX9_goHour, Cond.selects RX9 yX9_goHour yX9_goHour, Cond.code yX9_goHour cX9_goHour 9 (some .int), Cond.methodLink RX9 50 yX9_unload, Cond.instanceMethod yX9_unload, Cond.selects RX9 yX9_unload yX9_unload, Cond.code yX9_unload cX9_unload 4 none, Cond.methodLink RX9 53 yX9_forget, Cond.instanceMethod yX9_forget, Cond.selects RX9 yX9_forget yX9_forget, Cond.code yX9_forget cX9_forget 1 none, Cond.methodLink RX9 56 yX9_takeOff, Cond.instanceMethod yX9_takeOff, Cond.selects RX9 yX9_takeOff yX9_takeOff, Cond.code yX9_takeOff cX9_takeOff 3 none, Cond.methodLink RX9 60 yX9_windAt]
def wsX9_doneNow_r2 : List Cond := [Cond.instanceMethod yX9_windAt, Cond.selects RX9 yX9_windAt yX9_windAt, Cond.code yX9_windAt cX9_windAt 2 (some .int), Cond.methodLink RX9 63 yX9_serve, Cond.instanceMethod yX9_serve, Cond.selects RX9 yX9_serve yX9_serve, Cond.code yX9_serve cX9_serve 4 (some .int), Cond.methodLink RX9 39 yX9_hoursOf, Cond.instanceMethod yX9_hoursOf, Cond.selects RX9 yX9_hoursOf yX9_hoursOf, Cond.code yX9_hoursOf cX9_hoursOf 8 (some .int), Cond.methodLink RX9 43 yX9_bladeFor, Cond.instanceMethod yX9_bladeFor, Cond.selects RX9 yX9_bladeFor yX9_bladeFor, Cond.code yX9_bladeFor cX9_bladeFor 4 (some .int), Cond.methodLink RX9 47 yX9_limitOf, Cond.instanceMethod yX9_limitOf, Cond.selects RX9 yX9_limitOf yX9_limitOf, Cond.code yX9_limitOf cX9_limitOf 2 (some .int), Cond.methodLink RX9 66 yX9_full, Cond.instanceMethod yX9_full, Cond.selects RX9 yX9_full yX9_full, Cond.code yX9_full cX9_full 3 (some .int), Cond.methodLink RX9 69 yX9_use]
def wsX9_doneNow_r3 : List Cond := [Cond.instanceMethod yX9_use, Cond.selects RX9 yX9_use yX9_use, Cond.code yX9_use cX9_use 3 none, Cond.methodLink RX9 32 yX9_within, Cond.static yX9_within, Cond.code yX9_within cX9_within 3 (some .boolean), Cond.methodLink RX9 162 yX9_bring, Cond.instanceMethod yX9_bring, Cond.selects RX9 yX9_bring yX9_bring, Cond.code yX9_bring cX9_bring 2 none]
def wsX9_doneNow : List Cond := .code yX9_doneNow cX9_doneNow 2 (some .int) :: ((wsX9_doneNow_r1 ++ (wsX9_doneNow_r2 ++ wsX9_doneNow_r3)) ++ wsX90)
def wsX9_doneIn_r1 : List Cond := [Cond.fieldLink RX9 28 "CraneCampaignModel" "thrown" "I", Cond.methodLink RX9 174 yX9_doneNow, Cond.instanceMethod yX9_doneNow, Cond.selects RX9 yX9_doneNow yX9_doneNow, Cond.initialized RX9, Cond.code yX9_doneNow cX9_doneNow 2 (some .int), Cond.fieldLink RX9 7 "CraneCampaignModel" "z" "[I", Cond.methodLink RX9 156 yX9_keep, Cond.instanceMethod yX9_keep, Cond.selects RX9 yX9_keep yX9_keep, Cond.code yX9_keep cX9_keep 2 none, Cond.fieldLink RX9 13 "CraneCampaignModel" "aside" "[I", Cond.methodLink RX9 72 yX9_goHour, Cond.instanceMethod yX9_goHour, Cond.selects RX9 yX9_goHour yX9_goHour, Cond.code yX9_goHour cX9_goHour 9 (some .int), Cond.methodLink RX9 50 yX9_unload, Cond.instanceMethod yX9_unload, Cond.selects RX9 yX9_unload yX9_unload, Cond.code yX9_unload cX9_unload 4 none, Cond.methodLink RX9 53 yX9_forget, Cond.instanceMethod yX9_forget, Cond.selects RX9 yX9_forget yX9_forget, Cond.code yX9_forget cX9_forget 1 none]
def wsX9_doneIn_r2 : List Cond := [Cond.methodLink RX9 56 yX9_takeOff, Cond.instanceMethod yX9_takeOff, Cond.selects RX9 yX9_takeOff yX9_takeOff, Cond.code yX9_takeOff cX9_takeOff 3 none, Cond.methodLink RX9 60 yX9_windAt, Cond.instanceMethod yX9_windAt, Cond.selects RX9 yX9_windAt yX9_windAt, Cond.code yX9_windAt cX9_windAt 2 (some .int), Cond.methodLink RX9 63 yX9_serve, Cond.instanceMethod yX9_serve, Cond.selects RX9 yX9_serve yX9_serve, Cond.code yX9_serve cX9_serve 4 (some .int), Cond.methodLink RX9 39 yX9_hoursOf, Cond.instanceMethod yX9_hoursOf, Cond.selects RX9 yX9_hoursOf yX9_hoursOf, Cond.code yX9_hoursOf cX9_hoursOf 8 (some .int), Cond.methodLink RX9 43 yX9_bladeFor, Cond.instanceMethod yX9_bladeFor, Cond.selects RX9 yX9_bladeFor yX9_bladeFor, Cond.code yX9_bladeFor cX9_bladeFor 4 (some .int), Cond.methodLink RX9 47 yX9_limitOf, Cond.instanceMethod yX9_limitOf, Cond.selects RX9 yX9_limitOf yX9_limitOf, Cond.code yX9_limitOf cX9_limitOf 2 (some .int)]
def wsX9_doneIn_r3 : List Cond := [Cond.methodLink RX9 66 yX9_full, Cond.instanceMethod yX9_full, Cond.selects RX9 yX9_full yX9_full, Cond.code yX9_full cX9_full 3 (some .int), Cond.methodLink RX9 69 yX9_use, Cond.instanceMethod yX9_use, Cond.selects RX9 yX9_use yX9_use, Cond.code yX9_use cX9_use 3 none, Cond.methodLink RX9 32 yX9_within, Cond.static yX9_within, Cond.code yX9_within cX9_within 3 (some .boolean), Cond.methodLink RX9 162 yX9_bring, Cond.instanceMethod yX9_bring, Cond.selects RX9 yX9_bring yX9_bring, Cond.code yX9_bring cX9_bring 2 none]
def wsX9_doneIn : List Cond := .code yX9_doneIn cX9_doneIn 1 (some .int) :: ((wsX9_doneIn_r1 ++ (wsX9_doneIn_r2 ++ wsX9_doneIn_r3)) ++ wsX90)
def wsX9_meanNow : List Cond := .code yX9_meanNow cX9_meanNow 3 (some .float) :: ([.fieldLink RX9 7 "CraneCampaignModel" "z" "[I", .constantFloat RX9 177 (1090519040)] ++ wsX90)
def wsX9_meanWind : List Cond := .code yX9_meanWind cX9_meanWind 1 (some .float) :: ([.fieldLink RX9 28 "CraneCampaignModel" "thrown" "I", .methodLink RX9 178 yX9_meanNow, .instanceMethod yX9_meanNow, .selects RX9 yX9_meanNow yX9_meanNow, .initialized RX9, .code yX9_meanNow cX9_meanNow 3 (some .float), .fieldLink RX9 7 "CraneCampaignModel" "z" "[I", .constantFloat RX9 177 (1090519040)] ++ wsX90)
def wsX9_shareNow : List Cond := .code yX9_shareNow cX9_shareNow 3 (some .double) :: ([.methodLink RX9 150 yX9_sum, .instanceMethod yX9_sum, .selects RX9 yX9_sum yX9_sum, .initialized RX9, .code yX9_sum cX9_sum 4 (some .int), .fieldLink RX9 7 "CraneCampaignModel" "z" "[I"] ++ wsX90)
def wsX9_lostShare : List Cond := .code yX9_lostShare cX9_lostShare 1 (some .double) :: ([.fieldLink RX9 28 "CraneCampaignModel" "thrown" "I", .methodLink RX9 182 yX9_shareNow, .instanceMethod yX9_shareNow, .selects RX9 yX9_shareNow yX9_shareNow, .initialized RX9, .code yX9_shareNow cX9_shareNow 3 (some .double), .methodLink RX9 150 yX9_sum, .instanceMethod yX9_sum, .selects RX9 yX9_sum yX9_sum, .code yX9_sum cX9_sum 4 (some .int), .fieldLink RX9 7 "CraneCampaignModel" "z" "[I"] ++ wsX90)
def wsX9_mix : List Cond := .code yX9_mix cX9_mix 3 none :: ([.constantLong RX9 186 (31), .fieldLink RX9 188 "CraneCampaignModel" "h" "J"] ++ wsX90)
def wsJxf58ca_isNaN_12338 : List Cond := .code yJxf58ca_isNaN_12338 cJxf58ca_isNaN_12338 1 (some .boolean) :: ([])
def wsJxf58ca_floatToIntBits_5c35a : List Cond := .code yJxf58ca_floatToIntBits_5c35a cJxf58ca_floatToIntBits_5c35a 1 (some .int) :: ([.methodLink RJxf58ca 74 ⟨"java/lang/Float", "floatToRawIntBits", "(F)I"⟩, .native ⟨"java/lang/Float", "floatToRawIntBits", "(F)I"⟩, .static ⟨"java/lang/Float", "floatToRawIntBits", "(F)I"⟩, .initialized "java/lang/Float", .constant RJxf58ca 77 (2143289344), .methodLink RJxf58ca 59 yJxf58ca_isNaN_12338, .static yJxf58ca_isNaN_12338, .initialized RJxf58ca, .code yJxf58ca_isNaN_12338 cJxf58ca_isNaN_12338 1 (some .boolean)])
def wsJxe99ae_isNaN_b9ae7 : List Cond := .code yJxe99ae_isNaN_b9ae7 cJxe99ae_isNaN_b9ae7 2 (some .boolean) :: ([])
def wsJxe99ae_doubleToLongBits_ccdee : List Cond := .code yJxe99ae_doubleToLongBits_ccdee cJxe99ae_doubleToLongBits_ccdee 2 (some .long) :: ([.methodLink RJxe99ae 134 ⟨"java/lang/Double", "doubleToRawLongBits", "(D)J"⟩, .native ⟨"java/lang/Double", "doubleToRawLongBits", "(D)J"⟩, .static ⟨"java/lang/Double", "doubleToRawLongBits", "(D)J"⟩, .initialized "java/lang/Double", .constantLong RJxe99ae 137 (9221120237041090560), .methodLink RJxe99ae 122 yJxe99ae_isNaN_b9ae7, .static yJxe99ae_isNaN_b9ae7, .initialized RJxe99ae, .code yJxe99ae_isNaN_b9ae7 cJxe99ae_isNaN_b9ae7 2 (some .boolean)])
def wsX9_digest_r1 : List Cond := [Cond.fieldLink RX9 28 "CraneCampaignModel" "thrown" "I", Cond.constantLong RX9 192 (2269), Cond.fieldLink RX9 188 "CraneCampaignModel" "h" "J", Cond.fieldLink RX9 7 "CraneCampaignModel" "z" "[I", Cond.fieldLink RX9 98 "CraneCampaignModel" "length" "I", Cond.fieldLink RX9 19 "CraneCampaignModel" "text" "[I", Cond.methodLink RX9 153 yX9_counted, Cond.instanceMethod yX9_counted, Cond.selects RX9 yX9_counted yX9_counted, Cond.initialized RX9, Cond.code yX9_counted cX9_counted 2 (some .int), Cond.fieldLink RX9 36 "CraneCampaignModel" "saved" "I", Cond.methodLink RX9 147 yX9_faulty, Cond.instanceMethod yX9_faulty, Cond.selects RX9 yX9_faulty yX9_faulty, Cond.code yX9_faulty cX9_faulty 3 (some .int), Cond.methodLink RX9 60 yX9_windAt, Cond.instanceMethod yX9_windAt, Cond.selects RX9 yX9_windAt yX9_windAt, Cond.code yX9_windAt cX9_windAt 2 (some .int), Cond.methodLink RX9 150 yX9_sum, Cond.instanceMethod yX9_sum, Cond.selects RX9 yX9_sum yX9_sum, Cond.code yX9_sum cX9_sum 4 (some .int)]
def wsX9_digest_r2 : List Cond := [Cond.methodLink RX9 194 yX9_mix, Cond.instanceMethod yX9_mix, Cond.selects RX9 yX9_mix yX9_mix, Cond.code yX9_mix cX9_mix 3 none, Cond.constantLong RX9 186 (31), Cond.methodLink RX9 144 yX9_turbineNow, Cond.instanceMethod yX9_turbineNow, Cond.selects RX9 yX9_turbineNow yX9_turbineNow, Cond.code yX9_turbineNow cX9_turbineNow 3 (some .int), Cond.methodLink RX9 47 yX9_limitOf, Cond.instanceMethod yX9_limitOf, Cond.selects RX9 yX9_limitOf yX9_limitOf, Cond.code yX9_limitOf cX9_limitOf 2 (some .int), Cond.methodLink RX9 92 yX9_placeOf, Cond.instanceMethod yX9_placeOf, Cond.selects RX9 yX9_placeOf yX9_placeOf, Cond.code yX9_placeOf cX9_placeOf 4 (some .int), Cond.methodLink RX9 141 yX9_ashore, Cond.instanceMethod yX9_ashore, Cond.selects RX9 yX9_ashore yX9_ashore, Cond.code yX9_ashore cX9_ashore 4 (some .int), Cond.methodLink RX9 66 yX9_full, Cond.instanceMethod yX9_full, Cond.selects RX9 yX9_full yX9_full]
def wsX9_digest_r3 : List Cond := [Cond.code yX9_full cX9_full 3 (some .int), Cond.methodLink RX9 171 yX9_windowOf, Cond.instanceMethod yX9_windowOf, Cond.selects RX9 yX9_windowOf yX9_windowOf, Cond.code yX9_windowOf cX9_windowOf 5 (some .int), Cond.methodLink RX9 165 yX9_after, Cond.instanceMethod yX9_after, Cond.selects RX9 yX9_after yX9_after, Cond.code yX9_after cX9_after 4 (some .int), Cond.methodLink RX9 156 yX9_keep, Cond.instanceMethod yX9_keep, Cond.selects RX9 yX9_keep yX9_keep, Cond.code yX9_keep cX9_keep 2 none, Cond.fieldLink RX9 13 "CraneCampaignModel" "aside" "[I", Cond.methodLink RX9 95 yX9_goHours, Cond.instanceMethod yX9_goHours, Cond.selects RX9 yX9_goHours yX9_goHours, Cond.code yX9_goHours cX9_goHours 4 (some .int), Cond.methodLink RX9 72 yX9_goHour, Cond.instanceMethod yX9_goHour, Cond.selects RX9 yX9_goHour yX9_goHour, Cond.code yX9_goHour cX9_goHour 9 (some .int), Cond.methodLink RX9 50 yX9_unload, Cond.instanceMethod yX9_unload]
def wsX9_digest_r4 : List Cond := [Cond.selects RX9 yX9_unload yX9_unload, Cond.code yX9_unload cX9_unload 4 none, Cond.methodLink RX9 53 yX9_forget, Cond.instanceMethod yX9_forget, Cond.selects RX9 yX9_forget yX9_forget, Cond.code yX9_forget cX9_forget 1 none, Cond.methodLink RX9 56 yX9_takeOff, Cond.instanceMethod yX9_takeOff, Cond.selects RX9 yX9_takeOff yX9_takeOff, Cond.code yX9_takeOff cX9_takeOff 3 none, Cond.methodLink RX9 63 yX9_serve, Cond.instanceMethod yX9_serve, Cond.selects RX9 yX9_serve yX9_serve, Cond.code yX9_serve cX9_serve 4 (some .int), Cond.methodLink RX9 39 yX9_hoursOf, Cond.instanceMethod yX9_hoursOf, Cond.selects RX9 yX9_hoursOf yX9_hoursOf, Cond.code yX9_hoursOf cX9_hoursOf 8 (some .int), Cond.methodLink RX9 43 yX9_bladeFor, Cond.instanceMethod yX9_bladeFor, Cond.selects RX9 yX9_bladeFor yX9_bladeFor, Cond.code yX9_bladeFor cX9_bladeFor 4 (some .int), Cond.methodLink RX9 69 yX9_use, Cond.instanceMethod yX9_use]
def wsX9_digest_r5 : List Cond := [Cond.selects RX9 yX9_use yX9_use, Cond.code yX9_use cX9_use 3 none, Cond.methodLink RX9 32 yX9_within, Cond.static yX9_within, Cond.code yX9_within cX9_within 3 (some .boolean), Cond.methodLink RX9 159 yX9_told, Cond.instanceMethod yX9_told, Cond.selects RX9 yX9_told yX9_told, Cond.code yX9_told cX9_told 2 (some .int), Cond.methodLink RX9 162 yX9_bring, Cond.instanceMethod yX9_bring, Cond.selects RX9 yX9_bring yX9_bring, Cond.code yX9_bring cX9_bring 2 none, Cond.methodLink RX9 168 yX9_bestNow, Cond.instanceMethod yX9_bestNow, Cond.selects RX9 yX9_bestNow yX9_bestNow, Cond.code yX9_bestNow cX9_bestNow 6 (some .int), Cond.methodLink RX9 174 yX9_doneNow, Cond.instanceMethod yX9_doneNow, Cond.selects RX9 yX9_doneNow yX9_doneNow, Cond.code yX9_doneNow cX9_doneNow 2 (some .int), Cond.methodLink RX9 178 yX9_meanNow, Cond.instanceMethod yX9_meanNow, Cond.selects RX9 yX9_meanNow yX9_meanNow]
def wsX9_digest_r6 : List Cond := [Cond.code yX9_meanNow cX9_meanNow 3 (some .float), Cond.constantFloat RX9 177 (1090519040), Cond.methodLink RX9 198 yJxf58ca_floatToIntBits_5c35a, Cond.static yJxf58ca_floatToIntBits_5c35a, Cond.initialized RJxf58ca, Cond.code yJxf58ca_floatToIntBits_5c35a cJxf58ca_floatToIntBits_5c35a 1 (some .int), Cond.methodLink RJxf58ca 74 ⟨"java/lang/Float", "floatToRawIntBits", "(F)I"⟩, Cond.native ⟨"java/lang/Float", "floatToRawIntBits", "(F)I"⟩, Cond.static ⟨"java/lang/Float", "floatToRawIntBits", "(F)I"⟩, Cond.initialized "java/lang/Float", Cond.constant RJxf58ca 77 (2143289344), Cond.methodLink RJxf58ca 59 yJxf58ca_isNaN_12338, Cond.static yJxf58ca_isNaN_12338, Cond.code yJxf58ca_isNaN_12338 cJxf58ca_isNaN_12338 1 (some .boolean), Cond.methodLink RX9 182 yX9_shareNow, Cond.instanceMethod yX9_shareNow, Cond.selects RX9 yX9_shareNow yX9_shareNow, Cond.code yX9_shareNow cX9_shareNow 3 (some .double), Cond.methodLink RX9 204 yJxe99ae_doubleToLongBits_ccdee, Cond.static yJxe99ae_doubleToLongBits_ccdee, Cond.initialized RJxe99ae, Cond.code yJxe99ae_doubleToLongBits_ccdee cJxe99ae_doubleToLongBits_ccdee 2 (some .long), Cond.methodLink RJxe99ae 134 ⟨"java/lang/Double", "doubleToRawLongBits", "(D)J"⟩, Cond.native ⟨"java/lang/Double", "doubleToRawLongBits", "(D)J"⟩]
def wsX9_digest_r7 : List Cond := [Cond.static ⟨"java/lang/Double", "doubleToRawLongBits", "(D)J"⟩, Cond.initialized "java/lang/Double", Cond.constantLong RJxe99ae 137 (9221120237041090560), Cond.methodLink RJxe99ae 122 yJxe99ae_isNaN_b9ae7, Cond.static yJxe99ae_isNaN_b9ae7, Cond.code yJxe99ae_isNaN_b9ae7 cJxe99ae_isNaN_b9ae7 2 (some .boolean)]
def wsX9_digest : List Cond := .code yX9_digest cX9_digest 3 (some .long) :: ((wsX9_digest_r1 ++ (wsX9_digest_r2 ++ (wsX9_digest_r3 ++ (wsX9_digest_r4 ++ (wsX9_digest_r5 ++ (wsX9_digest_r6 ++ wsX9_digest_r7)))))) ++ wsX90)
def wsJ9_abs_0f7a4 : List Cond := .code yJ9_abs_0f7a4 cJ9_abs_0f7a4 1 (some .int) :: ([])
def wsJ9_max_7cf53 : List Cond := .code yJ9_max_7cf53 cJ9_max_7cf53 2 (some .int) :: ([])
def wsJ9_min_7cf53 : List Cond := .code yJ9_min_7cf53 cJ9_min_7cf53 2 (some .int) :: ([])
def wsL_addTurbine_r1 : List Cond := [Cond.classLink RL 13 "java/lang/IllegalArgumentException", Cond.classLink RL 15 "java/lang/IllegalStateException", Cond.methodLink RL 7 yX8_addTurbine, Cond.instanceMethod yX8_addTurbine, Cond.selects RX8 yX8_addTurbine yX8_addTurbine, Cond.initialized RX8, Cond.code yX8_addTurbine cX8_addTurbine 4 (some .int), Cond.classLink RX8 41 "java/lang/IllegalArgumentException", Cond.initialized "java/lang/IllegalArgumentException", Cond.classLink RX8 55 "java/lang/IllegalStateException", Cond.initialized "java/lang/IllegalStateException", Cond.fieldLink RX8 10 "CraneCampaign" "farm" "LCraneCampaign$Farm;", Cond.fieldLink RX8 48 "CraneCampaign$Farm" "turbineCount" "I", Cond.methodLink RX8 37 yX8_isWithin, Cond.static yX8_isWithin, Cond.code yX8_isWithin cX8_isWithin 3 (some .boolean), Cond.methodLink RX8 51 yX2_hasTurbineAt, Cond.instanceMethod yX2_hasTurbineAt, Cond.selects RX2 yX2_hasTurbineAt yX2_hasTurbineAt, Cond.initialized RX2, Cond.code yX2_hasTurbineAt cX2_hasTurbineAt 3 (some .boolean), Cond.fieldLink RX2 17 "CraneCampaign$Farm" "turbineCount" "I", Cond.fieldLink RX2 11 "CraneCampaign$Farm" "turbines" "[LCraneCampaign$Turbine;", Cond.fieldLink RX2 95 "CraneCampaign$Turbine" "place" "I"]
def wsL_addTurbine_r2 : List Cond := [Cond.methodLink RX8 60 yX8_saveState, Cond.instanceMethod yX8_saveState, Cond.selects RX8 yX8_saveState yX8_saveState, Cond.code yX8_saveState cX8_saveState 1 none, Cond.fieldLink RX8 19 "CraneCampaign" "saved" "[LCraneCampaign$Farm;", Cond.fieldLink RX8 23 "CraneCampaign" "oldestSaved" "I", Cond.fieldLink RX8 27 "CraneCampaign" "savedCount" "I", Cond.methodLink RX8 215 yX2_copyFrom, Cond.instanceMethod yX2_copyFrom, Cond.selects RX2 yX2_copyFrom yX2_copyFrom, Cond.code yX2_copyFrom cX2_copyFrom 3 none, Cond.fieldLink RX2 24 "CraneCampaign$Farm" "bogs" "LCraneCampaign$Bogs;", Cond.fieldLink RX2 31 "CraneCampaign$Farm" "harbour" "LCraneCampaign$Harbour;", Cond.fieldLink RX2 38 "CraneCampaign$Farm" "plan" "LCraneCampaign$Plan;", Cond.fieldLink RX2 45 "CraneCampaign$Farm" "crane" "LCraneCampaign$Crane;", Cond.fieldLink RX2 52 "CraneCampaign$Farm" "winds" "LCraneCampaign$Winds;", Cond.fieldLink RX2 56 "CraneCampaign$Farm" "settings" "[I", Cond.methodLink RX2 70 arraycopyName, Cond.native arraycopyName, Cond.static arraycopyName, Cond.initialized "java/lang/System", Cond.fieldLink RX2 60 "CraneCampaign$Farm" "lostBy" "[I", Cond.fieldLink RX2 63 "CraneCampaign$Farm" "hour" "I", Cond.methodLink RX2 76 yX5_copyFrom]
def wsL_addTurbine_r3 : List Cond := [Cond.instanceMethod yX5_copyFrom, Cond.selects RX5 yX5_copyFrom yX5_copyFrom, Cond.initialized RX5, Cond.code yX5_copyFrom cX5_copyFrom 2 none, Cond.fieldLink RX5 9 "CraneCampaign$Turbine" "place" "I", Cond.fieldLink RX5 15 "CraneCampaign$Turbine" "height" "I", Cond.fieldLink RX5 18 "CraneCampaign$Turbine" "rate" "I", Cond.fieldLink RX5 21 "CraneCampaign$Turbine" "fault" "I", Cond.fieldLink RX5 24 "CraneCampaign$Turbine" "age" "I", Cond.fieldLink RX5 27 "CraneCampaign$Turbine" "lost" "I", Cond.fieldLink RX5 30 "CraneCampaign$Turbine" "won" "I", Cond.methodLink RX2 80 yX0_copyFrom, Cond.instanceMethod yX0_copyFrom, Cond.selects RX0 yX0_copyFrom yX0_copyFrom, Cond.initialized RX0, Cond.code yX0_copyFrom cX0_copyFrom 2 none, Cond.fieldLink RX0 9 "CraneCampaign$Bogs" "place" "[I", Cond.methodLink RX0 22 arraycopyName, Cond.fieldLink RX0 15 "CraneCampaign$Bogs" "need" "[I", Cond.fieldLink RX0 18 "CraneCampaign$Bogs" "count" "I", Cond.methodLink RX2 83 yX3_copyFrom, Cond.instanceMethod yX3_copyFrom, Cond.selects RX3 yX3_copyFrom yX3_copyFrom, Cond.initialized RX3]
def wsL_addTurbine_r4 : List Cond := [Cond.code yX3_copyFrom cX3_copyFrom 2 none, Cond.fieldLink RX3 9 "CraneCampaign$Harbour" "turbine" "[I", Cond.methodLink RX3 22 arraycopyName, Cond.fieldLink RX3 15 "CraneCampaign$Harbour" "weight" "[I", Cond.fieldLink RX3 18 "CraneCampaign$Harbour" "count" "I", Cond.methodLink RX2 86 yX4_copyFrom, Cond.instanceMethod yX4_copyFrom, Cond.selects RX4 yX4_copyFrom yX4_copyFrom, Cond.initialized RX4, Cond.code yX4_copyFrom cX4_copyFrom 2 none, Cond.fieldLink RX4 9 "CraneCampaign$Plan" "row" "[I", Cond.methodLink RX4 19 arraycopyName, Cond.fieldLink RX4 15 "CraneCampaign$Plan" "count" "I", Cond.methodLink RX2 89 yX1_copyFrom, Cond.instanceMethod yX1_copyFrom, Cond.selects RX1 yX1_copyFrom yX1_copyFrom, Cond.initialized RX1, Cond.code yX1_copyFrom cX1_copyFrom 2 none, Cond.fieldLink RX1 9 "CraneCampaign$Crane" "place" "I", Cond.fieldLink RX1 15 "CraneCampaign$Crane" "hoursLeft" "I", Cond.fieldLink RX1 18 "CraneCampaign$Crane" "goal" "I", Cond.fieldLink RX1 21 "CraneCampaign$Crane" "workDone" "I", Cond.fieldLink RX1 24 "CraneCampaign$Crane" "workedOn" "I", Cond.methodLink RX2 92 yX7_copyFrom]
def wsL_addTurbine_r5 : List Cond := [Cond.instanceMethod yX7_copyFrom, Cond.selects RX7 yX7_copyFrom yX7_copyFrom, Cond.initialized RX7, Cond.code yX7_copyFrom cX7_copyFrom 2 none, Cond.fieldLink RX7 9 "CraneCampaign$Winds" "row" "[I", Cond.methodLink RX7 19 arraycopyName, Cond.fieldLink RX7 15 "CraneCampaign$Winds" "count" "I", Cond.methodLink RX8 63 yX2_buildTurbine, Cond.instanceMethod yX2_buildTurbine, Cond.selects RX2 yX2_buildTurbine yX2_buildTurbine, Cond.code yX2_buildTurbine cX2_buildTurbine 4 (some .int), Cond.methodLink RX2 98 yX5_begin, Cond.instanceMethod yX5_begin, Cond.selects RX5 yX5_begin yX5_begin, Cond.code yX5_begin cX5_begin 4 none]
def wsL_addTurbine : List Cond := .codeWith yL_addTurbine cL_addTurbine 6 (some .int) [(0, 12, 15, 13), (0, 12, 19, 15)] :: ((wsL_addTurbine_r1 ++ (wsL_addTurbine_r2 ++ (wsL_addTurbine_r3 ++ (wsL_addTurbine_r4 ++ wsL_addTurbine_r5)))) ++ wsX80 ++ wsX20 ++ wsX50 ++ wsX00 ++ wsX30 ++ wsX40 ++ wsX10 ++ wsX70 ++ (vx_atS RX8 45 "java/lang/IllegalArgumentException" ["java/lang/RuntimeException", "java/lang/Exception"]).filter goodWord ++ (vx_atS RX8 59 "java/lang/IllegalStateException" ["java/lang/RuntimeException", "java/lang/Exception"]).filter goodWord)
def wsL_setFault_r1 : List Cond := [Cond.classLink RL 21 "java/lang/IndexOutOfBoundsException", Cond.classLink RL 13 "java/lang/IllegalArgumentException", Cond.methodLink RL 17 yX8_setFault, Cond.instanceMethod yX8_setFault, Cond.selects RX8 yX8_setFault yX8_setFault, Cond.initialized RX8, Cond.code yX8_setFault cX8_setFault 5 (some .int), Cond.classLink RX8 41 "java/lang/IllegalArgumentException", Cond.initialized "java/lang/IllegalArgumentException", Cond.fieldLink RX8 10 "CraneCampaign" "farm" "LCraneCampaign$Farm;", Cond.fieldLink RX8 73 "CraneCampaign$Farm" "turbines" "[LCraneCampaign$Turbine;", Cond.fieldLink RX8 77 "CraneCampaign$Turbine" "fault" "I", Cond.fieldLink RX8 82 "CraneCampaign$Turbine" "age" "I", Cond.methodLink RX8 67 yX8_requireTurbine, Cond.instanceMethod yX8_requireTurbine, Cond.selects RX8 yX8_requireTurbine yX8_requireTurbine, Cond.code yX8_requireTurbine cX8_requireTurbine 2 none, Cond.classLink RX8 134 "java/lang/IndexOutOfBoundsException", Cond.initialized "java/lang/IndexOutOfBoundsException", Cond.methodLink RX8 319 yX2_hasTurbine, Cond.instanceMethod yX2_hasTurbine, Cond.selects RX2 yX2_hasTurbine yX2_hasTurbine, Cond.initialized RX2, Cond.code yX2_hasTurbine cX2_hasTurbine 2 (some .boolean)]
def wsL_setFault_r2 : List Cond := [Cond.fieldLink RX2 17 "CraneCampaign$Farm" "turbineCount" "I", Cond.methodLink RX8 37 yX8_isWithin, Cond.static yX8_isWithin, Cond.code yX8_isWithin cX8_isWithin 3 (some .boolean), Cond.methodLink RX8 60 yX8_saveState, Cond.instanceMethod yX8_saveState, Cond.selects RX8 yX8_saveState yX8_saveState, Cond.code yX8_saveState cX8_saveState 1 none, Cond.fieldLink RX8 19 "CraneCampaign" "saved" "[LCraneCampaign$Farm;", Cond.fieldLink RX8 23 "CraneCampaign" "oldestSaved" "I", Cond.fieldLink RX8 27 "CraneCampaign" "savedCount" "I", Cond.methodLink RX8 215 yX2_copyFrom, Cond.instanceMethod yX2_copyFrom, Cond.selects RX2 yX2_copyFrom yX2_copyFrom, Cond.code yX2_copyFrom cX2_copyFrom 3 none, Cond.fieldLink RX2 11 "CraneCampaign$Farm" "turbines" "[LCraneCampaign$Turbine;", Cond.fieldLink RX2 24 "CraneCampaign$Farm" "bogs" "LCraneCampaign$Bogs;", Cond.fieldLink RX2 31 "CraneCampaign$Farm" "harbour" "LCraneCampaign$Harbour;", Cond.fieldLink RX2 38 "CraneCampaign$Farm" "plan" "LCraneCampaign$Plan;", Cond.fieldLink RX2 45 "CraneCampaign$Farm" "crane" "LCraneCampaign$Crane;", Cond.fieldLink RX2 52 "CraneCampaign$Farm" "winds" "LCraneCampaign$Winds;", Cond.fieldLink RX2 56 "CraneCampaign$Farm" "settings" "[I", Cond.methodLink RX2 70 arraycopyName, Cond.native arraycopyName]
def wsL_setFault_r3 : List Cond := [Cond.static arraycopyName, Cond.initialized "java/lang/System", Cond.fieldLink RX2 60 "CraneCampaign$Farm" "lostBy" "[I", Cond.fieldLink RX2 63 "CraneCampaign$Farm" "hour" "I", Cond.methodLink RX2 76 yX5_copyFrom, Cond.instanceMethod yX5_copyFrom, Cond.selects RX5 yX5_copyFrom yX5_copyFrom, Cond.initialized RX5, Cond.code yX5_copyFrom cX5_copyFrom 2 none, Cond.fieldLink RX5 9 "CraneCampaign$Turbine" "place" "I", Cond.fieldLink RX5 15 "CraneCampaign$Turbine" "height" "I", Cond.fieldLink RX5 18 "CraneCampaign$Turbine" "rate" "I", Cond.fieldLink RX5 21 "CraneCampaign$Turbine" "fault" "I", Cond.fieldLink RX5 24 "CraneCampaign$Turbine" "age" "I", Cond.fieldLink RX5 27 "CraneCampaign$Turbine" "lost" "I", Cond.fieldLink RX5 30 "CraneCampaign$Turbine" "won" "I", Cond.methodLink RX2 80 yX0_copyFrom, Cond.instanceMethod yX0_copyFrom, Cond.selects RX0 yX0_copyFrom yX0_copyFrom, Cond.initialized RX0, Cond.code yX0_copyFrom cX0_copyFrom 2 none, Cond.fieldLink RX0 9 "CraneCampaign$Bogs" "place" "[I", Cond.methodLink RX0 22 arraycopyName, Cond.fieldLink RX0 15 "CraneCampaign$Bogs" "need" "[I"]
def wsL_setFault_r4 : List Cond := [Cond.fieldLink RX0 18 "CraneCampaign$Bogs" "count" "I", Cond.methodLink RX2 83 yX3_copyFrom, Cond.instanceMethod yX3_copyFrom, Cond.selects RX3 yX3_copyFrom yX3_copyFrom, Cond.initialized RX3, Cond.code yX3_copyFrom cX3_copyFrom 2 none, Cond.fieldLink RX3 9 "CraneCampaign$Harbour" "turbine" "[I", Cond.methodLink RX3 22 arraycopyName, Cond.fieldLink RX3 15 "CraneCampaign$Harbour" "weight" "[I", Cond.fieldLink RX3 18 "CraneCampaign$Harbour" "count" "I", Cond.methodLink RX2 86 yX4_copyFrom, Cond.instanceMethod yX4_copyFrom, Cond.selects RX4 yX4_copyFrom yX4_copyFrom, Cond.initialized RX4, Cond.code yX4_copyFrom cX4_copyFrom 2 none, Cond.fieldLink RX4 9 "CraneCampaign$Plan" "row" "[I", Cond.methodLink RX4 19 arraycopyName, Cond.fieldLink RX4 15 "CraneCampaign$Plan" "count" "I", Cond.methodLink RX2 89 yX1_copyFrom, Cond.instanceMethod yX1_copyFrom, Cond.selects RX1 yX1_copyFrom yX1_copyFrom, Cond.initialized RX1, Cond.code yX1_copyFrom cX1_copyFrom 2 none, Cond.fieldLink RX1 9 "CraneCampaign$Crane" "place" "I"]
def wsL_setFault_r5 : List Cond := [Cond.fieldLink RX1 15 "CraneCampaign$Crane" "hoursLeft" "I", Cond.fieldLink RX1 18 "CraneCampaign$Crane" "goal" "I", Cond.fieldLink RX1 21 "CraneCampaign$Crane" "workDone" "I", Cond.fieldLink RX1 24 "CraneCampaign$Crane" "workedOn" "I", Cond.methodLink RX2 92 yX7_copyFrom, Cond.instanceMethod yX7_copyFrom, Cond.selects RX7 yX7_copyFrom yX7_copyFrom, Cond.initialized RX7, Cond.code yX7_copyFrom cX7_copyFrom 2 none, Cond.fieldLink RX7 9 "CraneCampaign$Winds" "row" "[I", Cond.methodLink RX7 19 arraycopyName, Cond.fieldLink RX7 15 "CraneCampaign$Winds" "count" "I"]
def wsL_setFault : List Cond := .codeWith yL_setFault cL_setFault 5 (some .int) [(0, 10, 13, 21), (0, 10, 17, 13)] :: ((wsL_setFault_r1 ++ (wsL_setFault_r2 ++ (wsL_setFault_r3 ++ (wsL_setFault_r4 ++ wsL_setFault_r5)))) ++ wsX80 ++ wsX20 ++ wsX50 ++ wsX00 ++ wsX30 ++ wsX40 ++ wsX10 ++ wsX70 ++ (vx_atS RX8 45 "java/lang/IllegalArgumentException" ["java/lang/RuntimeException", "java/lang/Exception"]).filter goodWord ++ (vx_atS RX8 138 "java/lang/IndexOutOfBoundsException" ["java/lang/RuntimeException", "java/lang/Exception"]).filter goodWord)
def wsL_setBog_r1 : List Cond := [Cond.classLink RL 13 "java/lang/IllegalArgumentException", Cond.classLink RL 15 "java/lang/IllegalStateException", Cond.methodLink RL 23 yX8_setBog, Cond.instanceMethod yX8_setBog, Cond.selects RX8 yX8_setBog yX8_setBog, Cond.initialized RX8, Cond.code yX8_setBog cX8_setBog 3 (some .int), Cond.classLink RX8 41 "java/lang/IllegalArgumentException", Cond.initialized "java/lang/IllegalArgumentException", Cond.classLink RX8 55 "java/lang/IllegalStateException", Cond.initialized "java/lang/IllegalStateException", Cond.fieldLink RX8 10 "CraneCampaign" "farm" "LCraneCampaign$Farm;", Cond.fieldLink RX8 87 "CraneCampaign$Farm" "bogs" "LCraneCampaign$Bogs;", Cond.fieldLink RX8 107 "CraneCampaign$Bogs" "count" "I", Cond.methodLink RX8 37 yX8_isWithin, Cond.static yX8_isWithin, Cond.code yX8_isWithin cX8_isWithin 3 (some .boolean), Cond.methodLink RX8 91 yX0_isFull, Cond.instanceMethod yX0_isFull, Cond.selects RX0 yX0_isFull yX0_isFull, Cond.initialized RX0, Cond.code yX0_isFull cX0_isFull 1 (some .boolean), Cond.fieldLink RX0 18 "CraneCampaign$Bogs" "count" "I", Cond.methodLink RX8 97 yX0_indexAt]
def wsL_setBog_r2 : List Cond := [Cond.instanceMethod yX0_indexAt, Cond.selects RX0 yX0_indexAt yX0_indexAt, Cond.code yX0_indexAt cX0_indexAt 3 (some .int), Cond.fieldLink RX0 9 "CraneCampaign$Bogs" "place" "[I", Cond.methodLink RX8 60 yX8_saveState, Cond.instanceMethod yX8_saveState, Cond.selects RX8 yX8_saveState yX8_saveState, Cond.code yX8_saveState cX8_saveState 1 none, Cond.fieldLink RX8 19 "CraneCampaign" "saved" "[LCraneCampaign$Farm;", Cond.fieldLink RX8 23 "CraneCampaign" "oldestSaved" "I", Cond.fieldLink RX8 27 "CraneCampaign" "savedCount" "I", Cond.methodLink RX8 215 yX2_copyFrom, Cond.instanceMethod yX2_copyFrom, Cond.selects RX2 yX2_copyFrom yX2_copyFrom, Cond.initialized RX2, Cond.code yX2_copyFrom cX2_copyFrom 3 none, Cond.fieldLink RX2 17 "CraneCampaign$Farm" "turbineCount" "I", Cond.fieldLink RX2 11 "CraneCampaign$Farm" "turbines" "[LCraneCampaign$Turbine;", Cond.fieldLink RX2 24 "CraneCampaign$Farm" "bogs" "LCraneCampaign$Bogs;", Cond.fieldLink RX2 31 "CraneCampaign$Farm" "harbour" "LCraneCampaign$Harbour;", Cond.fieldLink RX2 38 "CraneCampaign$Farm" "plan" "LCraneCampaign$Plan;", Cond.fieldLink RX2 45 "CraneCampaign$Farm" "crane" "LCraneCampaign$Crane;", Cond.fieldLink RX2 52 "CraneCampaign$Farm" "winds" "LCraneCampaign$Winds;", Cond.fieldLink RX2 56 "CraneCampaign$Farm" "settings" "[I"]
def wsL_setBog_r3 : List Cond := [Cond.methodLink RX2 70 arraycopyName, Cond.native arraycopyName, Cond.static arraycopyName, Cond.initialized "java/lang/System", Cond.fieldLink RX2 60 "CraneCampaign$Farm" "lostBy" "[I", Cond.fieldLink RX2 63 "CraneCampaign$Farm" "hour" "I", Cond.methodLink RX2 76 yX5_copyFrom, Cond.instanceMethod yX5_copyFrom, Cond.selects RX5 yX5_copyFrom yX5_copyFrom, Cond.initialized RX5, Cond.code yX5_copyFrom cX5_copyFrom 2 none, Cond.fieldLink RX5 9 "CraneCampaign$Turbine" "place" "I", Cond.fieldLink RX5 15 "CraneCampaign$Turbine" "height" "I", Cond.fieldLink RX5 18 "CraneCampaign$Turbine" "rate" "I", Cond.fieldLink RX5 21 "CraneCampaign$Turbine" "fault" "I", Cond.fieldLink RX5 24 "CraneCampaign$Turbine" "age" "I", Cond.fieldLink RX5 27 "CraneCampaign$Turbine" "lost" "I", Cond.fieldLink RX5 30 "CraneCampaign$Turbine" "won" "I", Cond.methodLink RX2 80 yX0_copyFrom, Cond.instanceMethod yX0_copyFrom, Cond.selects RX0 yX0_copyFrom yX0_copyFrom, Cond.code yX0_copyFrom cX0_copyFrom 2 none, Cond.methodLink RX0 22 arraycopyName, Cond.fieldLink RX0 15 "CraneCampaign$Bogs" "need" "[I"]
def wsL_setBog_r4 : List Cond := [Cond.methodLink RX2 83 yX3_copyFrom, Cond.instanceMethod yX3_copyFrom, Cond.selects RX3 yX3_copyFrom yX3_copyFrom, Cond.initialized RX3, Cond.code yX3_copyFrom cX3_copyFrom 2 none, Cond.fieldLink RX3 9 "CraneCampaign$Harbour" "turbine" "[I", Cond.methodLink RX3 22 arraycopyName, Cond.fieldLink RX3 15 "CraneCampaign$Harbour" "weight" "[I", Cond.fieldLink RX3 18 "CraneCampaign$Harbour" "count" "I", Cond.methodLink RX2 86 yX4_copyFrom, Cond.instanceMethod yX4_copyFrom, Cond.selects RX4 yX4_copyFrom yX4_copyFrom, Cond.initialized RX4, Cond.code yX4_copyFrom cX4_copyFrom 2 none, Cond.fieldLink RX4 9 "CraneCampaign$Plan" "row" "[I", Cond.methodLink RX4 19 arraycopyName, Cond.fieldLink RX4 15 "CraneCampaign$Plan" "count" "I", Cond.methodLink RX2 89 yX1_copyFrom, Cond.instanceMethod yX1_copyFrom, Cond.selects RX1 yX1_copyFrom yX1_copyFrom, Cond.initialized RX1, Cond.code yX1_copyFrom cX1_copyFrom 2 none, Cond.fieldLink RX1 9 "CraneCampaign$Crane" "place" "I", Cond.fieldLink RX1 15 "CraneCampaign$Crane" "hoursLeft" "I"]
def wsL_setBog_r5 : List Cond := [Cond.fieldLink RX1 18 "CraneCampaign$Crane" "goal" "I", Cond.fieldLink RX1 21 "CraneCampaign$Crane" "workDone" "I", Cond.fieldLink RX1 24 "CraneCampaign$Crane" "workedOn" "I", Cond.methodLink RX2 92 yX7_copyFrom, Cond.instanceMethod yX7_copyFrom, Cond.selects RX7 yX7_copyFrom yX7_copyFrom, Cond.initialized RX7, Cond.code yX7_copyFrom cX7_copyFrom 2 none, Cond.fieldLink RX7 9 "CraneCampaign$Winds" "row" "[I", Cond.methodLink RX7 19 arraycopyName, Cond.fieldLink RX7 15 "CraneCampaign$Winds" "count" "I", Cond.methodLink RX8 103 yX0_put, Cond.instanceMethod yX0_put, Cond.selects RX0 yX0_put yX0_put, Cond.code yX0_put cX0_put 4 none, Cond.methodLink RX0 28 yX0_indexAt, Cond.methodLink RX0 32 yX0_removeAt, Cond.instanceMethod yX0_removeAt, Cond.selects RX0 yX0_removeAt yX0_removeAt, Cond.code yX0_removeAt cX0_removeAt 3 none, Cond.methodLink RX0 36 yX0_insert, Cond.instanceMethod yX0_insert, Cond.selects RX0 yX0_insert yX0_insert, Cond.code yX0_insert cX0_insert 5 none]
def wsL_setBog_r6 : List Cond := [Cond.methodLink RX0 40 yX0_isFull]
def wsL_setBog : List Cond := .codeWith yL_setBog cL_setBog 5 (some .int) [(0, 10, 13, 13), (0, 10, 17, 15)] :: ((wsL_setBog_r1 ++ (wsL_setBog_r2 ++ (wsL_setBog_r3 ++ (wsL_setBog_r4 ++ (wsL_setBog_r5 ++ wsL_setBog_r6))))) ++ wsX80 ++ wsX20 ++ wsX00 ++ wsX50 ++ wsX30 ++ wsX40 ++ wsX10 ++ wsX70 ++ (vx_atS RX8 45 "java/lang/IllegalArgumentException" ["java/lang/RuntimeException", "java/lang/Exception"]).filter goodWord ++ (vx_atS RX8 59 "java/lang/IllegalStateException" ["java/lang/RuntimeException", "java/lang/Exception"]).filter goodWord)
def wsL_set_r1 : List Cond := [Cond.classLink RL 21 "java/lang/IndexOutOfBoundsException", Cond.classLink RL 13 "java/lang/IllegalArgumentException", Cond.methodLink RL 26 yX8_set, Cond.instanceMethod yX8_set, Cond.selects RX8 yX8_set yX8_set, Cond.initialized RX8, Cond.code yX8_set cX8_set 4 (some .int), Cond.classLink RX8 41 "java/lang/IllegalArgumentException", Cond.initialized "java/lang/IllegalArgumentException", Cond.fieldLink RX8 113 "CraneCampaign" "SETTING_LOWEST" "[I", Cond.fieldLink RX8 117 "CraneCampaign" "SETTING_HIGHEST" "[I", Cond.fieldLink RX8 10 "CraneCampaign" "farm" "LCraneCampaign$Farm;", Cond.fieldLink RX8 122 "CraneCampaign$Farm" "settings" "[I", Cond.methodLink RX8 110 yX8_requireSetting, Cond.static yX8_requireSetting, Cond.code yX8_requireSetting cX8_requireSetting 1 none, Cond.classLink RX8 134 "java/lang/IndexOutOfBoundsException", Cond.initialized "java/lang/IndexOutOfBoundsException", Cond.methodLink RX8 37 yX8_isWithin, Cond.static yX8_isWithin, Cond.code yX8_isWithin cX8_isWithin 3 (some .boolean), Cond.methodLink RX8 60 yX8_saveState, Cond.instanceMethod yX8_saveState, Cond.selects RX8 yX8_saveState yX8_saveState]
def wsL_set_r2 : List Cond := [Cond.code yX8_saveState cX8_saveState 1 none, Cond.fieldLink RX8 19 "CraneCampaign" "saved" "[LCraneCampaign$Farm;", Cond.fieldLink RX8 23 "CraneCampaign" "oldestSaved" "I", Cond.fieldLink RX8 27 "CraneCampaign" "savedCount" "I", Cond.methodLink RX8 215 yX2_copyFrom, Cond.instanceMethod yX2_copyFrom, Cond.selects RX2 yX2_copyFrom yX2_copyFrom, Cond.initialized RX2, Cond.code yX2_copyFrom cX2_copyFrom 3 none, Cond.fieldLink RX2 17 "CraneCampaign$Farm" "turbineCount" "I", Cond.fieldLink RX2 11 "CraneCampaign$Farm" "turbines" "[LCraneCampaign$Turbine;", Cond.fieldLink RX2 24 "CraneCampaign$Farm" "bogs" "LCraneCampaign$Bogs;", Cond.fieldLink RX2 31 "CraneCampaign$Farm" "harbour" "LCraneCampaign$Harbour;", Cond.fieldLink RX2 38 "CraneCampaign$Farm" "plan" "LCraneCampaign$Plan;", Cond.fieldLink RX2 45 "CraneCampaign$Farm" "crane" "LCraneCampaign$Crane;", Cond.fieldLink RX2 52 "CraneCampaign$Farm" "winds" "LCraneCampaign$Winds;", Cond.fieldLink RX2 56 "CraneCampaign$Farm" "settings" "[I", Cond.methodLink RX2 70 arraycopyName, Cond.native arraycopyName, Cond.static arraycopyName, Cond.initialized "java/lang/System", Cond.fieldLink RX2 60 "CraneCampaign$Farm" "lostBy" "[I", Cond.fieldLink RX2 63 "CraneCampaign$Farm" "hour" "I", Cond.methodLink RX2 76 yX5_copyFrom]
def wsL_set_r3 : List Cond := [Cond.instanceMethod yX5_copyFrom, Cond.selects RX5 yX5_copyFrom yX5_copyFrom, Cond.initialized RX5, Cond.code yX5_copyFrom cX5_copyFrom 2 none, Cond.fieldLink RX5 9 "CraneCampaign$Turbine" "place" "I", Cond.fieldLink RX5 15 "CraneCampaign$Turbine" "height" "I", Cond.fieldLink RX5 18 "CraneCampaign$Turbine" "rate" "I", Cond.fieldLink RX5 21 "CraneCampaign$Turbine" "fault" "I", Cond.fieldLink RX5 24 "CraneCampaign$Turbine" "age" "I", Cond.fieldLink RX5 27 "CraneCampaign$Turbine" "lost" "I", Cond.fieldLink RX5 30 "CraneCampaign$Turbine" "won" "I", Cond.methodLink RX2 80 yX0_copyFrom, Cond.instanceMethod yX0_copyFrom, Cond.selects RX0 yX0_copyFrom yX0_copyFrom, Cond.initialized RX0, Cond.code yX0_copyFrom cX0_copyFrom 2 none, Cond.fieldLink RX0 9 "CraneCampaign$Bogs" "place" "[I", Cond.methodLink RX0 22 arraycopyName, Cond.fieldLink RX0 15 "CraneCampaign$Bogs" "need" "[I", Cond.fieldLink RX0 18 "CraneCampaign$Bogs" "count" "I", Cond.methodLink RX2 83 yX3_copyFrom, Cond.instanceMethod yX3_copyFrom, Cond.selects RX3 yX3_copyFrom yX3_copyFrom, Cond.initialized RX3]
def wsL_set_r4 : List Cond := [Cond.code yX3_copyFrom cX3_copyFrom 2 none, Cond.fieldLink RX3 9 "CraneCampaign$Harbour" "turbine" "[I", Cond.methodLink RX3 22 arraycopyName, Cond.fieldLink RX3 15 "CraneCampaign$Harbour" "weight" "[I", Cond.fieldLink RX3 18 "CraneCampaign$Harbour" "count" "I", Cond.methodLink RX2 86 yX4_copyFrom, Cond.instanceMethod yX4_copyFrom, Cond.selects RX4 yX4_copyFrom yX4_copyFrom, Cond.initialized RX4, Cond.code yX4_copyFrom cX4_copyFrom 2 none, Cond.fieldLink RX4 9 "CraneCampaign$Plan" "row" "[I", Cond.methodLink RX4 19 arraycopyName, Cond.fieldLink RX4 15 "CraneCampaign$Plan" "count" "I", Cond.methodLink RX2 89 yX1_copyFrom, Cond.instanceMethod yX1_copyFrom, Cond.selects RX1 yX1_copyFrom yX1_copyFrom, Cond.initialized RX1, Cond.code yX1_copyFrom cX1_copyFrom 2 none, Cond.fieldLink RX1 9 "CraneCampaign$Crane" "place" "I", Cond.fieldLink RX1 15 "CraneCampaign$Crane" "hoursLeft" "I", Cond.fieldLink RX1 18 "CraneCampaign$Crane" "goal" "I", Cond.fieldLink RX1 21 "CraneCampaign$Crane" "workDone" "I", Cond.fieldLink RX1 24 "CraneCampaign$Crane" "workedOn" "I", Cond.methodLink RX2 92 yX7_copyFrom]
def wsL_set_r5 : List Cond := [Cond.instanceMethod yX7_copyFrom, Cond.selects RX7 yX7_copyFrom yX7_copyFrom, Cond.initialized RX7, Cond.code yX7_copyFrom cX7_copyFrom 2 none, Cond.fieldLink RX7 9 "CraneCampaign$Winds" "row" "[I", Cond.methodLink RX7 19 arraycopyName, Cond.fieldLink RX7 15 "CraneCampaign$Winds" "count" "I"]
def wsL_set : List Cond := .codeWith yL_set cL_set 5 (some .int) [(0, 10, 13, 21), (0, 10, 17, 13)] :: ((wsL_set_r1 ++ (wsL_set_r2 ++ (wsL_set_r3 ++ (wsL_set_r4 ++ wsL_set_r5)))) ++ wsX80 ++ wsX20 ++ wsX50 ++ wsX00 ++ wsX30 ++ wsX40 ++ wsX10 ++ wsX70 ++ (vx_atS RX8 45 "java/lang/IllegalArgumentException" ["java/lang/RuntimeException", "java/lang/Exception"]).filter goodWord ++ (vx_atS RX8 138 "java/lang/IndexOutOfBoundsException" ["java/lang/RuntimeException", "java/lang/Exception"]).filter goodWord)
def wsL_plan_r1 : List Cond := [Cond.classLink RL 21 "java/lang/IndexOutOfBoundsException", Cond.methodLink RL 29 yX8_plan, Cond.instanceMethod yX8_plan, Cond.selects RX8 yX8_plan yX8_plan, Cond.initialized RX8, Cond.code yX8_plan cX8_plan 3 (some .int), Cond.classLink RX8 134 "java/lang/IndexOutOfBoundsException", Cond.initialized "java/lang/IndexOutOfBoundsException", Cond.fieldLink RX8 10 "CraneCampaign" "farm" "LCraneCampaign$Farm;", Cond.fieldLink RX8 125 "CraneCampaign$Farm" "plan" "LCraneCampaign$Plan;", Cond.fieldLink RX8 142 "CraneCampaign$Plan" "count" "I", Cond.methodLink RX8 67 yX8_requireTurbine, Cond.instanceMethod yX8_requireTurbine, Cond.selects RX8 yX8_requireTurbine yX8_requireTurbine, Cond.code yX8_requireTurbine cX8_requireTurbine 2 none, Cond.methodLink RX8 319 yX2_hasTurbine, Cond.instanceMethod yX2_hasTurbine, Cond.selects RX2 yX2_hasTurbine yX2_hasTurbine, Cond.initialized RX2, Cond.code yX2_hasTurbine cX2_hasTurbine 2 (some .boolean), Cond.fieldLink RX2 17 "CraneCampaign$Farm" "turbineCount" "I", Cond.methodLink RX8 129 yX4_countWithout, Cond.instanceMethod yX4_countWithout, Cond.selects RX4 yX4_countWithout yX4_countWithout]
def wsL_plan_r2 : List Cond := [Cond.initialized RX4, Cond.code yX4_countWithout cX4_countWithout 2 (some .int), Cond.fieldLink RX4 15 "CraneCampaign$Plan" "count" "I", Cond.methodLink RX4 25 yX4_placeOf, Cond.instanceMethod yX4_placeOf, Cond.selects RX4 yX4_placeOf yX4_placeOf, Cond.code yX4_placeOf cX4_placeOf 3 (some .int), Cond.fieldLink RX4 9 "CraneCampaign$Plan" "row" "[I", Cond.methodLink RX8 37 yX8_isWithin, Cond.static yX8_isWithin, Cond.code yX8_isWithin cX8_isWithin 3 (some .boolean), Cond.methodLink RX8 60 yX8_saveState, Cond.instanceMethod yX8_saveState, Cond.selects RX8 yX8_saveState yX8_saveState, Cond.code yX8_saveState cX8_saveState 1 none, Cond.fieldLink RX8 19 "CraneCampaign" "saved" "[LCraneCampaign$Farm;", Cond.fieldLink RX8 23 "CraneCampaign" "oldestSaved" "I", Cond.fieldLink RX8 27 "CraneCampaign" "savedCount" "I", Cond.methodLink RX8 215 yX2_copyFrom, Cond.instanceMethod yX2_copyFrom, Cond.selects RX2 yX2_copyFrom yX2_copyFrom, Cond.code yX2_copyFrom cX2_copyFrom 3 none, Cond.fieldLink RX2 11 "CraneCampaign$Farm" "turbines" "[LCraneCampaign$Turbine;", Cond.fieldLink RX2 24 "CraneCampaign$Farm" "bogs" "LCraneCampaign$Bogs;"]
def wsL_plan_r3 : List Cond := [Cond.fieldLink RX2 31 "CraneCampaign$Farm" "harbour" "LCraneCampaign$Harbour;", Cond.fieldLink RX2 38 "CraneCampaign$Farm" "plan" "LCraneCampaign$Plan;", Cond.fieldLink RX2 45 "CraneCampaign$Farm" "crane" "LCraneCampaign$Crane;", Cond.fieldLink RX2 52 "CraneCampaign$Farm" "winds" "LCraneCampaign$Winds;", Cond.fieldLink RX2 56 "CraneCampaign$Farm" "settings" "[I", Cond.methodLink RX2 70 arraycopyName, Cond.native arraycopyName, Cond.static arraycopyName, Cond.initialized "java/lang/System", Cond.fieldLink RX2 60 "CraneCampaign$Farm" "lostBy" "[I", Cond.fieldLink RX2 63 "CraneCampaign$Farm" "hour" "I", Cond.methodLink RX2 76 yX5_copyFrom, Cond.instanceMethod yX5_copyFrom, Cond.selects RX5 yX5_copyFrom yX5_copyFrom, Cond.initialized RX5, Cond.code yX5_copyFrom cX5_copyFrom 2 none, Cond.fieldLink RX5 9 "CraneCampaign$Turbine" "place" "I", Cond.fieldLink RX5 15 "CraneCampaign$Turbine" "height" "I", Cond.fieldLink RX5 18 "CraneCampaign$Turbine" "rate" "I", Cond.fieldLink RX5 21 "CraneCampaign$Turbine" "fault" "I", Cond.fieldLink RX5 24 "CraneCampaign$Turbine" "age" "I", Cond.fieldLink RX5 27 "CraneCampaign$Turbine" "lost" "I", Cond.fieldLink RX5 30 "CraneCampaign$Turbine" "won" "I", Cond.methodLink RX2 80 yX0_copyFrom]
def wsL_plan_r4 : List Cond := [Cond.instanceMethod yX0_copyFrom, Cond.selects RX0 yX0_copyFrom yX0_copyFrom, Cond.initialized RX0, Cond.code yX0_copyFrom cX0_copyFrom 2 none, Cond.fieldLink RX0 9 "CraneCampaign$Bogs" "place" "[I", Cond.methodLink RX0 22 arraycopyName, Cond.fieldLink RX0 15 "CraneCampaign$Bogs" "need" "[I", Cond.fieldLink RX0 18 "CraneCampaign$Bogs" "count" "I", Cond.methodLink RX2 83 yX3_copyFrom, Cond.instanceMethod yX3_copyFrom, Cond.selects RX3 yX3_copyFrom yX3_copyFrom, Cond.initialized RX3, Cond.code yX3_copyFrom cX3_copyFrom 2 none, Cond.fieldLink RX3 9 "CraneCampaign$Harbour" "turbine" "[I", Cond.methodLink RX3 22 arraycopyName, Cond.fieldLink RX3 15 "CraneCampaign$Harbour" "weight" "[I", Cond.fieldLink RX3 18 "CraneCampaign$Harbour" "count" "I", Cond.methodLink RX2 86 yX4_copyFrom, Cond.instanceMethod yX4_copyFrom, Cond.selects RX4 yX4_copyFrom yX4_copyFrom, Cond.code yX4_copyFrom cX4_copyFrom 2 none, Cond.methodLink RX4 19 arraycopyName, Cond.methodLink RX2 89 yX1_copyFrom, Cond.instanceMethod yX1_copyFrom]
def wsL_plan_r5 : List Cond := [Cond.selects RX1 yX1_copyFrom yX1_copyFrom, Cond.initialized RX1, Cond.code yX1_copyFrom cX1_copyFrom 2 none, Cond.fieldLink RX1 9 "CraneCampaign$Crane" "place" "I", Cond.fieldLink RX1 15 "CraneCampaign$Crane" "hoursLeft" "I", Cond.fieldLink RX1 18 "CraneCampaign$Crane" "goal" "I", Cond.fieldLink RX1 21 "CraneCampaign$Crane" "workDone" "I", Cond.fieldLink RX1 24 "CraneCampaign$Crane" "workedOn" "I", Cond.methodLink RX2 92 yX7_copyFrom, Cond.instanceMethod yX7_copyFrom, Cond.selects RX7 yX7_copyFrom yX7_copyFrom, Cond.initialized RX7, Cond.code yX7_copyFrom cX7_copyFrom 2 none, Cond.fieldLink RX7 9 "CraneCampaign$Winds" "row" "[I", Cond.methodLink RX7 19 arraycopyName, Cond.fieldLink RX7 15 "CraneCampaign$Winds" "count" "I", Cond.methodLink RX8 139 yX4_moveTo, Cond.instanceMethod yX4_moveTo, Cond.selects RX4 yX4_moveTo yX4_moveTo, Cond.code yX4_moveTo cX4_moveTo 4 none, Cond.methodLink RX4 29 yX4_removeAt, Cond.instanceMethod yX4_removeAt, Cond.selects RX4 yX4_removeAt yX4_removeAt, Cond.code yX4_removeAt cX4_removeAt 3 none]
def wsL_plan : List Cond := .codeWith yL_plan cL_plan 5 (some .int) [(0, 10, 13, 21)] :: ((wsL_plan_r1 ++ (wsL_plan_r2 ++ (wsL_plan_r3 ++ (wsL_plan_r4 ++ wsL_plan_r5)))) ++ wsX80 ++ wsX20 ++ wsX40 ++ wsX50 ++ wsX00 ++ wsX30 ++ wsX10 ++ wsX70 ++ (vx_atS RX8 138 "java/lang/IndexOutOfBoundsException" ["java/lang/RuntimeException", "java/lang/Exception"]).filter goodWord)
def wsL_unplan_r1 : List Cond := [Cond.classLink RL 21 "java/lang/IndexOutOfBoundsException", Cond.classLink RL 15 "java/lang/IllegalStateException", Cond.methodLink RL 32 yX8_unplan, Cond.instanceMethod yX8_unplan, Cond.selects RX8 yX8_unplan yX8_unplan, Cond.initialized RX8, Cond.code yX8_unplan cX8_unplan 3 (some .int), Cond.classLink RX8 55 "java/lang/IllegalStateException", Cond.initialized "java/lang/IllegalStateException", Cond.fieldLink RX8 10 "CraneCampaign" "farm" "LCraneCampaign$Farm;", Cond.fieldLink RX8 125 "CraneCampaign$Farm" "plan" "LCraneCampaign$Plan;", Cond.methodLink RX8 67 yX8_requireTurbine, Cond.instanceMethod yX8_requireTurbine, Cond.selects RX8 yX8_requireTurbine yX8_requireTurbine, Cond.code yX8_requireTurbine cX8_requireTurbine 2 none, Cond.classLink RX8 134 "java/lang/IndexOutOfBoundsException", Cond.initialized "java/lang/IndexOutOfBoundsException", Cond.methodLink RX8 319 yX2_hasTurbine, Cond.instanceMethod yX2_hasTurbine, Cond.selects RX2 yX2_hasTurbine yX2_hasTurbine, Cond.initialized RX2, Cond.code yX2_hasTurbine cX2_hasTurbine 2 (some .boolean), Cond.fieldLink RX2 17 "CraneCampaign$Farm" "turbineCount" "I", Cond.methodLink RX8 143 yX4_placeOf]
def wsL_unplan_r2 : List Cond := [Cond.instanceMethod yX4_placeOf, Cond.selects RX4 yX4_placeOf yX4_placeOf, Cond.initialized RX4, Cond.code yX4_placeOf cX4_placeOf 3 (some .int), Cond.fieldLink RX4 15 "CraneCampaign$Plan" "count" "I", Cond.fieldLink RX4 9 "CraneCampaign$Plan" "row" "[I", Cond.methodLink RX8 60 yX8_saveState, Cond.instanceMethod yX8_saveState, Cond.selects RX8 yX8_saveState yX8_saveState, Cond.code yX8_saveState cX8_saveState 1 none, Cond.fieldLink RX8 19 "CraneCampaign" "saved" "[LCraneCampaign$Farm;", Cond.fieldLink RX8 23 "CraneCampaign" "oldestSaved" "I", Cond.fieldLink RX8 27 "CraneCampaign" "savedCount" "I", Cond.methodLink RX8 215 yX2_copyFrom, Cond.instanceMethod yX2_copyFrom, Cond.selects RX2 yX2_copyFrom yX2_copyFrom, Cond.code yX2_copyFrom cX2_copyFrom 3 none, Cond.fieldLink RX2 11 "CraneCampaign$Farm" "turbines" "[LCraneCampaign$Turbine;", Cond.fieldLink RX2 24 "CraneCampaign$Farm" "bogs" "LCraneCampaign$Bogs;", Cond.fieldLink RX2 31 "CraneCampaign$Farm" "harbour" "LCraneCampaign$Harbour;", Cond.fieldLink RX2 38 "CraneCampaign$Farm" "plan" "LCraneCampaign$Plan;", Cond.fieldLink RX2 45 "CraneCampaign$Farm" "crane" "LCraneCampaign$Crane;", Cond.fieldLink RX2 52 "CraneCampaign$Farm" "winds" "LCraneCampaign$Winds;", Cond.fieldLink RX2 56 "CraneCampaign$Farm" "settings" "[I"]
def wsL_unplan_r3 : List Cond := [Cond.methodLink RX2 70 arraycopyName, Cond.native arraycopyName, Cond.static arraycopyName, Cond.initialized "java/lang/System", Cond.fieldLink RX2 60 "CraneCampaign$Farm" "lostBy" "[I", Cond.fieldLink RX2 63 "CraneCampaign$Farm" "hour" "I", Cond.methodLink RX2 76 yX5_copyFrom, Cond.instanceMethod yX5_copyFrom, Cond.selects RX5 yX5_copyFrom yX5_copyFrom, Cond.initialized RX5, Cond.code yX5_copyFrom cX5_copyFrom 2 none, Cond.fieldLink RX5 9 "CraneCampaign$Turbine" "place" "I", Cond.fieldLink RX5 15 "CraneCampaign$Turbine" "height" "I", Cond.fieldLink RX5 18 "CraneCampaign$Turbine" "rate" "I", Cond.fieldLink RX5 21 "CraneCampaign$Turbine" "fault" "I", Cond.fieldLink RX5 24 "CraneCampaign$Turbine" "age" "I", Cond.fieldLink RX5 27 "CraneCampaign$Turbine" "lost" "I", Cond.fieldLink RX5 30 "CraneCampaign$Turbine" "won" "I", Cond.methodLink RX2 80 yX0_copyFrom, Cond.instanceMethod yX0_copyFrom, Cond.selects RX0 yX0_copyFrom yX0_copyFrom, Cond.initialized RX0, Cond.code yX0_copyFrom cX0_copyFrom 2 none, Cond.fieldLink RX0 9 "CraneCampaign$Bogs" "place" "[I"]
def wsL_unplan_r4 : List Cond := [Cond.methodLink RX0 22 arraycopyName, Cond.fieldLink RX0 15 "CraneCampaign$Bogs" "need" "[I", Cond.fieldLink RX0 18 "CraneCampaign$Bogs" "count" "I", Cond.methodLink RX2 83 yX3_copyFrom, Cond.instanceMethod yX3_copyFrom, Cond.selects RX3 yX3_copyFrom yX3_copyFrom, Cond.initialized RX3, Cond.code yX3_copyFrom cX3_copyFrom 2 none, Cond.fieldLink RX3 9 "CraneCampaign$Harbour" "turbine" "[I", Cond.methodLink RX3 22 arraycopyName, Cond.fieldLink RX3 15 "CraneCampaign$Harbour" "weight" "[I", Cond.fieldLink RX3 18 "CraneCampaign$Harbour" "count" "I", Cond.methodLink RX2 86 yX4_copyFrom, Cond.instanceMethod yX4_copyFrom, Cond.selects RX4 yX4_copyFrom yX4_copyFrom, Cond.code yX4_copyFrom cX4_copyFrom 2 none, Cond.methodLink RX4 19 arraycopyName, Cond.methodLink RX2 89 yX1_copyFrom, Cond.instanceMethod yX1_copyFrom, Cond.selects RX1 yX1_copyFrom yX1_copyFrom, Cond.initialized RX1, Cond.code yX1_copyFrom cX1_copyFrom 2 none, Cond.fieldLink RX1 9 "CraneCampaign$Crane" "place" "I", Cond.fieldLink RX1 15 "CraneCampaign$Crane" "hoursLeft" "I"]
def wsL_unplan_r5 : List Cond := [Cond.fieldLink RX1 18 "CraneCampaign$Crane" "goal" "I", Cond.fieldLink RX1 21 "CraneCampaign$Crane" "workDone" "I", Cond.fieldLink RX1 24 "CraneCampaign$Crane" "workedOn" "I", Cond.methodLink RX2 92 yX7_copyFrom, Cond.instanceMethod yX7_copyFrom, Cond.selects RX7 yX7_copyFrom yX7_copyFrom, Cond.initialized RX7, Cond.code yX7_copyFrom cX7_copyFrom 2 none, Cond.fieldLink RX7 9 "CraneCampaign$Winds" "row" "[I", Cond.methodLink RX7 19 arraycopyName, Cond.fieldLink RX7 15 "CraneCampaign$Winds" "count" "I", Cond.methodLink RX8 148 yX4_removeAt, Cond.instanceMethod yX4_removeAt, Cond.selects RX4 yX4_removeAt yX4_removeAt, Cond.code yX4_removeAt cX4_removeAt 3 none]
def wsL_unplan : List Cond := .codeWith yL_unplan cL_unplan 4 (some .int) [(0, 9, 12, 21), (0, 9, 15, 15)] :: ((wsL_unplan_r1 ++ (wsL_unplan_r2 ++ (wsL_unplan_r3 ++ (wsL_unplan_r4 ++ wsL_unplan_r5)))) ++ wsX80 ++ wsX20 ++ wsX40 ++ wsX50 ++ wsX00 ++ wsX30 ++ wsX10 ++ wsX70 ++ (vx_atS RX8 59 "java/lang/IllegalStateException" ["java/lang/RuntimeException", "java/lang/Exception"]).filter goodWord ++ (vx_atS RX8 138 "java/lang/IndexOutOfBoundsException" ["java/lang/RuntimeException", "java/lang/Exception"]).filter goodWord)
def wsL_orderBlade_r1 : List Cond := [Cond.classLink RL 21 "java/lang/IndexOutOfBoundsException", Cond.classLink RL 15 "java/lang/IllegalStateException", Cond.methodLink RL 36 yX8_orderBlade, Cond.instanceMethod yX8_orderBlade, Cond.selects RX8 yX8_orderBlade yX8_orderBlade, Cond.initialized RX8, Cond.code yX8_orderBlade cX8_orderBlade 2 (some .int), Cond.classLink RX8 55 "java/lang/IllegalStateException", Cond.initialized "java/lang/IllegalStateException", Cond.fieldLink RX8 10 "CraneCampaign" "farm" "LCraneCampaign$Farm;", Cond.fieldLink RX8 151 "CraneCampaign$Farm" "harbour" "LCraneCampaign$Harbour;", Cond.fieldLink RX8 73 "CraneCampaign$Farm" "turbines" "[LCraneCampaign$Turbine;", Cond.fieldLink RX8 167 "CraneCampaign$Harbour" "count" "I", Cond.methodLink RX8 67 yX8_requireTurbine, Cond.instanceMethod yX8_requireTurbine, Cond.selects RX8 yX8_requireTurbine yX8_requireTurbine, Cond.code yX8_requireTurbine cX8_requireTurbine 2 none, Cond.classLink RX8 134 "java/lang/IndexOutOfBoundsException", Cond.initialized "java/lang/IndexOutOfBoundsException", Cond.methodLink RX8 319 yX2_hasTurbine, Cond.instanceMethod yX2_hasTurbine, Cond.selects RX2 yX2_hasTurbine yX2_hasTurbine, Cond.initialized RX2, Cond.code yX2_hasTurbine cX2_hasTurbine 2 (some .boolean)]
def wsL_orderBlade_r2 : List Cond := [Cond.fieldLink RX2 17 "CraneCampaign$Farm" "turbineCount" "I", Cond.methodLink RX8 155 yX3_isFull, Cond.instanceMethod yX3_isFull, Cond.selects RX3 yX3_isFull yX3_isFull, Cond.initialized RX3, Cond.code yX3_isFull cX3_isFull 1 (some .boolean), Cond.fieldLink RX3 18 "CraneCampaign$Harbour" "count" "I", Cond.methodLink RX8 60 yX8_saveState, Cond.instanceMethod yX8_saveState, Cond.selects RX8 yX8_saveState yX8_saveState, Cond.code yX8_saveState cX8_saveState 1 none, Cond.fieldLink RX8 19 "CraneCampaign" "saved" "[LCraneCampaign$Farm;", Cond.fieldLink RX8 23 "CraneCampaign" "oldestSaved" "I", Cond.fieldLink RX8 27 "CraneCampaign" "savedCount" "I", Cond.methodLink RX8 215 yX2_copyFrom, Cond.instanceMethod yX2_copyFrom, Cond.selects RX2 yX2_copyFrom yX2_copyFrom, Cond.code yX2_copyFrom cX2_copyFrom 3 none, Cond.fieldLink RX2 11 "CraneCampaign$Farm" "turbines" "[LCraneCampaign$Turbine;", Cond.fieldLink RX2 24 "CraneCampaign$Farm" "bogs" "LCraneCampaign$Bogs;", Cond.fieldLink RX2 31 "CraneCampaign$Farm" "harbour" "LCraneCampaign$Harbour;", Cond.fieldLink RX2 38 "CraneCampaign$Farm" "plan" "LCraneCampaign$Plan;", Cond.fieldLink RX2 45 "CraneCampaign$Farm" "crane" "LCraneCampaign$Crane;", Cond.fieldLink RX2 52 "CraneCampaign$Farm" "winds" "LCraneCampaign$Winds;"]
def wsL_orderBlade_r3 : List Cond := [Cond.fieldLink RX2 56 "CraneCampaign$Farm" "settings" "[I", Cond.methodLink RX2 70 arraycopyName, Cond.native arraycopyName, Cond.static arraycopyName, Cond.initialized "java/lang/System", Cond.fieldLink RX2 60 "CraneCampaign$Farm" "lostBy" "[I", Cond.fieldLink RX2 63 "CraneCampaign$Farm" "hour" "I", Cond.methodLink RX2 76 yX5_copyFrom, Cond.instanceMethod yX5_copyFrom, Cond.selects RX5 yX5_copyFrom yX5_copyFrom, Cond.initialized RX5, Cond.code yX5_copyFrom cX5_copyFrom 2 none, Cond.fieldLink RX5 9 "CraneCampaign$Turbine" "place" "I", Cond.fieldLink RX5 15 "CraneCampaign$Turbine" "height" "I", Cond.fieldLink RX5 18 "CraneCampaign$Turbine" "rate" "I", Cond.fieldLink RX5 21 "CraneCampaign$Turbine" "fault" "I", Cond.fieldLink RX5 24 "CraneCampaign$Turbine" "age" "I", Cond.fieldLink RX5 27 "CraneCampaign$Turbine" "lost" "I", Cond.fieldLink RX5 30 "CraneCampaign$Turbine" "won" "I", Cond.methodLink RX2 80 yX0_copyFrom, Cond.instanceMethod yX0_copyFrom, Cond.selects RX0 yX0_copyFrom yX0_copyFrom, Cond.initialized RX0, Cond.code yX0_copyFrom cX0_copyFrom 2 none]
def wsL_orderBlade_r4 : List Cond := [Cond.fieldLink RX0 9 "CraneCampaign$Bogs" "place" "[I", Cond.methodLink RX0 22 arraycopyName, Cond.fieldLink RX0 15 "CraneCampaign$Bogs" "need" "[I", Cond.fieldLink RX0 18 "CraneCampaign$Bogs" "count" "I", Cond.methodLink RX2 83 yX3_copyFrom, Cond.instanceMethod yX3_copyFrom, Cond.selects RX3 yX3_copyFrom yX3_copyFrom, Cond.code yX3_copyFrom cX3_copyFrom 2 none, Cond.fieldLink RX3 9 "CraneCampaign$Harbour" "turbine" "[I", Cond.methodLink RX3 22 arraycopyName, Cond.fieldLink RX3 15 "CraneCampaign$Harbour" "weight" "[I", Cond.methodLink RX2 86 yX4_copyFrom, Cond.instanceMethod yX4_copyFrom, Cond.selects RX4 yX4_copyFrom yX4_copyFrom, Cond.initialized RX4, Cond.code yX4_copyFrom cX4_copyFrom 2 none, Cond.fieldLink RX4 9 "CraneCampaign$Plan" "row" "[I", Cond.methodLink RX4 19 arraycopyName, Cond.fieldLink RX4 15 "CraneCampaign$Plan" "count" "I", Cond.methodLink RX2 89 yX1_copyFrom, Cond.instanceMethod yX1_copyFrom, Cond.selects RX1 yX1_copyFrom yX1_copyFrom, Cond.initialized RX1, Cond.code yX1_copyFrom cX1_copyFrom 2 none]
def wsL_orderBlade_r5 : List Cond := [Cond.fieldLink RX1 9 "CraneCampaign$Crane" "place" "I", Cond.fieldLink RX1 15 "CraneCampaign$Crane" "hoursLeft" "I", Cond.fieldLink RX1 18 "CraneCampaign$Crane" "goal" "I", Cond.fieldLink RX1 21 "CraneCampaign$Crane" "workDone" "I", Cond.fieldLink RX1 24 "CraneCampaign$Crane" "workedOn" "I", Cond.methodLink RX2 92 yX7_copyFrom, Cond.instanceMethod yX7_copyFrom, Cond.selects RX7 yX7_copyFrom yX7_copyFrom, Cond.initialized RX7, Cond.code yX7_copyFrom cX7_copyFrom 2 none, Cond.fieldLink RX7 9 "CraneCampaign$Winds" "row" "[I", Cond.methodLink RX7 19 arraycopyName, Cond.fieldLink RX7 15 "CraneCampaign$Winds" "count" "I", Cond.methodLink RX8 160 yX5_bladeWeight, Cond.instanceMethod yX5_bladeWeight, Cond.selects RX5 yX5_bladeWeight yX5_bladeWeight, Cond.code yX5_bladeWeight cX5_bladeWeight 1 (some .int), Cond.methodLink RX8 164 yX3_take, Cond.instanceMethod yX3_take, Cond.selects RX3 yX3_take yX3_take, Cond.code yX3_take cX3_take 3 none, Cond.methodLink RX3 28 yX3_isFull]
def wsL_orderBlade : List Cond := .codeWith yL_orderBlade cL_orderBlade 4 (some .int) [(0, 9, 12, 21), (0, 9, 15, 15)] :: ((wsL_orderBlade_r1 ++ (wsL_orderBlade_r2 ++ (wsL_orderBlade_r3 ++ (wsL_orderBlade_r4 ++ wsL_orderBlade_r5)))) ++ wsX80 ++ wsX20 ++ wsX30 ++ wsX50 ++ wsX00 ++ wsX40 ++ wsX10 ++ wsX70 ++ (vx_atS RX8 59 "java/lang/IllegalStateException" ["java/lang/RuntimeException", "java/lang/Exception"]).filter goodWord ++ (vx_atS RX8 138 "java/lang/IndexOutOfBoundsException" ["java/lang/RuntimeException", "java/lang/Exception"]).filter goodWord)
def wsL_pass_r1 : List Cond := [Cond.classLink RL 13 "java/lang/IllegalArgumentException", Cond.classLink RL 15 "java/lang/IllegalStateException", Cond.methodLink RL 39 yX8_pass, Cond.instanceMethod yX8_pass, Cond.selects RX8 yX8_pass yX8_pass, Cond.initialized RX8, Cond.code yX8_pass cX8_pass 2 (some .int), Cond.classLink RX8 41 "java/lang/IllegalArgumentException", Cond.initialized "java/lang/IllegalArgumentException", Cond.classLink RX8 55 "java/lang/IllegalStateException", Cond.initialized "java/lang/IllegalStateException", Cond.fieldLink RX8 10 "CraneCampaign" "farm" "LCraneCampaign$Farm;", Cond.fieldLink RX8 170 "CraneCampaign$Farm" "hour" "I", Cond.methodLink RX8 37 yX8_isWithin, Cond.static yX8_isWithin, Cond.code yX8_isWithin cX8_isWithin 3 (some .boolean), Cond.methodLink RX8 60 yX8_saveState, Cond.instanceMethod yX8_saveState, Cond.selects RX8 yX8_saveState yX8_saveState, Cond.code yX8_saveState cX8_saveState 1 none, Cond.fieldLink RX8 19 "CraneCampaign" "saved" "[LCraneCampaign$Farm;", Cond.fieldLink RX8 23 "CraneCampaign" "oldestSaved" "I", Cond.fieldLink RX8 27 "CraneCampaign" "savedCount" "I", Cond.methodLink RX8 215 yX2_copyFrom]
def wsL_pass_r2 : List Cond := [Cond.instanceMethod yX2_copyFrom, Cond.selects RX2 yX2_copyFrom yX2_copyFrom, Cond.initialized RX2, Cond.code yX2_copyFrom cX2_copyFrom 3 none, Cond.fieldLink RX2 17 "CraneCampaign$Farm" "turbineCount" "I", Cond.fieldLink RX2 11 "CraneCampaign$Farm" "turbines" "[LCraneCampaign$Turbine;", Cond.fieldLink RX2 24 "CraneCampaign$Farm" "bogs" "LCraneCampaign$Bogs;", Cond.fieldLink RX2 31 "CraneCampaign$Farm" "harbour" "LCraneCampaign$Harbour;", Cond.fieldLink RX2 38 "CraneCampaign$Farm" "plan" "LCraneCampaign$Plan;", Cond.fieldLink RX2 45 "CraneCampaign$Farm" "crane" "LCraneCampaign$Crane;", Cond.fieldLink RX2 52 "CraneCampaign$Farm" "winds" "LCraneCampaign$Winds;", Cond.fieldLink RX2 56 "CraneCampaign$Farm" "settings" "[I", Cond.methodLink RX2 70 arraycopyName, Cond.native arraycopyName, Cond.static arraycopyName, Cond.initialized "java/lang/System", Cond.fieldLink RX2 60 "CraneCampaign$Farm" "lostBy" "[I", Cond.fieldLink RX2 63 "CraneCampaign$Farm" "hour" "I", Cond.methodLink RX2 76 yX5_copyFrom, Cond.instanceMethod yX5_copyFrom, Cond.selects RX5 yX5_copyFrom yX5_copyFrom, Cond.initialized RX5, Cond.code yX5_copyFrom cX5_copyFrom 2 none, Cond.fieldLink RX5 9 "CraneCampaign$Turbine" "place" "I"]
def wsL_pass_r3 : List Cond := [Cond.fieldLink RX5 15 "CraneCampaign$Turbine" "height" "I", Cond.fieldLink RX5 18 "CraneCampaign$Turbine" "rate" "I", Cond.fieldLink RX5 21 "CraneCampaign$Turbine" "fault" "I", Cond.fieldLink RX5 24 "CraneCampaign$Turbine" "age" "I", Cond.fieldLink RX5 27 "CraneCampaign$Turbine" "lost" "I", Cond.fieldLink RX5 30 "CraneCampaign$Turbine" "won" "I", Cond.methodLink RX2 80 yX0_copyFrom, Cond.instanceMethod yX0_copyFrom, Cond.selects RX0 yX0_copyFrom yX0_copyFrom, Cond.initialized RX0, Cond.code yX0_copyFrom cX0_copyFrom 2 none, Cond.fieldLink RX0 9 "CraneCampaign$Bogs" "place" "[I", Cond.methodLink RX0 22 arraycopyName, Cond.fieldLink RX0 15 "CraneCampaign$Bogs" "need" "[I", Cond.fieldLink RX0 18 "CraneCampaign$Bogs" "count" "I", Cond.methodLink RX2 83 yX3_copyFrom, Cond.instanceMethod yX3_copyFrom, Cond.selects RX3 yX3_copyFrom yX3_copyFrom, Cond.initialized RX3, Cond.code yX3_copyFrom cX3_copyFrom 2 none, Cond.fieldLink RX3 9 "CraneCampaign$Harbour" "turbine" "[I", Cond.methodLink RX3 22 arraycopyName, Cond.fieldLink RX3 15 "CraneCampaign$Harbour" "weight" "[I", Cond.fieldLink RX3 18 "CraneCampaign$Harbour" "count" "I"]
def wsL_pass_r4 : List Cond := [Cond.methodLink RX2 86 yX4_copyFrom, Cond.instanceMethod yX4_copyFrom, Cond.selects RX4 yX4_copyFrom yX4_copyFrom, Cond.initialized RX4, Cond.code yX4_copyFrom cX4_copyFrom 2 none, Cond.fieldLink RX4 9 "CraneCampaign$Plan" "row" "[I", Cond.methodLink RX4 19 arraycopyName, Cond.fieldLink RX4 15 "CraneCampaign$Plan" "count" "I", Cond.methodLink RX2 89 yX1_copyFrom, Cond.instanceMethod yX1_copyFrom, Cond.selects RX1 yX1_copyFrom yX1_copyFrom, Cond.initialized RX1, Cond.code yX1_copyFrom cX1_copyFrom 2 none, Cond.fieldLink RX1 9 "CraneCampaign$Crane" "place" "I", Cond.fieldLink RX1 15 "CraneCampaign$Crane" "hoursLeft" "I", Cond.fieldLink RX1 18 "CraneCampaign$Crane" "goal" "I", Cond.fieldLink RX1 21 "CraneCampaign$Crane" "workDone" "I", Cond.fieldLink RX1 24 "CraneCampaign$Crane" "workedOn" "I", Cond.methodLink RX2 92 yX7_copyFrom, Cond.instanceMethod yX7_copyFrom, Cond.selects RX7 yX7_copyFrom yX7_copyFrom, Cond.initialized RX7, Cond.code yX7_copyFrom cX7_copyFrom 2 none, Cond.fieldLink RX7 9 "CraneCampaign$Winds" "row" "[I"]
def wsL_pass_r5 : List Cond := [Cond.methodLink RX7 19 arraycopyName, Cond.fieldLink RX7 15 "CraneCampaign$Winds" "count" "I", Cond.methodLink RX8 175 yX2_runHours, Cond.instanceMethod yX2_runHours, Cond.selects RX2 yX2_runHours yX2_runHours, Cond.code yX2_runHours cX2_runHours 4 (some .int), Cond.methodLink RX2 172 yX2_runHour, Cond.instanceMethod yX2_runHour, Cond.selects RX2 yX2_runHour yX2_runHour, Cond.code yX2_runHour cX2_runHour 4 (some .int), Cond.methodLink RX2 175 yX3_unload, Cond.instanceMethod yX3_unload, Cond.selects RX3 yX3_unload yX3_unload, Cond.code yX3_unload cX3_unload 5 none, Cond.methodLink RX3 32 Lib.Math.min.name, Cond.static Lib.Math.min.name, Cond.initialized "java/lang/Math", Cond.code Lib.Math.min.name Lib.Math.min.code 2 (some .int), Cond.methodLink RX2 179 yX2_dropFaultless, Cond.instanceMethod yX2_dropFaultless, Cond.selects RX2 yX2_dropFaultless yX2_dropFaultless, Cond.code yX2_dropFaultless cX2_dropFaultless 3 none, Cond.fieldLink RX2 153 "CraneCampaign$Plan" "count" "I", Cond.fieldLink RX2 197 "CraneCampaign$Crane" "workedOn" "I"]
def wsL_pass_r6 : List Cond := [Cond.fieldLink RX2 102 "CraneCampaign$Turbine" "fault" "I", Cond.methodLink RX2 182 yX4_first, Cond.instanceMethod yX4_first, Cond.selects RX4 yX4_first yX4_first, Cond.code yX4_first cX4_first 1 (some .int), Cond.methodLink RX2 200 yX1_forgetWork, Cond.instanceMethod yX1_forgetWork, Cond.selects RX1 yX1_forgetWork yX1_forgetWork, Cond.code yX1_forgetWork cX1_forgetWork 1 none, Cond.methodLink RX2 112 yX2_hasTurbine, Cond.instanceMethod yX2_hasTurbine, Cond.selects RX2 yX2_hasTurbine yX2_hasTurbine, Cond.code yX2_hasTurbine cX2_hasTurbine 2 (some .boolean), Cond.methodLink RX2 203 yX4_removeAt, Cond.instanceMethod yX4_removeAt, Cond.selects RX4 yX4_removeAt yX4_removeAt, Cond.code yX4_removeAt cX4_removeAt 3 none, Cond.methodLink RX2 185 yX2_serve, Cond.instanceMethod yX2_serve, Cond.selects RX2 yX2_serve yX2_serve, Cond.code yX2_serve cX2_serve 3 (some .int), Cond.fieldLink RX2 210 "CraneCampaign$Crane" "place" "I", Cond.fieldLink RX2 95 "CraneCampaign$Turbine" "place" "I", Cond.methodLink RX2 206 yX1_isOnWay]
def wsL_pass_r7 : List Cond := [Cond.instanceMethod yX1_isOnWay, Cond.selects RX1 yX1_isOnWay yX1_isOnWay, Cond.code yX1_isOnWay cX1_isOnWay 1 (some .boolean), Cond.methodLink RX2 211 yX2_hoursBetween, Cond.instanceMethod yX2_hoursBetween, Cond.selects RX2 yX2_hoursBetween yX2_hoursBetween, Cond.code yX2_hoursBetween cX2_hoursBetween 6 (some .int), Cond.methodLink RX2 156 Lib.Math.max.name, Cond.static Lib.Math.max.name, Cond.code Lib.Math.max.name Lib.Math.max.code 2 (some .int), Cond.methodLink RX2 162 Lib.Math.abs.name, Cond.static Lib.Math.abs.name, Cond.code Lib.Math.abs.name Lib.Math.abs.code 1 (some .int), Cond.methodLink RX2 165 Lib.Math.min.name, Cond.methodLink RX2 168 yX0_countBetween, Cond.instanceMethod yX0_countBetween, Cond.selects RX0 yX0_countBetween yX0_countBetween, Cond.code yX0_countBetween cX0_countBetween 6 (some .int), Cond.methodLink RX2 214 yX1_driveTo, Cond.instanceMethod yX1_driveTo, Cond.selects RX1 yX1_driveTo yX1_driveTo, Cond.code yX1_driveTo cX1_driveTo 4 none, Cond.methodLink RX1 27 Lib.Math.max.name, Cond.methodLink RX2 131 yX3_unloadedFor]
def wsL_pass_r8 : List Cond := [Cond.instanceMethod yX3_unloadedFor, Cond.selects RX3 yX3_unloadedFor yX3_unloadedFor, Cond.code yX3_unloadedFor cX3_unloadedFor 4 (some .int), Cond.methodLink RX2 137 yX2_windNow, Cond.instanceMethod yX2_windNow, Cond.selects RX2 yX2_windNow yX2_windNow, Cond.code yX2_windNow cX2_windNow 1 (some .int), Cond.methodLink RX2 108 yX7_at, Cond.instanceMethod yX7_at, Cond.selects RX7 yX7_at yX7_at, Cond.code yX7_at cX7_at 2 (some .int), Cond.methodLink RX2 125 yX5_limit, Cond.instanceMethod yX5_limit, Cond.selects RX5 yX5_limit yX5_limit, Cond.code yX5_limit cX5_limit 2 (some .int), Cond.methodLink RX2 217 yX1_workAnHourOn, Cond.instanceMethod yX1_workAnHourOn, Cond.selects RX1 yX1_workAnHourOn yX1_workAnHourOn, Cond.code yX1_workAnHourOn cX1_workAnHourOn 2 none, Cond.methodLink RX2 188 yX2_sharePower, Cond.instanceMethod yX2_sharePower, Cond.selects RX2 yX2_sharePower yX2_sharePower, Cond.code yX2_sharePower cX2_sharePower 9 (some .int), Cond.fieldLink RX2 134 "CraneCampaign$Turbine" "lost" "I"]
def wsL_pass_r9 : List Cond := [Cond.fieldLink RX2 105 "CraneCampaign$Turbine" "won" "I", Cond.methodLink RX2 141 yX5_fullPower, Cond.instanceMethod yX5_fullPower, Cond.selects RX5 yX5_fullPower yX5_fullPower, Cond.code yX5_fullPower cX5_fullPower 2 (some .int), Cond.methodLink RX5 33 Lib.Math.min.name, Cond.methodLink RX2 191 yX2_finishIfDone, Cond.instanceMethod yX2_finishIfDone, Cond.selects RX2 yX2_finishIfDone yX2_finishIfDone, Cond.code yX2_finishIfDone cX2_finishIfDone 2 none, Cond.fieldLink RX2 220 "CraneCampaign$Crane" "workDone" "I", Cond.fieldLink RX2 122 "CraneCampaign$Turbine" "age" "I", Cond.methodLink RX2 223 yX3_useBladeFor, Cond.instanceMethod yX3_useBladeFor, Cond.selects RX3 yX3_useBladeFor yX3_useBladeFor, Cond.code yX3_useBladeFor cX3_useBladeFor 3 none, Cond.methodLink RX3 38 yX3_removeAt, Cond.instanceMethod yX3_removeAt, Cond.selects RX3 yX3_removeAt yX3_removeAt, Cond.code yX3_removeAt cX3_removeAt 3 none, Cond.methodLink RX2 128 yX4_placeOf, Cond.instanceMethod yX4_placeOf, Cond.selects RX4 yX4_placeOf yX4_placeOf, Cond.code yX4_placeOf cX4_placeOf 3 (some .int)]
def wsL_pass_r10 : List Cond := [Cond.methodLink RX2 194 yX2_worsen, Cond.instanceMethod yX2_worsen, Cond.selects RX2 yX2_worsen yX2_worsen, Cond.code yX2_worsen cX2_worsen 3 none, Cond.methodLink RX2 226 yX5_growOlder, Cond.instanceMethod yX5_growOlder, Cond.selects RX5 yX5_growOlder yX5_growOlder, Cond.code yX5_growOlder cX5_growOlder 2 none]
def wsL_pass : List Cond := .codeWith yL_pass cL_pass 4 (some .int) [(0, 9, 12, 13), (0, 9, 15, 15)] :: ((wsL_pass_r1 ++ (wsL_pass_r2 ++ (wsL_pass_r3 ++ (wsL_pass_r4 ++ (wsL_pass_r5 ++ (wsL_pass_r6 ++ (wsL_pass_r7 ++ (wsL_pass_r8 ++ (wsL_pass_r9 ++ wsL_pass_r10))))))))) ++ wsX80 ++ wsX20 ++ wsX50 ++ wsX00 ++ wsX30 ++ wsX40 ++ wsX10 ++ wsX70 ++ (vx_atS RX8 45 "java/lang/IllegalArgumentException" ["java/lang/RuntimeException", "java/lang/Exception"]).filter goodWord ++ (vx_atS RX8 59 "java/lang/IllegalStateException" ["java/lang/RuntimeException", "java/lang/Exception"]).filter goodWord)
def wsL_append_r1 : List Cond := [Cond.classLink RL 13 "java/lang/IllegalArgumentException", Cond.classLink RL 15 "java/lang/IllegalStateException", Cond.methodLink RL 42 yX8_append, Cond.instanceMethod yX8_append, Cond.selects RX8 yX8_append yX8_append, Cond.initialized RX8, Cond.code yX8_append cX8_append 2 (some .int), Cond.classLink RX8 41 "java/lang/IllegalArgumentException", Cond.initialized "java/lang/IllegalArgumentException", Cond.classLink RX8 55 "java/lang/IllegalStateException", Cond.initialized "java/lang/IllegalStateException", Cond.fieldLink RX8 33 "CraneCampaign" "buffer" "LCraneCampaign$WindText;", Cond.fieldLink RX8 186 "CraneCampaign$WindText" "length" "I", Cond.methodLink RX8 37 yX8_isWithin, Cond.static yX8_isWithin, Cond.code yX8_isWithin cX8_isWithin 3 (some .boolean), Cond.methodLink RX8 180 yX6_isFull, Cond.instanceMethod yX6_isFull, Cond.selects RX6 yX6_isFull yX6_isFull, Cond.initialized RX6, Cond.code yX6_isFull cX6_isFull 1 (some .boolean), Cond.fieldLink RX6 15 "CraneCampaign$WindText" "length" "I", Cond.methodLink RX8 183 yX6_add, Cond.instanceMethod yX6_add]
def wsL_append_r2 : List Cond := [Cond.selects RX6 yX6_add yX6_add, Cond.code yX6_add cX6_add 2 none, Cond.fieldLink RX6 9 "CraneCampaign$WindText" "letters" "[I", Cond.methodLink RX6 19 yX6_isFull]
def wsL_append : List Cond := .codeWith yL_append cL_append 4 (some .int) [(0, 9, 12, 13), (0, 9, 15, 15)] :: ((wsL_append_r1 ++ wsL_append_r2) ++ wsX80 ++ wsX60 ++ (vx_atS RX8 45 "java/lang/IllegalArgumentException" ["java/lang/RuntimeException", "java/lang/Exception"]).filter goodWord ++ (vx_atS RX8 59 "java/lang/IllegalStateException" ["java/lang/RuntimeException", "java/lang/Exception"]).filter goodWord)
def wsL_load_r1 : List Cond := [Cond.classLink RL 13 "java/lang/IllegalArgumentException", Cond.classLink RL 15 "java/lang/IllegalStateException", Cond.methodLink RL 45 yX8_load, Cond.instanceMethod yX8_load, Cond.selects RX8 yX8_load yX8_load, Cond.initialized RX8, Cond.code yX8_load cX8_load 1 (some .int), Cond.classLink RX8 41 "java/lang/IllegalArgumentException", Cond.initialized "java/lang/IllegalArgumentException", Cond.classLink RX8 55 "java/lang/IllegalStateException", Cond.initialized "java/lang/IllegalStateException", Cond.fieldLink RX8 33 "CraneCampaign" "buffer" "LCraneCampaign$WindText;", Cond.fieldLink RX8 10 "CraneCampaign" "farm" "LCraneCampaign$Farm;", Cond.fieldLink RX8 202 "CraneCampaign$Farm" "winds" "LCraneCampaign$Winds;", Cond.fieldLink RX8 186 "CraneCampaign$WindText" "length" "I", Cond.fieldLink RX8 210 "CraneCampaign$Winds" "count" "I", Cond.methodLink RX8 192 yX6_isComplete, Cond.instanceMethod yX6_isComplete, Cond.selects RX6 yX6_isComplete yX6_isComplete, Cond.initialized RX6, Cond.code yX6_isComplete cX6_isComplete 3 (some .boolean), Cond.fieldLink RX6 15 "CraneCampaign$WindText" "length" "I", Cond.fieldLink RX6 9 "CraneCampaign$WindText" "letters" "[I", Cond.methodLink RX6 23 yX6_after]
def wsL_load_r2 : List Cond := [Cond.static yX6_after, Cond.code yX6_after cX6_after 2 (some .int), Cond.methodLink RX6 27 yX6_isEndOfPart, Cond.static yX6_isEndOfPart, Cond.code yX6_isEndOfPart cX6_isEndOfPart 1 (some .boolean), Cond.methodLink RX6 31 yX6_isNumber, Cond.static yX6_isNumber, Cond.code yX6_isNumber cX6_isNumber 1 (some .boolean), Cond.methodLink RX6 34 yX6_afterDigit, Cond.static yX6_afterDigit, Cond.code yX6_afterDigit cX6_afterDigit 2 (some .int), Cond.methodLink RX6 37 yX6_afterFirstOfNumber, Cond.static yX6_afterFirstOfNumber, Cond.code yX6_afterFirstOfNumber cX6_afterFirstOfNumber 1 (some .int), Cond.methodLink RX6 41 yX6_afterFirstOfTimes, Cond.static yX6_afterFirstOfTimes, Cond.code yX6_afterFirstOfTimes cX6_afterFirstOfTimes 1 (some .int), Cond.methodLink RX8 197 yX6_numberCount, Cond.instanceMethod yX6_numberCount, Cond.selects RX6 yX6_numberCount yX6_numberCount, Cond.code yX6_numberCount cX6_numberCount 3 (some .int), Cond.methodLink RX6 44 yX6_timesFrom, Cond.instanceMethod yX6_timesFrom, Cond.selects RX6 yX6_timesFrom yX6_timesFrom]
def wsL_load_r3 : List Cond := [Cond.code yX6_timesFrom cX6_timesFrom 3 (some .int), Cond.methodLink RX6 52 yX6_valueFrom, Cond.instanceMethod yX6_valueFrom, Cond.selects RX6 yX6_valueFrom yX6_valueFrom, Cond.code yX6_valueFrom cX6_valueFrom 4 (some .int), Cond.methodLink RX8 60 yX8_saveState, Cond.instanceMethod yX8_saveState, Cond.selects RX8 yX8_saveState yX8_saveState, Cond.code yX8_saveState cX8_saveState 1 none, Cond.fieldLink RX8 19 "CraneCampaign" "saved" "[LCraneCampaign$Farm;", Cond.fieldLink RX8 23 "CraneCampaign" "oldestSaved" "I", Cond.fieldLink RX8 27 "CraneCampaign" "savedCount" "I", Cond.methodLink RX8 215 yX2_copyFrom, Cond.instanceMethod yX2_copyFrom, Cond.selects RX2 yX2_copyFrom yX2_copyFrom, Cond.initialized RX2, Cond.code yX2_copyFrom cX2_copyFrom 3 none, Cond.fieldLink RX2 17 "CraneCampaign$Farm" "turbineCount" "I", Cond.fieldLink RX2 11 "CraneCampaign$Farm" "turbines" "[LCraneCampaign$Turbine;", Cond.fieldLink RX2 24 "CraneCampaign$Farm" "bogs" "LCraneCampaign$Bogs;", Cond.fieldLink RX2 31 "CraneCampaign$Farm" "harbour" "LCraneCampaign$Harbour;", Cond.fieldLink RX2 38 "CraneCampaign$Farm" "plan" "LCraneCampaign$Plan;", Cond.fieldLink RX2 45 "CraneCampaign$Farm" "crane" "LCraneCampaign$Crane;", Cond.fieldLink RX2 52 "CraneCampaign$Farm" "winds" "LCraneCampaign$Winds;"]
def wsL_load_r4 : List Cond := [Cond.fieldLink RX2 56 "CraneCampaign$Farm" "settings" "[I", Cond.methodLink RX2 70 arraycopyName, Cond.native arraycopyName, Cond.static arraycopyName, Cond.initialized "java/lang/System", Cond.fieldLink RX2 60 "CraneCampaign$Farm" "lostBy" "[I", Cond.fieldLink RX2 63 "CraneCampaign$Farm" "hour" "I", Cond.methodLink RX2 76 yX5_copyFrom, Cond.instanceMethod yX5_copyFrom, Cond.selects RX5 yX5_copyFrom yX5_copyFrom, Cond.initialized RX5, Cond.code yX5_copyFrom cX5_copyFrom 2 none, Cond.fieldLink RX5 9 "CraneCampaign$Turbine" "place" "I", Cond.fieldLink RX5 15 "CraneCampaign$Turbine" "height" "I", Cond.fieldLink RX5 18 "CraneCampaign$Turbine" "rate" "I", Cond.fieldLink RX5 21 "CraneCampaign$Turbine" "fault" "I", Cond.fieldLink RX5 24 "CraneCampaign$Turbine" "age" "I", Cond.fieldLink RX5 27 "CraneCampaign$Turbine" "lost" "I", Cond.fieldLink RX5 30 "CraneCampaign$Turbine" "won" "I", Cond.methodLink RX2 80 yX0_copyFrom, Cond.instanceMethod yX0_copyFrom, Cond.selects RX0 yX0_copyFrom yX0_copyFrom, Cond.initialized RX0, Cond.code yX0_copyFrom cX0_copyFrom 2 none]
def wsL_load_r5 : List Cond := [Cond.fieldLink RX0 9 "CraneCampaign$Bogs" "place" "[I", Cond.methodLink RX0 22 arraycopyName, Cond.fieldLink RX0 15 "CraneCampaign$Bogs" "need" "[I", Cond.fieldLink RX0 18 "CraneCampaign$Bogs" "count" "I", Cond.methodLink RX2 83 yX3_copyFrom, Cond.instanceMethod yX3_copyFrom, Cond.selects RX3 yX3_copyFrom yX3_copyFrom, Cond.initialized RX3, Cond.code yX3_copyFrom cX3_copyFrom 2 none, Cond.fieldLink RX3 9 "CraneCampaign$Harbour" "turbine" "[I", Cond.methodLink RX3 22 arraycopyName, Cond.fieldLink RX3 15 "CraneCampaign$Harbour" "weight" "[I", Cond.fieldLink RX3 18 "CraneCampaign$Harbour" "count" "I", Cond.methodLink RX2 86 yX4_copyFrom, Cond.instanceMethod yX4_copyFrom, Cond.selects RX4 yX4_copyFrom yX4_copyFrom, Cond.initialized RX4, Cond.code yX4_copyFrom cX4_copyFrom 2 none, Cond.fieldLink RX4 9 "CraneCampaign$Plan" "row" "[I", Cond.methodLink RX4 19 arraycopyName, Cond.fieldLink RX4 15 "CraneCampaign$Plan" "count" "I", Cond.methodLink RX2 89 yX1_copyFrom, Cond.instanceMethod yX1_copyFrom, Cond.selects RX1 yX1_copyFrom yX1_copyFrom]
def wsL_load_r6 : List Cond := [Cond.initialized RX1, Cond.code yX1_copyFrom cX1_copyFrom 2 none, Cond.fieldLink RX1 9 "CraneCampaign$Crane" "place" "I", Cond.fieldLink RX1 15 "CraneCampaign$Crane" "hoursLeft" "I", Cond.fieldLink RX1 18 "CraneCampaign$Crane" "goal" "I", Cond.fieldLink RX1 21 "CraneCampaign$Crane" "workDone" "I", Cond.fieldLink RX1 24 "CraneCampaign$Crane" "workedOn" "I", Cond.methodLink RX2 92 yX7_copyFrom, Cond.instanceMethod yX7_copyFrom, Cond.selects RX7 yX7_copyFrom yX7_copyFrom, Cond.initialized RX7, Cond.code yX7_copyFrom cX7_copyFrom 2 none, Cond.fieldLink RX7 9 "CraneCampaign$Winds" "row" "[I", Cond.methodLink RX7 19 arraycopyName, Cond.fieldLink RX7 15 "CraneCampaign$Winds" "count" "I", Cond.methodLink RX8 206 yX6_writeTo, Cond.instanceMethod yX6_writeTo, Cond.selects RX6 yX6_writeTo yX6_writeTo, Cond.code yX6_writeTo cX6_writeTo 6 none, Cond.fieldLink RX6 47 "CraneCampaign$Winds" "count" "I", Cond.methodLink RX6 55 yX7_add, Cond.instanceMethod yX7_add, Cond.selects RX7 yX7_add yX7_add, Cond.code yX7_add cX7_add 2 none]
def wsL_load : List Cond := .codeWith yL_load cL_load 3 (some .int) [(0, 8, 11, 13), (0, 8, 14, 15)] :: ((wsL_load_r1 ++ (wsL_load_r2 ++ (wsL_load_r3 ++ (wsL_load_r4 ++ (wsL_load_r5 ++ wsL_load_r6))))) ++ wsX80 ++ wsX20 ++ wsX60 ++ wsX70 ++ wsX50 ++ wsX00 ++ wsX30 ++ wsX40 ++ wsX10 ++ (vx_atS RX8 45 "java/lang/IllegalArgumentException" ["java/lang/RuntimeException", "java/lang/Exception"]).filter goodWord ++ (vx_atS RX8 59 "java/lang/IllegalStateException" ["java/lang/RuntimeException", "java/lang/Exception"]).filter goodWord)
def wsL_undo_r1 : List Cond := [Cond.classLink RL 15 "java/lang/IllegalStateException", Cond.methodLink RL 49 yX8_undo, Cond.instanceMethod yX8_undo, Cond.selects RX8 yX8_undo yX8_undo, Cond.initialized RX8, Cond.code yX8_undo cX8_undo 1 (some .int), Cond.classLink RX8 55 "java/lang/IllegalStateException", Cond.initialized "java/lang/IllegalStateException", Cond.fieldLink RX8 27 "CraneCampaign" "savedCount" "I", Cond.fieldLink RX8 10 "CraneCampaign" "farm" "LCraneCampaign$Farm;", Cond.fieldLink RX8 19 "CraneCampaign" "saved" "[LCraneCampaign$Farm;", Cond.fieldLink RX8 23 "CraneCampaign" "oldestSaved" "I", Cond.methodLink RX8 215 yX2_copyFrom, Cond.instanceMethod yX2_copyFrom, Cond.selects RX2 yX2_copyFrom yX2_copyFrom, Cond.initialized RX2, Cond.code yX2_copyFrom cX2_copyFrom 3 none, Cond.fieldLink RX2 17 "CraneCampaign$Farm" "turbineCount" "I", Cond.fieldLink RX2 11 "CraneCampaign$Farm" "turbines" "[LCraneCampaign$Turbine;", Cond.fieldLink RX2 24 "CraneCampaign$Farm" "bogs" "LCraneCampaign$Bogs;", Cond.fieldLink RX2 31 "CraneCampaign$Farm" "harbour" "LCraneCampaign$Harbour;", Cond.fieldLink RX2 38 "CraneCampaign$Farm" "plan" "LCraneCampaign$Plan;", Cond.fieldLink RX2 45 "CraneCampaign$Farm" "crane" "LCraneCampaign$Crane;", Cond.fieldLink RX2 52 "CraneCampaign$Farm" "winds" "LCraneCampaign$Winds;"]
def wsL_undo_r2 : List Cond := [Cond.fieldLink RX2 56 "CraneCampaign$Farm" "settings" "[I", Cond.methodLink RX2 70 arraycopyName, Cond.native arraycopyName, Cond.static arraycopyName, Cond.initialized "java/lang/System", Cond.fieldLink RX2 60 "CraneCampaign$Farm" "lostBy" "[I", Cond.fieldLink RX2 63 "CraneCampaign$Farm" "hour" "I", Cond.methodLink RX2 76 yX5_copyFrom, Cond.instanceMethod yX5_copyFrom, Cond.selects RX5 yX5_copyFrom yX5_copyFrom, Cond.initialized RX5, Cond.code yX5_copyFrom cX5_copyFrom 2 none, Cond.fieldLink RX5 9 "CraneCampaign$Turbine" "place" "I", Cond.fieldLink RX5 15 "CraneCampaign$Turbine" "height" "I", Cond.fieldLink RX5 18 "CraneCampaign$Turbine" "rate" "I", Cond.fieldLink RX5 21 "CraneCampaign$Turbine" "fault" "I", Cond.fieldLink RX5 24 "CraneCampaign$Turbine" "age" "I", Cond.fieldLink RX5 27 "CraneCampaign$Turbine" "lost" "I", Cond.fieldLink RX5 30 "CraneCampaign$Turbine" "won" "I", Cond.methodLink RX2 80 yX0_copyFrom, Cond.instanceMethod yX0_copyFrom, Cond.selects RX0 yX0_copyFrom yX0_copyFrom, Cond.initialized RX0, Cond.code yX0_copyFrom cX0_copyFrom 2 none]
def wsL_undo_r3 : List Cond := [Cond.fieldLink RX0 9 "CraneCampaign$Bogs" "place" "[I", Cond.methodLink RX0 22 arraycopyName, Cond.fieldLink RX0 15 "CraneCampaign$Bogs" "need" "[I", Cond.fieldLink RX0 18 "CraneCampaign$Bogs" "count" "I", Cond.methodLink RX2 83 yX3_copyFrom, Cond.instanceMethod yX3_copyFrom, Cond.selects RX3 yX3_copyFrom yX3_copyFrom, Cond.initialized RX3, Cond.code yX3_copyFrom cX3_copyFrom 2 none, Cond.fieldLink RX3 9 "CraneCampaign$Harbour" "turbine" "[I", Cond.methodLink RX3 22 arraycopyName, Cond.fieldLink RX3 15 "CraneCampaign$Harbour" "weight" "[I", Cond.fieldLink RX3 18 "CraneCampaign$Harbour" "count" "I", Cond.methodLink RX2 86 yX4_copyFrom, Cond.instanceMethod yX4_copyFrom, Cond.selects RX4 yX4_copyFrom yX4_copyFrom, Cond.initialized RX4, Cond.code yX4_copyFrom cX4_copyFrom 2 none, Cond.fieldLink RX4 9 "CraneCampaign$Plan" "row" "[I", Cond.methodLink RX4 19 arraycopyName, Cond.fieldLink RX4 15 "CraneCampaign$Plan" "count" "I", Cond.methodLink RX2 89 yX1_copyFrom, Cond.instanceMethod yX1_copyFrom, Cond.selects RX1 yX1_copyFrom yX1_copyFrom]
def wsL_undo_r4 : List Cond := [Cond.initialized RX1, Cond.code yX1_copyFrom cX1_copyFrom 2 none, Cond.fieldLink RX1 9 "CraneCampaign$Crane" "place" "I", Cond.fieldLink RX1 15 "CraneCampaign$Crane" "hoursLeft" "I", Cond.fieldLink RX1 18 "CraneCampaign$Crane" "goal" "I", Cond.fieldLink RX1 21 "CraneCampaign$Crane" "workDone" "I", Cond.fieldLink RX1 24 "CraneCampaign$Crane" "workedOn" "I", Cond.methodLink RX2 92 yX7_copyFrom, Cond.instanceMethod yX7_copyFrom, Cond.selects RX7 yX7_copyFrom yX7_copyFrom, Cond.initialized RX7, Cond.code yX7_copyFrom cX7_copyFrom 2 none, Cond.fieldLink RX7 9 "CraneCampaign$Winds" "row" "[I", Cond.methodLink RX7 19 arraycopyName, Cond.fieldLink RX7 15 "CraneCampaign$Winds" "count" "I"]
def wsL_undo : List Cond := .codeWith yL_undo cL_undo 3 (some .int) [(0, 8, 11, 15)] :: ((wsL_undo_r1 ++ (wsL_undo_r2 ++ (wsL_undo_r3 ++ wsL_undo_r4))) ++ wsX80 ++ wsX20 ++ wsX50 ++ wsX00 ++ wsX30 ++ wsX40 ++ wsX10 ++ wsX70 ++ (vx_atS RX8 59 "java/lang/IllegalStateException" ["java/lang/RuntimeException", "java/lang/Exception"]).filter goodWord)
def wsL_turbine_r1 : List Cond := [Cond.classLink RL 21 "java/lang/IndexOutOfBoundsException", Cond.classLink RL 13 "java/lang/IllegalArgumentException", Cond.methodLink RL 52 yX8_turbine, Cond.instanceMethod yX8_turbine, Cond.selects RX8 yX8_turbine yX8_turbine, Cond.initialized RX8, Cond.code yX8_turbine cX8_turbine 3 (some .int), Cond.classLink RX8 41 "java/lang/IllegalArgumentException", Cond.initialized "java/lang/IllegalArgumentException", Cond.fieldLink RX8 10 "CraneCampaign" "farm" "LCraneCampaign$Farm;", Cond.methodLink RX8 67 yX8_requireTurbine, Cond.instanceMethod yX8_requireTurbine, Cond.selects RX8 yX8_requireTurbine yX8_requireTurbine, Cond.code yX8_requireTurbine cX8_requireTurbine 2 none, Cond.classLink RX8 134 "java/lang/IndexOutOfBoundsException", Cond.initialized "java/lang/IndexOutOfBoundsException", Cond.methodLink RX8 319 yX2_hasTurbine, Cond.instanceMethod yX2_hasTurbine, Cond.selects RX2 yX2_hasTurbine yX2_hasTurbine, Cond.initialized RX2, Cond.code yX2_hasTurbine cX2_hasTurbine 2 (some .boolean), Cond.fieldLink RX2 17 "CraneCampaign$Farm" "turbineCount" "I", Cond.methodLink RX8 37 yX8_isWithin, Cond.static yX8_isWithin]
def wsL_turbine_r2 : List Cond := [Cond.code yX8_isWithin cX8_isWithin 3 (some .boolean), Cond.methodLink RX8 221 yX2_turbineProperty, Cond.instanceMethod yX2_turbineProperty, Cond.selects RX2 yX2_turbineProperty yX2_turbineProperty, Cond.code yX2_turbineProperty cX2_turbineProperty 4 (some .int), Cond.fieldLink RX2 11 "CraneCampaign$Farm" "turbines" "[LCraneCampaign$Turbine;", Cond.fieldLink RX2 95 "CraneCampaign$Turbine" "place" "I", Cond.fieldLink RX2 116 "CraneCampaign$Turbine" "height" "I", Cond.fieldLink RX2 119 "CraneCampaign$Turbine" "rate" "I", Cond.fieldLink RX2 102 "CraneCampaign$Turbine" "fault" "I", Cond.fieldLink RX2 122 "CraneCampaign$Turbine" "age" "I", Cond.fieldLink RX2 56 "CraneCampaign$Farm" "settings" "[I", Cond.fieldLink RX2 38 "CraneCampaign$Farm" "plan" "LCraneCampaign$Plan;", Cond.fieldLink RX2 31 "CraneCampaign$Farm" "harbour" "LCraneCampaign$Harbour;", Cond.fieldLink RX2 134 "CraneCampaign$Turbine" "lost" "I", Cond.fieldLink RX2 105 "CraneCampaign$Turbine" "won" "I", Cond.methodLink RX2 112 yX2_hasTurbine, Cond.methodLink RX2 125 yX5_limit, Cond.instanceMethod yX5_limit, Cond.selects RX5 yX5_limit yX5_limit, Cond.initialized RX5, Cond.code yX5_limit cX5_limit 2 (some .int), Cond.fieldLink RX5 15 "CraneCampaign$Turbine" "height" "I", Cond.methodLink RX2 128 yX4_placeOf]
def wsL_turbine_r3 : List Cond := [Cond.instanceMethod yX4_placeOf, Cond.selects RX4 yX4_placeOf yX4_placeOf, Cond.initialized RX4, Cond.code yX4_placeOf cX4_placeOf 3 (some .int), Cond.fieldLink RX4 15 "CraneCampaign$Plan" "count" "I", Cond.fieldLink RX4 9 "CraneCampaign$Plan" "row" "[I", Cond.methodLink RX2 131 yX3_unloadedFor, Cond.instanceMethod yX3_unloadedFor, Cond.selects RX3 yX3_unloadedFor yX3_unloadedFor, Cond.initialized RX3, Cond.code yX3_unloadedFor cX3_unloadedFor 4 (some .int), Cond.fieldLink RX3 18 "CraneCampaign$Harbour" "count" "I", Cond.fieldLink RX3 9 "CraneCampaign$Harbour" "turbine" "[I", Cond.fieldLink RX3 15 "CraneCampaign$Harbour" "weight" "[I", Cond.methodLink RX2 137 yX2_windNow, Cond.instanceMethod yX2_windNow, Cond.selects RX2 yX2_windNow yX2_windNow, Cond.code yX2_windNow cX2_windNow 1 (some .int), Cond.fieldLink RX2 52 "CraneCampaign$Farm" "winds" "LCraneCampaign$Winds;", Cond.fieldLink RX2 63 "CraneCampaign$Farm" "hour" "I", Cond.methodLink RX2 108 yX7_at, Cond.instanceMethod yX7_at, Cond.selects RX7 yX7_at yX7_at, Cond.initialized RX7]
def wsL_turbine_r4 : List Cond := [Cond.code yX7_at cX7_at 2 (some .int), Cond.fieldLink RX7 15 "CraneCampaign$Winds" "count" "I", Cond.fieldLink RX7 9 "CraneCampaign$Winds" "row" "[I", Cond.methodLink RX2 141 yX5_fullPower, Cond.instanceMethod yX5_fullPower, Cond.selects RX5 yX5_fullPower yX5_fullPower, Cond.code yX5_fullPower cX5_fullPower 2 (some .int), Cond.fieldLink RX5 18 "CraneCampaign$Turbine" "rate" "I", Cond.methodLink RX5 33 Lib.Math.min.name, Cond.static Lib.Math.min.name, Cond.initialized "java/lang/Math", Cond.code Lib.Math.min.name Lib.Math.min.code 2 (some .int)]
def wsL_turbine : List Cond := .codeWith yL_turbine cL_turbine 5 (some .int) [(0, 10, 13, 21), (0, 10, 17, 13)] :: ((wsL_turbine_r1 ++ (wsL_turbine_r2 ++ (wsL_turbine_r3 ++ wsL_turbine_r4))) ++ wsX80 ++ wsX20 ++ wsX50 ++ wsX40 ++ wsX30 ++ wsX70 ++ (vx_atS RX8 45 "java/lang/IllegalArgumentException" ["java/lang/RuntimeException", "java/lang/Exception"]).filter goodWord ++ (vx_atS RX8 138 "java/lang/IndexOutOfBoundsException" ["java/lang/RuntimeException", "java/lang/Exception"]).filter goodWord)
def wsL_blade : List Cond := .codeWith yL_blade cL_blade 5 (some .int) [(0, 10, 13, 21), (0, 10, 17, 13)] :: ([.classLink RL 21 "java/lang/IndexOutOfBoundsException", .classLink RL 13 "java/lang/IllegalArgumentException", .methodLink RL 55 yX8_blade, .instanceMethod yX8_blade, .selects RX8 yX8_blade yX8_blade, .initialized RX8, .code yX8_blade cX8_blade 3 (some .int), .classLink RX8 134 "java/lang/IndexOutOfBoundsException", .initialized "java/lang/IndexOutOfBoundsException", .classLink RX8 41 "java/lang/IllegalArgumentException", .initialized "java/lang/IllegalArgumentException", .fieldLink RX8 10 "CraneCampaign" "farm" "LCraneCampaign$Farm;", .fieldLink RX8 151 "CraneCampaign$Farm" "harbour" "LCraneCampaign$Harbour;", .fieldLink RX8 167 "CraneCampaign$Harbour" "count" "I", .fieldLink RX8 229 "CraneCampaign$Harbour" "turbine" "[I", .fieldLink RX8 232 "CraneCampaign$Harbour" "weight" "[I", .methodLink RX8 37 yX8_isWithin, .static yX8_isWithin, .code yX8_isWithin cX8_isWithin 3 (some .boolean)] ++ wsX80 ++ wsX20 ++ wsX30 ++ (vx_atS RX8 138 "java/lang/IndexOutOfBoundsException" ["java/lang/RuntimeException", "java/lang/Exception"]).filter goodWord ++ (vx_atS RX8 45 "java/lang/IllegalArgumentException" ["java/lang/RuntimeException", "java/lang/Exception"]).filter goodWord)
def wsL_bog : List Cond := .codeWith yL_bog cL_bog 5 (some .int) [(0, 10, 13, 21), (0, 10, 17, 13)] :: ([.classLink RL 21 "java/lang/IndexOutOfBoundsException", .classLink RL 13 "java/lang/IllegalArgumentException", .methodLink RL 58 yX8_bog, .instanceMethod yX8_bog, .selects RX8 yX8_bog yX8_bog, .initialized RX8, .code yX8_bog cX8_bog 3 (some .int), .classLink RX8 134 "java/lang/IndexOutOfBoundsException", .initialized "java/lang/IndexOutOfBoundsException", .classLink RX8 41 "java/lang/IllegalArgumentException", .initialized "java/lang/IllegalArgumentException", .fieldLink RX8 10 "CraneCampaign" "farm" "LCraneCampaign$Farm;", .fieldLink RX8 87 "CraneCampaign$Farm" "bogs" "LCraneCampaign$Bogs;", .fieldLink RX8 107 "CraneCampaign$Bogs" "count" "I", .fieldLink RX8 237 "CraneCampaign$Bogs" "place" "[I", .fieldLink RX8 240 "CraneCampaign$Bogs" "need" "[I", .methodLink RX8 37 yX8_isWithin, .static yX8_isWithin, .code yX8_isWithin cX8_isWithin 3 (some .boolean)] ++ wsX80 ++ wsX20 ++ wsX00 ++ (vx_atS RX8 138 "java/lang/IndexOutOfBoundsException" ["java/lang/RuntimeException", "java/lang/Exception"]).filter goodWord ++ (vx_atS RX8 45 "java/lang/IllegalArgumentException" ["java/lang/RuntimeException", "java/lang/Exception"]).filter goodWord)
def wsL_claims : List Cond := .codeWith yL_claims cL_claims 4 (some .int) [(0, 9, 12, 13)] :: ([.classLink RL 13 "java/lang/IllegalArgumentException", .methodLink RL 61 yX8_claims, .instanceMethod yX8_claims, .selects RX8 yX8_claims yX8_claims, .initialized RX8, .code yX8_claims cX8_claims 2 (some .int), .classLink RX8 41 "java/lang/IllegalArgumentException", .initialized "java/lang/IllegalArgumentException", .fieldLink RX8 10 "CraneCampaign" "farm" "LCraneCampaign$Farm;", .fieldLink RX8 245 "CraneCampaign$Farm" "lostBy" "[I", .methodLink RX8 37 yX8_isWithin, .static yX8_isWithin, .code yX8_isWithin cX8_isWithin 3 (some .boolean)] ++ wsX80 ++ wsX20 ++ (vx_atS RX8 45 "java/lang/IllegalArgumentException" ["java/lang/RuntimeException", "java/lang/Exception"]).filter goodWord)
def wsL_count_r1 : List Cond := [Cond.classLink RL 13 "java/lang/IllegalArgumentException", Cond.methodLink RL 64 yX8_count, Cond.instanceMethod yX8_count, Cond.selects RX8 yX8_count yX8_count, Cond.initialized RX8, Cond.code yX8_count cX8_count 2 (some .int), Cond.classLink RX8 41 "java/lang/IllegalArgumentException", Cond.initialized "java/lang/IllegalArgumentException", Cond.methodLink RX8 37 yX8_isWithin, Cond.static yX8_isWithin, Cond.code yX8_isWithin cX8_isWithin 3 (some .boolean), Cond.methodLink RX8 250 yX8_numberOf, Cond.instanceMethod yX8_numberOf, Cond.selects RX8 yX8_numberOf yX8_numberOf, Cond.code yX8_numberOf cX8_numberOf 3 (some .int), Cond.fieldLink RX8 10 "CraneCampaign" "farm" "LCraneCampaign$Farm;", Cond.fieldLink RX8 326 "CraneCampaign$Farm" "crane" "LCraneCampaign$Crane;", Cond.fieldLink RX8 48 "CraneCampaign$Farm" "turbineCount" "I", Cond.fieldLink RX8 170 "CraneCampaign$Farm" "hour" "I", Cond.fieldLink RX8 202 "CraneCampaign$Farm" "winds" "LCraneCampaign$Winds;", Cond.fieldLink RX8 210 "CraneCampaign$Winds" "count" "I", Cond.fieldLink RX8 125 "CraneCampaign$Farm" "plan" "LCraneCampaign$Plan;", Cond.fieldLink RX8 142 "CraneCampaign$Plan" "count" "I", Cond.fieldLink RX8 339 "CraneCampaign$Crane" "place" "I"]
def wsL_count_r2 : List Cond := [Cond.fieldLink RX8 343 "CraneCampaign$Crane" "hoursLeft" "I", Cond.fieldLink RX8 346 "CraneCampaign$Crane" "goal" "I", Cond.fieldLink RX8 151 "CraneCampaign$Farm" "harbour" "LCraneCampaign$Harbour;", Cond.fieldLink RX8 167 "CraneCampaign$Harbour" "count" "I", Cond.fieldLink RX8 27 "CraneCampaign" "savedCount" "I", Cond.methodLink RX8 330 yX2_faultCount, Cond.instanceMethod yX2_faultCount, Cond.selects RX2 yX2_faultCount yX2_faultCount, Cond.initialized RX2, Cond.code yX2_faultCount cX2_faultCount 3 (some .int), Cond.fieldLink RX2 17 "CraneCampaign$Farm" "turbineCount" "I", Cond.fieldLink RX2 11 "CraneCampaign$Farm" "turbines" "[LCraneCampaign$Turbine;", Cond.fieldLink RX2 102 "CraneCampaign$Turbine" "fault" "I", Cond.methodLink RX8 333 yX2_windNow, Cond.instanceMethod yX2_windNow, Cond.selects RX2 yX2_windNow yX2_windNow, Cond.code yX2_windNow cX2_windNow 1 (some .int), Cond.fieldLink RX2 52 "CraneCampaign$Farm" "winds" "LCraneCampaign$Winds;", Cond.fieldLink RX2 63 "CraneCampaign$Farm" "hour" "I", Cond.methodLink RX2 108 yX7_at, Cond.instanceMethod yX7_at, Cond.selects RX7 yX7_at yX7_at, Cond.initialized RX7, Cond.code yX7_at cX7_at 2 (some .int)]
def wsL_count_r3 : List Cond := [Cond.fieldLink RX7 15 "CraneCampaign$Winds" "count" "I", Cond.fieldLink RX7 9 "CraneCampaign$Winds" "row" "[I", Cond.methodLink RX8 336 yX4_first, Cond.instanceMethod yX4_first, Cond.selects RX4 yX4_first yX4_first, Cond.initialized RX4, Cond.code yX4_first cX4_first 1 (some .int), Cond.fieldLink RX4 15 "CraneCampaign$Plan" "count" "I", Cond.fieldLink RX4 9 "CraneCampaign$Plan" "row" "[I", Cond.methodLink RX8 349 yX1_workOn, Cond.instanceMethod yX1_workOn, Cond.selects RX1 yX1_workOn yX1_workOn, Cond.initialized RX1, Cond.code yX1_workOn cX1_workOn 2 (some .int), Cond.fieldLink RX1 24 "CraneCampaign$Crane" "workedOn" "I", Cond.fieldLink RX1 21 "CraneCampaign$Crane" "workDone" "I", Cond.methodLink RX8 278 yX2_lostPower, Cond.instanceMethod yX2_lostPower, Cond.selects RX2 yX2_lostPower yX2_lostPower, Cond.code yX2_lostPower cX2_lostPower 3 (some .int), Cond.fieldLink RX2 60 "CraneCampaign$Farm" "lostBy" "[I", Cond.methodLink RX8 281 yX2_wonPower, Cond.instanceMethod yX2_wonPower, Cond.selects RX2 yX2_wonPower yX2_wonPower]
def wsL_count_r4 : List Cond := [Cond.code yX2_wonPower cX2_wonPower 3 (some .int), Cond.fieldLink RX2 105 "CraneCampaign$Turbine" "won" "I"]
def wsL_count : List Cond := .codeWith yL_count cL_count 4 (some .int) [(0, 9, 12, 13)] :: ((wsL_count_r1 ++ (wsL_count_r2 ++ (wsL_count_r3 ++ wsL_count_r4))) ++ wsX80 ++ wsX20 ++ wsX70 ++ wsX40 ++ wsX10 ++ wsX30 ++ wsX50 ++ (vx_atS RX8 45 "java/lang/IllegalArgumentException" ["java/lang/RuntimeException", "java/lang/Exception"]).filter goodWord)
def wsL_setting : List Cond := .codeWith yL_setting cL_setting 4 (some .int) [(0, 9, 12, 21)] :: ([.classLink RL 21 "java/lang/IndexOutOfBoundsException", .methodLink RL 67 yX8_setting, .instanceMethod yX8_setting, .selects RX8 yX8_setting yX8_setting, .initialized RX8, .code yX8_setting cX8_setting 2 (some .int), .fieldLink RX8 10 "CraneCampaign" "farm" "LCraneCampaign$Farm;", .fieldLink RX8 122 "CraneCampaign$Farm" "settings" "[I", .methodLink RX8 110 yX8_requireSetting, .static yX8_requireSetting, .code yX8_requireSetting cX8_requireSetting 1 none, .classLink RX8 134 "java/lang/IndexOutOfBoundsException", .initialized "java/lang/IndexOutOfBoundsException", .methodLink RX8 37 yX8_isWithin, .static yX8_isWithin, .code yX8_isWithin cX8_isWithin 3 (some .boolean)] ++ wsX80 ++ wsX20 ++ (vx_atS RX8 138 "java/lang/IndexOutOfBoundsException" ["java/lang/RuntimeException", "java/lang/Exception"]).filter goodWord)
def wsL_way_r1 : List Cond := [Cond.classLink RL 13 "java/lang/IllegalArgumentException", Cond.methodLink RL 70 yX8_way, Cond.instanceMethod yX8_way, Cond.selects RX8 yX8_way yX8_way, Cond.initialized RX8, Cond.code yX8_way cX8_way 3 (some .int), Cond.classLink RX8 41 "java/lang/IllegalArgumentException", Cond.initialized "java/lang/IllegalArgumentException", Cond.fieldLink RX8 10 "CraneCampaign" "farm" "LCraneCampaign$Farm;", Cond.methodLink RX8 37 yX8_isWithin, Cond.static yX8_isWithin, Cond.code yX8_isWithin cX8_isWithin 3 (some .boolean), Cond.methodLink RX8 255 yX2_hoursBetween, Cond.instanceMethod yX2_hoursBetween, Cond.selects RX2 yX2_hoursBetween yX2_hoursBetween, Cond.initialized RX2, Cond.code yX2_hoursBetween cX2_hoursBetween 6 (some .int), Cond.fieldLink RX2 56 "CraneCampaign$Farm" "settings" "[I", Cond.methodLink RX2 156 Lib.Math.max.name, Cond.static Lib.Math.max.name, Cond.initialized "java/lang/Math", Cond.code Lib.Math.max.name Lib.Math.max.code 2 (some .int), Cond.methodLink RX2 162 Lib.Math.abs.name, Cond.static Lib.Math.abs.name]
def wsL_way_r2 : List Cond := [Cond.code Lib.Math.abs.name Lib.Math.abs.code 1 (some .int), Cond.fieldLink RX2 24 "CraneCampaign$Farm" "bogs" "LCraneCampaign$Bogs;", Cond.methodLink RX2 165 Lib.Math.min.name, Cond.static Lib.Math.min.name, Cond.code Lib.Math.min.name Lib.Math.min.code 2 (some .int), Cond.methodLink RX2 168 yX0_countBetween, Cond.instanceMethod yX0_countBetween, Cond.selects RX0 yX0_countBetween yX0_countBetween, Cond.initialized RX0, Cond.code yX0_countBetween cX0_countBetween 6 (some .int), Cond.fieldLink RX0 18 "CraneCampaign$Bogs" "count" "I", Cond.fieldLink RX0 9 "CraneCampaign$Bogs" "place" "[I", Cond.fieldLink RX0 15 "CraneCampaign$Bogs" "need" "[I"]
def wsL_way : List Cond := .codeWith yL_way cL_way 5 (some .int) [(0, 10, 13, 13)] :: ((wsL_way_r1 ++ wsL_way_r2) ++ wsX80 ++ wsX20 ++ wsX00 ++ (vx_atS RX8 45 "java/lang/IllegalArgumentException" ["java/lang/RuntimeException", "java/lang/Exception"]).filter goodWord)
def wsL_ifPassed_r1 : List Cond := [Cond.classLink RL 13 "java/lang/IllegalArgumentException", Cond.methodLink RL 73 yX8_ifPassed, Cond.instanceMethod yX8_ifPassed, Cond.selects RX8 yX8_ifPassed yX8_ifPassed, Cond.initialized RX8, Cond.code yX8_ifPassed cX8_ifPassed 3 (some .int), Cond.classLink RX8 41 "java/lang/IllegalArgumentException", Cond.initialized "java/lang/IllegalArgumentException", Cond.fieldLink RX8 16 "CraneCampaign" "trial" "LCraneCampaign$Farm;", Cond.fieldLink RX8 10 "CraneCampaign" "farm" "LCraneCampaign$Farm;", Cond.methodLink RX8 37 yX8_isWithin, Cond.static yX8_isWithin, Cond.code yX8_isWithin cX8_isWithin 3 (some .boolean), Cond.methodLink RX8 215 yX2_copyFrom, Cond.instanceMethod yX2_copyFrom, Cond.selects RX2 yX2_copyFrom yX2_copyFrom, Cond.initialized RX2, Cond.code yX2_copyFrom cX2_copyFrom 3 none, Cond.fieldLink RX2 17 "CraneCampaign$Farm" "turbineCount" "I", Cond.fieldLink RX2 11 "CraneCampaign$Farm" "turbines" "[LCraneCampaign$Turbine;", Cond.fieldLink RX2 24 "CraneCampaign$Farm" "bogs" "LCraneCampaign$Bogs;", Cond.fieldLink RX2 31 "CraneCampaign$Farm" "harbour" "LCraneCampaign$Harbour;", Cond.fieldLink RX2 38 "CraneCampaign$Farm" "plan" "LCraneCampaign$Plan;", Cond.fieldLink RX2 45 "CraneCampaign$Farm" "crane" "LCraneCampaign$Crane;"]
def wsL_ifPassed_r2 : List Cond := [Cond.fieldLink RX2 52 "CraneCampaign$Farm" "winds" "LCraneCampaign$Winds;", Cond.fieldLink RX2 56 "CraneCampaign$Farm" "settings" "[I", Cond.methodLink RX2 70 arraycopyName, Cond.native arraycopyName, Cond.static arraycopyName, Cond.initialized "java/lang/System", Cond.fieldLink RX2 60 "CraneCampaign$Farm" "lostBy" "[I", Cond.fieldLink RX2 63 "CraneCampaign$Farm" "hour" "I", Cond.methodLink RX2 76 yX5_copyFrom, Cond.instanceMethod yX5_copyFrom, Cond.selects RX5 yX5_copyFrom yX5_copyFrom, Cond.initialized RX5, Cond.code yX5_copyFrom cX5_copyFrom 2 none, Cond.fieldLink RX5 9 "CraneCampaign$Turbine" "place" "I", Cond.fieldLink RX5 15 "CraneCampaign$Turbine" "height" "I", Cond.fieldLink RX5 18 "CraneCampaign$Turbine" "rate" "I", Cond.fieldLink RX5 21 "CraneCampaign$Turbine" "fault" "I", Cond.fieldLink RX5 24 "CraneCampaign$Turbine" "age" "I", Cond.fieldLink RX5 27 "CraneCampaign$Turbine" "lost" "I", Cond.fieldLink RX5 30 "CraneCampaign$Turbine" "won" "I", Cond.methodLink RX2 80 yX0_copyFrom, Cond.instanceMethod yX0_copyFrom, Cond.selects RX0 yX0_copyFrom yX0_copyFrom, Cond.initialized RX0]
def wsL_ifPassed_r3 : List Cond := [Cond.code yX0_copyFrom cX0_copyFrom 2 none, Cond.fieldLink RX0 9 "CraneCampaign$Bogs" "place" "[I", Cond.methodLink RX0 22 arraycopyName, Cond.fieldLink RX0 15 "CraneCampaign$Bogs" "need" "[I", Cond.fieldLink RX0 18 "CraneCampaign$Bogs" "count" "I", Cond.methodLink RX2 83 yX3_copyFrom, Cond.instanceMethod yX3_copyFrom, Cond.selects RX3 yX3_copyFrom yX3_copyFrom, Cond.initialized RX3, Cond.code yX3_copyFrom cX3_copyFrom 2 none, Cond.fieldLink RX3 9 "CraneCampaign$Harbour" "turbine" "[I", Cond.methodLink RX3 22 arraycopyName, Cond.fieldLink RX3 15 "CraneCampaign$Harbour" "weight" "[I", Cond.fieldLink RX3 18 "CraneCampaign$Harbour" "count" "I", Cond.methodLink RX2 86 yX4_copyFrom, Cond.instanceMethod yX4_copyFrom, Cond.selects RX4 yX4_copyFrom yX4_copyFrom, Cond.initialized RX4, Cond.code yX4_copyFrom cX4_copyFrom 2 none, Cond.fieldLink RX4 9 "CraneCampaign$Plan" "row" "[I", Cond.methodLink RX4 19 arraycopyName, Cond.fieldLink RX4 15 "CraneCampaign$Plan" "count" "I", Cond.methodLink RX2 89 yX1_copyFrom, Cond.instanceMethod yX1_copyFrom]
def wsL_ifPassed_r4 : List Cond := [Cond.selects RX1 yX1_copyFrom yX1_copyFrom, Cond.initialized RX1, Cond.code yX1_copyFrom cX1_copyFrom 2 none, Cond.fieldLink RX1 9 "CraneCampaign$Crane" "place" "I", Cond.fieldLink RX1 15 "CraneCampaign$Crane" "hoursLeft" "I", Cond.fieldLink RX1 18 "CraneCampaign$Crane" "goal" "I", Cond.fieldLink RX1 21 "CraneCampaign$Crane" "workDone" "I", Cond.fieldLink RX1 24 "CraneCampaign$Crane" "workedOn" "I", Cond.methodLink RX2 92 yX7_copyFrom, Cond.instanceMethod yX7_copyFrom, Cond.selects RX7 yX7_copyFrom yX7_copyFrom, Cond.initialized RX7, Cond.code yX7_copyFrom cX7_copyFrom 2 none, Cond.fieldLink RX7 9 "CraneCampaign$Winds" "row" "[I", Cond.methodLink RX7 19 arraycopyName, Cond.fieldLink RX7 15 "CraneCampaign$Winds" "count" "I", Cond.methodLink RX8 175 yX2_runHours, Cond.instanceMethod yX2_runHours, Cond.selects RX2 yX2_runHours yX2_runHours, Cond.code yX2_runHours cX2_runHours 4 (some .int), Cond.methodLink RX2 172 yX2_runHour, Cond.instanceMethod yX2_runHour, Cond.selects RX2 yX2_runHour yX2_runHour, Cond.code yX2_runHour cX2_runHour 4 (some .int)]
def wsL_ifPassed_r5 : List Cond := [Cond.methodLink RX2 175 yX3_unload, Cond.instanceMethod yX3_unload, Cond.selects RX3 yX3_unload yX3_unload, Cond.code yX3_unload cX3_unload 5 none, Cond.methodLink RX3 32 Lib.Math.min.name, Cond.static Lib.Math.min.name, Cond.initialized "java/lang/Math", Cond.code Lib.Math.min.name Lib.Math.min.code 2 (some .int), Cond.methodLink RX2 179 yX2_dropFaultless, Cond.instanceMethod yX2_dropFaultless, Cond.selects RX2 yX2_dropFaultless yX2_dropFaultless, Cond.code yX2_dropFaultless cX2_dropFaultless 3 none, Cond.fieldLink RX2 153 "CraneCampaign$Plan" "count" "I", Cond.fieldLink RX2 197 "CraneCampaign$Crane" "workedOn" "I", Cond.fieldLink RX2 102 "CraneCampaign$Turbine" "fault" "I", Cond.methodLink RX2 182 yX4_first, Cond.instanceMethod yX4_first, Cond.selects RX4 yX4_first yX4_first, Cond.code yX4_first cX4_first 1 (some .int), Cond.methodLink RX2 200 yX1_forgetWork, Cond.instanceMethod yX1_forgetWork, Cond.selects RX1 yX1_forgetWork yX1_forgetWork, Cond.code yX1_forgetWork cX1_forgetWork 1 none, Cond.methodLink RX2 112 yX2_hasTurbine]
def wsL_ifPassed_r6 : List Cond := [Cond.instanceMethod yX2_hasTurbine, Cond.selects RX2 yX2_hasTurbine yX2_hasTurbine, Cond.code yX2_hasTurbine cX2_hasTurbine 2 (some .boolean), Cond.methodLink RX2 203 yX4_removeAt, Cond.instanceMethod yX4_removeAt, Cond.selects RX4 yX4_removeAt yX4_removeAt, Cond.code yX4_removeAt cX4_removeAt 3 none, Cond.methodLink RX2 185 yX2_serve, Cond.instanceMethod yX2_serve, Cond.selects RX2 yX2_serve yX2_serve, Cond.code yX2_serve cX2_serve 3 (some .int), Cond.fieldLink RX2 210 "CraneCampaign$Crane" "place" "I", Cond.fieldLink RX2 95 "CraneCampaign$Turbine" "place" "I", Cond.methodLink RX2 206 yX1_isOnWay, Cond.instanceMethod yX1_isOnWay, Cond.selects RX1 yX1_isOnWay yX1_isOnWay, Cond.code yX1_isOnWay cX1_isOnWay 1 (some .boolean), Cond.methodLink RX2 211 yX2_hoursBetween, Cond.instanceMethod yX2_hoursBetween, Cond.selects RX2 yX2_hoursBetween yX2_hoursBetween, Cond.code yX2_hoursBetween cX2_hoursBetween 6 (some .int), Cond.methodLink RX2 156 Lib.Math.max.name, Cond.static Lib.Math.max.name, Cond.code Lib.Math.max.name Lib.Math.max.code 2 (some .int)]
def wsL_ifPassed_r7 : List Cond := [Cond.methodLink RX2 162 Lib.Math.abs.name, Cond.static Lib.Math.abs.name, Cond.code Lib.Math.abs.name Lib.Math.abs.code 1 (some .int), Cond.methodLink RX2 165 Lib.Math.min.name, Cond.methodLink RX2 168 yX0_countBetween, Cond.instanceMethod yX0_countBetween, Cond.selects RX0 yX0_countBetween yX0_countBetween, Cond.code yX0_countBetween cX0_countBetween 6 (some .int), Cond.methodLink RX2 214 yX1_driveTo, Cond.instanceMethod yX1_driveTo, Cond.selects RX1 yX1_driveTo yX1_driveTo, Cond.code yX1_driveTo cX1_driveTo 4 none, Cond.methodLink RX1 27 Lib.Math.max.name, Cond.methodLink RX2 131 yX3_unloadedFor, Cond.instanceMethod yX3_unloadedFor, Cond.selects RX3 yX3_unloadedFor yX3_unloadedFor, Cond.code yX3_unloadedFor cX3_unloadedFor 4 (some .int), Cond.methodLink RX2 137 yX2_windNow, Cond.instanceMethod yX2_windNow, Cond.selects RX2 yX2_windNow yX2_windNow, Cond.code yX2_windNow cX2_windNow 1 (some .int), Cond.methodLink RX2 108 yX7_at, Cond.instanceMethod yX7_at, Cond.selects RX7 yX7_at yX7_at]
def wsL_ifPassed_r8 : List Cond := [Cond.code yX7_at cX7_at 2 (some .int), Cond.methodLink RX2 125 yX5_limit, Cond.instanceMethod yX5_limit, Cond.selects RX5 yX5_limit yX5_limit, Cond.code yX5_limit cX5_limit 2 (some .int), Cond.methodLink RX2 217 yX1_workAnHourOn, Cond.instanceMethod yX1_workAnHourOn, Cond.selects RX1 yX1_workAnHourOn yX1_workAnHourOn, Cond.code yX1_workAnHourOn cX1_workAnHourOn 2 none, Cond.methodLink RX2 188 yX2_sharePower, Cond.instanceMethod yX2_sharePower, Cond.selects RX2 yX2_sharePower yX2_sharePower, Cond.code yX2_sharePower cX2_sharePower 9 (some .int), Cond.fieldLink RX2 134 "CraneCampaign$Turbine" "lost" "I", Cond.fieldLink RX2 105 "CraneCampaign$Turbine" "won" "I", Cond.methodLink RX2 141 yX5_fullPower, Cond.instanceMethod yX5_fullPower, Cond.selects RX5 yX5_fullPower yX5_fullPower, Cond.code yX5_fullPower cX5_fullPower 2 (some .int), Cond.methodLink RX5 33 Lib.Math.min.name, Cond.methodLink RX2 191 yX2_finishIfDone, Cond.instanceMethod yX2_finishIfDone, Cond.selects RX2 yX2_finishIfDone yX2_finishIfDone, Cond.code yX2_finishIfDone cX2_finishIfDone 2 none]
def wsL_ifPassed_r9 : List Cond := [Cond.fieldLink RX2 220 "CraneCampaign$Crane" "workDone" "I", Cond.fieldLink RX2 122 "CraneCampaign$Turbine" "age" "I", Cond.methodLink RX2 223 yX3_useBladeFor, Cond.instanceMethod yX3_useBladeFor, Cond.selects RX3 yX3_useBladeFor yX3_useBladeFor, Cond.code yX3_useBladeFor cX3_useBladeFor 3 none, Cond.methodLink RX3 38 yX3_removeAt, Cond.instanceMethod yX3_removeAt, Cond.selects RX3 yX3_removeAt yX3_removeAt, Cond.code yX3_removeAt cX3_removeAt 3 none, Cond.methodLink RX2 128 yX4_placeOf, Cond.instanceMethod yX4_placeOf, Cond.selects RX4 yX4_placeOf yX4_placeOf, Cond.code yX4_placeOf cX4_placeOf 3 (some .int), Cond.methodLink RX2 194 yX2_worsen, Cond.instanceMethod yX2_worsen, Cond.selects RX2 yX2_worsen yX2_worsen, Cond.code yX2_worsen cX2_worsen 3 none, Cond.methodLink RX2 226 yX5_growOlder, Cond.instanceMethod yX5_growOlder, Cond.selects RX5 yX5_growOlder yX5_growOlder, Cond.code yX5_growOlder cX5_growOlder 2 none, Cond.methodLink RX8 260 yX2_outcome, Cond.instanceMethod yX2_outcome]
def wsL_ifPassed_r10 : List Cond := [Cond.selects RX2 yX2_outcome yX2_outcome, Cond.code yX2_outcome cX2_outcome 2 (some .int), Cond.methodLink RX2 144 yX2_lostPower, Cond.instanceMethod yX2_lostPower, Cond.selects RX2 yX2_lostPower yX2_lostPower, Cond.code yX2_lostPower cX2_lostPower 3 (some .int), Cond.methodLink RX2 147 yX2_wonPower, Cond.instanceMethod yX2_wonPower, Cond.selects RX2 yX2_wonPower yX2_wonPower, Cond.code yX2_wonPower cX2_wonPower 3 (some .int), Cond.methodLink RX2 150 yX2_faultCount, Cond.instanceMethod yX2_faultCount, Cond.selects RX2 yX2_faultCount yX2_faultCount, Cond.code yX2_faultCount cX2_faultCount 3 (some .int)]
def wsL_ifPassed : List Cond := .codeWith yL_ifPassed cL_ifPassed 5 (some .int) [(0, 10, 13, 13)] :: ((wsL_ifPassed_r1 ++ (wsL_ifPassed_r2 ++ (wsL_ifPassed_r3 ++ (wsL_ifPassed_r4 ++ (wsL_ifPassed_r5 ++ (wsL_ifPassed_r6 ++ (wsL_ifPassed_r7 ++ (wsL_ifPassed_r8 ++ (wsL_ifPassed_r9 ++ wsL_ifPassed_r10))))))))) ++ wsX80 ++ wsX20 ++ wsX50 ++ wsX00 ++ wsX30 ++ wsX40 ++ wsX10 ++ wsX70 ++ (vx_atS RX8 45 "java/lang/IllegalArgumentException" ["java/lang/RuntimeException", "java/lang/Exception"]).filter goodWord)
def wsL_window_r1 : List Cond := [Cond.classLink RL 21 "java/lang/IndexOutOfBoundsException", Cond.classLink RL 13 "java/lang/IllegalArgumentException", Cond.methodLink RL 76 yX8_window, Cond.instanceMethod yX8_window, Cond.selects RX8 yX8_window yX8_window, Cond.initialized RX8, Cond.code yX8_window cX8_window 3 (some .int), Cond.classLink RX8 41 "java/lang/IllegalArgumentException", Cond.initialized "java/lang/IllegalArgumentException", Cond.fieldLink RX8 10 "CraneCampaign" "farm" "LCraneCampaign$Farm;", Cond.methodLink RX8 67 yX8_requireTurbine, Cond.instanceMethod yX8_requireTurbine, Cond.selects RX8 yX8_requireTurbine yX8_requireTurbine, Cond.code yX8_requireTurbine cX8_requireTurbine 2 none, Cond.classLink RX8 134 "java/lang/IndexOutOfBoundsException", Cond.initialized "java/lang/IndexOutOfBoundsException", Cond.methodLink RX8 319 yX2_hasTurbine, Cond.instanceMethod yX2_hasTurbine, Cond.selects RX2 yX2_hasTurbine yX2_hasTurbine, Cond.initialized RX2, Cond.code yX2_hasTurbine cX2_hasTurbine 2 (some .boolean), Cond.fieldLink RX2 17 "CraneCampaign$Farm" "turbineCount" "I", Cond.methodLink RX8 37 yX8_isWithin, Cond.static yX8_isWithin]
def wsL_window_r2 : List Cond := [Cond.code yX8_isWithin cX8_isWithin 3 (some .boolean), Cond.methodLink RX8 268 yX2_hoursUntilCalm, Cond.instanceMethod yX2_hoursUntilCalm, Cond.selects RX2 yX2_hoursUntilCalm yX2_hoursUntilCalm, Cond.code yX2_hoursUntilCalm cX2_hoursUntilCalm 6 (some .int), Cond.fieldLink RX2 11 "CraneCampaign$Farm" "turbines" "[LCraneCampaign$Turbine;", Cond.fieldLink RX2 56 "CraneCampaign$Farm" "settings" "[I", Cond.fieldLink RX2 52 "CraneCampaign$Farm" "winds" "LCraneCampaign$Winds;", Cond.fieldLink RX2 63 "CraneCampaign$Farm" "hour" "I", Cond.methodLink RX2 112 yX2_hasTurbine, Cond.methodLink RX2 125 yX5_limit, Cond.instanceMethod yX5_limit, Cond.selects RX5 yX5_limit yX5_limit, Cond.initialized RX5, Cond.code yX5_limit cX5_limit 2 (some .int), Cond.fieldLink RX5 15 "CraneCampaign$Turbine" "height" "I", Cond.methodLink RX2 108 yX7_at, Cond.instanceMethod yX7_at, Cond.selects RX7 yX7_at yX7_at, Cond.initialized RX7, Cond.code yX7_at cX7_at 2 (some .int), Cond.fieldLink RX7 15 "CraneCampaign$Winds" "count" "I", Cond.fieldLink RX7 9 "CraneCampaign$Winds" "row" "[I"]
def wsL_window : List Cond := .codeWith yL_window cL_window 5 (some .int) [(0, 10, 13, 21), (0, 10, 17, 13)] :: ((wsL_window_r1 ++ wsL_window_r2) ++ wsX80 ++ wsX20 ++ wsX50 ++ wsX70 ++ (vx_atS RX8 45 "java/lang/IllegalArgumentException" ["java/lang/RuntimeException", "java/lang/Exception"]).filter goodWord ++ (vx_atS RX8 138 "java/lang/IndexOutOfBoundsException" ["java/lang/RuntimeException", "java/lang/Exception"]).filter goodWord)
def wsL_law0_r1 : List Cond := [Cond.classLink RL 8 RX8, Cond.instantiable RX8 6, Cond.initialized RX8, Cond.classLink RL 80 RX9, Cond.instantiable RX9 15, Cond.initialized RX9, Cond.arrayClass .long, Cond.methodLink RL 79 yX8_init, Cond.instanceMethod yX8_init, Cond.code yX8_init cX8_init 2 none, Cond.methodLink RX8 1 objectInit, Cond.instanceMethod objectInit, Cond.code objectInit ⟨#[0xb1]⟩ 1 none, Cond.classLink RX8 7 RX2, Cond.instantiable RX2 10, Cond.initialized RX2, Cond.fieldLink RX8 10 "CraneCampaign" "farm" "LCraneCampaign$Farm;", Cond.fieldLink RX8 16 "CraneCampaign" "trial" "LCraneCampaign$Farm;", Cond.fieldLink RX8 19 "CraneCampaign" "saved" "[LCraneCampaign$Farm;", Cond.fieldLink RX8 23 "CraneCampaign" "oldestSaved" "I", Cond.fieldLink RX8 27 "CraneCampaign" "savedCount" "I", Cond.classLink RX8 30 RX6, Cond.instantiable RX6 2, Cond.initialized RX6]
def wsL_law0_r2 : List Cond := [Cond.fieldLink RX8 33 "CraneCampaign" "buffer" "LCraneCampaign$WindText;", Cond.methodLink RX8 9 yX2_init, Cond.instanceMethod yX2_init, Cond.code yX2_init cX2_init 2 none, Cond.methodLink RX2 3 objectInit, Cond.classLink RX2 9 RX5, Cond.fieldLink RX2 11 "CraneCampaign$Farm" "turbines" "[LCraneCampaign$Turbine;", Cond.fieldLink RX2 17 "CraneCampaign$Farm" "turbineCount" "I", Cond.classLink RX2 21 RX0, Cond.instantiable RX0 3, Cond.initialized RX0, Cond.fieldLink RX2 24 "CraneCampaign$Farm" "bogs" "LCraneCampaign$Bogs;", Cond.classLink RX2 28 RX3, Cond.instantiable RX3 3, Cond.initialized RX3, Cond.fieldLink RX2 31 "CraneCampaign$Farm" "harbour" "LCraneCampaign$Harbour;", Cond.classLink RX2 35 RX4, Cond.instantiable RX4 2, Cond.initialized RX4, Cond.fieldLink RX2 38 "CraneCampaign$Farm" "plan" "LCraneCampaign$Plan;", Cond.classLink RX2 42 RX1, Cond.instantiable RX1 5, Cond.initialized RX1, Cond.fieldLink RX2 45 "CraneCampaign$Farm" "crane" "LCraneCampaign$Crane;"]
def wsL_law0_r3 : List Cond := [Cond.classLink RX2 49 RX7, Cond.instantiable RX7 2, Cond.initialized RX7, Cond.fieldLink RX2 52 "CraneCampaign$Farm" "winds" "LCraneCampaign$Winds;", Cond.arrayClass .int, Cond.fieldLink RX2 56 "CraneCampaign$Farm" "settings" "[I", Cond.fieldLink RX2 60 "CraneCampaign$Farm" "lostBy" "[I", Cond.fieldLink RX2 63 "CraneCampaign$Farm" "hour" "I", Cond.instantiable RX5 7, Cond.initialized RX5, Cond.methodLink RX2 70 arraycopyName, Cond.native arraycopyName, Cond.static arraycopyName, Cond.initialized "java/lang/System", Cond.instanceMethod yX0_init, Cond.code yX0_init cX0_init 1 none, Cond.methodLink RX0 3 objectInit, Cond.fieldLink RX0 9 "CraneCampaign$Bogs" "place" "[I", Cond.fieldLink RX0 15 "CraneCampaign$Bogs" "need" "[I", Cond.fieldLink RX0 18 "CraneCampaign$Bogs" "count" "I", Cond.instanceMethod yX3_init, Cond.code yX3_init cX3_init 1 none, Cond.methodLink RX3 3 objectInit, Cond.fieldLink RX3 9 "CraneCampaign$Harbour" "turbine" "[I"]
def wsL_law0_r4 : List Cond := [Cond.fieldLink RX3 15 "CraneCampaign$Harbour" "weight" "[I", Cond.fieldLink RX3 18 "CraneCampaign$Harbour" "count" "I", Cond.instanceMethod yX4_init, Cond.code yX4_init cX4_init 1 none, Cond.methodLink RX4 3 objectInit, Cond.fieldLink RX4 9 "CraneCampaign$Plan" "row" "[I", Cond.fieldLink RX4 15 "CraneCampaign$Plan" "count" "I", Cond.instanceMethod yX1_init, Cond.code yX1_init cX1_init 1 none, Cond.methodLink RX1 3 objectInit, Cond.fieldLink RX1 9 "CraneCampaign$Crane" "place" "I", Cond.fieldLink RX1 15 "CraneCampaign$Crane" "hoursLeft" "I", Cond.fieldLink RX1 18 "CraneCampaign$Crane" "goal" "I", Cond.fieldLink RX1 21 "CraneCampaign$Crane" "workDone" "I", Cond.fieldLink RX1 24 "CraneCampaign$Crane" "workedOn" "I", Cond.instanceMethod yX7_init, Cond.code yX7_init cX7_init 1 none, Cond.methodLink RX7 3 objectInit, Cond.fieldLink RX7 9 "CraneCampaign$Winds" "row" "[I", Cond.fieldLink RX7 15 "CraneCampaign$Winds" "count" "I", Cond.instanceMethod yX5_init, Cond.code yX5_init cX5_init 1 none, Cond.methodLink RX5 3 objectInit, Cond.instanceMethod yX6_init]
def wsL_law0_r5 : List Cond := [Cond.code yX6_init cX6_init 1 none, Cond.methodLink RX6 3 objectInit, Cond.fieldLink RX6 9 "CraneCampaign$WindText" "letters" "[I", Cond.fieldLink RX6 15 "CraneCampaign$WindText" "length" "I", Cond.methodLink RL 82 yX9_init, Cond.instanceMethod yX9_init, Cond.code yX9_init cX9_init 1 none, Cond.methodLink RX9 1 objectInit, Cond.fieldLink RX9 7 "CraneCampaignModel" "z" "[I", Cond.fieldLink RX9 13 "CraneCampaignModel" "aside" "[I", Cond.fieldLink RX9 16 "CraneCampaignModel" "rows" "[I", Cond.fieldLink RX9 19 "CraneCampaignModel" "text" "[I", Cond.fieldLink RX9 22 "CraneCampaignModel" "other" "[I", Cond.fieldLink RX9 25 "CraneCampaignModel" "read" "[I", Cond.methodLink RL 83 yL_addTurbine, Cond.static yL_addTurbine, Cond.initialized RL, Cond.codeWith yL_addTurbine cL_addTurbine 6 (some .int) [(0, 12, 15, 13), (0, 12, 19, 15)], Cond.classLink RL 13 "java/lang/IllegalArgumentException", Cond.classLink RL 15 "java/lang/IllegalStateException", Cond.methodLink RL 7 yX8_addTurbine, Cond.instanceMethod yX8_addTurbine, Cond.selects RX8 yX8_addTurbine yX8_addTurbine, Cond.code yX8_addTurbine cX8_addTurbine 4 (some .int)]
def wsL_law0_r6 : List Cond := [Cond.classLink RX8 41 "java/lang/IllegalArgumentException", Cond.initialized "java/lang/IllegalArgumentException", Cond.classLink RX8 55 "java/lang/IllegalStateException", Cond.initialized "java/lang/IllegalStateException", Cond.fieldLink RX8 48 "CraneCampaign$Farm" "turbineCount" "I", Cond.methodLink RX8 37 yX8_isWithin, Cond.static yX8_isWithin, Cond.code yX8_isWithin cX8_isWithin 3 (some .boolean), Cond.methodLink RX8 51 yX2_hasTurbineAt, Cond.instanceMethod yX2_hasTurbineAt, Cond.selects RX2 yX2_hasTurbineAt yX2_hasTurbineAt, Cond.code yX2_hasTurbineAt cX2_hasTurbineAt 3 (some .boolean), Cond.fieldLink RX2 95 "CraneCampaign$Turbine" "place" "I", Cond.methodLink RX8 60 yX8_saveState, Cond.instanceMethod yX8_saveState, Cond.selects RX8 yX8_saveState yX8_saveState, Cond.code yX8_saveState cX8_saveState 1 none, Cond.methodLink RX8 215 yX2_copyFrom, Cond.instanceMethod yX2_copyFrom, Cond.selects RX2 yX2_copyFrom yX2_copyFrom, Cond.code yX2_copyFrom cX2_copyFrom 3 none, Cond.methodLink RX2 76 yX5_copyFrom, Cond.instanceMethod yX5_copyFrom, Cond.selects RX5 yX5_copyFrom yX5_copyFrom]
def wsL_law0_r7 : List Cond := [Cond.code yX5_copyFrom cX5_copyFrom 2 none, Cond.fieldLink RX5 9 "CraneCampaign$Turbine" "place" "I", Cond.fieldLink RX5 15 "CraneCampaign$Turbine" "height" "I", Cond.fieldLink RX5 18 "CraneCampaign$Turbine" "rate" "I", Cond.fieldLink RX5 21 "CraneCampaign$Turbine" "fault" "I", Cond.fieldLink RX5 24 "CraneCampaign$Turbine" "age" "I", Cond.fieldLink RX5 27 "CraneCampaign$Turbine" "lost" "I", Cond.fieldLink RX5 30 "CraneCampaign$Turbine" "won" "I", Cond.methodLink RX2 80 yX0_copyFrom, Cond.instanceMethod yX0_copyFrom, Cond.selects RX0 yX0_copyFrom yX0_copyFrom, Cond.code yX0_copyFrom cX0_copyFrom 2 none, Cond.methodLink RX0 22 arraycopyName, Cond.methodLink RX2 83 yX3_copyFrom, Cond.instanceMethod yX3_copyFrom, Cond.selects RX3 yX3_copyFrom yX3_copyFrom, Cond.code yX3_copyFrom cX3_copyFrom 2 none, Cond.methodLink RX3 22 arraycopyName, Cond.methodLink RX2 86 yX4_copyFrom, Cond.instanceMethod yX4_copyFrom, Cond.selects RX4 yX4_copyFrom yX4_copyFrom, Cond.code yX4_copyFrom cX4_copyFrom 2 none, Cond.methodLink RX4 19 arraycopyName, Cond.methodLink RX2 89 yX1_copyFrom]
def wsL_law0_r8 : List Cond := [Cond.instanceMethod yX1_copyFrom, Cond.selects RX1 yX1_copyFrom yX1_copyFrom, Cond.code yX1_copyFrom cX1_copyFrom 2 none, Cond.methodLink RX2 92 yX7_copyFrom, Cond.instanceMethod yX7_copyFrom, Cond.selects RX7 yX7_copyFrom yX7_copyFrom, Cond.code yX7_copyFrom cX7_copyFrom 2 none, Cond.methodLink RX7 19 arraycopyName, Cond.methodLink RX8 63 yX2_buildTurbine, Cond.instanceMethod yX2_buildTurbine, Cond.selects RX2 yX2_buildTurbine yX2_buildTurbine, Cond.code yX2_buildTurbine cX2_buildTurbine 4 (some .int), Cond.methodLink RX2 98 yX5_begin, Cond.instanceMethod yX5_begin, Cond.selects RX5 yX5_begin yX5_begin, Cond.code yX5_begin cX5_begin 4 none, Cond.methodLink RL 88 yX9_addTurbine, Cond.instanceMethod yX9_addTurbine, Cond.selects RX9 yX9_addTurbine yX9_addTurbine, Cond.code yX9_addTurbine cX9_addTurbine 6 (some .int), Cond.fieldLink RX9 28 "CraneCampaignModel" "thrown" "I", Cond.methodLink RX9 32 yX9_within, Cond.static yX9_within, Cond.code yX9_within cX9_within 3 (some .boolean)]
def wsL_law0_r9 : List Cond := [Cond.methodLink RX9 76 yX9_fails, Cond.instanceMethod yX9_fails, Cond.selects RX9 yX9_fails yX9_fails, Cond.code yX9_fails cX9_fails 2 (some .int), Cond.methodLink RX9 79 yX9_save, Cond.instanceMethod yX9_save, Cond.selects RX9 yX9_save yX9_save, Cond.code yX9_save cX9_save 2 none, Cond.fieldLink RX9 36 "CraneCampaignModel" "saved" "I", Cond.methodLink RL 89 yX9_thrown, Cond.instanceMethod yX9_thrown, Cond.selects RX9 yX9_thrown yX9_thrown, Cond.code yX9_thrown cX9_thrown 1 (some .int), Cond.methodLink RL 92 yL_setFault, Cond.static yL_setFault, Cond.codeWith yL_setFault cL_setFault 5 (some .int) [(0, 10, 13, 21), (0, 10, 17, 13)], Cond.classLink RL 21 "java/lang/IndexOutOfBoundsException", Cond.methodLink RL 17 yX8_setFault, Cond.instanceMethod yX8_setFault, Cond.selects RX8 yX8_setFault yX8_setFault, Cond.code yX8_setFault cX8_setFault 5 (some .int), Cond.fieldLink RX8 73 "CraneCampaign$Farm" "turbines" "[LCraneCampaign$Turbine;", Cond.fieldLink RX8 77 "CraneCampaign$Turbine" "fault" "I", Cond.fieldLink RX8 82 "CraneCampaign$Turbine" "age" "I"]
def wsL_law0_r10 : List Cond := [Cond.methodLink RX8 67 yX8_requireTurbine, Cond.instanceMethod yX8_requireTurbine, Cond.selects RX8 yX8_requireTurbine yX8_requireTurbine, Cond.code yX8_requireTurbine cX8_requireTurbine 2 none, Cond.classLink RX8 134 "java/lang/IndexOutOfBoundsException", Cond.initialized "java/lang/IndexOutOfBoundsException", Cond.methodLink RX8 319 yX2_hasTurbine, Cond.instanceMethod yX2_hasTurbine, Cond.selects RX2 yX2_hasTurbine yX2_hasTurbine, Cond.code yX2_hasTurbine cX2_hasTurbine 2 (some .boolean), Cond.methodLink RL 95 yX9_setFault, Cond.instanceMethod yX9_setFault, Cond.selects RX9 yX9_setFault yX9_setFault, Cond.code yX9_setFault cX9_setFault 4 (some .int), Cond.methodLink RX9 82 yX9_isTurbine, Cond.instanceMethod yX9_isTurbine, Cond.selects RX9 yX9_isTurbine yX9_isTurbine, Cond.code yX9_isTurbine cX9_isTurbine 2 (some .boolean), Cond.methodLink RL 96 yL_setBog, Cond.static yL_setBog, Cond.codeWith yL_setBog cL_setBog 5 (some .int) [(0, 10, 13, 13), (0, 10, 17, 15)], Cond.methodLink RL 23 yX8_setBog, Cond.instanceMethod yX8_setBog, Cond.selects RX8 yX8_setBog yX8_setBog]
def wsL_law0_r11 : List Cond := [Cond.code yX8_setBog cX8_setBog 3 (some .int), Cond.fieldLink RX8 87 "CraneCampaign$Farm" "bogs" "LCraneCampaign$Bogs;", Cond.fieldLink RX8 107 "CraneCampaign$Bogs" "count" "I", Cond.methodLink RX8 91 yX0_isFull, Cond.instanceMethod yX0_isFull, Cond.selects RX0 yX0_isFull yX0_isFull, Cond.code yX0_isFull cX0_isFull 1 (some .boolean), Cond.methodLink RX8 97 yX0_indexAt, Cond.instanceMethod yX0_indexAt, Cond.selects RX0 yX0_indexAt yX0_indexAt, Cond.code yX0_indexAt cX0_indexAt 3 (some .int), Cond.methodLink RX8 103 yX0_put, Cond.instanceMethod yX0_put, Cond.selects RX0 yX0_put yX0_put, Cond.code yX0_put cX0_put 4 none, Cond.methodLink RX0 28 yX0_indexAt, Cond.methodLink RX0 32 yX0_removeAt, Cond.instanceMethod yX0_removeAt, Cond.selects RX0 yX0_removeAt yX0_removeAt, Cond.code yX0_removeAt cX0_removeAt 3 none, Cond.methodLink RX0 36 yX0_insert, Cond.instanceMethod yX0_insert, Cond.selects RX0 yX0_insert yX0_insert, Cond.code yX0_insert cX0_insert 5 none]
def wsL_law0_r12 : List Cond := [Cond.methodLink RX0 40 yX0_isFull, Cond.methodLink RL 98 yX9_setBog, Cond.instanceMethod yX9_setBog, Cond.selects RX9 yX9_setBog yX9_setBog, Cond.code yX9_setBog cX9_setBog 6 (some .int), Cond.methodLink RL 99 yL_set, Cond.static yL_set, Cond.codeWith yL_set cL_set 5 (some .int) [(0, 10, 13, 21), (0, 10, 17, 13)], Cond.methodLink RL 26 yX8_set, Cond.instanceMethod yX8_set, Cond.selects RX8 yX8_set yX8_set, Cond.code yX8_set cX8_set 4 (some .int), Cond.fieldLink RX8 113 "CraneCampaign" "SETTING_LOWEST" "[I", Cond.fieldLink RX8 117 "CraneCampaign" "SETTING_HIGHEST" "[I", Cond.fieldLink RX8 122 "CraneCampaign$Farm" "settings" "[I", Cond.methodLink RX8 110 yX8_requireSetting, Cond.static yX8_requireSetting, Cond.code yX8_requireSetting cX8_requireSetting 1 none, Cond.methodLink RL 101 yX9_set, Cond.instanceMethod yX9_set, Cond.selects RX9 yX9_set yX9_set, Cond.code yX9_set cX9_set 4 (some .int), Cond.methodLink RX9 86 yX9_lowest, Cond.static yX9_lowest]
def wsL_law0_r13 : List Cond := [Cond.code yX9_lowest cX9_lowest 1 (some .int), Cond.methodLink RX9 89 yX9_highest, Cond.static yX9_highest, Cond.code yX9_highest cX9_highest 1 (some .int), Cond.methodLink RL 102 yL_plan, Cond.static yL_plan, Cond.codeWith yL_plan cL_plan 5 (some .int) [(0, 10, 13, 21)], Cond.methodLink RL 29 yX8_plan, Cond.instanceMethod yX8_plan, Cond.selects RX8 yX8_plan yX8_plan, Cond.code yX8_plan cX8_plan 3 (some .int), Cond.fieldLink RX8 125 "CraneCampaign$Farm" "plan" "LCraneCampaign$Plan;", Cond.fieldLink RX8 142 "CraneCampaign$Plan" "count" "I", Cond.methodLink RX8 129 yX4_countWithout, Cond.instanceMethod yX4_countWithout, Cond.selects RX4 yX4_countWithout yX4_countWithout, Cond.code yX4_countWithout cX4_countWithout 2 (some .int), Cond.methodLink RX4 25 yX4_placeOf, Cond.instanceMethod yX4_placeOf, Cond.selects RX4 yX4_placeOf yX4_placeOf, Cond.code yX4_placeOf cX4_placeOf 3 (some .int), Cond.methodLink RX8 139 yX4_moveTo, Cond.instanceMethod yX4_moveTo, Cond.selects RX4 yX4_moveTo yX4_moveTo]
def wsL_law0_r14 : List Cond := [Cond.code yX4_moveTo cX4_moveTo 4 none, Cond.methodLink RX4 29 yX4_removeAt, Cond.instanceMethod yX4_removeAt, Cond.selects RX4 yX4_removeAt yX4_removeAt, Cond.code yX4_removeAt cX4_removeAt 3 none, Cond.methodLink RL 104 yX9_plan, Cond.instanceMethod yX9_plan, Cond.selects RX9 yX9_plan yX9_plan, Cond.code yX9_plan cX9_plan 6 (some .int), Cond.methodLink RX9 92 yX9_placeOf, Cond.instanceMethod yX9_placeOf, Cond.selects RX9 yX9_placeOf yX9_placeOf, Cond.code yX9_placeOf cX9_placeOf 4 (some .int), Cond.methodLink RX9 56 yX9_takeOff, Cond.instanceMethod yX9_takeOff, Cond.selects RX9 yX9_takeOff yX9_takeOff, Cond.code yX9_takeOff cX9_takeOff 3 none, Cond.methodLink RL 105 yL_unplan, Cond.static yL_unplan, Cond.codeWith yL_unplan cL_unplan 4 (some .int) [(0, 9, 12, 21), (0, 9, 15, 15)], Cond.methodLink RL 32 yX8_unplan, Cond.instanceMethod yX8_unplan, Cond.selects RX8 yX8_unplan yX8_unplan, Cond.code yX8_unplan cX8_unplan 3 (some .int)]
def wsL_law0_r15 : List Cond := [Cond.methodLink RX8 143 yX4_placeOf, Cond.methodLink RX8 148 yX4_removeAt, Cond.methodLink RL 108 yX9_unplan, Cond.instanceMethod yX9_unplan, Cond.selects RX9 yX9_unplan yX9_unplan, Cond.code yX9_unplan cX9_unplan 3 (some .int), Cond.methodLink RL 109 yL_orderBlade, Cond.static yL_orderBlade, Cond.codeWith yL_orderBlade cL_orderBlade 4 (some .int) [(0, 9, 12, 21), (0, 9, 15, 15)], Cond.methodLink RL 36 yX8_orderBlade, Cond.instanceMethod yX8_orderBlade, Cond.selects RX8 yX8_orderBlade yX8_orderBlade, Cond.code yX8_orderBlade cX8_orderBlade 2 (some .int), Cond.fieldLink RX8 151 "CraneCampaign$Farm" "harbour" "LCraneCampaign$Harbour;", Cond.fieldLink RX8 167 "CraneCampaign$Harbour" "count" "I", Cond.methodLink RX8 155 yX3_isFull, Cond.instanceMethod yX3_isFull, Cond.selects RX3 yX3_isFull yX3_isFull, Cond.code yX3_isFull cX3_isFull 1 (some .boolean), Cond.methodLink RX8 160 yX5_bladeWeight, Cond.instanceMethod yX5_bladeWeight, Cond.selects RX5 yX5_bladeWeight yX5_bladeWeight, Cond.code yX5_bladeWeight cX5_bladeWeight 1 (some .int), Cond.methodLink RX8 164 yX3_take]
def wsL_law0_r16 : List Cond := [Cond.instanceMethod yX3_take, Cond.selects RX3 yX3_take yX3_take, Cond.code yX3_take cX3_take 3 none, Cond.methodLink RX3 28 yX3_isFull, Cond.methodLink RL 111 yX9_orderBlade, Cond.instanceMethod yX9_orderBlade, Cond.selects RX9 yX9_orderBlade yX9_orderBlade, Cond.code yX9_orderBlade cX9_orderBlade 2 (some .int), Cond.methodLink RL 112 yL_pass, Cond.static yL_pass, Cond.codeWith yL_pass cL_pass 4 (some .int) [(0, 9, 12, 13), (0, 9, 15, 15)], Cond.methodLink RL 39 yX8_pass, Cond.instanceMethod yX8_pass, Cond.selects RX8 yX8_pass yX8_pass, Cond.code yX8_pass cX8_pass 2 (some .int), Cond.fieldLink RX8 170 "CraneCampaign$Farm" "hour" "I", Cond.methodLink RX8 175 yX2_runHours, Cond.instanceMethod yX2_runHours, Cond.selects RX2 yX2_runHours yX2_runHours, Cond.code yX2_runHours cX2_runHours 4 (some .int), Cond.methodLink RX2 172 yX2_runHour, Cond.instanceMethod yX2_runHour, Cond.selects RX2 yX2_runHour yX2_runHour, Cond.code yX2_runHour cX2_runHour 4 (some .int)]
def wsL_law0_r17 : List Cond := [Cond.methodLink RX2 175 yX3_unload, Cond.instanceMethod yX3_unload, Cond.selects RX3 yX3_unload yX3_unload, Cond.code yX3_unload cX3_unload 5 none, Cond.methodLink RX3 32 Lib.Math.min.name, Cond.static Lib.Math.min.name, Cond.initialized "java/lang/Math", Cond.code Lib.Math.min.name Lib.Math.min.code 2 (some .int), Cond.methodLink RX2 179 yX2_dropFaultless, Cond.instanceMethod yX2_dropFaultless, Cond.selects RX2 yX2_dropFaultless yX2_dropFaultless, Cond.code yX2_dropFaultless cX2_dropFaultless 3 none, Cond.fieldLink RX2 153 "CraneCampaign$Plan" "count" "I", Cond.fieldLink RX2 197 "CraneCampaign$Crane" "workedOn" "I", Cond.fieldLink RX2 102 "CraneCampaign$Turbine" "fault" "I", Cond.methodLink RX2 182 yX4_first, Cond.instanceMethod yX4_first, Cond.selects RX4 yX4_first yX4_first, Cond.code yX4_first cX4_first 1 (some .int), Cond.methodLink RX2 200 yX1_forgetWork, Cond.instanceMethod yX1_forgetWork, Cond.selects RX1 yX1_forgetWork yX1_forgetWork, Cond.code yX1_forgetWork cX1_forgetWork 1 none, Cond.methodLink RX2 112 yX2_hasTurbine]
def wsL_law0_r18 : List Cond := [Cond.methodLink RX2 203 yX4_removeAt, Cond.methodLink RX2 185 yX2_serve, Cond.instanceMethod yX2_serve, Cond.selects RX2 yX2_serve yX2_serve, Cond.code yX2_serve cX2_serve 3 (some .int), Cond.fieldLink RX2 210 "CraneCampaign$Crane" "place" "I", Cond.methodLink RX2 206 yX1_isOnWay, Cond.instanceMethod yX1_isOnWay, Cond.selects RX1 yX1_isOnWay yX1_isOnWay, Cond.code yX1_isOnWay cX1_isOnWay 1 (some .boolean), Cond.methodLink RX2 211 yX2_hoursBetween, Cond.instanceMethod yX2_hoursBetween, Cond.selects RX2 yX2_hoursBetween yX2_hoursBetween, Cond.code yX2_hoursBetween cX2_hoursBetween 6 (some .int), Cond.methodLink RX2 156 Lib.Math.max.name, Cond.static Lib.Math.max.name, Cond.code Lib.Math.max.name Lib.Math.max.code 2 (some .int), Cond.methodLink RX2 162 Lib.Math.abs.name, Cond.static Lib.Math.abs.name, Cond.code Lib.Math.abs.name Lib.Math.abs.code 1 (some .int), Cond.methodLink RX2 165 Lib.Math.min.name, Cond.methodLink RX2 168 yX0_countBetween, Cond.instanceMethod yX0_countBetween, Cond.selects RX0 yX0_countBetween yX0_countBetween]
def wsL_law0_r19 : List Cond := [Cond.code yX0_countBetween cX0_countBetween 6 (some .int), Cond.methodLink RX2 214 yX1_driveTo, Cond.instanceMethod yX1_driveTo, Cond.selects RX1 yX1_driveTo yX1_driveTo, Cond.code yX1_driveTo cX1_driveTo 4 none, Cond.methodLink RX1 27 Lib.Math.max.name, Cond.methodLink RX2 131 yX3_unloadedFor, Cond.instanceMethod yX3_unloadedFor, Cond.selects RX3 yX3_unloadedFor yX3_unloadedFor, Cond.code yX3_unloadedFor cX3_unloadedFor 4 (some .int), Cond.methodLink RX2 137 yX2_windNow, Cond.instanceMethod yX2_windNow, Cond.selects RX2 yX2_windNow yX2_windNow, Cond.code yX2_windNow cX2_windNow 1 (some .int), Cond.methodLink RX2 108 yX7_at, Cond.instanceMethod yX7_at, Cond.selects RX7 yX7_at yX7_at, Cond.code yX7_at cX7_at 2 (some .int), Cond.methodLink RX2 125 yX5_limit, Cond.instanceMethod yX5_limit, Cond.selects RX5 yX5_limit yX5_limit, Cond.code yX5_limit cX5_limit 2 (some .int), Cond.methodLink RX2 217 yX1_workAnHourOn, Cond.instanceMethod yX1_workAnHourOn]
def wsL_law0_r20 : List Cond := [Cond.selects RX1 yX1_workAnHourOn yX1_workAnHourOn, Cond.code yX1_workAnHourOn cX1_workAnHourOn 2 none, Cond.methodLink RX2 188 yX2_sharePower, Cond.instanceMethod yX2_sharePower, Cond.selects RX2 yX2_sharePower yX2_sharePower, Cond.code yX2_sharePower cX2_sharePower 9 (some .int), Cond.fieldLink RX2 134 "CraneCampaign$Turbine" "lost" "I", Cond.fieldLink RX2 105 "CraneCampaign$Turbine" "won" "I", Cond.methodLink RX2 141 yX5_fullPower, Cond.instanceMethod yX5_fullPower, Cond.selects RX5 yX5_fullPower yX5_fullPower, Cond.code yX5_fullPower cX5_fullPower 2 (some .int), Cond.methodLink RX5 33 Lib.Math.min.name, Cond.methodLink RX2 191 yX2_finishIfDone, Cond.instanceMethod yX2_finishIfDone, Cond.selects RX2 yX2_finishIfDone yX2_finishIfDone, Cond.code yX2_finishIfDone cX2_finishIfDone 2 none, Cond.fieldLink RX2 220 "CraneCampaign$Crane" "workDone" "I", Cond.fieldLink RX2 122 "CraneCampaign$Turbine" "age" "I", Cond.methodLink RX2 223 yX3_useBladeFor, Cond.instanceMethod yX3_useBladeFor, Cond.selects RX3 yX3_useBladeFor yX3_useBladeFor, Cond.code yX3_useBladeFor cX3_useBladeFor 3 none, Cond.methodLink RX3 38 yX3_removeAt]
def wsL_law0_r21 : List Cond := [Cond.instanceMethod yX3_removeAt, Cond.selects RX3 yX3_removeAt yX3_removeAt, Cond.code yX3_removeAt cX3_removeAt 3 none, Cond.methodLink RX2 128 yX4_placeOf, Cond.methodLink RX2 194 yX2_worsen, Cond.instanceMethod yX2_worsen, Cond.selects RX2 yX2_worsen yX2_worsen, Cond.code yX2_worsen cX2_worsen 3 none, Cond.methodLink RX2 226 yX5_growOlder, Cond.instanceMethod yX5_growOlder, Cond.selects RX5 yX5_growOlder yX5_growOlder, Cond.code yX5_growOlder cX5_growOlder 2 none, Cond.methodLink RL 114 yX9_pass, Cond.instanceMethod yX9_pass, Cond.selects RX9 yX9_pass yX9_pass, Cond.code yX9_pass cX9_pass 2 (some .int), Cond.methodLink RX9 95 yX9_goHours, Cond.instanceMethod yX9_goHours, Cond.selects RX9 yX9_goHours yX9_goHours, Cond.code yX9_goHours cX9_goHours 4 (some .int), Cond.methodLink RX9 72 yX9_goHour, Cond.instanceMethod yX9_goHour, Cond.selects RX9 yX9_goHour yX9_goHour, Cond.code yX9_goHour cX9_goHour 9 (some .int)]
def wsL_law0_r22 : List Cond := [Cond.methodLink RX9 50 yX9_unload, Cond.instanceMethod yX9_unload, Cond.selects RX9 yX9_unload yX9_unload, Cond.code yX9_unload cX9_unload 4 none, Cond.methodLink RX9 53 yX9_forget, Cond.instanceMethod yX9_forget, Cond.selects RX9 yX9_forget yX9_forget, Cond.code yX9_forget cX9_forget 1 none, Cond.methodLink RX9 60 yX9_windAt, Cond.instanceMethod yX9_windAt, Cond.selects RX9 yX9_windAt yX9_windAt, Cond.code yX9_windAt cX9_windAt 2 (some .int), Cond.methodLink RX9 63 yX9_serve, Cond.instanceMethod yX9_serve, Cond.selects RX9 yX9_serve yX9_serve, Cond.code yX9_serve cX9_serve 4 (some .int), Cond.methodLink RX9 39 yX9_hoursOf, Cond.instanceMethod yX9_hoursOf, Cond.selects RX9 yX9_hoursOf yX9_hoursOf, Cond.code yX9_hoursOf cX9_hoursOf 8 (some .int), Cond.methodLink RX9 43 yX9_bladeFor, Cond.instanceMethod yX9_bladeFor, Cond.selects RX9 yX9_bladeFor yX9_bladeFor, Cond.code yX9_bladeFor cX9_bladeFor 4 (some .int)]
def wsL_law0_r23 : List Cond := [Cond.methodLink RX9 47 yX9_limitOf, Cond.instanceMethod yX9_limitOf, Cond.selects RX9 yX9_limitOf yX9_limitOf, Cond.code yX9_limitOf cX9_limitOf 2 (some .int), Cond.methodLink RX9 66 yX9_full, Cond.instanceMethod yX9_full, Cond.selects RX9 yX9_full yX9_full, Cond.code yX9_full cX9_full 3 (some .int), Cond.methodLink RX9 69 yX9_use, Cond.instanceMethod yX9_use, Cond.selects RX9 yX9_use yX9_use, Cond.code yX9_use cX9_use 3 none, Cond.methodLink RL 115 yL_append, Cond.static yL_append, Cond.codeWith yL_append cL_append 4 (some .int) [(0, 9, 12, 13), (0, 9, 15, 15)], Cond.methodLink RL 42 yX8_append, Cond.instanceMethod yX8_append, Cond.selects RX8 yX8_append yX8_append, Cond.code yX8_append cX8_append 2 (some .int), Cond.fieldLink RX8 186 "CraneCampaign$WindText" "length" "I", Cond.methodLink RX8 180 yX6_isFull, Cond.instanceMethod yX6_isFull, Cond.selects RX6 yX6_isFull yX6_isFull, Cond.code yX6_isFull cX6_isFull 1 (some .boolean)]
def wsL_law0_r24 : List Cond := [Cond.methodLink RX8 183 yX6_add, Cond.instanceMethod yX6_add, Cond.selects RX6 yX6_add yX6_add, Cond.code yX6_add cX6_add 2 none, Cond.methodLink RX6 19 yX6_isFull, Cond.methodLink RL 117 yX9_append, Cond.instanceMethod yX9_append, Cond.selects RX9 yX9_append yX9_append, Cond.code yX9_append cX9_append 2 (some .int), Cond.fieldLink RX9 98 "CraneCampaignModel" "length" "I", Cond.methodLink RL 118 yX8_clearBuffer, Cond.instanceMethod yX8_clearBuffer, Cond.selects RX8 yX8_clearBuffer yX8_clearBuffer, Cond.code yX8_clearBuffer cX8_clearBuffer 2 (some .int), Cond.methodLink RL 121 yX9_clearBuffer, Cond.instanceMethod yX9_clearBuffer, Cond.selects RX9 yX9_clearBuffer yX9_clearBuffer, Cond.code yX9_clearBuffer cX9_clearBuffer 2 (some .int), Cond.methodLink RL 122 yX8_firstError, Cond.instanceMethod yX8_firstError, Cond.selects RX8 yX8_firstError yX8_firstError, Cond.code yX8_firstError cX8_firstError 1 (some .int), Cond.methodLink RX8 189 yX6_errorIndex, Cond.instanceMethod yX6_errorIndex]
def wsL_law0_r25 : List Cond := [Cond.selects RX6 yX6_errorIndex yX6_errorIndex, Cond.code yX6_errorIndex cX6_errorIndex 3 (some .int), Cond.methodLink RX6 23 yX6_after, Cond.static yX6_after, Cond.code yX6_after cX6_after 2 (some .int), Cond.methodLink RX6 27 yX6_isEndOfPart, Cond.static yX6_isEndOfPart, Cond.code yX6_isEndOfPart cX6_isEndOfPart 1 (some .boolean), Cond.methodLink RX6 31 yX6_isNumber, Cond.static yX6_isNumber, Cond.code yX6_isNumber cX6_isNumber 1 (some .boolean), Cond.methodLink RX6 34 yX6_afterDigit, Cond.static yX6_afterDigit, Cond.code yX6_afterDigit cX6_afterDigit 2 (some .int), Cond.methodLink RX6 37 yX6_afterFirstOfNumber, Cond.static yX6_afterFirstOfNumber, Cond.code yX6_afterFirstOfNumber cX6_afterFirstOfNumber 1 (some .int), Cond.methodLink RX6 41 yX6_afterFirstOfTimes, Cond.static yX6_afterFirstOfTimes, Cond.code yX6_afterFirstOfTimes cX6_afterFirstOfTimes 1 (some .int), Cond.methodLink RL 125 yX9_firstError, Cond.instanceMethod yX9_firstError, Cond.selects RX9 yX9_firstError yX9_firstError, Cond.code yX9_firstError cX9_firstError 1 (some .int)]
def wsL_law0_r26 : List Cond := [Cond.methodLink RX9 138 yX9_readText, Cond.instanceMethod yX9_readText, Cond.selects RX9 yX9_readText yX9_readText, Cond.code yX9_readText cX9_readText 2 (some .int), Cond.fieldLink RX9 110 "CraneCampaignModel" "state" "I", Cond.fieldLink RX9 104 "CraneCampaignModel" "all" "I", Cond.fieldLink RX9 131 "CraneCampaignModel" "isWhole" "Z", Cond.methodLink RX9 135 yX9_goes, Cond.instanceMethod yX9_goes, Cond.selects RX9 yX9_goes yX9_goes, Cond.code yX9_goes cX9_goes 4 (some .boolean), Cond.methodLink RX9 116 yX9_first, Cond.instanceMethod yX9_first, Cond.selects RX9 yX9_first yX9_first, Cond.code yX9_first cX9_first 2 (some .boolean), Cond.fieldLink RX9 107 "CraneCampaignModel" "number" "I", Cond.fieldLink RX9 101 "CraneCampaignModel" "times" "I", Cond.methodLink RX9 119 yX9_second, Cond.instanceMethod yX9_second, Cond.selects RX9 yX9_second yX9_second, Cond.code yX9_second cX9_second 2 (some .boolean), Cond.methodLink RX9 122 yX9_ends, Cond.instanceMethod yX9_ends, Cond.selects RX9 yX9_ends yX9_ends]
def wsL_law0_r27 : List Cond := [Cond.code yX9_ends cX9_ends 2 (some .boolean), Cond.methodLink RX9 113 yX9_close, Cond.instanceMethod yX9_close, Cond.selects RX9 yX9_close yX9_close, Cond.code yX9_close cX9_close 2 none, Cond.methodLink RX9 125 yX9_often, Cond.instanceMethod yX9_often, Cond.selects RX9 yX9_often yX9_often, Cond.code yX9_often cX9_often 2 (some .boolean), Cond.methodLink RX9 128 yX9_more, Cond.instanceMethod yX9_more, Cond.selects RX9 yX9_more yX9_more, Cond.code yX9_more cX9_more 2 (some .boolean), Cond.methodLink RL 126 yL_load, Cond.static yL_load, Cond.codeWith yL_load cL_load 3 (some .int) [(0, 8, 11, 13), (0, 8, 14, 15)], Cond.methodLink RL 45 yX8_load, Cond.instanceMethod yX8_load, Cond.selects RX8 yX8_load yX8_load, Cond.code yX8_load cX8_load 1 (some .int), Cond.fieldLink RX8 202 "CraneCampaign$Farm" "winds" "LCraneCampaign$Winds;", Cond.fieldLink RX8 210 "CraneCampaign$Winds" "count" "I", Cond.methodLink RX8 192 yX6_isComplete, Cond.instanceMethod yX6_isComplete]
def wsL_law0_r28 : List Cond := [Cond.selects RX6 yX6_isComplete yX6_isComplete, Cond.code yX6_isComplete cX6_isComplete 3 (some .boolean), Cond.methodLink RX8 197 yX6_numberCount, Cond.instanceMethod yX6_numberCount, Cond.selects RX6 yX6_numberCount yX6_numberCount, Cond.code yX6_numberCount cX6_numberCount 3 (some .int), Cond.methodLink RX6 44 yX6_timesFrom, Cond.instanceMethod yX6_timesFrom, Cond.selects RX6 yX6_timesFrom yX6_timesFrom, Cond.code yX6_timesFrom cX6_timesFrom 3 (some .int), Cond.methodLink RX6 52 yX6_valueFrom, Cond.instanceMethod yX6_valueFrom, Cond.selects RX6 yX6_valueFrom yX6_valueFrom, Cond.code yX6_valueFrom cX6_valueFrom 4 (some .int), Cond.methodLink RX8 206 yX6_writeTo, Cond.instanceMethod yX6_writeTo, Cond.selects RX6 yX6_writeTo yX6_writeTo, Cond.code yX6_writeTo cX6_writeTo 6 none, Cond.fieldLink RX6 47 "CraneCampaign$Winds" "count" "I", Cond.methodLink RX6 55 yX7_add, Cond.instanceMethod yX7_add, Cond.selects RX7 yX7_add yX7_add, Cond.code yX7_add cX7_add 2 none, Cond.methodLink RL 129 yX9_load]
def wsL_law0_r29 : List Cond := [Cond.instanceMethod yX9_load, Cond.selects RX9 yX9_load yX9_load, Cond.code yX9_load cX9_load 2 (some .int), Cond.methodLink RL 130 yL_undo, Cond.static yL_undo, Cond.codeWith yL_undo cL_undo 3 (some .int) [(0, 8, 11, 15)], Cond.methodLink RL 49 yX8_undo, Cond.instanceMethod yX8_undo, Cond.selects RX8 yX8_undo yX8_undo, Cond.code yX8_undo cX8_undo 1 (some .int), Cond.methodLink RL 132 yX9_undo, Cond.instanceMethod yX9_undo, Cond.selects RX9 yX9_undo yX9_undo, Cond.code yX9_undo cX9_undo 2 (some .int), Cond.methodLink RL 133 yL_turbine, Cond.static yL_turbine, Cond.codeWith yL_turbine cL_turbine 5 (some .int) [(0, 10, 13, 21), (0, 10, 17, 13)], Cond.methodLink RL 52 yX8_turbine, Cond.instanceMethod yX8_turbine, Cond.selects RX8 yX8_turbine yX8_turbine, Cond.code yX8_turbine cX8_turbine 3 (some .int), Cond.methodLink RX8 221 yX2_turbineProperty, Cond.instanceMethod yX2_turbineProperty, Cond.selects RX2 yX2_turbineProperty yX2_turbineProperty]
def wsL_law0_r30 : List Cond := [Cond.code yX2_turbineProperty cX2_turbineProperty 4 (some .int), Cond.fieldLink RX2 116 "CraneCampaign$Turbine" "height" "I", Cond.fieldLink RX2 119 "CraneCampaign$Turbine" "rate" "I", Cond.methodLink RL 135 yX9_turbine, Cond.instanceMethod yX9_turbine, Cond.selects RX9 yX9_turbine yX9_turbine, Cond.code yX9_turbine cX9_turbine 3 (some .int), Cond.methodLink RX9 144 yX9_turbineNow, Cond.instanceMethod yX9_turbineNow, Cond.selects RX9 yX9_turbineNow yX9_turbineNow, Cond.code yX9_turbineNow cX9_turbineNow 3 (some .int), Cond.methodLink RX9 141 yX9_ashore, Cond.instanceMethod yX9_ashore, Cond.selects RX9 yX9_ashore yX9_ashore, Cond.code yX9_ashore cX9_ashore 4 (some .int), Cond.methodLink RL 136 yL_blade, Cond.static yL_blade, Cond.codeWith yL_blade cL_blade 5 (some .int) [(0, 10, 13, 21), (0, 10, 17, 13)], Cond.methodLink RL 55 yX8_blade, Cond.instanceMethod yX8_blade, Cond.selects RX8 yX8_blade yX8_blade, Cond.code yX8_blade cX8_blade 3 (some .int), Cond.fieldLink RX8 229 "CraneCampaign$Harbour" "turbine" "[I", Cond.fieldLink RX8 232 "CraneCampaign$Harbour" "weight" "[I"]
def wsL_law0_r31 : List Cond := [Cond.methodLink RL 138 yX9_blade, Cond.instanceMethod yX9_blade, Cond.selects RX9 yX9_blade yX9_blade, Cond.code yX9_blade cX9_blade 3 (some .int), Cond.methodLink RL 139 yL_bog, Cond.static yL_bog, Cond.codeWith yL_bog cL_bog 5 (some .int) [(0, 10, 13, 21), (0, 10, 17, 13)], Cond.methodLink RL 58 yX8_bog, Cond.instanceMethod yX8_bog, Cond.selects RX8 yX8_bog yX8_bog, Cond.code yX8_bog cX8_bog 3 (some .int), Cond.fieldLink RX8 237 "CraneCampaign$Bogs" "place" "[I", Cond.fieldLink RX8 240 "CraneCampaign$Bogs" "need" "[I", Cond.methodLink RL 141 yX9_bog, Cond.instanceMethod yX9_bog, Cond.selects RX9 yX9_bog yX9_bog, Cond.code yX9_bog cX9_bog 3 (some .int), Cond.methodLink RL 142 yL_claims, Cond.static yL_claims, Cond.codeWith yL_claims cL_claims 4 (some .int) [(0, 9, 12, 13)], Cond.methodLink RL 61 yX8_claims, Cond.instanceMethod yX8_claims, Cond.selects RX8 yX8_claims yX8_claims, Cond.code yX8_claims cX8_claims 2 (some .int)]
def wsL_law0_r32 : List Cond := [Cond.fieldLink RX8 245 "CraneCampaign$Farm" "lostBy" "[I", Cond.methodLink RL 144 yX9_claims, Cond.instanceMethod yX9_claims, Cond.selects RX9 yX9_claims yX9_claims, Cond.code yX9_claims cX9_claims 2 (some .int), Cond.methodLink RL 145 yL_count, Cond.static yL_count, Cond.codeWith yL_count cL_count 4 (some .int) [(0, 9, 12, 13)], Cond.methodLink RL 64 yX8_count, Cond.instanceMethod yX8_count, Cond.selects RX8 yX8_count yX8_count, Cond.code yX8_count cX8_count 2 (some .int), Cond.methodLink RX8 250 yX8_numberOf, Cond.instanceMethod yX8_numberOf, Cond.selects RX8 yX8_numberOf yX8_numberOf, Cond.code yX8_numberOf cX8_numberOf 3 (some .int), Cond.fieldLink RX8 326 "CraneCampaign$Farm" "crane" "LCraneCampaign$Crane;", Cond.fieldLink RX8 339 "CraneCampaign$Crane" "place" "I", Cond.fieldLink RX8 343 "CraneCampaign$Crane" "hoursLeft" "I", Cond.fieldLink RX8 346 "CraneCampaign$Crane" "goal" "I", Cond.methodLink RX8 330 yX2_faultCount, Cond.instanceMethod yX2_faultCount, Cond.selects RX2 yX2_faultCount yX2_faultCount, Cond.code yX2_faultCount cX2_faultCount 3 (some .int)]
def wsL_law0_r33 : List Cond := [Cond.methodLink RX8 333 yX2_windNow, Cond.methodLink RX8 336 yX4_first, Cond.methodLink RX8 349 yX1_workOn, Cond.instanceMethod yX1_workOn, Cond.selects RX1 yX1_workOn yX1_workOn, Cond.code yX1_workOn cX1_workOn 2 (some .int), Cond.methodLink RX8 278 yX2_lostPower, Cond.instanceMethod yX2_lostPower, Cond.selects RX2 yX2_lostPower yX2_lostPower, Cond.code yX2_lostPower cX2_lostPower 3 (some .int), Cond.methodLink RX8 281 yX2_wonPower, Cond.instanceMethod yX2_wonPower, Cond.selects RX2 yX2_wonPower yX2_wonPower, Cond.code yX2_wonPower cX2_wonPower 3 (some .int), Cond.methodLink RL 147 yX9_count, Cond.instanceMethod yX9_count, Cond.selects RX9 yX9_count yX9_count, Cond.code yX9_count cX9_count 2 (some .int), Cond.methodLink RX9 153 yX9_counted, Cond.instanceMethod yX9_counted, Cond.selects RX9 yX9_counted yX9_counted, Cond.code yX9_counted cX9_counted 2 (some .int), Cond.methodLink RX9 147 yX9_faulty, Cond.instanceMethod yX9_faulty]
def wsL_law0_r34 : List Cond := [Cond.selects RX9 yX9_faulty yX9_faulty, Cond.code yX9_faulty cX9_faulty 3 (some .int), Cond.methodLink RX9 150 yX9_sum, Cond.instanceMethod yX9_sum, Cond.selects RX9 yX9_sum yX9_sum, Cond.code yX9_sum cX9_sum 4 (some .int), Cond.methodLink RL 148 yL_setting, Cond.static yL_setting, Cond.codeWith yL_setting cL_setting 4 (some .int) [(0, 9, 12, 21)], Cond.methodLink RL 67 yX8_setting, Cond.instanceMethod yX8_setting, Cond.selects RX8 yX8_setting yX8_setting, Cond.code yX8_setting cX8_setting 2 (some .int), Cond.methodLink RL 150 yX9_setting, Cond.instanceMethod yX9_setting, Cond.selects RX9 yX9_setting yX9_setting, Cond.code yX9_setting cX9_setting 2 (some .int), Cond.methodLink RL 151 yL_way, Cond.static yL_way, Cond.codeWith yL_way cL_way 5 (some .int) [(0, 10, 13, 13)], Cond.methodLink RL 70 yX8_way, Cond.instanceMethod yX8_way, Cond.selects RX8 yX8_way yX8_way, Cond.code yX8_way cX8_way 3 (some .int)]
def wsL_law0_r35 : List Cond := [Cond.methodLink RX8 255 yX2_hoursBetween, Cond.methodLink RL 153 yX9_way, Cond.instanceMethod yX9_way, Cond.selects RX9 yX9_way yX9_way, Cond.code yX9_way cX9_way 3 (some .int), Cond.methodLink RL 154 yL_ifPassed, Cond.static yL_ifPassed, Cond.codeWith yL_ifPassed cL_ifPassed 5 (some .int) [(0, 10, 13, 13)], Cond.methodLink RL 73 yX8_ifPassed, Cond.instanceMethod yX8_ifPassed, Cond.selects RX8 yX8_ifPassed yX8_ifPassed, Cond.code yX8_ifPassed cX8_ifPassed 3 (some .int), Cond.methodLink RX8 260 yX2_outcome, Cond.instanceMethod yX2_outcome, Cond.selects RX2 yX2_outcome yX2_outcome, Cond.code yX2_outcome cX2_outcome 2 (some .int), Cond.methodLink RX2 144 yX2_lostPower, Cond.methodLink RX2 147 yX2_wonPower, Cond.methodLink RX2 150 yX2_faultCount, Cond.methodLink RL 156 yX9_ifPassed, Cond.instanceMethod yX9_ifPassed, Cond.selects RX9 yX9_ifPassed yX9_ifPassed, Cond.code yX9_ifPassed cX9_ifPassed 3 (some .int), Cond.methodLink RX9 165 yX9_after]
def wsL_law0_r36 : List Cond := [Cond.instanceMethod yX9_after, Cond.selects RX9 yX9_after yX9_after, Cond.code yX9_after cX9_after 4 (some .int), Cond.methodLink RX9 156 yX9_keep, Cond.instanceMethod yX9_keep, Cond.selects RX9 yX9_keep yX9_keep, Cond.code yX9_keep cX9_keep 2 none, Cond.methodLink RX9 159 yX9_told, Cond.instanceMethod yX9_told, Cond.selects RX9 yX9_told yX9_told, Cond.code yX9_told cX9_told 2 (some .int), Cond.methodLink RX9 162 yX9_bring, Cond.instanceMethod yX9_bring, Cond.selects RX9 yX9_bring yX9_bring, Cond.code yX9_bring cX9_bring 2 none, Cond.methodLink RL 157 yX8_bestFirst, Cond.instanceMethod yX8_bestFirst, Cond.selects RX8 yX8_bestFirst yX8_bestFirst, Cond.code yX8_bestFirst cX8_bestFirst 6 (some .int), Cond.fieldLink RX8 263 "CraneCampaign$Plan" "row" "[I", Cond.methodLink RL 160 yX9_bestFirst, Cond.instanceMethod yX9_bestFirst, Cond.selects RX9 yX9_bestFirst yX9_bestFirst, Cond.code yX9_bestFirst cX9_bestFirst 1 (some .int)]
def wsL_law0_r37 : List Cond := [Cond.methodLink RX9 168 yX9_bestNow, Cond.instanceMethod yX9_bestNow, Cond.selects RX9 yX9_bestNow yX9_bestNow, Cond.code yX9_bestNow cX9_bestNow 6 (some .int), Cond.methodLink RL 161 yL_window, Cond.static yL_window, Cond.codeWith yL_window cL_window 5 (some .int) [(0, 10, 13, 21), (0, 10, 17, 13)], Cond.methodLink RL 76 yX8_window, Cond.instanceMethod yX8_window, Cond.selects RX8 yX8_window yX8_window, Cond.code yX8_window cX8_window 3 (some .int), Cond.methodLink RX8 268 yX2_hoursUntilCalm, Cond.instanceMethod yX2_hoursUntilCalm, Cond.selects RX2 yX2_hoursUntilCalm yX2_hoursUntilCalm, Cond.code yX2_hoursUntilCalm cX2_hoursUntilCalm 6 (some .int), Cond.methodLink RL 163 yX9_window, Cond.instanceMethod yX9_window, Cond.selects RX9 yX9_window yX9_window, Cond.code yX9_window cX9_window 3 (some .int), Cond.methodLink RX9 171 yX9_windowOf, Cond.instanceMethod yX9_windowOf, Cond.selects RX9 yX9_windowOf yX9_windowOf, Cond.code yX9_windowOf cX9_windowOf 5 (some .int), Cond.methodLink RL 164 yX8_doneIn]
def wsL_law0_r38 : List Cond := [Cond.instanceMethod yX8_doneIn, Cond.selects RX8 yX8_doneIn yX8_doneIn, Cond.code yX8_doneIn cX8_doneIn 2 (some .int), Cond.methodLink RX8 271 yX2_runHour, Cond.methodLink RL 167 yX9_doneIn, Cond.instanceMethod yX9_doneIn, Cond.selects RX9 yX9_doneIn yX9_doneIn, Cond.code yX9_doneIn cX9_doneIn 1 (some .int), Cond.methodLink RX9 174 yX9_doneNow, Cond.instanceMethod yX9_doneNow, Cond.selects RX9 yX9_doneNow yX9_doneNow, Cond.code yX9_doneNow cX9_doneNow 2 (some .int), Cond.methodLink RL 168 yX8_meanWind, Cond.instanceMethod yX8_meanWind, Cond.selects RX8 yX8_meanWind yX8_meanWind, Cond.code yX8_meanWind cX8_meanWind 2 (some .float), Cond.constantFloat RX8 277 (1090519040), Cond.methodLink RX8 274 yX7_sum, Cond.instanceMethod yX7_sum, Cond.selects RX7 yX7_sum yX7_sum, Cond.code yX7_sum cX7_sum 3 (some .int), Cond.methodLink RL 172 yX9_meanWind, Cond.instanceMethod yX9_meanWind, Cond.selects RX9 yX9_meanWind yX9_meanWind]
def wsL_law0_r39 : List Cond := [Cond.code yX9_meanWind cX9_meanWind 1 (some .float), Cond.methodLink RX9 178 yX9_meanNow, Cond.instanceMethod yX9_meanNow, Cond.selects RX9 yX9_meanNow yX9_meanNow, Cond.code yX9_meanNow cX9_meanNow 3 (some .float), Cond.constantFloat RX9 177 (1090519040), Cond.methodLink RL 173 yX8_lostShare, Cond.instanceMethod yX8_lostShare, Cond.selects RX8 yX8_lostShare yX8_lostShare, Cond.code yX8_lostShare cX8_lostShare 3 (some .double), Cond.methodLink RL 177 yX9_lostShare, Cond.instanceMethod yX9_lostShare, Cond.selects RX9 yX9_lostShare yX9_lostShare, Cond.code yX9_lostShare cX9_lostShare 1 (some .double), Cond.methodLink RX9 182 yX9_shareNow, Cond.instanceMethod yX9_shareNow, Cond.selects RX9 yX9_shareNow yX9_shareNow, Cond.code yX9_shareNow cX9_shareNow 3 (some .double), Cond.methodLink RL 178 yX8_digest, Cond.instanceMethod yX8_digest, Cond.selects RX8 yX8_digest yX8_digest, Cond.code yX8_digest cX8_digest 4 (some .long), Cond.constantLong RX8 284 (2269), Cond.fieldLink RX8 316 "CraneCampaign$WindText" "letters" "[I"]
def wsL_law0_r40 : List Cond := [Cond.methodLink RX8 286 yX8_mix, Cond.static yX8_mix, Cond.code yX8_mix cX8_mix 4 (some .long), Cond.constantLong RX8 352 (31), Cond.methodLink RX8 290 yX8_mixFarm, Cond.instanceMethod yX8_mixFarm, Cond.selects RX8 yX8_mixFarm yX8_mixFarm, Cond.code yX8_mixFarm cX8_mixFarm 7 (some .long), Cond.methodLink RX8 294 yX8_bestFirst, Cond.methodLink RX8 297 yX8_doneIn, Cond.methodLink RX8 300 yX8_meanWind, Cond.methodLink RX8 304 yX8_bitsOfFloat, Cond.static yX8_bitsOfFloat, Cond.code yX8_bitsOfFloat cX8_bitsOfFloat 4 (some .int), Cond.constantFloat RX8 354 (1258291200), Cond.methodLink RX8 308 yX8_lostShare, Cond.methodLink RX8 312 yX8_bitsOfDouble, Cond.static yX8_bitsOfDouble, Cond.code yX8_bitsOfDouble cX8_bitsOfDouble 7 (some .long), Cond.constantLong RX8 355 (1023), Cond.constantDouble RX8 357 (4611686018427387904), Cond.constantDouble RX8 359 (4841369599423283200), Cond.methodLink RL 182 yX9_digest, Cond.instanceMethod yX9_digest]
def wsL_law0_r41 : List Cond := [Cond.selects RX9 yX9_digest yX9_digest, Cond.code yX9_digest cX9_digest 3 (some .long), Cond.constantLong RX9 192 (2269), Cond.fieldLink RX9 188 "CraneCampaignModel" "h" "J", Cond.methodLink RX9 194 yX9_mix, Cond.instanceMethod yX9_mix, Cond.selects RX9 yX9_mix yX9_mix, Cond.code yX9_mix cX9_mix 3 none, Cond.constantLong RX9 186 (31), Cond.methodLink RX9 198 yJxf58ca_floatToIntBits_5c35a, Cond.static yJxf58ca_floatToIntBits_5c35a, Cond.initialized RJxf58ca, Cond.code yJxf58ca_floatToIntBits_5c35a cJxf58ca_floatToIntBits_5c35a 1 (some .int), Cond.methodLink RJxf58ca 74 ⟨"java/lang/Float", "floatToRawIntBits", "(F)I"⟩, Cond.native ⟨"java/lang/Float", "floatToRawIntBits", "(F)I"⟩, Cond.static ⟨"java/lang/Float", "floatToRawIntBits", "(F)I"⟩, Cond.initialized "java/lang/Float", Cond.constant RJxf58ca 77 (2143289344), Cond.methodLink RJxf58ca 59 yJxf58ca_isNaN_12338, Cond.static yJxf58ca_isNaN_12338, Cond.code yJxf58ca_isNaN_12338 cJxf58ca_isNaN_12338 1 (some .boolean), Cond.methodLink RX9 204 yJxe99ae_doubleToLongBits_ccdee, Cond.static yJxe99ae_doubleToLongBits_ccdee, Cond.initialized RJxe99ae]
def wsL_law0_r42 : List Cond := [Cond.code yJxe99ae_doubleToLongBits_ccdee cJxe99ae_doubleToLongBits_ccdee 2 (some .long), Cond.methodLink RJxe99ae 134 ⟨"java/lang/Double", "doubleToRawLongBits", "(D)J"⟩, Cond.native ⟨"java/lang/Double", "doubleToRawLongBits", "(D)J"⟩, Cond.static ⟨"java/lang/Double", "doubleToRawLongBits", "(D)J"⟩, Cond.initialized "java/lang/Double", Cond.constantLong RJxe99ae 137 (9221120237041090560), Cond.methodLink RJxe99ae 122 yJxe99ae_isNaN_b9ae7, Cond.static yJxe99ae_isNaN_b9ae7, Cond.code yJxe99ae_isNaN_b9ae7 cJxe99ae_isNaN_b9ae7 2 (some .boolean)]
def wsL_law0 : List Cond := (wsL_law0_r1 ++ (wsL_law0_r2 ++ (wsL_law0_r3 ++ (wsL_law0_r4 ++ (wsL_law0_r5 ++ (wsL_law0_r6 ++ (wsL_law0_r7 ++ (wsL_law0_r8 ++ (wsL_law0_r9 ++ (wsL_law0_r10 ++ (wsL_law0_r11 ++ (wsL_law0_r12 ++ (wsL_law0_r13 ++ (wsL_law0_r14 ++ (wsL_law0_r15 ++ (wsL_law0_r16 ++ (wsL_law0_r17 ++ (wsL_law0_r18 ++ (wsL_law0_r19 ++ (wsL_law0_r20 ++ (wsL_law0_r21 ++ (wsL_law0_r22 ++ (wsL_law0_r23 ++ (wsL_law0_r24 ++ (wsL_law0_r25 ++ (wsL_law0_r26 ++ (wsL_law0_r27 ++ (wsL_law0_r28 ++ (wsL_law0_r29 ++ (wsL_law0_r30 ++ (wsL_law0_r31 ++ (wsL_law0_r32 ++ (wsL_law0_r33 ++ (wsL_law0_r34 ++ (wsL_law0_r35 ++ (wsL_law0_r36 ++ (wsL_law0_r37 ++ (wsL_law0_r38 ++ (wsL_law0_r39 ++ (wsL_law0_r40 ++ (wsL_law0_r41 ++ wsL_law0_r42))))))))))))))))))))))))))))))))))))))))) ++ wsX80 ++ wsX90 ++ wsX20 ++ wsX60 ++ wsX00 ++ wsX30 ++ wsX40 ++ wsX10 ++ wsX70 ++ wsX50 ++ ([] : List Cond)
def wsL_law : List Cond := wsL_law0 ++ (vx_atS RX8 45 "java/lang/IllegalArgumentException" ["java/lang/RuntimeException", "java/lang/Exception"]).filter goodWord ++ (vx_atS RX8 59 "java/lang/IllegalStateException" ["java/lang/RuntimeException", "java/lang/Exception"]).filter goodWord ++ (vx_atS RX8 138 "java/lang/IndexOutOfBoundsException" ["java/lang/RuntimeException", "java/lang/Exception"]).filter goodWord
abbrev vwCl : List vw_C := [(RX0, TX0, 3), (RX1, TX1, 5), (RX2, TX2, 10), (RX3, TX3, 3), (RX4, TX4, 2), (RX5, TX5, 7), (RX6, TX6, 2), (RX7, TX7, 2), (RX8, TX8, 6), (RX9, TX9, 15)]
end
section
theorem dX0_init_0 : decode cX0_init 0 = .ok (.aload_n 0, 1) := by decide +kernel
theorem dX0_init_1 : decode cX0_init 1 = .ok (.invokespecial 3, 3) := by decide +kernel
theorem dX0_init_4 : decode cX0_init 4 = .ok (.aload_n 0, 1) := by decide +kernel
theorem dX0_init_5 : decode cX0_init 5 = .ok (.bipush 6, 2) := by decide +kernel
theorem dX0_init_7 : decode cX0_init 7 = .ok (.newarray .int, 2) := by decide +kernel
theorem dX0_init_9 : decode cX0_init 9 = .ok (.putfield 9, 3) := by decide +kernel
theorem dX0_init_12 : decode cX0_init 12 = .ok (.aload_n 0, 1) := by decide +kernel
theorem dX0_init_13 : decode cX0_init 13 = .ok (.bipush 6, 2) := by decide +kernel
theorem dX0_init_15 : decode cX0_init 15 = .ok (.newarray .int, 2) := by decide +kernel
theorem dX0_init_17 : decode cX0_init 17 = .ok (.putfield 15, 3) := by decide +kernel
theorem dX0_init_20 : decode cX0_init 20 = .ok (.aload_n 0, 1) := by decide +kernel
theorem dX0_init_21 : decode cX0_init 21 = .ok (.iconst 0, 1) := by decide +kernel
theorem dX0_init_22 : decode cX0_init 22 = .ok (.putfield 18, 3) := by decide +kernel
theorem dX0_init_25 : decode cX0_init 25 = .ok (.return_, 1) := by decide +kernel
theorem dX0_copyFrom_0 : decode cX0_copyFrom 0 = .ok (.aload_n 1, 1) := by decide +kernel
theorem dX0_copyFrom_1 : decode cX0_copyFrom 1 = .ok (.getfield 9, 3) := by decide +kernel
theorem dX0_copyFrom_4 : decode cX0_copyFrom 4 = .ok (.iconst 0, 1) := by decide +kernel
theorem dX0_copyFrom_5 : decode cX0_copyFrom 5 = .ok (.aload_n 0, 1) := by decide +kernel
theorem dX0_copyFrom_6 : decode cX0_copyFrom 6 = .ok (.getfield 9, 3) := by decide +kernel
theorem dX0_copyFrom_9 : decode cX0_copyFrom 9 = .ok (.iconst 0, 1) := by decide +kernel
theorem dX0_copyFrom_10 : decode cX0_copyFrom 10 = .ok (.bipush 6, 2) := by decide +kernel
theorem dX0_copyFrom_12 : decode cX0_copyFrom 12 = .ok (.invokestatic 22, 3) := by decide +kernel
theorem dX0_copyFrom_15 : decode cX0_copyFrom 15 = .ok (.aload_n 1, 1) := by decide +kernel
theorem dX0_copyFrom_16 : decode cX0_copyFrom 16 = .ok (.getfield 15, 3) := by decide +kernel
theorem dX0_copyFrom_19 : decode cX0_copyFrom 19 = .ok (.iconst 0, 1) := by decide +kernel
theorem dX0_copyFrom_20 : decode cX0_copyFrom 20 = .ok (.aload_n 0, 1) := by decide +kernel
theorem dX0_copyFrom_21 : decode cX0_copyFrom 21 = .ok (.getfield 15, 3) := by decide +kernel
theorem dX0_copyFrom_24 : decode cX0_copyFrom 24 = .ok (.iconst 0, 1) := by decide +kernel
theorem dX0_copyFrom_25 : decode cX0_copyFrom 25 = .ok (.bipush 6, 2) := by decide +kernel
theorem dX0_copyFrom_27 : decode cX0_copyFrom 27 = .ok (.invokestatic 22, 3) := by decide +kernel
theorem dX0_copyFrom_30 : decode cX0_copyFrom 30 = .ok (.aload_n 0, 1) := by decide +kernel
theorem dX0_copyFrom_31 : decode cX0_copyFrom 31 = .ok (.aload_n 1, 1) := by decide +kernel
theorem dX0_copyFrom_32 : decode cX0_copyFrom 32 = .ok (.getfield 18, 3) := by decide +kernel
theorem dX0_copyFrom_35 : decode cX0_copyFrom 35 = .ok (.putfield 18, 3) := by decide +kernel
theorem dX0_copyFrom_38 : decode cX0_copyFrom 38 = .ok (.return_, 1) := by decide +kernel
theorem dX0_isFull_0 : decode cX0_isFull 0 = .ok (.aload_n 0, 1) := by decide +kernel
theorem dX0_isFull_1 : decode cX0_isFull 1 = .ok (.getfield 18, 3) := by decide +kernel
theorem dX0_isFull_4 : decode cX0_isFull 4 = .ok (.bipush 6, 2) := by decide +kernel
theorem dX0_isFull_6 : decode cX0_isFull 6 = .ok (.if_icmp .lt 7, 3) := by decide +kernel
theorem dX0_isFull_9 : decode cX0_isFull 9 = .ok (.iconst 1, 1) := by decide +kernel
theorem dX0_isFull_10 : decode cX0_isFull 10 = .ok (.goto 4, 3) := by decide +kernel
theorem dX0_isFull_13 : decode cX0_isFull 13 = .ok (.iconst 0, 1) := by decide +kernel
theorem dX0_isFull_14 : decode cX0_isFull 14 = .ok (.ireturn, 1) := by decide +kernel
theorem dX0_indexAt_0 : decode cX0_indexAt 0 = .ok (.iconst 0, 1) := by decide +kernel
theorem dX0_indexAt_1 : decode cX0_indexAt 1 = .ok (.istore_n 2, 1) := by decide +kernel
theorem dX0_indexAt_2 : decode cX0_indexAt 2 = .ok (.iload_n 2, 1) := by decide +kernel
theorem dX0_indexAt_3 : decode cX0_indexAt 3 = .ok (.aload_n 0, 1) := by decide +kernel
theorem dX0_indexAt_4 : decode cX0_indexAt 4 = .ok (.getfield 18, 3) := by decide +kernel
theorem dX0_indexAt_7 : decode cX0_indexAt 7 = .ok (.if_icmp .ge 21, 3) := by decide +kernel
theorem dX0_indexAt_10 : decode cX0_indexAt 10 = .ok (.aload_n 0, 1) := by decide +kernel
theorem dX0_indexAt_11 : decode cX0_indexAt 11 = .ok (.getfield 9, 3) := by decide +kernel
theorem dX0_indexAt_14 : decode cX0_indexAt 14 = .ok (.iload_n 2, 1) := by decide +kernel
theorem dX0_indexAt_15 : decode cX0_indexAt 15 = .ok (.iaload, 1) := by decide +kernel
theorem dX0_indexAt_16 : decode cX0_indexAt 16 = .ok (.iload_n 1, 1) := by decide +kernel
theorem dX0_indexAt_17 : decode cX0_indexAt 17 = .ok (.if_icmp .ne 5, 3) := by decide +kernel
theorem dX0_indexAt_20 : decode cX0_indexAt 20 = .ok (.iload_n 2, 1) := by decide +kernel
theorem dX0_indexAt_21 : decode cX0_indexAt 21 = .ok (.ireturn, 1) := by decide +kernel
theorem dX0_indexAt_22 : decode cX0_indexAt 22 = .ok (.iinc 2 1, 3) := by decide +kernel
theorem dX0_indexAt_25 : decode cX0_indexAt 25 = .ok (.goto (-23), 3) := by decide +kernel
theorem dX0_indexAt_28 : decode cX0_indexAt 28 = .ok (.iconst (-1), 1) := by decide +kernel
theorem dX0_indexAt_29 : decode cX0_indexAt 29 = .ok (.ireturn, 1) := by decide +kernel
set_option maxRecDepth 20000 in
theorem ggX0_put_X0_indexAt : GoodIn wsX0_put wsX0_indexAt := goodIn_r _ [6, 7, 8, 21, 22, 23] (by decide +kernel) (by decide +kernel)
set_option maxRecDepth 20000 in
theorem gX0_put_X0_indexAt : GoodIn wsX0_put (wsV RX0 28 RX0 yX0_indexAt wsX0_indexAt) := goodIn_app (goodIn_of _ (by decide +kernel)) ggX0_put_X0_indexAt
set_option maxRecDepth 20000 in
theorem ggX0_put_X0_removeAt : GoodIn wsX0_put wsX0_removeAt := goodIn_r _ [12, 7, 8, 1, 21, 22, 23] (by decide +kernel) (by decide +kernel)
set_option maxRecDepth 20000 in
theorem gX0_put_X0_removeAt : GoodIn wsX0_put (wsV RX0 32 RX0 yX0_removeAt wsX0_removeAt) := goodIn_app (goodIn_of _ (by decide +kernel)) ggX0_put_X0_removeAt
set_option maxRecDepth 20000 in
theorem ggX0_put_X0_insert : GoodIn wsX0_put wsX0_insert := goodIn_r _ [16, 7, 8, 1, 17, 18, 19, 5, 20, 21, 22, 23] (by decide +kernel) (by decide +kernel)
set_option maxRecDepth 20000 in
theorem gX0_put_X0_insert : GoodIn wsX0_put (wsV RX0 36 RX0 yX0_insert wsX0_insert) := goodIn_app (goodIn_of _ (by decide +kernel)) ggX0_put_X0_insert
theorem dX0_put_0 : decode cX0_put 0 = .ok (.aload_n 0, 1) := by decide +kernel
theorem dX0_put_1 : decode cX0_put 1 = .ok (.iload_n 1, 1) := by decide +kernel
theorem dX0_put_2 : decode cX0_put 2 = .ok (.invokevirtual 28, 3) := by decide +kernel
theorem dX0_put_5 : decode cX0_put 5 = .ok (.istore_n 3, 1) := by decide +kernel
theorem dX0_put_6 : decode cX0_put 6 = .ok (.iload_n 2, 1) := by decide +kernel
theorem dX0_put_7 : decode cX0_put 7 = .ok (.ifCond .ne 11, 3) := by decide +kernel
theorem dX0_put_10 : decode cX0_put 10 = .ok (.aload_n 0, 1) := by decide +kernel
theorem dX0_put_11 : decode cX0_put 11 = .ok (.iload_n 3, 1) := by decide +kernel
theorem dX0_put_12 : decode cX0_put 12 = .ok (.invokevirtual 32, 3) := by decide +kernel
theorem dX0_put_15 : decode cX0_put 15 = .ok (.goto 24, 3) := by decide +kernel
theorem dX0_put_18 : decode cX0_put 18 = .ok (.iload_n 3, 1) := by decide +kernel
theorem dX0_put_19 : decode cX0_put 19 = .ok (.iconst (-1), 1) := by decide +kernel
theorem dX0_put_20 : decode cX0_put 20 = .ok (.if_icmp .ne 12, 3) := by decide +kernel
theorem dX0_put_23 : decode cX0_put 23 = .ok (.aload_n 0, 1) := by decide +kernel
theorem dX0_put_24 : decode cX0_put 24 = .ok (.iload_n 1, 1) := by decide +kernel
theorem dX0_put_25 : decode cX0_put 25 = .ok (.iload_n 2, 1) := by decide +kernel
theorem dX0_put_26 : decode cX0_put 26 = .ok (.invokevirtual 36, 3) := by decide +kernel
theorem dX0_put_29 : decode cX0_put 29 = .ok (.goto 10, 3) := by decide +kernel
theorem dX0_put_32 : decode cX0_put 32 = .ok (.aload_n 0, 1) := by decide +kernel
theorem dX0_put_33 : decode cX0_put 33 = .ok (.getfield 15, 3) := by decide +kernel
theorem dX0_put_36 : decode cX0_put 36 = .ok (.iload_n 3, 1) := by decide +kernel
theorem dX0_put_37 : decode cX0_put 37 = .ok (.iload_n 2, 1) := by decide +kernel
theorem dX0_put_38 : decode cX0_put 38 = .ok (.iastore, 1) := by decide +kernel
theorem dX0_put_39 : decode cX0_put 39 = .ok (.return_, 1) := by decide +kernel
theorem dX0_removeAt_0 : decode cX0_removeAt 0 = .ok (.iload_n 1, 1) := by decide +kernel
theorem dX0_removeAt_1 : decode cX0_removeAt 1 = .ok (.ifCond .lt 11, 3) := by decide +kernel
theorem dX0_removeAt_4 : decode cX0_removeAt 4 = .ok (.iload_n 1, 1) := by decide +kernel
theorem dX0_removeAt_5 : decode cX0_removeAt 5 = .ok (.aload_n 0, 1) := by decide +kernel
theorem dX0_removeAt_6 : decode cX0_removeAt 6 = .ok (.getfield 18, 3) := by decide +kernel
theorem dX0_removeAt_9 : decode cX0_removeAt 9 = .ok (.if_icmp .lt 4, 3) := by decide +kernel
theorem dX0_removeAt_12 : decode cX0_removeAt 12 = .ok (.return_, 1) := by decide +kernel
theorem dX0_removeAt_13 : decode cX0_removeAt 13 = .ok (.aload_n 0, 1) := by decide +kernel
theorem dX0_removeAt_14 : decode cX0_removeAt 14 = .ok (.dup, 1) := by decide +kernel
theorem dX0_removeAt_15 : decode cX0_removeAt 15 = .ok (.getfield 18, 3) := by decide +kernel
theorem dX0_removeAt_18 : decode cX0_removeAt 18 = .ok (.iconst 1, 1) := by decide +kernel
theorem dX0_removeAt_19 : decode cX0_removeAt 19 = .ok (.isub, 1) := by decide +kernel
theorem dX0_removeAt_20 : decode cX0_removeAt 20 = .ok (.putfield 18, 3) := by decide +kernel
theorem dX0_removeAt_23 : decode cX0_removeAt 23 = .ok (.iload_n 1, 1) := by decide +kernel
theorem dX0_removeAt_24 : decode cX0_removeAt 24 = .ok (.istore_n 2, 1) := by decide +kernel
theorem dX0_removeAt_25 : decode cX0_removeAt 25 = .ok (.iload_n 2, 1) := by decide +kernel
theorem dX0_removeAt_26 : decode cX0_removeAt 26 = .ok (.aload_n 0, 1) := by decide +kernel
theorem dX0_removeAt_27 : decode cX0_removeAt 27 = .ok (.getfield 18, 3) := by decide +kernel
theorem dX0_removeAt_30 : decode cX0_removeAt 30 = .ok (.if_icmp .ge 37, 3) := by decide +kernel
theorem dX0_removeAt_33 : decode cX0_removeAt 33 = .ok (.aload_n 0, 1) := by decide +kernel
theorem dX0_removeAt_34 : decode cX0_removeAt 34 = .ok (.getfield 9, 3) := by decide +kernel
theorem dX0_removeAt_37 : decode cX0_removeAt 37 = .ok (.iload_n 2, 1) := by decide +kernel
theorem dX0_removeAt_38 : decode cX0_removeAt 38 = .ok (.aload_n 0, 1) := by decide +kernel
theorem dX0_removeAt_39 : decode cX0_removeAt 39 = .ok (.getfield 9, 3) := by decide +kernel
theorem dX0_removeAt_42 : decode cX0_removeAt 42 = .ok (.iload_n 2, 1) := by decide +kernel
theorem dX0_removeAt_43 : decode cX0_removeAt 43 = .ok (.iconst 1, 1) := by decide +kernel
theorem dX0_removeAt_44 : decode cX0_removeAt 44 = .ok (.iadd, 1) := by decide +kernel
theorem dX0_removeAt_45 : decode cX0_removeAt 45 = .ok (.iaload, 1) := by decide +kernel
theorem dX0_removeAt_46 : decode cX0_removeAt 46 = .ok (.iastore, 1) := by decide +kernel
theorem dX0_removeAt_47 : decode cX0_removeAt 47 = .ok (.aload_n 0, 1) := by decide +kernel
theorem dX0_removeAt_48 : decode cX0_removeAt 48 = .ok (.getfield 15, 3) := by decide +kernel
theorem dX0_removeAt_51 : decode cX0_removeAt 51 = .ok (.iload_n 2, 1) := by decide +kernel
theorem dX0_removeAt_52 : decode cX0_removeAt 52 = .ok (.aload_n 0, 1) := by decide +kernel
theorem dX0_removeAt_53 : decode cX0_removeAt 53 = .ok (.getfield 15, 3) := by decide +kernel
theorem dX0_removeAt_56 : decode cX0_removeAt 56 = .ok (.iload_n 2, 1) := by decide +kernel
theorem dX0_removeAt_57 : decode cX0_removeAt 57 = .ok (.iconst 1, 1) := by decide +kernel
theorem dX0_removeAt_58 : decode cX0_removeAt 58 = .ok (.iadd, 1) := by decide +kernel
theorem dX0_removeAt_59 : decode cX0_removeAt 59 = .ok (.iaload, 1) := by decide +kernel
theorem dX0_removeAt_60 : decode cX0_removeAt 60 = .ok (.iastore, 1) := by decide +kernel
theorem dX0_removeAt_61 : decode cX0_removeAt 61 = .ok (.iinc 2 1, 3) := by decide +kernel
theorem dX0_removeAt_64 : decode cX0_removeAt 64 = .ok (.goto (-39), 3) := by decide +kernel
theorem dX0_removeAt_67 : decode cX0_removeAt 67 = .ok (.return_, 1) := by decide +kernel
set_option maxRecDepth 20000 in
theorem ggX0_insert_X0_isFull : GoodIn wsX0_insert wsX0_isFull := goodIn_r _ [8, 1, 9, 10, 11] (by decide +kernel) (by decide +kernel)
set_option maxRecDepth 20000 in
theorem gX0_insert_X0_isFull : GoodIn wsX0_insert (wsV RX0 40 RX0 yX0_isFull wsX0_isFull) := goodIn_app (goodIn_of _ (by decide +kernel)) ggX0_insert_X0_isFull
theorem dX0_insert_0 : decode cX0_insert 0 = .ok (.aload_n 0, 1) := by decide +kernel
theorem dX0_insert_1 : decode cX0_insert 1 = .ok (.invokevirtual 40, 3) := by decide +kernel
theorem dX0_insert_4 : decode cX0_insert 4 = .ok (.ifCond .eq 4, 3) := by decide +kernel
theorem dX0_insert_7 : decode cX0_insert 7 = .ok (.return_, 1) := by decide +kernel
theorem dX0_insert_8 : decode cX0_insert 8 = .ok (.aload_n 0, 1) := by decide +kernel
theorem dX0_insert_9 : decode cX0_insert 9 = .ok (.getfield 18, 3) := by decide +kernel
theorem dX0_insert_12 : decode cX0_insert 12 = .ok (.istore_n 3, 1) := by decide +kernel
theorem dX0_insert_13 : decode cX0_insert 13 = .ok (.aload_n 0, 1) := by decide +kernel
theorem dX0_insert_14 : decode cX0_insert 14 = .ok (.getfield 18, 3) := by decide +kernel
theorem dX0_insert_17 : decode cX0_insert 17 = .ok (.istore 4, 2) := by decide +kernel
theorem dX0_insert_19 : decode cX0_insert 19 = .ok (.iload 4, 2) := by decide +kernel
theorem dX0_insert_21 : decode cX0_insert 21 = .ok (.ifCond .le 59, 3) := by decide +kernel
theorem dX0_insert_24 : decode cX0_insert 24 = .ok (.aload_n 0, 1) := by decide +kernel
theorem dX0_insert_25 : decode cX0_insert 25 = .ok (.getfield 9, 3) := by decide +kernel
theorem dX0_insert_28 : decode cX0_insert 28 = .ok (.iload 4, 2) := by decide +kernel
theorem dX0_insert_30 : decode cX0_insert 30 = .ok (.iconst 1, 1) := by decide +kernel
theorem dX0_insert_31 : decode cX0_insert 31 = .ok (.isub, 1) := by decide +kernel
theorem dX0_insert_32 : decode cX0_insert 32 = .ok (.iaload, 1) := by decide +kernel
theorem dX0_insert_33 : decode cX0_insert 33 = .ok (.iload_n 1, 1) := by decide +kernel
theorem dX0_insert_34 : decode cX0_insert 34 = .ok (.if_icmp .le 46, 3) := by decide +kernel
theorem dX0_insert_37 : decode cX0_insert 37 = .ok (.aload_n 0, 1) := by decide +kernel
theorem dX0_insert_38 : decode cX0_insert 38 = .ok (.getfield 9, 3) := by decide +kernel
theorem dX0_insert_41 : decode cX0_insert 41 = .ok (.iload 4, 2) := by decide +kernel
theorem dX0_insert_43 : decode cX0_insert 43 = .ok (.aload_n 0, 1) := by decide +kernel
theorem dX0_insert_44 : decode cX0_insert 44 = .ok (.getfield 9, 3) := by decide +kernel
theorem dX0_insert_47 : decode cX0_insert 47 = .ok (.iload 4, 2) := by decide +kernel
theorem dX0_insert_49 : decode cX0_insert 49 = .ok (.iconst 1, 1) := by decide +kernel
theorem dX0_insert_50 : decode cX0_insert 50 = .ok (.isub, 1) := by decide +kernel
theorem dX0_insert_51 : decode cX0_insert 51 = .ok (.iaload, 1) := by decide +kernel
theorem dX0_insert_52 : decode cX0_insert 52 = .ok (.iastore, 1) := by decide +kernel
theorem dX0_insert_53 : decode cX0_insert 53 = .ok (.aload_n 0, 1) := by decide +kernel
theorem dX0_insert_54 : decode cX0_insert 54 = .ok (.getfield 15, 3) := by decide +kernel
theorem dX0_insert_57 : decode cX0_insert 57 = .ok (.iload 4, 2) := by decide +kernel
theorem dX0_insert_59 : decode cX0_insert 59 = .ok (.aload_n 0, 1) := by decide +kernel
theorem dX0_insert_60 : decode cX0_insert 60 = .ok (.getfield 15, 3) := by decide +kernel
theorem dX0_insert_63 : decode cX0_insert 63 = .ok (.iload 4, 2) := by decide +kernel
theorem dX0_insert_65 : decode cX0_insert 65 = .ok (.iconst 1, 1) := by decide +kernel
theorem dX0_insert_66 : decode cX0_insert 66 = .ok (.isub, 1) := by decide +kernel
theorem dX0_insert_67 : decode cX0_insert 67 = .ok (.iaload, 1) := by decide +kernel
theorem dX0_insert_68 : decode cX0_insert 68 = .ok (.iastore, 1) := by decide +kernel
theorem dX0_insert_69 : decode cX0_insert 69 = .ok (.iload 4, 2) := by decide +kernel
theorem dX0_insert_71 : decode cX0_insert 71 = .ok (.iconst 1, 1) := by decide +kernel
theorem dX0_insert_72 : decode cX0_insert 72 = .ok (.isub, 1) := by decide +kernel
theorem dX0_insert_73 : decode cX0_insert 73 = .ok (.istore_n 3, 1) := by decide +kernel
theorem dX0_insert_74 : decode cX0_insert 74 = .ok (.iinc 4 (-1), 3) := by decide +kernel
theorem dX0_insert_77 : decode cX0_insert 77 = .ok (.goto (-58), 3) := by decide +kernel
theorem dX0_insert_80 : decode cX0_insert 80 = .ok (.aload_n 0, 1) := by decide +kernel
theorem dX0_insert_81 : decode cX0_insert 81 = .ok (.getfield 9, 3) := by decide +kernel
theorem dX0_insert_84 : decode cX0_insert 84 = .ok (.iload_n 3, 1) := by decide +kernel
theorem dX0_insert_85 : decode cX0_insert 85 = .ok (.iload_n 1, 1) := by decide +kernel
theorem dX0_insert_86 : decode cX0_insert 86 = .ok (.iastore, 1) := by decide +kernel
theorem dX0_insert_87 : decode cX0_insert 87 = .ok (.aload_n 0, 1) := by decide +kernel
theorem dX0_insert_88 : decode cX0_insert 88 = .ok (.getfield 15, 3) := by decide +kernel
theorem dX0_insert_91 : decode cX0_insert 91 = .ok (.iload_n 3, 1) := by decide +kernel
theorem dX0_insert_92 : decode cX0_insert 92 = .ok (.iload_n 2, 1) := by decide +kernel
theorem dX0_insert_93 : decode cX0_insert 93 = .ok (.iastore, 1) := by decide +kernel
theorem dX0_insert_94 : decode cX0_insert 94 = .ok (.aload_n 0, 1) := by decide +kernel
theorem dX0_insert_95 : decode cX0_insert 95 = .ok (.dup, 1) := by decide +kernel
theorem dX0_insert_96 : decode cX0_insert 96 = .ok (.getfield 18, 3) := by decide +kernel
theorem dX0_insert_99 : decode cX0_insert 99 = .ok (.iconst 1, 1) := by decide +kernel
theorem dX0_insert_100 : decode cX0_insert 100 = .ok (.iadd, 1) := by decide +kernel
theorem dX0_insert_101 : decode cX0_insert 101 = .ok (.putfield 18, 3) := by decide +kernel
theorem dX0_insert_104 : decode cX0_insert 104 = .ok (.return_, 1) := by decide +kernel
theorem dX0_countBetween_0 : decode cX0_countBetween 0 = .ok (.iconst 0, 1) := by decide +kernel
theorem dX0_countBetween_1 : decode cX0_countBetween 1 = .ok (.istore 4, 2) := by decide +kernel
theorem dX0_countBetween_3 : decode cX0_countBetween 3 = .ok (.iconst 0, 1) := by decide +kernel
theorem dX0_countBetween_4 : decode cX0_countBetween 4 = .ok (.istore 5, 2) := by decide +kernel
theorem dX0_countBetween_6 : decode cX0_countBetween 6 = .ok (.iload 5, 2) := by decide +kernel
theorem dX0_countBetween_8 : decode cX0_countBetween 8 = .ok (.aload_n 0, 1) := by decide +kernel
theorem dX0_countBetween_9 : decode cX0_countBetween 9 = .ok (.getfield 18, 3) := by decide +kernel
theorem dX0_countBetween_12 : decode cX0_countBetween 12 = .ok (.if_icmp .ge 45, 3) := by decide +kernel
theorem dX0_countBetween_15 : decode cX0_countBetween 15 = .ok (.aload_n 0, 1) := by decide +kernel
theorem dX0_countBetween_16 : decode cX0_countBetween 16 = .ok (.getfield 9, 3) := by decide +kernel
theorem dX0_countBetween_19 : decode cX0_countBetween 19 = .ok (.iload 5, 2) := by decide +kernel
theorem dX0_countBetween_21 : decode cX0_countBetween 21 = .ok (.iaload, 1) := by decide +kernel
theorem dX0_countBetween_22 : decode cX0_countBetween 22 = .ok (.iload_n 1, 1) := by decide +kernel
theorem dX0_countBetween_23 : decode cX0_countBetween 23 = .ok (.if_icmp .le 28, 3) := by decide +kernel
theorem dX0_countBetween_26 : decode cX0_countBetween 26 = .ok (.aload_n 0, 1) := by decide +kernel
theorem dX0_countBetween_27 : decode cX0_countBetween 27 = .ok (.getfield 9, 3) := by decide +kernel
theorem dX0_countBetween_30 : decode cX0_countBetween 30 = .ok (.iload 5, 2) := by decide +kernel
theorem dX0_countBetween_32 : decode cX0_countBetween 32 = .ok (.iaload, 1) := by decide +kernel
theorem dX0_countBetween_33 : decode cX0_countBetween 33 = .ok (.iload_n 2, 1) := by decide +kernel
theorem dX0_countBetween_34 : decode cX0_countBetween 34 = .ok (.if_icmp .ge 17, 3) := by decide +kernel
theorem dX0_countBetween_37 : decode cX0_countBetween 37 = .ok (.aload_n 0, 1) := by decide +kernel
theorem dX0_countBetween_38 : decode cX0_countBetween 38 = .ok (.getfield 15, 3) := by decide +kernel
theorem dX0_countBetween_41 : decode cX0_countBetween 41 = .ok (.iload 5, 2) := by decide +kernel
theorem dX0_countBetween_43 : decode cX0_countBetween 43 = .ok (.iaload, 1) := by decide +kernel
theorem dX0_countBetween_44 : decode cX0_countBetween 44 = .ok (.iload_n 3, 1) := by decide +kernel
theorem dX0_countBetween_45 : decode cX0_countBetween 45 = .ok (.if_icmp .le 6, 3) := by decide +kernel
theorem dX0_countBetween_48 : decode cX0_countBetween 48 = .ok (.iinc 4 1, 3) := by decide +kernel
theorem dX0_countBetween_51 : decode cX0_countBetween 51 = .ok (.iinc 5 1, 3) := by decide +kernel
theorem dX0_countBetween_54 : decode cX0_countBetween 54 = .ok (.goto (-48), 3) := by decide +kernel
theorem dX0_countBetween_57 : decode cX0_countBetween 57 = .ok (.iload 4, 2) := by decide +kernel
theorem dX0_countBetween_59 : decode cX0_countBetween 59 = .ok (.ireturn, 1) := by decide +kernel
theorem dX1_init_0 : decode cX1_init 0 = .ok (.aload_n 0, 1) := by decide +kernel
theorem dX1_init_1 : decode cX1_init 1 = .ok (.invokespecial 3, 3) := by decide +kernel
theorem dX1_init_4 : decode cX1_init 4 = .ok (.aload_n 0, 1) := by decide +kernel
theorem dX1_init_5 : decode cX1_init 5 = .ok (.iconst 0, 1) := by decide +kernel
theorem dX1_init_6 : decode cX1_init 6 = .ok (.putfield 9, 3) := by decide +kernel
theorem dX1_init_9 : decode cX1_init 9 = .ok (.aload_n 0, 1) := by decide +kernel
theorem dX1_init_10 : decode cX1_init 10 = .ok (.iconst 0, 1) := by decide +kernel
theorem dX1_init_11 : decode cX1_init 11 = .ok (.putfield 15, 3) := by decide +kernel
theorem dX1_init_14 : decode cX1_init 14 = .ok (.aload_n 0, 1) := by decide +kernel
theorem dX1_init_15 : decode cX1_init 15 = .ok (.iconst (-1), 1) := by decide +kernel
theorem dX1_init_16 : decode cX1_init 16 = .ok (.putfield 18, 3) := by decide +kernel
theorem dX1_init_19 : decode cX1_init 19 = .ok (.aload_n 0, 1) := by decide +kernel
theorem dX1_init_20 : decode cX1_init 20 = .ok (.iconst 0, 1) := by decide +kernel
theorem dX1_init_21 : decode cX1_init 21 = .ok (.putfield 21, 3) := by decide +kernel
theorem dX1_init_24 : decode cX1_init 24 = .ok (.aload_n 0, 1) := by decide +kernel
theorem dX1_init_25 : decode cX1_init 25 = .ok (.iconst (-1), 1) := by decide +kernel
theorem dX1_init_26 : decode cX1_init 26 = .ok (.putfield 24, 3) := by decide +kernel
theorem dX1_init_29 : decode cX1_init 29 = .ok (.return_, 1) := by decide +kernel
theorem dX1_copyFrom_0 : decode cX1_copyFrom 0 = .ok (.aload_n 0, 1) := by decide +kernel
theorem dX1_copyFrom_1 : decode cX1_copyFrom 1 = .ok (.aload_n 1, 1) := by decide +kernel
theorem dX1_copyFrom_2 : decode cX1_copyFrom 2 = .ok (.getfield 9, 3) := by decide +kernel
theorem dX1_copyFrom_5 : decode cX1_copyFrom 5 = .ok (.putfield 9, 3) := by decide +kernel
theorem dX1_copyFrom_8 : decode cX1_copyFrom 8 = .ok (.aload_n 0, 1) := by decide +kernel
theorem dX1_copyFrom_9 : decode cX1_copyFrom 9 = .ok (.aload_n 1, 1) := by decide +kernel
theorem dX1_copyFrom_10 : decode cX1_copyFrom 10 = .ok (.getfield 15, 3) := by decide +kernel
theorem dX1_copyFrom_13 : decode cX1_copyFrom 13 = .ok (.putfield 15, 3) := by decide +kernel
theorem dX1_copyFrom_16 : decode cX1_copyFrom 16 = .ok (.aload_n 0, 1) := by decide +kernel
theorem dX1_copyFrom_17 : decode cX1_copyFrom 17 = .ok (.aload_n 1, 1) := by decide +kernel
theorem dX1_copyFrom_18 : decode cX1_copyFrom 18 = .ok (.getfield 18, 3) := by decide +kernel
theorem dX1_copyFrom_21 : decode cX1_copyFrom 21 = .ok (.putfield 18, 3) := by decide +kernel
theorem dX1_copyFrom_24 : decode cX1_copyFrom 24 = .ok (.aload_n 0, 1) := by decide +kernel
theorem dX1_copyFrom_25 : decode cX1_copyFrom 25 = .ok (.aload_n 1, 1) := by decide +kernel
theorem dX1_copyFrom_26 : decode cX1_copyFrom 26 = .ok (.getfield 21, 3) := by decide +kernel
theorem dX1_copyFrom_29 : decode cX1_copyFrom 29 = .ok (.putfield 21, 3) := by decide +kernel
theorem dX1_copyFrom_32 : decode cX1_copyFrom 32 = .ok (.aload_n 0, 1) := by decide +kernel
theorem dX1_copyFrom_33 : decode cX1_copyFrom 33 = .ok (.aload_n 1, 1) := by decide +kernel
theorem dX1_copyFrom_34 : decode cX1_copyFrom 34 = .ok (.getfield 24, 3) := by decide +kernel
theorem dX1_copyFrom_37 : decode cX1_copyFrom 37 = .ok (.putfield 24, 3) := by decide +kernel
theorem dX1_copyFrom_40 : decode cX1_copyFrom 40 = .ok (.return_, 1) := by decide +kernel
theorem dX1_isOnWay_0 : decode cX1_isOnWay 0 = .ok (.aload_n 0, 1) := by decide +kernel
theorem dX1_isOnWay_1 : decode cX1_isOnWay 1 = .ok (.getfield 18, 3) := by decide +kernel
theorem dX1_isOnWay_4 : decode cX1_isOnWay 4 = .ok (.iconst (-1), 1) := by decide +kernel
theorem dX1_isOnWay_5 : decode cX1_isOnWay 5 = .ok (.if_icmp .eq 7, 3) := by decide +kernel
theorem dX1_isOnWay_8 : decode cX1_isOnWay 8 = .ok (.iconst 1, 1) := by decide +kernel
theorem dX1_isOnWay_9 : decode cX1_isOnWay 9 = .ok (.goto 4, 3) := by decide +kernel
theorem dX1_isOnWay_12 : decode cX1_isOnWay 12 = .ok (.iconst 0, 1) := by decide +kernel
theorem dX1_isOnWay_13 : decode cX1_isOnWay 13 = .ok (.ireturn, 1) := by decide +kernel
theorem dX1_driveTo_0 : decode cX1_driveTo 0 = .ok (.aload_n 0, 1) := by decide +kernel
theorem dX1_driveTo_1 : decode cX1_driveTo 1 = .ok (.iconst 0, 1) := by decide +kernel
theorem dX1_driveTo_2 : decode cX1_driveTo 2 = .ok (.aload_n 0, 1) := by decide +kernel
theorem dX1_driveTo_3 : decode cX1_driveTo 3 = .ok (.getfield 18, 3) := by decide +kernel
theorem dX1_driveTo_6 : decode cX1_driveTo 6 = .ok (.iload_n 1, 1) := by decide +kernel
theorem dX1_driveTo_7 : decode cX1_driveTo 7 = .ok (.if_icmp .ne 10, 3) := by decide +kernel
theorem dX1_driveTo_10 : decode cX1_driveTo 10 = .ok (.aload_n 0, 1) := by decide +kernel
theorem dX1_driveTo_11 : decode cX1_driveTo 11 = .ok (.getfield 15, 3) := by decide +kernel
theorem dX1_driveTo_14 : decode cX1_driveTo 14 = .ok (.goto 4, 3) := by decide +kernel
theorem dX1_driveTo_17 : decode cX1_driveTo 17 = .ok (.iload_n 3, 1) := by decide +kernel
theorem dX1_driveTo_18 : decode cX1_driveTo 18 = .ok (.iconst 1, 1) := by decide +kernel
theorem dX1_driveTo_19 : decode cX1_driveTo 19 = .ok (.isub, 1) := by decide +kernel
theorem dX1_driveTo_20 : decode cX1_driveTo 20 = .ok (.invokestatic 27, 3) := by decide +kernel
theorem dX1_driveTo_23 : decode cX1_driveTo 23 = .ok (.putfield 15, 3) := by decide +kernel
theorem dX1_driveTo_26 : decode cX1_driveTo 26 = .ok (.aload_n 0, 1) := by decide +kernel
theorem dX1_driveTo_27 : decode cX1_driveTo 27 = .ok (.iload_n 1, 1) := by decide +kernel
theorem dX1_driveTo_28 : decode cX1_driveTo 28 = .ok (.putfield 18, 3) := by decide +kernel
theorem dX1_driveTo_31 : decode cX1_driveTo 31 = .ok (.aload_n 0, 1) := by decide +kernel
theorem dX1_driveTo_32 : decode cX1_driveTo 32 = .ok (.getfield 15, 3) := by decide +kernel
theorem dX1_driveTo_35 : decode cX1_driveTo 35 = .ok (.ifCond .ne 13, 3) := by decide +kernel
theorem dX1_driveTo_38 : decode cX1_driveTo 38 = .ok (.aload_n 0, 1) := by decide +kernel
theorem dX1_driveTo_39 : decode cX1_driveTo 39 = .ok (.iload_n 2, 1) := by decide +kernel
theorem dX1_driveTo_40 : decode cX1_driveTo 40 = .ok (.putfield 9, 3) := by decide +kernel
theorem dX1_driveTo_43 : decode cX1_driveTo 43 = .ok (.aload_n 0, 1) := by decide +kernel
theorem dX1_driveTo_44 : decode cX1_driveTo 44 = .ok (.iconst (-1), 1) := by decide +kernel
theorem dX1_driveTo_45 : decode cX1_driveTo 45 = .ok (.putfield 18, 3) := by decide +kernel
theorem dX1_driveTo_48 : decode cX1_driveTo 48 = .ok (.return_, 1) := by decide +kernel
theorem dX1_workAnHourOn_0 : decode cX1_workAnHourOn 0 = .ok (.aload_n 0, 1) := by decide +kernel
theorem dX1_workAnHourOn_1 : decode cX1_workAnHourOn 1 = .ok (.iload_n 1, 1) := by decide +kernel
theorem dX1_workAnHourOn_2 : decode cX1_workAnHourOn 2 = .ok (.putfield 24, 3) := by decide +kernel
theorem dX1_workAnHourOn_5 : decode cX1_workAnHourOn 5 = .ok (.aload_n 0, 1) := by decide +kernel
theorem dX1_workAnHourOn_6 : decode cX1_workAnHourOn 6 = .ok (.dup, 1) := by decide +kernel
theorem dX1_workAnHourOn_7 : decode cX1_workAnHourOn 7 = .ok (.getfield 21, 3) := by decide +kernel
theorem dX1_workAnHourOn_10 : decode cX1_workAnHourOn 10 = .ok (.iconst 1, 1) := by decide +kernel
theorem dX1_workAnHourOn_11 : decode cX1_workAnHourOn 11 = .ok (.iadd, 1) := by decide +kernel
theorem dX1_workAnHourOn_12 : decode cX1_workAnHourOn 12 = .ok (.putfield 21, 3) := by decide +kernel
theorem dX1_workAnHourOn_15 : decode cX1_workAnHourOn 15 = .ok (.return_, 1) := by decide +kernel
theorem dX1_forgetWork_0 : decode cX1_forgetWork 0 = .ok (.aload_n 0, 1) := by decide +kernel
theorem dX1_forgetWork_1 : decode cX1_forgetWork 1 = .ok (.iconst (-1), 1) := by decide +kernel
theorem dX1_forgetWork_2 : decode cX1_forgetWork 2 = .ok (.putfield 24, 3) := by decide +kernel
theorem dX1_forgetWork_5 : decode cX1_forgetWork 5 = .ok (.aload_n 0, 1) := by decide +kernel
theorem dX1_forgetWork_6 : decode cX1_forgetWork 6 = .ok (.iconst 0, 1) := by decide +kernel
theorem dX1_forgetWork_7 : decode cX1_forgetWork 7 = .ok (.putfield 21, 3) := by decide +kernel
theorem dX1_forgetWork_10 : decode cX1_forgetWork 10 = .ok (.return_, 1) := by decide +kernel
theorem dX1_workOn_0 : decode cX1_workOn 0 = .ok (.iload_n 1, 1) := by decide +kernel
theorem dX1_workOn_1 : decode cX1_workOn 1 = .ok (.aload_n 0, 1) := by decide +kernel
theorem dX1_workOn_2 : decode cX1_workOn 2 = .ok (.getfield 24, 3) := by decide +kernel
theorem dX1_workOn_5 : decode cX1_workOn 5 = .ok (.if_icmp .ne 10, 3) := by decide +kernel
theorem dX1_workOn_8 : decode cX1_workOn 8 = .ok (.aload_n 0, 1) := by decide +kernel
theorem dX1_workOn_9 : decode cX1_workOn 9 = .ok (.getfield 21, 3) := by decide +kernel
theorem dX1_workOn_12 : decode cX1_workOn 12 = .ok (.goto 4, 3) := by decide +kernel
theorem dX1_workOn_15 : decode cX1_workOn 15 = .ok (.iconst 0, 1) := by decide +kernel
theorem dX1_workOn_16 : decode cX1_workOn 16 = .ok (.ireturn, 1) := by decide +kernel
set_option maxRecDepth 20000 in
theorem ggX2_init_X0_init : GoodIn wsX2_init wsX0_init := goodIn_r _ [38, 39, 2, 3, 27, 40, 41, 42, 80, 81, 82] (by decide +kernel) (by decide +kernel)
set_option maxRecDepth 20000 in
theorem gX2_init_X0_init_n23 : GoodIn wsX2_init (wsX0_init) := ggX2_init_X0_init
set_option maxRecDepth 20000 in
theorem ggX2_init_X3_init : GoodIn wsX2_init wsX3_init := goodIn_r _ [44, 45, 2, 3, 27, 46, 47, 48, 83, 84, 85] (by decide +kernel) (by decide +kernel)
set_option maxRecDepth 20000 in
theorem gX2_init_X3_init_n30 : GoodIn wsX2_init (wsX3_init) := ggX2_init_X3_init
set_option maxRecDepth 20000 in
theorem ggX2_init_X4_init : GoodIn wsX2_init wsX4_init := goodIn_r _ [50, 51, 2, 3, 27, 52, 53, 86, 87] (by decide +kernel) (by decide +kernel)
set_option maxRecDepth 20000 in
theorem gX2_init_X4_init_n37 : GoodIn wsX2_init (wsX4_init) := ggX2_init_X4_init
set_option maxRecDepth 20000 in
theorem ggX2_init_X1_init : GoodIn wsX2_init wsX1_init := goodIn_r _ [55, 56, 2, 3, 57, 58, 59, 60, 61, 88, 89, 90, 91, 92] (by decide +kernel) (by decide +kernel)
set_option maxRecDepth 20000 in
theorem gX2_init_X1_init_n44 : GoodIn wsX2_init (wsX1_init) := ggX2_init_X1_init
set_option maxRecDepth 20000 in
theorem ggX2_init_X7_init : GoodIn wsX2_init wsX7_init := goodIn_r _ [63, 64, 2, 3, 27, 65, 66, 93, 94] (by decide +kernel) (by decide +kernel)
set_option maxRecDepth 20000 in
theorem gX2_init_X7_init_n51 : GoodIn wsX2_init (wsX7_init) := ggX2_init_X7_init
set_option maxRecDepth 20000 in
theorem ggX2_init_X5_init : GoodIn wsX2_init wsX5_init := goodIn_r _ [68, 69, 2, 3] (by decide +kernel) (by decide +kernel)
set_option maxRecDepth 20000 in
theorem gX2_init_X5_init_n66 : GoodIn wsX2_init (wsX5_init) := ggX2_init_X5_init
theorem dX2_init_0 : decode cX2_init 0 = .ok (.aload_n 0, 1) := by decide +kernel
theorem dX2_init_1 : decode cX2_init 1 = .ok (.invokespecial 3, 3) := by decide +kernel
theorem dX2_init_4 : decode cX2_init 4 = .ok (.aload_n 0, 1) := by decide +kernel
theorem dX2_init_5 : decode cX2_init 5 = .ok (.bipush 10, 2) := by decide +kernel
theorem dX2_init_7 : decode cX2_init 7 = .ok (.anewarray 9, 3) := by decide +kernel
theorem dX2_init_10 : decode cX2_init 10 = .ok (.putfield 11, 3) := by decide +kernel
theorem dX2_init_13 : decode cX2_init 13 = .ok (.aload_n 0, 1) := by decide +kernel
theorem dX2_init_14 : decode cX2_init 14 = .ok (.iconst 0, 1) := by decide +kernel
theorem dX2_init_15 : decode cX2_init 15 = .ok (.putfield 17, 3) := by decide +kernel
theorem dX2_init_18 : decode cX2_init 18 = .ok (.aload_n 0, 1) := by decide +kernel
theorem dX2_init_19 : decode cX2_init 19 = .ok (.new 21, 3) := by decide +kernel
theorem dX2_init_22 : decode cX2_init 22 = .ok (.dup, 1) := by decide +kernel
theorem dX2_init_23 : decode cX2_init 23 = .ok (.invokespecial 23, 3) := by decide +kernel
theorem dX2_init_26 : decode cX2_init 26 = .ok (.putfield 24, 3) := by decide +kernel
theorem dX2_init_29 : decode cX2_init 29 = .ok (.aload_n 0, 1) := by decide +kernel
theorem dX2_init_30 : decode cX2_init 30 = .ok (.new 28, 3) := by decide +kernel
theorem dX2_init_33 : decode cX2_init 33 = .ok (.dup, 1) := by decide +kernel
theorem dX2_init_34 : decode cX2_init 34 = .ok (.invokespecial 30, 3) := by decide +kernel
theorem dX2_init_37 : decode cX2_init 37 = .ok (.putfield 31, 3) := by decide +kernel
theorem dX2_init_40 : decode cX2_init 40 = .ok (.aload_n 0, 1) := by decide +kernel
theorem dX2_init_41 : decode cX2_init 41 = .ok (.new 35, 3) := by decide +kernel
theorem dX2_init_44 : decode cX2_init 44 = .ok (.dup, 1) := by decide +kernel
theorem dX2_init_45 : decode cX2_init 45 = .ok (.invokespecial 37, 3) := by decide +kernel
theorem dX2_init_48 : decode cX2_init 48 = .ok (.putfield 38, 3) := by decide +kernel
theorem dX2_init_51 : decode cX2_init 51 = .ok (.aload_n 0, 1) := by decide +kernel
theorem dX2_init_52 : decode cX2_init 52 = .ok (.new 42, 3) := by decide +kernel
theorem dX2_init_55 : decode cX2_init 55 = .ok (.dup, 1) := by decide +kernel
theorem dX2_init_56 : decode cX2_init 56 = .ok (.invokespecial 44, 3) := by decide +kernel
theorem dX2_init_59 : decode cX2_init 59 = .ok (.putfield 45, 3) := by decide +kernel
theorem dX2_init_62 : decode cX2_init 62 = .ok (.aload_n 0, 1) := by decide +kernel
theorem dX2_init_63 : decode cX2_init 63 = .ok (.new 49, 3) := by decide +kernel
theorem dX2_init_66 : decode cX2_init 66 = .ok (.dup, 1) := by decide +kernel
theorem dX2_init_67 : decode cX2_init 67 = .ok (.invokespecial 51, 3) := by decide +kernel
theorem dX2_init_70 : decode cX2_init 70 = .ok (.putfield 52, 3) := by decide +kernel
theorem dX2_init_73 : decode cX2_init 73 = .ok (.aload_n 0, 1) := by decide +kernel
theorem dX2_init_74 : decode cX2_init 74 = .ok (.bipush 7, 2) := by decide +kernel
theorem dX2_init_76 : decode cX2_init 76 = .ok (.newarray .int, 2) := by decide +kernel
theorem dX2_init_78 : decode cX2_init 78 = .ok (.putfield 56, 3) := by decide +kernel
theorem dX2_init_81 : decode cX2_init 81 = .ok (.aload_n 0, 1) := by decide +kernel
theorem dX2_init_82 : decode cX2_init 82 = .ok (.iconst 5, 1) := by decide +kernel
theorem dX2_init_83 : decode cX2_init 83 = .ok (.newarray .int, 2) := by decide +kernel
theorem dX2_init_85 : decode cX2_init 85 = .ok (.putfield 60, 3) := by decide +kernel
theorem dX2_init_88 : decode cX2_init 88 = .ok (.aload_n 0, 1) := by decide +kernel
theorem dX2_init_89 : decode cX2_init 89 = .ok (.iconst 0, 1) := by decide +kernel
theorem dX2_init_90 : decode cX2_init 90 = .ok (.putfield 63, 3) := by decide +kernel
theorem dX2_init_93 : decode cX2_init 93 = .ok (.iconst 0, 1) := by decide +kernel
theorem dX2_init_94 : decode cX2_init 94 = .ok (.istore_n 1, 1) := by decide +kernel
theorem dX2_init_95 : decode cX2_init 95 = .ok (.iload_n 1, 1) := by decide +kernel
theorem dX2_init_96 : decode cX2_init 96 = .ok (.bipush 10, 2) := by decide +kernel
theorem dX2_init_98 : decode cX2_init 98 = .ok (.if_icmp .ge 22, 3) := by decide +kernel
theorem dX2_init_101 : decode cX2_init 101 = .ok (.aload_n 0, 1) := by decide +kernel
theorem dX2_init_102 : decode cX2_init 102 = .ok (.getfield 11, 3) := by decide +kernel
theorem dX2_init_105 : decode cX2_init 105 = .ok (.iload_n 1, 1) := by decide +kernel
theorem dX2_init_106 : decode cX2_init 106 = .ok (.new 9, 3) := by decide +kernel
theorem dX2_init_109 : decode cX2_init 109 = .ok (.dup, 1) := by decide +kernel
theorem dX2_init_110 : decode cX2_init 110 = .ok (.invokespecial 66, 3) := by decide +kernel
theorem dX2_init_113 : decode cX2_init 113 = .ok (.aastore, 1) := by decide +kernel
theorem dX2_init_114 : decode cX2_init 114 = .ok (.iinc 1 1, 3) := by decide +kernel
theorem dX2_init_117 : decode cX2_init 117 = .ok (.goto (-22), 3) := by decide +kernel
theorem dX2_init_120 : decode cX2_init 120 = .ok (.getstatic 67, 3) := by decide +kernel
theorem dX2_init_123 : decode cX2_init 123 = .ok (.iconst 0, 1) := by decide +kernel
theorem dX2_init_124 : decode cX2_init 124 = .ok (.aload_n 0, 1) := by decide +kernel
theorem dX2_init_125 : decode cX2_init 125 = .ok (.getfield 56, 3) := by decide +kernel
theorem dX2_init_128 : decode cX2_init 128 = .ok (.iconst 0, 1) := by decide +kernel
theorem dX2_init_129 : decode cX2_init 129 = .ok (.bipush 7, 2) := by decide +kernel
theorem dX2_init_131 : decode cX2_init 131 = .ok (.invokestatic 70, 3) := by decide +kernel
theorem dX2_init_134 : decode cX2_init 134 = .ok (.return_, 1) := by decide +kernel
set_option maxRecDepth 20000 in
theorem ggX2_copyFrom_X5_copyFrom : GoodIn wsX2_copyFrom wsX5_copyFrom := goodIn_r _ [19, 20, 21, 22, 23, 24, 25, 26, 81, 82, 83, 84, 85, 86, 87] (by decide +kernel) (by decide +kernel)
set_option maxRecDepth 20000 in
theorem gX2_copyFrom_X5_copyFrom : GoodIn wsX2_copyFrom (wsV RX2 76 RX5 yX5_copyFrom wsX5_copyFrom) := goodIn_app (goodIn_of _ (by decide +kernel)) ggX2_copyFrom_X5_copyFrom
set_option maxRecDepth 20000 in
theorem ggX2_copyFrom_X0_copyFrom : GoodIn wsX2_copyFrom wsX0_copyFrom := goodIn_r _ [31, 32, 33, 10, 11, 12, 34, 35, 88, 89, 90] (by decide +kernel) (by decide +kernel)
set_option maxRecDepth 20000 in
theorem gX2_copyFrom_X0_copyFrom : GoodIn wsX2_copyFrom (wsV RX2 80 RX0 yX0_copyFrom wsX0_copyFrom) := goodIn_app (goodIn_of _ (by decide +kernel)) ggX2_copyFrom_X0_copyFrom
set_option maxRecDepth 20000 in
theorem ggX2_copyFrom_X3_copyFrom : GoodIn wsX2_copyFrom wsX3_copyFrom := goodIn_r _ [40, 41, 42, 10, 11, 12, 43, 44, 91, 92, 93] (by decide +kernel) (by decide +kernel)
set_option maxRecDepth 20000 in
theorem gX2_copyFrom_X3_copyFrom : GoodIn wsX2_copyFrom (wsV RX2 83 RX3 yX3_copyFrom wsX3_copyFrom) := goodIn_app (goodIn_of _ (by decide +kernel)) ggX2_copyFrom_X3_copyFrom
set_option maxRecDepth 20000 in
theorem ggX2_copyFrom_X4_copyFrom : GoodIn wsX2_copyFrom wsX4_copyFrom := goodIn_r _ [49, 50, 51, 10, 11, 12, 52, 94, 95] (by decide +kernel) (by decide +kernel)
set_option maxRecDepth 20000 in
theorem gX2_copyFrom_X4_copyFrom : GoodIn wsX2_copyFrom (wsV RX2 86 RX4 yX4_copyFrom wsX4_copyFrom) := goodIn_app (goodIn_of _ (by decide +kernel)) ggX2_copyFrom_X4_copyFrom
set_option maxRecDepth 20000 in
theorem ggX2_copyFrom_X1_copyFrom : GoodIn wsX2_copyFrom wsX1_copyFrom := goodIn_r _ [57, 58, 59, 60, 61, 62, 96, 97, 98, 99, 100] (by decide +kernel) (by decide +kernel)
set_option maxRecDepth 20000 in
theorem gX2_copyFrom_X1_copyFrom : GoodIn wsX2_copyFrom (wsV RX2 89 RX1 yX1_copyFrom wsX1_copyFrom) := goodIn_app (goodIn_of _ (by decide +kernel)) ggX2_copyFrom_X1_copyFrom
set_option maxRecDepth 20000 in
theorem ggX2_copyFrom_X7_copyFrom : GoodIn wsX2_copyFrom wsX7_copyFrom := goodIn_r _ [67, 68, 69, 10, 11, 12, 70, 101, 102] (by decide +kernel) (by decide +kernel)
set_option maxRecDepth 20000 in
theorem gX2_copyFrom_X7_copyFrom : GoodIn wsX2_copyFrom (wsV RX2 92 RX7 yX7_copyFrom wsX7_copyFrom) := goodIn_app (goodIn_of _ (by decide +kernel)) ggX2_copyFrom_X7_copyFrom
theorem dX2_copyFrom_0 : decode cX2_copyFrom 0 = .ok (.iconst 0, 1) := by decide +kernel
theorem dX2_copyFrom_1 : decode cX2_copyFrom 1 = .ok (.istore_n 2, 1) := by decide +kernel
theorem dX2_copyFrom_2 : decode cX2_copyFrom 2 = .ok (.iload_n 2, 1) := by decide +kernel
theorem dX2_copyFrom_3 : decode cX2_copyFrom 3 = .ok (.aload_n 1, 1) := by decide +kernel
theorem dX2_copyFrom_4 : decode cX2_copyFrom 4 = .ok (.getfield 17, 3) := by decide +kernel
theorem dX2_copyFrom_7 : decode cX2_copyFrom 7 = .ok (.if_icmp .ge 24, 3) := by decide +kernel
theorem dX2_copyFrom_10 : decode cX2_copyFrom 10 = .ok (.aload_n 0, 1) := by decide +kernel
theorem dX2_copyFrom_11 : decode cX2_copyFrom 11 = .ok (.getfield 11, 3) := by decide +kernel
theorem dX2_copyFrom_14 : decode cX2_copyFrom 14 = .ok (.iload_n 2, 1) := by decide +kernel
theorem dX2_copyFrom_15 : decode cX2_copyFrom 15 = .ok (.aaload, 1) := by decide +kernel
theorem dX2_copyFrom_16 : decode cX2_copyFrom 16 = .ok (.aload_n 1, 1) := by decide +kernel
theorem dX2_copyFrom_17 : decode cX2_copyFrom 17 = .ok (.getfield 11, 3) := by decide +kernel
theorem dX2_copyFrom_20 : decode cX2_copyFrom 20 = .ok (.iload_n 2, 1) := by decide +kernel
theorem dX2_copyFrom_21 : decode cX2_copyFrom 21 = .ok (.aaload, 1) := by decide +kernel
theorem dX2_copyFrom_22 : decode cX2_copyFrom 22 = .ok (.invokevirtual 76, 3) := by decide +kernel
theorem dX2_copyFrom_25 : decode cX2_copyFrom 25 = .ok (.iinc 2 1, 3) := by decide +kernel
theorem dX2_copyFrom_28 : decode cX2_copyFrom 28 = .ok (.goto (-26), 3) := by decide +kernel
theorem dX2_copyFrom_31 : decode cX2_copyFrom 31 = .ok (.aload_n 0, 1) := by decide +kernel
theorem dX2_copyFrom_32 : decode cX2_copyFrom 32 = .ok (.aload_n 1, 1) := by decide +kernel
theorem dX2_copyFrom_33 : decode cX2_copyFrom 33 = .ok (.getfield 17, 3) := by decide +kernel
theorem dX2_copyFrom_36 : decode cX2_copyFrom 36 = .ok (.putfield 17, 3) := by decide +kernel
theorem dX2_copyFrom_39 : decode cX2_copyFrom 39 = .ok (.aload_n 0, 1) := by decide +kernel
theorem dX2_copyFrom_40 : decode cX2_copyFrom 40 = .ok (.getfield 24, 3) := by decide +kernel
theorem dX2_copyFrom_43 : decode cX2_copyFrom 43 = .ok (.aload_n 1, 1) := by decide +kernel
theorem dX2_copyFrom_44 : decode cX2_copyFrom 44 = .ok (.getfield 24, 3) := by decide +kernel
theorem dX2_copyFrom_47 : decode cX2_copyFrom 47 = .ok (.invokevirtual 80, 3) := by decide +kernel
theorem dX2_copyFrom_50 : decode cX2_copyFrom 50 = .ok (.aload_n 0, 1) := by decide +kernel
theorem dX2_copyFrom_51 : decode cX2_copyFrom 51 = .ok (.getfield 31, 3) := by decide +kernel
theorem dX2_copyFrom_54 : decode cX2_copyFrom 54 = .ok (.aload_n 1, 1) := by decide +kernel
theorem dX2_copyFrom_55 : decode cX2_copyFrom 55 = .ok (.getfield 31, 3) := by decide +kernel
theorem dX2_copyFrom_58 : decode cX2_copyFrom 58 = .ok (.invokevirtual 83, 3) := by decide +kernel
theorem dX2_copyFrom_61 : decode cX2_copyFrom 61 = .ok (.aload_n 0, 1) := by decide +kernel
theorem dX2_copyFrom_62 : decode cX2_copyFrom 62 = .ok (.getfield 38, 3) := by decide +kernel
theorem dX2_copyFrom_65 : decode cX2_copyFrom 65 = .ok (.aload_n 1, 1) := by decide +kernel
theorem dX2_copyFrom_66 : decode cX2_copyFrom 66 = .ok (.getfield 38, 3) := by decide +kernel
theorem dX2_copyFrom_69 : decode cX2_copyFrom 69 = .ok (.invokevirtual 86, 3) := by decide +kernel
theorem dX2_copyFrom_72 : decode cX2_copyFrom 72 = .ok (.aload_n 0, 1) := by decide +kernel
theorem dX2_copyFrom_73 : decode cX2_copyFrom 73 = .ok (.getfield 45, 3) := by decide +kernel
theorem dX2_copyFrom_76 : decode cX2_copyFrom 76 = .ok (.aload_n 1, 1) := by decide +kernel
theorem dX2_copyFrom_77 : decode cX2_copyFrom 77 = .ok (.getfield 45, 3) := by decide +kernel
theorem dX2_copyFrom_80 : decode cX2_copyFrom 80 = .ok (.invokevirtual 89, 3) := by decide +kernel
theorem dX2_copyFrom_83 : decode cX2_copyFrom 83 = .ok (.aload_n 0, 1) := by decide +kernel
theorem dX2_copyFrom_84 : decode cX2_copyFrom 84 = .ok (.getfield 52, 3) := by decide +kernel
theorem dX2_copyFrom_87 : decode cX2_copyFrom 87 = .ok (.aload_n 1, 1) := by decide +kernel
theorem dX2_copyFrom_88 : decode cX2_copyFrom 88 = .ok (.getfield 52, 3) := by decide +kernel
theorem dX2_copyFrom_91 : decode cX2_copyFrom 91 = .ok (.invokevirtual 92, 3) := by decide +kernel
theorem dX2_copyFrom_94 : decode cX2_copyFrom 94 = .ok (.aload_n 1, 1) := by decide +kernel
theorem dX2_copyFrom_95 : decode cX2_copyFrom 95 = .ok (.getfield 56, 3) := by decide +kernel
theorem dX2_copyFrom_98 : decode cX2_copyFrom 98 = .ok (.iconst 0, 1) := by decide +kernel
theorem dX2_copyFrom_99 : decode cX2_copyFrom 99 = .ok (.aload_n 0, 1) := by decide +kernel
theorem dX2_copyFrom_100 : decode cX2_copyFrom 100 = .ok (.getfield 56, 3) := by decide +kernel
theorem dX2_copyFrom_103 : decode cX2_copyFrom 103 = .ok (.iconst 0, 1) := by decide +kernel
theorem dX2_copyFrom_104 : decode cX2_copyFrom 104 = .ok (.bipush 7, 2) := by decide +kernel
theorem dX2_copyFrom_106 : decode cX2_copyFrom 106 = .ok (.invokestatic 70, 3) := by decide +kernel
theorem dX2_copyFrom_109 : decode cX2_copyFrom 109 = .ok (.aload_n 1, 1) := by decide +kernel
theorem dX2_copyFrom_110 : decode cX2_copyFrom 110 = .ok (.getfield 60, 3) := by decide +kernel
theorem dX2_copyFrom_113 : decode cX2_copyFrom 113 = .ok (.iconst 0, 1) := by decide +kernel
theorem dX2_copyFrom_114 : decode cX2_copyFrom 114 = .ok (.aload_n 0, 1) := by decide +kernel
theorem dX2_copyFrom_115 : decode cX2_copyFrom 115 = .ok (.getfield 60, 3) := by decide +kernel
theorem dX2_copyFrom_118 : decode cX2_copyFrom 118 = .ok (.iconst 0, 1) := by decide +kernel
theorem dX2_copyFrom_119 : decode cX2_copyFrom 119 = .ok (.iconst 5, 1) := by decide +kernel
theorem dX2_copyFrom_120 : decode cX2_copyFrom 120 = .ok (.invokestatic 70, 3) := by decide +kernel
theorem dX2_copyFrom_123 : decode cX2_copyFrom 123 = .ok (.aload_n 0, 1) := by decide +kernel
theorem dX2_copyFrom_124 : decode cX2_copyFrom 124 = .ok (.aload_n 1, 1) := by decide +kernel
theorem dX2_copyFrom_125 : decode cX2_copyFrom 125 = .ok (.getfield 63, 3) := by decide +kernel
theorem dX2_copyFrom_128 : decode cX2_copyFrom 128 = .ok (.putfield 63, 3) := by decide +kernel
theorem dX2_copyFrom_131 : decode cX2_copyFrom 131 = .ok (.return_, 1) := by decide +kernel
theorem dX2_hasTurbine_0 : decode cX2_hasTurbine 0 = .ok (.iload_n 1, 1) := by decide +kernel
theorem dX2_hasTurbine_1 : decode cX2_hasTurbine 1 = .ok (.ifCond .lt 15, 3) := by decide +kernel
theorem dX2_hasTurbine_4 : decode cX2_hasTurbine 4 = .ok (.iload_n 1, 1) := by decide +kernel
theorem dX2_hasTurbine_5 : decode cX2_hasTurbine 5 = .ok (.aload_n 0, 1) := by decide +kernel
theorem dX2_hasTurbine_6 : decode cX2_hasTurbine 6 = .ok (.getfield 17, 3) := by decide +kernel
theorem dX2_hasTurbine_9 : decode cX2_hasTurbine 9 = .ok (.if_icmp .ge 7, 3) := by decide +kernel
theorem dX2_hasTurbine_12 : decode cX2_hasTurbine 12 = .ok (.iconst 1, 1) := by decide +kernel
theorem dX2_hasTurbine_13 : decode cX2_hasTurbine 13 = .ok (.goto 4, 3) := by decide +kernel
theorem dX2_hasTurbine_16 : decode cX2_hasTurbine 16 = .ok (.iconst 0, 1) := by decide +kernel
theorem dX2_hasTurbine_17 : decode cX2_hasTurbine 17 = .ok (.ireturn, 1) := by decide +kernel
theorem dX2_hasTurbineAt_0 : decode cX2_hasTurbineAt 0 = .ok (.iconst 0, 1) := by decide +kernel
theorem dX2_hasTurbineAt_1 : decode cX2_hasTurbineAt 1 = .ok (.istore_n 2, 1) := by decide +kernel
theorem dX2_hasTurbineAt_2 : decode cX2_hasTurbineAt 2 = .ok (.iload_n 2, 1) := by decide +kernel
theorem dX2_hasTurbineAt_3 : decode cX2_hasTurbineAt 3 = .ok (.aload_n 0, 1) := by decide +kernel
theorem dX2_hasTurbineAt_4 : decode cX2_hasTurbineAt 4 = .ok (.getfield 17, 3) := by decide +kernel
theorem dX2_hasTurbineAt_7 : decode cX2_hasTurbineAt 7 = .ok (.if_icmp .ge 24, 3) := by decide +kernel
theorem dX2_hasTurbineAt_10 : decode cX2_hasTurbineAt 10 = .ok (.aload_n 0, 1) := by decide +kernel
theorem dX2_hasTurbineAt_11 : decode cX2_hasTurbineAt 11 = .ok (.getfield 11, 3) := by decide +kernel
theorem dX2_hasTurbineAt_14 : decode cX2_hasTurbineAt 14 = .ok (.iload_n 2, 1) := by decide +kernel
theorem dX2_hasTurbineAt_15 : decode cX2_hasTurbineAt 15 = .ok (.aaload, 1) := by decide +kernel
theorem dX2_hasTurbineAt_16 : decode cX2_hasTurbineAt 16 = .ok (.getfield 95, 3) := by decide +kernel
theorem dX2_hasTurbineAt_19 : decode cX2_hasTurbineAt 19 = .ok (.iload_n 1, 1) := by decide +kernel
theorem dX2_hasTurbineAt_20 : decode cX2_hasTurbineAt 20 = .ok (.if_icmp .ne 5, 3) := by decide +kernel
theorem dX2_hasTurbineAt_23 : decode cX2_hasTurbineAt 23 = .ok (.iconst 1, 1) := by decide +kernel
theorem dX2_hasTurbineAt_24 : decode cX2_hasTurbineAt 24 = .ok (.ireturn, 1) := by decide +kernel
theorem dX2_hasTurbineAt_25 : decode cX2_hasTurbineAt 25 = .ok (.iinc 2 1, 3) := by decide +kernel
theorem dX2_hasTurbineAt_28 : decode cX2_hasTurbineAt 28 = .ok (.goto (-26), 3) := by decide +kernel
theorem dX2_hasTurbineAt_31 : decode cX2_hasTurbineAt 31 = .ok (.iconst 0, 1) := by decide +kernel
theorem dX2_hasTurbineAt_32 : decode cX2_hasTurbineAt 32 = .ok (.ireturn, 1) := by decide +kernel
set_option maxRecDepth 20000 in
theorem ggX2_buildTurbine_X5_begin : GoodIn wsX2_buildTurbine wsX5_begin := goodIn_r _ [7, 8, 9, 10, 11, 12, 13, 14, 25, 26, 27, 28, 29, 30, 31] (by decide +kernel) (by decide +kernel)
set_option maxRecDepth 20000 in
theorem gX2_buildTurbine_X5_begin : GoodIn wsX2_buildTurbine (wsV RX2 98 RX5 yX5_begin wsX5_begin) := goodIn_app (goodIn_of _ (by decide +kernel)) ggX2_buildTurbine_X5_begin
theorem dX2_buildTurbine_0 : decode cX2_buildTurbine 0 = .ok (.aload_n 0, 1) := by decide +kernel
theorem dX2_buildTurbine_1 : decode cX2_buildTurbine 1 = .ok (.getfield 17, 3) := by decide +kernel
theorem dX2_buildTurbine_4 : decode cX2_buildTurbine 4 = .ok (.bipush 10, 2) := by decide +kernel
theorem dX2_buildTurbine_6 : decode cX2_buildTurbine 6 = .ok (.if_icmp .lt 5, 3) := by decide +kernel
theorem dX2_buildTurbine_9 : decode cX2_buildTurbine 9 = .ok (.iconst (-1), 1) := by decide +kernel
theorem dX2_buildTurbine_10 : decode cX2_buildTurbine 10 = .ok (.ireturn, 1) := by decide +kernel
theorem dX2_buildTurbine_11 : decode cX2_buildTurbine 11 = .ok (.aload_n 0, 1) := by decide +kernel
theorem dX2_buildTurbine_12 : decode cX2_buildTurbine 12 = .ok (.getfield 11, 3) := by decide +kernel
theorem dX2_buildTurbine_15 : decode cX2_buildTurbine 15 = .ok (.aload_n 0, 1) := by decide +kernel
theorem dX2_buildTurbine_16 : decode cX2_buildTurbine 16 = .ok (.getfield 17, 3) := by decide +kernel
theorem dX2_buildTurbine_19 : decode cX2_buildTurbine 19 = .ok (.aaload, 1) := by decide +kernel
theorem dX2_buildTurbine_20 : decode cX2_buildTurbine 20 = .ok (.iload_n 1, 1) := by decide +kernel
theorem dX2_buildTurbine_21 : decode cX2_buildTurbine 21 = .ok (.iload_n 2, 1) := by decide +kernel
theorem dX2_buildTurbine_22 : decode cX2_buildTurbine 22 = .ok (.iload_n 3, 1) := by decide +kernel
theorem dX2_buildTurbine_23 : decode cX2_buildTurbine 23 = .ok (.invokevirtual 98, 3) := by decide +kernel
theorem dX2_buildTurbine_26 : decode cX2_buildTurbine 26 = .ok (.aload_n 0, 1) := by decide +kernel
theorem dX2_buildTurbine_27 : decode cX2_buildTurbine 27 = .ok (.dup, 1) := by decide +kernel
theorem dX2_buildTurbine_28 : decode cX2_buildTurbine 28 = .ok (.getfield 17, 3) := by decide +kernel
theorem dX2_buildTurbine_31 : decode cX2_buildTurbine 31 = .ok (.iconst 1, 1) := by decide +kernel
theorem dX2_buildTurbine_32 : decode cX2_buildTurbine 32 = .ok (.iadd, 1) := by decide +kernel
theorem dX2_buildTurbine_33 : decode cX2_buildTurbine 33 = .ok (.putfield 17, 3) := by decide +kernel
theorem dX2_buildTurbine_36 : decode cX2_buildTurbine 36 = .ok (.aload_n 0, 1) := by decide +kernel
theorem dX2_buildTurbine_37 : decode cX2_buildTurbine 37 = .ok (.getfield 17, 3) := by decide +kernel
theorem dX2_buildTurbine_40 : decode cX2_buildTurbine 40 = .ok (.iconst 1, 1) := by decide +kernel
theorem dX2_buildTurbine_41 : decode cX2_buildTurbine 41 = .ok (.isub, 1) := by decide +kernel
theorem dX2_buildTurbine_42 : decode cX2_buildTurbine 42 = .ok (.ireturn, 1) := by decide +kernel
theorem dX2_faultCount_0 : decode cX2_faultCount 0 = .ok (.iconst 0, 1) := by decide +kernel
theorem dX2_faultCount_1 : decode cX2_faultCount 1 = .ok (.istore_n 1, 1) := by decide +kernel
theorem dX2_faultCount_2 : decode cX2_faultCount 2 = .ok (.iconst 0, 1) := by decide +kernel
theorem dX2_faultCount_3 : decode cX2_faultCount 3 = .ok (.istore_n 2, 1) := by decide +kernel
theorem dX2_faultCount_4 : decode cX2_faultCount 4 = .ok (.iload_n 2, 1) := by decide +kernel
theorem dX2_faultCount_5 : decode cX2_faultCount 5 = .ok (.aload_n 0, 1) := by decide +kernel
theorem dX2_faultCount_6 : decode cX2_faultCount 6 = .ok (.getfield 17, 3) := by decide +kernel
theorem dX2_faultCount_9 : decode cX2_faultCount 9 = .ok (.if_icmp .ge 24, 3) := by decide +kernel
theorem dX2_faultCount_12 : decode cX2_faultCount 12 = .ok (.aload_n 0, 1) := by decide +kernel
theorem dX2_faultCount_13 : decode cX2_faultCount 13 = .ok (.getfield 11, 3) := by decide +kernel
theorem dX2_faultCount_16 : decode cX2_faultCount 16 = .ok (.iload_n 2, 1) := by decide +kernel
theorem dX2_faultCount_17 : decode cX2_faultCount 17 = .ok (.aaload, 1) := by decide +kernel
theorem dX2_faultCount_18 : decode cX2_faultCount 18 = .ok (.getfield 102, 3) := by decide +kernel
theorem dX2_faultCount_21 : decode cX2_faultCount 21 = .ok (.ifCond .eq 6, 3) := by decide +kernel
theorem dX2_faultCount_24 : decode cX2_faultCount 24 = .ok (.iinc 1 1, 3) := by decide +kernel
theorem dX2_faultCount_27 : decode cX2_faultCount 27 = .ok (.iinc 2 1, 3) := by decide +kernel
theorem dX2_faultCount_30 : decode cX2_faultCount 30 = .ok (.goto (-26), 3) := by decide +kernel
theorem dX2_faultCount_33 : decode cX2_faultCount 33 = .ok (.iload_n 1, 1) := by decide +kernel
theorem dX2_faultCount_34 : decode cX2_faultCount 34 = .ok (.ireturn, 1) := by decide +kernel
theorem dX2_lostPower_0 : decode cX2_lostPower 0 = .ok (.iconst 0, 1) := by decide +kernel
theorem dX2_lostPower_1 : decode cX2_lostPower 1 = .ok (.istore_n 1, 1) := by decide +kernel
theorem dX2_lostPower_2 : decode cX2_lostPower 2 = .ok (.iconst 0, 1) := by decide +kernel
theorem dX2_lostPower_3 : decode cX2_lostPower 3 = .ok (.istore_n 2, 1) := by decide +kernel
theorem dX2_lostPower_4 : decode cX2_lostPower 4 = .ok (.iload_n 2, 1) := by decide +kernel
theorem dX2_lostPower_5 : decode cX2_lostPower 5 = .ok (.iconst 5, 1) := by decide +kernel
theorem dX2_lostPower_6 : decode cX2_lostPower 6 = .ok (.if_icmp .ge 18, 3) := by decide +kernel
theorem dX2_lostPower_9 : decode cX2_lostPower 9 = .ok (.iload_n 1, 1) := by decide +kernel
theorem dX2_lostPower_10 : decode cX2_lostPower 10 = .ok (.aload_n 0, 1) := by decide +kernel
theorem dX2_lostPower_11 : decode cX2_lostPower 11 = .ok (.getfield 60, 3) := by decide +kernel
theorem dX2_lostPower_14 : decode cX2_lostPower 14 = .ok (.iload_n 2, 1) := by decide +kernel
theorem dX2_lostPower_15 : decode cX2_lostPower 15 = .ok (.iaload, 1) := by decide +kernel
theorem dX2_lostPower_16 : decode cX2_lostPower 16 = .ok (.iadd, 1) := by decide +kernel
theorem dX2_lostPower_17 : decode cX2_lostPower 17 = .ok (.istore_n 1, 1) := by decide +kernel
theorem dX2_lostPower_18 : decode cX2_lostPower 18 = .ok (.iinc 2 1, 3) := by decide +kernel
theorem dX2_lostPower_21 : decode cX2_lostPower 21 = .ok (.goto (-17), 3) := by decide +kernel
theorem dX2_lostPower_24 : decode cX2_lostPower 24 = .ok (.iload_n 1, 1) := by decide +kernel
theorem dX2_lostPower_25 : decode cX2_lostPower 25 = .ok (.ireturn, 1) := by decide +kernel
theorem dX2_wonPower_0 : decode cX2_wonPower 0 = .ok (.iconst 0, 1) := by decide +kernel
theorem dX2_wonPower_1 : decode cX2_wonPower 1 = .ok (.istore_n 1, 1) := by decide +kernel
theorem dX2_wonPower_2 : decode cX2_wonPower 2 = .ok (.iconst 0, 1) := by decide +kernel
theorem dX2_wonPower_3 : decode cX2_wonPower 3 = .ok (.istore_n 2, 1) := by decide +kernel
theorem dX2_wonPower_4 : decode cX2_wonPower 4 = .ok (.iload_n 2, 1) := by decide +kernel
theorem dX2_wonPower_5 : decode cX2_wonPower 5 = .ok (.aload_n 0, 1) := by decide +kernel
theorem dX2_wonPower_6 : decode cX2_wonPower 6 = .ok (.getfield 17, 3) := by decide +kernel
theorem dX2_wonPower_9 : decode cX2_wonPower 9 = .ok (.if_icmp .ge 21, 3) := by decide +kernel
theorem dX2_wonPower_12 : decode cX2_wonPower 12 = .ok (.iload_n 1, 1) := by decide +kernel
theorem dX2_wonPower_13 : decode cX2_wonPower 13 = .ok (.aload_n 0, 1) := by decide +kernel
theorem dX2_wonPower_14 : decode cX2_wonPower 14 = .ok (.getfield 11, 3) := by decide +kernel
theorem dX2_wonPower_17 : decode cX2_wonPower 17 = .ok (.iload_n 2, 1) := by decide +kernel
theorem dX2_wonPower_18 : decode cX2_wonPower 18 = .ok (.aaload, 1) := by decide +kernel
theorem dX2_wonPower_19 : decode cX2_wonPower 19 = .ok (.getfield 105, 3) := by decide +kernel
theorem dX2_wonPower_22 : decode cX2_wonPower 22 = .ok (.iadd, 1) := by decide +kernel
theorem dX2_wonPower_23 : decode cX2_wonPower 23 = .ok (.istore_n 1, 1) := by decide +kernel
theorem dX2_wonPower_24 : decode cX2_wonPower 24 = .ok (.iinc 2 1, 3) := by decide +kernel
theorem dX2_wonPower_27 : decode cX2_wonPower 27 = .ok (.goto (-23), 3) := by decide +kernel
theorem dX2_wonPower_30 : decode cX2_wonPower 30 = .ok (.iload_n 1, 1) := by decide +kernel
theorem dX2_wonPower_31 : decode cX2_wonPower 31 = .ok (.ireturn, 1) := by decide +kernel
set_option maxRecDepth 20000 in
theorem ggX2_windNow_X7_at : GoodIn wsX2_windNow wsX7_at := goodIn_r _ [7, 8, 9, 20, 21] (by decide +kernel) (by decide +kernel)
set_option maxRecDepth 20000 in
theorem gX2_windNow_X7_at : GoodIn wsX2_windNow (wsV RX2 108 RX7 yX7_at wsX7_at) := goodIn_app (goodIn_of _ (by decide +kernel)) ggX2_windNow_X7_at
theorem dX2_windNow_0 : decode cX2_windNow 0 = .ok (.aload_n 0, 1) := by decide +kernel
theorem dX2_windNow_1 : decode cX2_windNow 1 = .ok (.getfield 52, 3) := by decide +kernel
theorem dX2_windNow_4 : decode cX2_windNow 4 = .ok (.aload_n 0, 1) := by decide +kernel
theorem dX2_windNow_5 : decode cX2_windNow 5 = .ok (.getfield 63, 3) := by decide +kernel
theorem dX2_windNow_8 : decode cX2_windNow 8 = .ok (.invokevirtual 108, 3) := by decide +kernel
theorem dX2_windNow_11 : decode cX2_windNow 11 = .ok (.ireturn, 1) := by decide +kernel
set_option maxRecDepth 20000 in
theorem ggX2_turbineProperty_X2_hasTurbine : GoodIn wsX2_turbineProperty wsX2_hasTurbine := goodIn_r _ [16, 17, 61, 62, 63, 64, 65, 66, 67, 68, 69, 70] (by decide +kernel) (by decide +kernel)
set_option maxRecDepth 20000 in
theorem gX2_turbineProperty_X2_hasTurbine : GoodIn wsX2_turbineProperty (wsV RX2 112 RX2 yX2_hasTurbine wsX2_hasTurbine) := goodIn_app (goodIn_of _ (by decide +kernel)) ggX2_turbineProperty_X2_hasTurbine
set_option maxRecDepth 20000 in
theorem ggX2_turbineProperty_X5_limit : GoodIn wsX2_turbineProperty wsX5_limit := goodIn_r _ [22, 23, 71, 72, 73, 74, 75, 76, 77] (by decide +kernel) (by decide +kernel)
set_option maxRecDepth 20000 in
theorem gX2_turbineProperty_X5_limit : GoodIn wsX2_turbineProperty (wsV RX2 125 RX5 yX5_limit wsX5_limit) := goodIn_app (goodIn_of _ (by decide +kernel)) ggX2_turbineProperty_X5_limit
set_option maxRecDepth 20000 in
theorem ggX2_turbineProperty_X4_placeOf : GoodIn wsX2_turbineProperty wsX4_placeOf := goodIn_r _ [28, 29, 30, 78, 79] (by decide +kernel) (by decide +kernel)
set_option maxRecDepth 20000 in
theorem gX2_turbineProperty_X4_placeOf : GoodIn wsX2_turbineProperty (wsV RX2 128 RX4 yX4_placeOf wsX4_placeOf) := goodIn_app (goodIn_of _ (by decide +kernel)) ggX2_turbineProperty_X4_placeOf
set_option maxRecDepth 20000 in
theorem ggX2_turbineProperty_X3_unloadedFor : GoodIn wsX2_turbineProperty wsX3_unloadedFor := goodIn_r _ [35, 36, 37, 38, 80, 81, 82] (by decide +kernel) (by decide +kernel)
set_option maxRecDepth 20000 in
theorem gX2_turbineProperty_X3_unloadedFor : GoodIn wsX2_turbineProperty (wsV RX2 131 RX3 yX3_unloadedFor wsX3_unloadedFor) := goodIn_app (goodIn_of _ (by decide +kernel)) ggX2_turbineProperty_X3_unloadedFor
set_option maxRecDepth 20000 in
theorem ggX2_turbineProperty_X2_windNow : GoodIn wsX2_turbineProperty wsX2_windNow := goodIn_r _ [42, 43, 44, 45, 46, 47, 48, 49, 50, 51, 61, 62, 63, 64, 65, 66, 67, 68, 69, 70, 83, 84] (by decide +kernel) (by decide +kernel)
set_option maxRecDepth 20000 in
theorem gX2_turbineProperty_X2_windNow : GoodIn wsX2_turbineProperty (wsV RX2 137 RX2 yX2_windNow wsX2_windNow) := goodIn_app (goodIn_of _ (by decide +kernel)) ggX2_turbineProperty_X2_windNow
set_option maxRecDepth 20000 in
theorem ggX2_turbineProperty_X5_fullPower : GoodIn wsX2_turbineProperty wsX5_fullPower := goodIn_r _ [55, 56, 57, 58, 59, 60, 71, 72, 73, 74, 75, 76, 77] (by decide +kernel) (by decide +kernel)
set_option maxRecDepth 20000 in
theorem gX2_turbineProperty_X5_fullPower : GoodIn wsX2_turbineProperty (wsV RX2 141 RX5 yX5_fullPower wsX5_fullPower) := goodIn_app (goodIn_of _ (by decide +kernel)) ggX2_turbineProperty_X5_fullPower
theorem dX2_turbineProperty_0 : decode cX2_turbineProperty 0 = .ok (.aload_n 0, 1) := by decide +kernel
theorem dX2_turbineProperty_1 : decode cX2_turbineProperty 1 = .ok (.iload_n 1, 1) := by decide +kernel
theorem dX2_turbineProperty_2 : decode cX2_turbineProperty 2 = .ok (.invokevirtual 112, 3) := by decide +kernel
theorem dX2_turbineProperty_5 : decode cX2_turbineProperty 5 = .ok (.ifCond .ne 5, 3) := by decide +kernel
theorem dX2_turbineProperty_8 : decode cX2_turbineProperty 8 = .ok (.iconst (-1), 1) := by decide +kernel
theorem dX2_turbineProperty_9 : decode cX2_turbineProperty 9 = .ok (.ireturn, 1) := by decide +kernel
theorem dX2_turbineProperty_10 : decode cX2_turbineProperty 10 = .ok (.aload_n 0, 1) := by decide +kernel
theorem dX2_turbineProperty_11 : decode cX2_turbineProperty 11 = .ok (.getfield 11, 3) := by decide +kernel
theorem dX2_turbineProperty_14 : decode cX2_turbineProperty 14 = .ok (.iload_n 1, 1) := by decide +kernel
theorem dX2_turbineProperty_15 : decode cX2_turbineProperty 15 = .ok (.aaload, 1) := by decide +kernel
theorem dX2_turbineProperty_16 : decode cX2_turbineProperty 16 = .ok (.astore_n 3, 1) := by decide +kernel
theorem dX2_turbineProperty_17 : decode cX2_turbineProperty 17 = .ok (.iload_n 2, 1) := by decide +kernel
theorem dX2_turbineProperty_18 : decode cX2_turbineProperty 18 = .ok (.tableswitch 118 0 9 #[54, 59, 64, 69, 74, 79, 90, 99, 108, 113], 54) := by decide +kernel
theorem dX2_turbineProperty_72 : decode cX2_turbineProperty 72 = .ok (.aload_n 3, 1) := by decide +kernel
theorem dX2_turbineProperty_73 : decode cX2_turbineProperty 73 = .ok (.getfield 95, 3) := by decide +kernel
theorem dX2_turbineProperty_76 : decode cX2_turbineProperty 76 = .ok (.ireturn, 1) := by decide +kernel
theorem dX2_turbineProperty_77 : decode cX2_turbineProperty 77 = .ok (.aload_n 3, 1) := by decide +kernel
theorem dX2_turbineProperty_78 : decode cX2_turbineProperty 78 = .ok (.getfield 116, 3) := by decide +kernel
theorem dX2_turbineProperty_81 : decode cX2_turbineProperty 81 = .ok (.ireturn, 1) := by decide +kernel
theorem dX2_turbineProperty_82 : decode cX2_turbineProperty 82 = .ok (.aload_n 3, 1) := by decide +kernel
theorem dX2_turbineProperty_83 : decode cX2_turbineProperty 83 = .ok (.getfield 119, 3) := by decide +kernel
theorem dX2_turbineProperty_86 : decode cX2_turbineProperty 86 = .ok (.ireturn, 1) := by decide +kernel
theorem dX2_turbineProperty_87 : decode cX2_turbineProperty 87 = .ok (.aload_n 3, 1) := by decide +kernel
theorem dX2_turbineProperty_88 : decode cX2_turbineProperty 88 = .ok (.getfield 102, 3) := by decide +kernel
theorem dX2_turbineProperty_91 : decode cX2_turbineProperty 91 = .ok (.ireturn, 1) := by decide +kernel
theorem dX2_turbineProperty_92 : decode cX2_turbineProperty 92 = .ok (.aload_n 3, 1) := by decide +kernel
theorem dX2_turbineProperty_93 : decode cX2_turbineProperty 93 = .ok (.getfield 122, 3) := by decide +kernel
theorem dX2_turbineProperty_96 : decode cX2_turbineProperty 96 = .ok (.ireturn, 1) := by decide +kernel
theorem dX2_turbineProperty_97 : decode cX2_turbineProperty 97 = .ok (.aload_n 3, 1) := by decide +kernel
theorem dX2_turbineProperty_98 : decode cX2_turbineProperty 98 = .ok (.aload_n 0, 1) := by decide +kernel
theorem dX2_turbineProperty_99 : decode cX2_turbineProperty 99 = .ok (.getfield 56, 3) := by decide +kernel
theorem dX2_turbineProperty_102 : decode cX2_turbineProperty 102 = .ok (.iconst 0, 1) := by decide +kernel
theorem dX2_turbineProperty_103 : decode cX2_turbineProperty 103 = .ok (.iaload, 1) := by decide +kernel
theorem dX2_turbineProperty_104 : decode cX2_turbineProperty 104 = .ok (.invokevirtual 125, 3) := by decide +kernel
theorem dX2_turbineProperty_107 : decode cX2_turbineProperty 107 = .ok (.ireturn, 1) := by decide +kernel
theorem dX2_turbineProperty_108 : decode cX2_turbineProperty 108 = .ok (.aload_n 0, 1) := by decide +kernel
theorem dX2_turbineProperty_109 : decode cX2_turbineProperty 109 = .ok (.getfield 38, 3) := by decide +kernel
theorem dX2_turbineProperty_112 : decode cX2_turbineProperty 112 = .ok (.iload_n 1, 1) := by decide +kernel
theorem dX2_turbineProperty_113 : decode cX2_turbineProperty 113 = .ok (.invokevirtual 128, 3) := by decide +kernel
theorem dX2_turbineProperty_116 : decode cX2_turbineProperty 116 = .ok (.ireturn, 1) := by decide +kernel
theorem dX2_turbineProperty_117 : decode cX2_turbineProperty 117 = .ok (.aload_n 0, 1) := by decide +kernel
theorem dX2_turbineProperty_118 : decode cX2_turbineProperty 118 = .ok (.getfield 31, 3) := by decide +kernel
theorem dX2_turbineProperty_121 : decode cX2_turbineProperty 121 = .ok (.iload_n 1, 1) := by decide +kernel
theorem dX2_turbineProperty_122 : decode cX2_turbineProperty 122 = .ok (.invokevirtual 131, 3) := by decide +kernel
theorem dX2_turbineProperty_125 : decode cX2_turbineProperty 125 = .ok (.ireturn, 1) := by decide +kernel
theorem dX2_turbineProperty_126 : decode cX2_turbineProperty 126 = .ok (.aload_n 3, 1) := by decide +kernel
theorem dX2_turbineProperty_127 : decode cX2_turbineProperty 127 = .ok (.getfield 134, 3) := by decide +kernel
theorem dX2_turbineProperty_130 : decode cX2_turbineProperty 130 = .ok (.ireturn, 1) := by decide +kernel
theorem dX2_turbineProperty_131 : decode cX2_turbineProperty 131 = .ok (.aload_n 3, 1) := by decide +kernel
theorem dX2_turbineProperty_132 : decode cX2_turbineProperty 132 = .ok (.getfield 105, 3) := by decide +kernel
theorem dX2_turbineProperty_135 : decode cX2_turbineProperty 135 = .ok (.ireturn, 1) := by decide +kernel
theorem dX2_turbineProperty_136 : decode cX2_turbineProperty 136 = .ok (.aload_n 3, 1) := by decide +kernel
theorem dX2_turbineProperty_137 : decode cX2_turbineProperty 137 = .ok (.aload_n 0, 1) := by decide +kernel
theorem dX2_turbineProperty_138 : decode cX2_turbineProperty 138 = .ok (.invokevirtual 137, 3) := by decide +kernel
theorem dX2_turbineProperty_141 : decode cX2_turbineProperty 141 = .ok (.invokevirtual 141, 3) := by decide +kernel
theorem dX2_turbineProperty_144 : decode cX2_turbineProperty 144 = .ok (.ireturn, 1) := by decide +kernel
set_option maxRecDepth 20000 in
theorem ggX2_outcome_X2_lostPower : GoodIn wsX2_outcome wsX2_lostPower := goodIn_r _ [8, 3, 21, 22, 23, 24, 25, 26, 27, 28, 29, 30] (by decide +kernel) (by decide +kernel)
set_option maxRecDepth 20000 in
theorem gX2_outcome_X2_lostPower : GoodIn wsX2_outcome (wsV RX2 144 RX2 yX2_lostPower wsX2_lostPower) := goodIn_app (goodIn_of _ (by decide +kernel)) ggX2_outcome_X2_lostPower
set_option maxRecDepth 20000 in
theorem ggX2_outcome_X2_wonPower : GoodIn wsX2_outcome wsX2_wonPower := goodIn_r _ [12, 13, 14, 15, 21, 22, 23, 24, 25, 26, 27, 28, 29, 30, 33, 34, 35, 36, 37, 38, 39] (by decide +kernel) (by decide +kernel)
set_option maxRecDepth 20000 in
theorem gX2_outcome_X2_wonPower : GoodIn wsX2_outcome (wsV RX2 147 RX2 yX2_wonPower wsX2_wonPower) := goodIn_app (goodIn_of _ (by decide +kernel)) ggX2_outcome_X2_wonPower
set_option maxRecDepth 20000 in
theorem ggX2_outcome_X2_faultCount : GoodIn wsX2_outcome wsX2_faultCount := goodIn_r _ [19, 13, 14, 20, 21, 22, 23, 24, 25, 26, 27, 28, 29, 30, 33, 34, 35, 36, 37, 38, 39] (by decide +kernel) (by decide +kernel)
set_option maxRecDepth 20000 in
theorem gX2_outcome_X2_faultCount : GoodIn wsX2_outcome (wsV RX2 150 RX2 yX2_faultCount wsX2_faultCount) := goodIn_app (goodIn_of _ (by decide +kernel)) ggX2_outcome_X2_faultCount
theorem dX2_outcome_0 : decode cX2_outcome 0 = .ok (.iload_n 1, 1) := by decide +kernel
theorem dX2_outcome_1 : decode cX2_outcome 1 = .ok (.tableswitch 54 5 8 #[31, 36, 41, 46], 31) := by decide +kernel
theorem dX2_outcome_32 : decode cX2_outcome 32 = .ok (.aload_n 0, 1) := by decide +kernel
theorem dX2_outcome_33 : decode cX2_outcome 33 = .ok (.invokevirtual 144, 3) := by decide +kernel
theorem dX2_outcome_36 : decode cX2_outcome 36 = .ok (.ireturn, 1) := by decide +kernel
theorem dX2_outcome_37 : decode cX2_outcome 37 = .ok (.aload_n 0, 1) := by decide +kernel
theorem dX2_outcome_38 : decode cX2_outcome 38 = .ok (.invokevirtual 147, 3) := by decide +kernel
theorem dX2_outcome_41 : decode cX2_outcome 41 = .ok (.ireturn, 1) := by decide +kernel
theorem dX2_outcome_42 : decode cX2_outcome 42 = .ok (.aload_n 0, 1) := by decide +kernel
theorem dX2_outcome_43 : decode cX2_outcome 43 = .ok (.invokevirtual 150, 3) := by decide +kernel
theorem dX2_outcome_46 : decode cX2_outcome 46 = .ok (.ireturn, 1) := by decide +kernel
theorem dX2_outcome_47 : decode cX2_outcome 47 = .ok (.aload_n 0, 1) := by decide +kernel
theorem dX2_outcome_48 : decode cX2_outcome 48 = .ok (.getfield 38, 3) := by decide +kernel
theorem dX2_outcome_51 : decode cX2_outcome 51 = .ok (.getfield 153, 3) := by decide +kernel
theorem dX2_outcome_54 : decode cX2_outcome 54 = .ok (.ireturn, 1) := by decide +kernel
theorem dX2_outcome_55 : decode cX2_outcome 55 = .ok (.iload_n 1, 1) := by decide +kernel
theorem dX2_outcome_56 : decode cX2_outcome 56 = .ok (.ifCond .lt 17, 3) := by decide +kernel
theorem dX2_outcome_59 : decode cX2_outcome 59 = .ok (.iload_n 1, 1) := by decide +kernel
theorem dX2_outcome_60 : decode cX2_outcome 60 = .ok (.iconst 5, 1) := by decide +kernel
theorem dX2_outcome_61 : decode cX2_outcome 61 = .ok (.if_icmp .ge 12, 3) := by decide +kernel
theorem dX2_outcome_64 : decode cX2_outcome 64 = .ok (.aload_n 0, 1) := by decide +kernel
theorem dX2_outcome_65 : decode cX2_outcome 65 = .ok (.getfield 60, 3) := by decide +kernel
theorem dX2_outcome_68 : decode cX2_outcome 68 = .ok (.iload_n 1, 1) := by decide +kernel
theorem dX2_outcome_69 : decode cX2_outcome 69 = .ok (.iaload, 1) := by decide +kernel
theorem dX2_outcome_70 : decode cX2_outcome 70 = .ok (.goto 4, 3) := by decide +kernel
theorem dX2_outcome_73 : decode cX2_outcome 73 = .ok (.iconst 0, 1) := by decide +kernel
theorem dX2_outcome_74 : decode cX2_outcome 74 = .ok (.ireturn, 1) := by decide +kernel
set_option maxRecDepth 20000 in
theorem ggX2_hoursBetween_X0_countBetween : GoodIn wsX2_hoursBetween wsX0_countBetween := goodIn_r _ [17, 18, 19, 20, 31, 32, 33] (by decide +kernel) (by decide +kernel)
set_option maxRecDepth 20000 in
theorem gX2_hoursBetween_X0_countBetween : GoodIn wsX2_hoursBetween (wsV RX2 168 RX0 yX0_countBetween wsX0_countBetween) := goodIn_app (goodIn_of _ (by decide +kernel)) ggX2_hoursBetween_X0_countBetween
theorem dX2_hoursBetween_0 : decode cX2_hoursBetween 0 = .ok (.iconst 1, 1) := by decide +kernel
theorem dX2_hoursBetween_1 : decode cX2_hoursBetween 1 = .ok (.aload_n 0, 1) := by decide +kernel
theorem dX2_hoursBetween_2 : decode cX2_hoursBetween 2 = .ok (.getfield 56, 3) := by decide +kernel
theorem dX2_hoursBetween_5 : decode cX2_hoursBetween 5 = .ok (.iconst 1, 1) := by decide +kernel
theorem dX2_hoursBetween_6 : decode cX2_hoursBetween 6 = .ok (.iaload, 1) := by decide +kernel
theorem dX2_hoursBetween_7 : decode cX2_hoursBetween 7 = .ok (.invokestatic 156, 3) := by decide +kernel
theorem dX2_hoursBetween_10 : decode cX2_hoursBetween 10 = .ok (.istore_n 3, 1) := by decide +kernel
theorem dX2_hoursBetween_11 : decode cX2_hoursBetween 11 = .ok (.iload_n 1, 1) := by decide +kernel
theorem dX2_hoursBetween_12 : decode cX2_hoursBetween 12 = .ok (.iload_n 2, 1) := by decide +kernel
theorem dX2_hoursBetween_13 : decode cX2_hoursBetween 13 = .ok (.isub, 1) := by decide +kernel
theorem dX2_hoursBetween_14 : decode cX2_hoursBetween 14 = .ok (.invokestatic 162, 3) := by decide +kernel
theorem dX2_hoursBetween_17 : decode cX2_hoursBetween 17 = .ok (.istore 4, 2) := by decide +kernel
theorem dX2_hoursBetween_19 : decode cX2_hoursBetween 19 = .ok (.aload_n 0, 1) := by decide +kernel
theorem dX2_hoursBetween_20 : decode cX2_hoursBetween 20 = .ok (.getfield 24, 3) := by decide +kernel
theorem dX2_hoursBetween_23 : decode cX2_hoursBetween 23 = .ok (.iload_n 1, 1) := by decide +kernel
theorem dX2_hoursBetween_24 : decode cX2_hoursBetween 24 = .ok (.iload_n 2, 1) := by decide +kernel
theorem dX2_hoursBetween_25 : decode cX2_hoursBetween 25 = .ok (.invokestatic 165, 3) := by decide +kernel
theorem dX2_hoursBetween_28 : decode cX2_hoursBetween 28 = .ok (.iload_n 1, 1) := by decide +kernel
theorem dX2_hoursBetween_29 : decode cX2_hoursBetween 29 = .ok (.iload_n 2, 1) := by decide +kernel
theorem dX2_hoursBetween_30 : decode cX2_hoursBetween 30 = .ok (.invokestatic 156, 3) := by decide +kernel
theorem dX2_hoursBetween_33 : decode cX2_hoursBetween 33 = .ok (.aload_n 0, 1) := by decide +kernel
theorem dX2_hoursBetween_34 : decode cX2_hoursBetween 34 = .ok (.getfield 56, 3) := by decide +kernel
theorem dX2_hoursBetween_37 : decode cX2_hoursBetween 37 = .ok (.bipush 6, 2) := by decide +kernel
theorem dX2_hoursBetween_39 : decode cX2_hoursBetween 39 = .ok (.iaload, 1) := by decide +kernel
theorem dX2_hoursBetween_40 : decode cX2_hoursBetween 40 = .ok (.invokevirtual 168, 3) := by decide +kernel
theorem dX2_hoursBetween_43 : decode cX2_hoursBetween 43 = .ok (.istore 5, 2) := by decide +kernel
theorem dX2_hoursBetween_45 : decode cX2_hoursBetween 45 = .ok (.iload 4, 2) := by decide +kernel
theorem dX2_hoursBetween_47 : decode cX2_hoursBetween 47 = .ok (.iload_n 3, 1) := by decide +kernel
theorem dX2_hoursBetween_48 : decode cX2_hoursBetween 48 = .ok (.iadd, 1) := by decide +kernel
theorem dX2_hoursBetween_49 : decode cX2_hoursBetween 49 = .ok (.iconst 1, 1) := by decide +kernel
theorem dX2_hoursBetween_50 : decode cX2_hoursBetween 50 = .ok (.isub, 1) := by decide +kernel
theorem dX2_hoursBetween_51 : decode cX2_hoursBetween 51 = .ok (.iload_n 3, 1) := by decide +kernel
theorem dX2_hoursBetween_52 : decode cX2_hoursBetween 52 = .ok (.idiv, 1) := by decide +kernel
theorem dX2_hoursBetween_53 : decode cX2_hoursBetween 53 = .ok (.iload 5, 2) := by decide +kernel
theorem dX2_hoursBetween_55 : decode cX2_hoursBetween 55 = .ok (.aload_n 0, 1) := by decide +kernel
theorem dX2_hoursBetween_56 : decode cX2_hoursBetween 56 = .ok (.getfield 56, 3) := by decide +kernel
theorem dX2_hoursBetween_59 : decode cX2_hoursBetween 59 = .ok (.iconst 4, 1) := by decide +kernel
theorem dX2_hoursBetween_60 : decode cX2_hoursBetween 60 = .ok (.iaload, 1) := by decide +kernel
theorem dX2_hoursBetween_61 : decode cX2_hoursBetween 61 = .ok (.imul, 1) := by decide +kernel
theorem dX2_hoursBetween_62 : decode cX2_hoursBetween 62 = .ok (.iadd, 1) := by decide +kernel
theorem dX2_hoursBetween_63 : decode cX2_hoursBetween 63 = .ok (.ireturn, 1) := by decide +kernel
set_option maxRecDepth 20000 in
theorem ggX2_hoursUntilCalm_X2_hasTurbine : GoodIn wsX2_hoursUntilCalm wsX2_hasTurbine := goodIn_r _ [9, 10, 24, 25, 26, 27, 28, 29, 30, 31, 32, 33] (by decide +kernel) (by decide +kernel)
set_option maxRecDepth 20000 in
theorem gX2_hoursUntilCalm_X2_hasTurbine : GoodIn wsX2_hoursUntilCalm (wsV RX2 112 RX2 yX2_hasTurbine wsX2_hasTurbine) := goodIn_app (goodIn_of _ (by decide +kernel)) ggX2_hoursUntilCalm_X2_hasTurbine
set_option maxRecDepth 20000 in
theorem ggX2_hoursUntilCalm_X5_limit : GoodIn wsX2_hoursUntilCalm wsX5_limit := goodIn_r _ [15, 16, 34, 35, 36, 37, 38, 39, 40] (by decide +kernel) (by decide +kernel)
set_option maxRecDepth 20000 in
theorem gX2_hoursUntilCalm_X5_limit : GoodIn wsX2_hoursUntilCalm (wsV RX2 125 RX5 yX5_limit wsX5_limit) := goodIn_app (goodIn_of _ (by decide +kernel)) ggX2_hoursUntilCalm_X5_limit
set_option maxRecDepth 20000 in
theorem ggX2_hoursUntilCalm_X7_at : GoodIn wsX2_hoursUntilCalm wsX7_at := goodIn_r _ [21, 22, 23, 41, 42] (by decide +kernel) (by decide +kernel)
set_option maxRecDepth 20000 in
theorem gX2_hoursUntilCalm_X7_at : GoodIn wsX2_hoursUntilCalm (wsV RX2 108 RX7 yX7_at wsX7_at) := goodIn_app (goodIn_of _ (by decide +kernel)) ggX2_hoursUntilCalm_X7_at
theorem dX2_hoursUntilCalm_0 : decode cX2_hoursUntilCalm 0 = .ok (.aload_n 0, 1) := by decide +kernel
theorem dX2_hoursUntilCalm_1 : decode cX2_hoursUntilCalm 1 = .ok (.iload_n 1, 1) := by decide +kernel
theorem dX2_hoursUntilCalm_2 : decode cX2_hoursUntilCalm 2 = .ok (.invokevirtual 112, 3) := by decide +kernel
theorem dX2_hoursUntilCalm_5 : decode cX2_hoursUntilCalm 5 = .ok (.ifCond .ne 5, 3) := by decide +kernel
theorem dX2_hoursUntilCalm_8 : decode cX2_hoursUntilCalm 8 = .ok (.iconst (-1), 1) := by decide +kernel
theorem dX2_hoursUntilCalm_9 : decode cX2_hoursUntilCalm 9 = .ok (.ireturn, 1) := by decide +kernel
theorem dX2_hoursUntilCalm_10 : decode cX2_hoursUntilCalm 10 = .ok (.aload_n 0, 1) := by decide +kernel
theorem dX2_hoursUntilCalm_11 : decode cX2_hoursUntilCalm 11 = .ok (.getfield 11, 3) := by decide +kernel
theorem dX2_hoursUntilCalm_14 : decode cX2_hoursUntilCalm 14 = .ok (.iload_n 1, 1) := by decide +kernel
theorem dX2_hoursUntilCalm_15 : decode cX2_hoursUntilCalm 15 = .ok (.aaload, 1) := by decide +kernel
theorem dX2_hoursUntilCalm_16 : decode cX2_hoursUntilCalm 16 = .ok (.aload_n 0, 1) := by decide +kernel
theorem dX2_hoursUntilCalm_17 : decode cX2_hoursUntilCalm 17 = .ok (.getfield 56, 3) := by decide +kernel
theorem dX2_hoursUntilCalm_20 : decode cX2_hoursUntilCalm 20 = .ok (.iconst 0, 1) := by decide +kernel
theorem dX2_hoursUntilCalm_21 : decode cX2_hoursUntilCalm 21 = .ok (.iaload, 1) := by decide +kernel
theorem dX2_hoursUntilCalm_22 : decode cX2_hoursUntilCalm 22 = .ok (.invokevirtual 125, 3) := by decide +kernel
theorem dX2_hoursUntilCalm_25 : decode cX2_hoursUntilCalm 25 = .ok (.istore_n 3, 1) := by decide +kernel
theorem dX2_hoursUntilCalm_26 : decode cX2_hoursUntilCalm 26 = .ok (.iconst 0, 1) := by decide +kernel
theorem dX2_hoursUntilCalm_27 : decode cX2_hoursUntilCalm 27 = .ok (.istore 4, 2) := by decide +kernel
theorem dX2_hoursUntilCalm_29 : decode cX2_hoursUntilCalm 29 = .ok (.iconst 0, 1) := by decide +kernel
theorem dX2_hoursUntilCalm_30 : decode cX2_hoursUntilCalm 30 = .ok (.istore 5, 2) := by decide +kernel
theorem dX2_hoursUntilCalm_32 : decode cX2_hoursUntilCalm 32 = .ok (.iload 5, 2) := by decide +kernel
theorem dX2_hoursUntilCalm_34 : decode cX2_hoursUntilCalm 34 = .ok (.bipush 96, 2) := by decide +kernel
theorem dX2_hoursUntilCalm_36 : decode cX2_hoursUntilCalm 36 = .ok (.iload_n 2, 1) := by decide +kernel
theorem dX2_hoursUntilCalm_37 : decode cX2_hoursUntilCalm 37 = .ok (.iadd, 1) := by decide +kernel
theorem dX2_hoursUntilCalm_38 : decode cX2_hoursUntilCalm 38 = .ok (.if_icmp .ge 50, 3) := by decide +kernel
theorem dX2_hoursUntilCalm_41 : decode cX2_hoursUntilCalm 41 = .ok (.aload_n 0, 1) := by decide +kernel
theorem dX2_hoursUntilCalm_42 : decode cX2_hoursUntilCalm 42 = .ok (.getfield 52, 3) := by decide +kernel
theorem dX2_hoursUntilCalm_45 : decode cX2_hoursUntilCalm 45 = .ok (.aload_n 0, 1) := by decide +kernel
theorem dX2_hoursUntilCalm_46 : decode cX2_hoursUntilCalm 46 = .ok (.getfield 63, 3) := by decide +kernel
theorem dX2_hoursUntilCalm_49 : decode cX2_hoursUntilCalm 49 = .ok (.iload 5, 2) := by decide +kernel
theorem dX2_hoursUntilCalm_51 : decode cX2_hoursUntilCalm 51 = .ok (.iadd, 1) := by decide +kernel
theorem dX2_hoursUntilCalm_52 : decode cX2_hoursUntilCalm 52 = .ok (.invokevirtual 108, 3) := by decide +kernel
theorem dX2_hoursUntilCalm_55 : decode cX2_hoursUntilCalm 55 = .ok (.iload_n 3, 1) := by decide +kernel
theorem dX2_hoursUntilCalm_56 : decode cX2_hoursUntilCalm 56 = .ok (.if_icmp .gt 10, 3) := by decide +kernel
theorem dX2_hoursUntilCalm_59 : decode cX2_hoursUntilCalm 59 = .ok (.iload 4, 2) := by decide +kernel
theorem dX2_hoursUntilCalm_61 : decode cX2_hoursUntilCalm 61 = .ok (.iconst 1, 1) := by decide +kernel
theorem dX2_hoursUntilCalm_62 : decode cX2_hoursUntilCalm 62 = .ok (.iadd, 1) := by decide +kernel
theorem dX2_hoursUntilCalm_63 : decode cX2_hoursUntilCalm 63 = .ok (.goto 4, 3) := by decide +kernel
theorem dX2_hoursUntilCalm_66 : decode cX2_hoursUntilCalm 66 = .ok (.iconst 0, 1) := by decide +kernel
theorem dX2_hoursUntilCalm_67 : decode cX2_hoursUntilCalm 67 = .ok (.istore 4, 2) := by decide +kernel
theorem dX2_hoursUntilCalm_69 : decode cX2_hoursUntilCalm 69 = .ok (.iload 4, 2) := by decide +kernel
theorem dX2_hoursUntilCalm_71 : decode cX2_hoursUntilCalm 71 = .ok (.iload_n 2, 1) := by decide +kernel
theorem dX2_hoursUntilCalm_72 : decode cX2_hoursUntilCalm 72 = .ok (.if_icmp .ne 10, 3) := by decide +kernel
theorem dX2_hoursUntilCalm_75 : decode cX2_hoursUntilCalm 75 = .ok (.iload 5, 2) := by decide +kernel
theorem dX2_hoursUntilCalm_77 : decode cX2_hoursUntilCalm 77 = .ok (.iconst 1, 1) := by decide +kernel
theorem dX2_hoursUntilCalm_78 : decode cX2_hoursUntilCalm 78 = .ok (.iadd, 1) := by decide +kernel
theorem dX2_hoursUntilCalm_79 : decode cX2_hoursUntilCalm 79 = .ok (.iload_n 2, 1) := by decide +kernel
theorem dX2_hoursUntilCalm_80 : decode cX2_hoursUntilCalm 80 = .ok (.isub, 1) := by decide +kernel
theorem dX2_hoursUntilCalm_81 : decode cX2_hoursUntilCalm 81 = .ok (.ireturn, 1) := by decide +kernel
theorem dX2_hoursUntilCalm_82 : decode cX2_hoursUntilCalm 82 = .ok (.iinc 5 1, 3) := by decide +kernel
theorem dX2_hoursUntilCalm_85 : decode cX2_hoursUntilCalm 85 = .ok (.goto (-53), 3) := by decide +kernel
theorem dX2_hoursUntilCalm_88 : decode cX2_hoursUntilCalm 88 = .ok (.iconst (-1), 1) := by decide +kernel
theorem dX2_hoursUntilCalm_89 : decode cX2_hoursUntilCalm 89 = .ok (.ireturn, 1) := by decide +kernel
set_option maxRecDepth 20000 in
theorem ggX2_runHours_X2_runHour : GoodIn wsX2_runHours wsX2_runHour := goodIn_r _ [5, 6, 7, 8, 9, 10, 11, 12, 13, 14, 15, 16, 17, 18, 19, 20, 21, 22, 23, 4, 24, 25, 26, 27, 28, 29, 30, 31, 32, 33, 34, 35, 36, 37, 38, 39, 40, 41, 42, 43, 44, 45, 46, 47, 48, 49, 50, 51, 52, 53, 54, 55, 56, 57, 58, 59, 60, 61, 62, 63, 64, 65, 66, 67, 68, 69, 70, 71, 72, 73, 74, 75, 76, 77, 78, 79, 80, 81, 82, 83, 84, 85, 86, 87, 88, 89, 90, 91, 92, 93, 94, 95, 96, 97, 98, 99, 100, 101, 102, 103, 104, 105, 106, 107, 108, 109, 110, 111, 112, 113, 114, 115, 116, 117, 118, 119, 120, 121, 122, 123, 124, 125, 126, 127, 128, 129, 130, 131, 132, 133, 134, 135, 136, 137, 138, 139, 140, 141, 142, 143, 144, 145, 146, 147, 148, 149, 150, 151, 152, 153, 154, 155, 156, 157, 158, 159, 160, 161, 162, 163, 164, 165, 166, 167, 168, 169, 170, 171, 172, 173, 174, 175, 176, 177, 178, 179, 180, 181, 182, 183, 184, 185, 186, 187, 188, 189, 190] (by decide +kernel) (by decide +kernel)
set_option maxRecDepth 20000 in
theorem gX2_runHours_X2_runHour : GoodIn wsX2_runHours (wsV RX2 172 RX2 yX2_runHour wsX2_runHour) := goodIn_app (goodIn_of _ (by decide +kernel)) ggX2_runHours_X2_runHour
theorem dX2_runHours_0 : decode cX2_runHours 0 = .ok (.iconst 0, 1) := by decide +kernel
theorem dX2_runHours_1 : decode cX2_runHours 1 = .ok (.istore_n 2, 1) := by decide +kernel
theorem dX2_runHours_2 : decode cX2_runHours 2 = .ok (.iconst 0, 1) := by decide +kernel
theorem dX2_runHours_3 : decode cX2_runHours 3 = .ok (.istore_n 3, 1) := by decide +kernel
theorem dX2_runHours_4 : decode cX2_runHours 4 = .ok (.iload_n 3, 1) := by decide +kernel
theorem dX2_runHours_5 : decode cX2_runHours 5 = .ok (.iload_n 1, 1) := by decide +kernel
theorem dX2_runHours_6 : decode cX2_runHours 6 = .ok (.if_icmp .ge 16, 3) := by decide +kernel
theorem dX2_runHours_9 : decode cX2_runHours 9 = .ok (.iload_n 2, 1) := by decide +kernel
theorem dX2_runHours_10 : decode cX2_runHours 10 = .ok (.aload_n 0, 1) := by decide +kernel
theorem dX2_runHours_11 : decode cX2_runHours 11 = .ok (.invokevirtual 172, 3) := by decide +kernel
theorem dX2_runHours_14 : decode cX2_runHours 14 = .ok (.iadd, 1) := by decide +kernel
theorem dX2_runHours_15 : decode cX2_runHours 15 = .ok (.istore_n 2, 1) := by decide +kernel
theorem dX2_runHours_16 : decode cX2_runHours 16 = .ok (.iinc 3 1, 3) := by decide +kernel
theorem dX2_runHours_19 : decode cX2_runHours 19 = .ok (.goto (-15), 3) := by decide +kernel
theorem dX2_runHours_22 : decode cX2_runHours 22 = .ok (.iload_n 2, 1) := by decide +kernel
theorem dX2_runHours_23 : decode cX2_runHours 23 = .ok (.ireturn, 1) := by decide +kernel
set_option maxRecDepth 20000 in
theorem ggX2_runHour_X3_unload : GoodIn wsX2_runHour wsX3_unload := goodIn_r _ [9, 10, 11, 12, 13, 14, 15, 165, 166, 167] (by decide +kernel) (by decide +kernel)
set_option maxRecDepth 20000 in
theorem gX2_runHour_X3_unload : GoodIn wsX2_runHour (wsV RX2 175 RX3 yX3_unload wsX3_unload) := goodIn_app (goodIn_of _ (by decide +kernel)) ggX2_runHour_X3_unload
set_option maxRecDepth 20000 in
theorem ggX2_runHour_X2_dropFaultless : GoodIn wsX2_runHour wsX2_dropFaultless := goodIn_r _ [20, 3, 21, 22, 23, 24, 25, 26, 27, 28, 29, 30, 31, 32, 33, 34, 35, 36, 37, 38, 39, 40, 41, 42, 19, 43, 44, 45, 46, 47, 48, 155, 156, 157, 158, 159, 160, 161, 162, 163, 164, 168, 169, 170, 171, 172, 173, 174, 175, 176, 177, 178, 179, 180, 181] (by decide +kernel) (by decide +kernel)
set_option maxRecDepth 20000 in
theorem gX2_runHour_X2_dropFaultless : GoodIn wsX2_runHour (wsV RX2 179 RX2 yX2_dropFaultless wsX2_dropFaultless) := goodIn_app (goodIn_of _ (by decide +kernel)) ggX2_runHour_X2_dropFaultless
set_option maxRecDepth 20000 in
theorem ggX2_runHour_X4_first : GoodIn wsX2_runHour wsX4_first := goodIn_r _ [30, 31, 32, 168, 169] (by decide +kernel) (by decide +kernel)
set_option maxRecDepth 20000 in
theorem gX2_runHour_X4_first : GoodIn wsX2_runHour (wsV RX2 182 RX4 yX4_first wsX4_first) := goodIn_app (goodIn_of _ (by decide +kernel)) ggX2_runHour_X4_first
set_option maxRecDepth 20000 in
theorem ggX2_runHour_X2_serve : GoodIn wsX2_runHour wsX2_serve := goodIn_r _ [52, 24, 22, 53, 54, 1, 2, 40, 41, 42, 19, 43, 44, 55, 56, 57, 36, 58, 59, 60, 61, 62, 63, 64, 65, 14, 66, 67, 68, 69, 70, 71, 13, 15, 72, 73, 74, 75, 76, 77, 78, 79, 80, 81, 82, 83, 84, 85, 86, 87, 88, 89, 8, 90, 10, 91, 11, 92, 93, 94, 95, 96, 4, 97, 98, 99, 100, 101, 102, 103, 104, 105, 106, 107, 108, 109, 110, 111, 112, 113, 38, 39, 155, 156, 157, 158, 159, 160, 161, 162, 163, 164, 170, 171, 172, 173, 174, 175, 176, 177, 178, 179, 180, 181, 182, 183, 184, 165, 166, 167, 185, 186] (by decide +kernel) (by decide +kernel)
set_option maxRecDepth 20000 in
theorem gX2_runHour_X2_serve : GoodIn wsX2_runHour (wsV RX2 185 RX2 yX2_serve wsX2_serve) := goodIn_app (goodIn_of _ (by decide +kernel)) ggX2_runHour_X2_serve
set_option maxRecDepth 20000 in
theorem ggX2_runHour_X2_sharePower : GoodIn wsX2_runHour wsX2_sharePower := goodIn_r _ [117, 44, 24, 25, 118, 119, 120, 92, 93, 94, 19, 95, 96, 4, 97, 98, 99, 100, 101, 102, 103, 121, 122, 123, 107, 124, 125, 126, 13, 14, 15, 155, 156, 157, 158, 159, 160, 161, 162, 163, 164, 175, 176, 177, 178, 179, 180, 181, 185, 186] (by decide +kernel) (by decide +kernel)
set_option maxRecDepth 20000 in
theorem gX2_runHour_X2_sharePower : GoodIn wsX2_runHour (wsV RX2 188 RX2 yX2_sharePower wsX2_sharePower) := goodIn_app (goodIn_of _ (by decide +kernel)) ggX2_runHour_X2_sharePower
set_option maxRecDepth 20000 in
theorem ggX2_runHour_X2_finishIfDone : GoodIn wsX2_runHour wsX2_finishIfDone := goodIn_r _ [130, 22, 131, 2, 24, 25, 132, 1, 3, 40, 41, 42, 19, 43, 44, 133, 134, 135, 8, 136, 10, 91, 11, 137, 138, 139, 140, 33, 34, 35, 36, 37, 38, 39, 141, 142, 143, 29, 144, 31, 32, 45, 46, 47, 48, 155, 156, 157, 158, 159, 160, 161, 162, 163, 164, 170, 171, 172, 173, 174, 175, 176, 177, 178, 179, 180, 181, 165, 166, 167, 168, 169] (by decide +kernel) (by decide +kernel)
set_option maxRecDepth 20000 in
theorem gX2_runHour_X2_finishIfDone : GoodIn wsX2_runHour (wsV RX2 191 RX2 yX2_finishIfDone wsX2_finishIfDone) := goodIn_app (goodIn_of _ (by decide +kernel)) ggX2_runHour_X2_finishIfDone
set_option maxRecDepth 20000 in
theorem ggX2_runHour_X2_worsen : GoodIn wsX2_runHour wsX2_worsen := goodIn_r _ [148, 44, 24, 2, 149, 150, 151, 107, 152, 153, 154, 155, 156, 157, 158, 159, 160, 161, 162, 163, 164, 175, 176, 177, 178, 179, 180, 181] (by decide +kernel) (by decide +kernel)
set_option maxRecDepth 20000 in
theorem gX2_runHour_X2_worsen : GoodIn wsX2_runHour (wsV RX2 194 RX2 yX2_worsen wsX2_worsen) := goodIn_app (goodIn_of _ (by decide +kernel)) ggX2_runHour_X2_worsen
theorem dX2_runHour_0 : decode cX2_runHour 0 = .ok (.aload_n 0, 1) := by decide +kernel
theorem dX2_runHour_1 : decode cX2_runHour 1 = .ok (.getfield 31, 3) := by decide +kernel
theorem dX2_runHour_4 : decode cX2_runHour 4 = .ok (.aload_n 0, 1) := by decide +kernel
theorem dX2_runHour_5 : decode cX2_runHour 5 = .ok (.getfield 56, 3) := by decide +kernel
theorem dX2_runHour_8 : decode cX2_runHour 8 = .ok (.iconst 5, 1) := by decide +kernel
theorem dX2_runHour_9 : decode cX2_runHour 9 = .ok (.iaload, 1) := by decide +kernel
theorem dX2_runHour_10 : decode cX2_runHour 10 = .ok (.invokevirtual 175, 3) := by decide +kernel
theorem dX2_runHour_13 : decode cX2_runHour 13 = .ok (.aload_n 0, 1) := by decide +kernel
theorem dX2_runHour_14 : decode cX2_runHour 14 = .ok (.invokevirtual 179, 3) := by decide +kernel
theorem dX2_runHour_17 : decode cX2_runHour 17 = .ok (.aload_n 0, 1) := by decide +kernel
theorem dX2_runHour_18 : decode cX2_runHour 18 = .ok (.getfield 38, 3) := by decide +kernel
theorem dX2_runHour_21 : decode cX2_runHour 21 = .ok (.invokevirtual 182, 3) := by decide +kernel
theorem dX2_runHour_24 : decode cX2_runHour 24 = .ok (.istore_n 1, 1) := by decide +kernel
theorem dX2_runHour_25 : decode cX2_runHour 25 = .ok (.aload_n 0, 1) := by decide +kernel
theorem dX2_runHour_26 : decode cX2_runHour 26 = .ok (.iload_n 1, 1) := by decide +kernel
theorem dX2_runHour_27 : decode cX2_runHour 27 = .ok (.invokevirtual 185, 3) := by decide +kernel
theorem dX2_runHour_30 : decode cX2_runHour 30 = .ok (.istore_n 2, 1) := by decide +kernel
theorem dX2_runHour_31 : decode cX2_runHour 31 = .ok (.aload_n 0, 1) := by decide +kernel
theorem dX2_runHour_32 : decode cX2_runHour 32 = .ok (.iload_n 1, 1) := by decide +kernel
theorem dX2_runHour_33 : decode cX2_runHour 33 = .ok (.iload_n 2, 1) := by decide +kernel
theorem dX2_runHour_34 : decode cX2_runHour 34 = .ok (.invokevirtual 188, 3) := by decide +kernel
theorem dX2_runHour_37 : decode cX2_runHour 37 = .ok (.istore_n 3, 1) := by decide +kernel
theorem dX2_runHour_38 : decode cX2_runHour 38 = .ok (.iload_n 2, 1) := by decide +kernel
theorem dX2_runHour_39 : decode cX2_runHour 39 = .ok (.iconst 4, 1) := by decide +kernel
theorem dX2_runHour_40 : decode cX2_runHour 40 = .ok (.if_icmp .ne 8, 3) := by decide +kernel
theorem dX2_runHour_43 : decode cX2_runHour 43 = .ok (.aload_n 0, 1) := by decide +kernel
theorem dX2_runHour_44 : decode cX2_runHour 44 = .ok (.iload_n 1, 1) := by decide +kernel
theorem dX2_runHour_45 : decode cX2_runHour 45 = .ok (.invokevirtual 191, 3) := by decide +kernel
theorem dX2_runHour_48 : decode cX2_runHour 48 = .ok (.aload_n 0, 1) := by decide +kernel
theorem dX2_runHour_49 : decode cX2_runHour 49 = .ok (.iload_n 2, 1) := by decide +kernel
theorem dX2_runHour_50 : decode cX2_runHour 50 = .ok (.iconst 4, 1) := by decide +kernel
theorem dX2_runHour_51 : decode cX2_runHour 51 = .ok (.if_icmp .ne 7, 3) := by decide +kernel
theorem dX2_runHour_54 : decode cX2_runHour 54 = .ok (.iload_n 1, 1) := by decide +kernel
theorem dX2_runHour_55 : decode cX2_runHour 55 = .ok (.goto 4, 3) := by decide +kernel
theorem dX2_runHour_58 : decode cX2_runHour 58 = .ok (.iconst (-1), 1) := by decide +kernel
theorem dX2_runHour_59 : decode cX2_runHour 59 = .ok (.invokevirtual 194, 3) := by decide +kernel
theorem dX2_runHour_62 : decode cX2_runHour 62 = .ok (.aload_n 0, 1) := by decide +kernel
theorem dX2_runHour_63 : decode cX2_runHour 63 = .ok (.dup, 1) := by decide +kernel
theorem dX2_runHour_64 : decode cX2_runHour 64 = .ok (.getfield 63, 3) := by decide +kernel
theorem dX2_runHour_67 : decode cX2_runHour 67 = .ok (.iconst 1, 1) := by decide +kernel
theorem dX2_runHour_68 : decode cX2_runHour 68 = .ok (.iadd, 1) := by decide +kernel
theorem dX2_runHour_69 : decode cX2_runHour 69 = .ok (.putfield 63, 3) := by decide +kernel
theorem dX2_runHour_72 : decode cX2_runHour 72 = .ok (.iload_n 3, 1) := by decide +kernel
theorem dX2_runHour_73 : decode cX2_runHour 73 = .ok (.ireturn, 1) := by decide +kernel
set_option maxRecDepth 20000 in
theorem ggX2_dropFaultless_X4_first : GoodIn wsX2_dropFaultless wsX4_first := goodIn_r _ [11, 12, 13, 41, 42] (by decide +kernel) (by decide +kernel)
set_option maxRecDepth 20000 in
theorem gX2_dropFaultless_X4_first : GoodIn wsX2_dropFaultless (wsV RX2 182 RX4 yX4_first wsX4_first) := goodIn_app (goodIn_of _ (by decide +kernel)) ggX2_dropFaultless_X4_first
set_option maxRecDepth 20000 in
theorem ggX2_dropFaultless_X1_forgetWork : GoodIn wsX2_dropFaultless wsX1_forgetWork := goodIn_r _ [18, 19, 20, 43, 44, 45, 46, 47] (by decide +kernel) (by decide +kernel)
set_option maxRecDepth 20000 in
theorem gX2_dropFaultless_X1_forgetWork : GoodIn wsX2_dropFaultless (wsV RX2 200 RX1 yX1_forgetWork wsX1_forgetWork) := goodIn_app (goodIn_of _ (by decide +kernel)) ggX2_dropFaultless_X1_forgetWork
set_option maxRecDepth 20000 in
theorem ggX2_dropFaultless_X2_hasTurbine : GoodIn wsX2_dropFaultless wsX2_hasTurbine := goodIn_r _ [25, 26, 31, 32, 33, 34, 35, 36, 37, 38, 39, 40] (by decide +kernel) (by decide +kernel)
set_option maxRecDepth 20000 in
theorem gX2_dropFaultless_X2_hasTurbine : GoodIn wsX2_dropFaultless (wsV RX2 112 RX2 yX2_hasTurbine wsX2_hasTurbine) := goodIn_app (goodIn_of _ (by decide +kernel)) ggX2_dropFaultless_X2_hasTurbine
set_option maxRecDepth 20000 in
theorem ggX2_dropFaultless_X4_removeAt : GoodIn wsX2_dropFaultless wsX4_removeAt := goodIn_r _ [30, 12, 13, 41, 42] (by decide +kernel) (by decide +kernel)
set_option maxRecDepth 20000 in
theorem gX2_dropFaultless_X4_removeAt : GoodIn wsX2_dropFaultless (wsV RX2 203 RX4 yX4_removeAt wsX4_removeAt) := goodIn_app (goodIn_of _ (by decide +kernel)) ggX2_dropFaultless_X4_removeAt
theorem dX2_dropFaultless_0 : decode cX2_dropFaultless 0 = .ok (.aload_n 0, 1) := by decide +kernel
theorem dX2_dropFaultless_1 : decode cX2_dropFaultless 1 = .ok (.getfield 38, 3) := by decide +kernel
theorem dX2_dropFaultless_4 : decode cX2_dropFaultless 4 = .ok (.getfield 153, 3) := by decide +kernel
theorem dX2_dropFaultless_7 : decode cX2_dropFaultless 7 = .ok (.ifCond .le 27, 3) := by decide +kernel
theorem dX2_dropFaultless_10 : decode cX2_dropFaultless 10 = .ok (.aload_n 0, 1) := by decide +kernel
theorem dX2_dropFaultless_11 : decode cX2_dropFaultless 11 = .ok (.getfield 38, 3) := by decide +kernel
theorem dX2_dropFaultless_14 : decode cX2_dropFaultless 14 = .ok (.invokevirtual 182, 3) := by decide +kernel
theorem dX2_dropFaultless_17 : decode cX2_dropFaultless 17 = .ok (.aload_n 0, 1) := by decide +kernel
theorem dX2_dropFaultless_18 : decode cX2_dropFaultless 18 = .ok (.getfield 45, 3) := by decide +kernel
theorem dX2_dropFaultless_21 : decode cX2_dropFaultless 21 = .ok (.getfield 197, 3) := by decide +kernel
theorem dX2_dropFaultless_24 : decode cX2_dropFaultless 24 = .ok (.if_icmp .eq 10, 3) := by decide +kernel
theorem dX2_dropFaultless_27 : decode cX2_dropFaultless 27 = .ok (.aload_n 0, 1) := by decide +kernel
theorem dX2_dropFaultless_28 : decode cX2_dropFaultless 28 = .ok (.getfield 45, 3) := by decide +kernel
theorem dX2_dropFaultless_31 : decode cX2_dropFaultless 31 = .ok (.invokevirtual 200, 3) := by decide +kernel
theorem dX2_dropFaultless_34 : decode cX2_dropFaultless 34 = .ok (.iconst 0, 1) := by decide +kernel
theorem dX2_dropFaultless_35 : decode cX2_dropFaultless 35 = .ok (.istore_n 1, 1) := by decide +kernel
theorem dX2_dropFaultless_36 : decode cX2_dropFaultless 36 = .ok (.iload_n 1, 1) := by decide +kernel
theorem dX2_dropFaultless_37 : decode cX2_dropFaultless 37 = .ok (.bipush 10, 2) := by decide +kernel
theorem dX2_dropFaultless_39 : decode cX2_dropFaultless 39 = .ok (.if_icmp .ge 53, 3) := by decide +kernel
theorem dX2_dropFaultless_42 : decode cX2_dropFaultless 42 = .ok (.aload_n 0, 1) := by decide +kernel
theorem dX2_dropFaultless_43 : decode cX2_dropFaultless 43 = .ok (.getfield 38, 3) := by decide +kernel
theorem dX2_dropFaultless_46 : decode cX2_dropFaultless 46 = .ok (.invokevirtual 182, 3) := by decide +kernel
theorem dX2_dropFaultless_49 : decode cX2_dropFaultless 49 = .ok (.istore_n 2, 1) := by decide +kernel
theorem dX2_dropFaultless_50 : decode cX2_dropFaultless 50 = .ok (.aload_n 0, 1) := by decide +kernel
theorem dX2_dropFaultless_51 : decode cX2_dropFaultless 51 = .ok (.iload_n 2, 1) := by decide +kernel
theorem dX2_dropFaultless_52 : decode cX2_dropFaultless 52 = .ok (.invokevirtual 112, 3) := by decide +kernel
theorem dX2_dropFaultless_55 : decode cX2_dropFaultless 55 = .ok (.ifCond .eq 15, 3) := by decide +kernel
theorem dX2_dropFaultless_58 : decode cX2_dropFaultless 58 = .ok (.aload_n 0, 1) := by decide +kernel
theorem dX2_dropFaultless_59 : decode cX2_dropFaultless 59 = .ok (.getfield 11, 3) := by decide +kernel
theorem dX2_dropFaultless_62 : decode cX2_dropFaultless 62 = .ok (.iload_n 2, 1) := by decide +kernel
theorem dX2_dropFaultless_63 : decode cX2_dropFaultless 63 = .ok (.aaload, 1) := by decide +kernel
theorem dX2_dropFaultless_64 : decode cX2_dropFaultless 64 = .ok (.getfield 102, 3) := by decide +kernel
theorem dX2_dropFaultless_67 : decode cX2_dropFaultless 67 = .ok (.ifCond .eq 4, 3) := by decide +kernel
theorem dX2_dropFaultless_70 : decode cX2_dropFaultless 70 = .ok (.return_, 1) := by decide +kernel
theorem dX2_dropFaultless_71 : decode cX2_dropFaultless 71 = .ok (.aload_n 0, 1) := by decide +kernel
theorem dX2_dropFaultless_72 : decode cX2_dropFaultless 72 = .ok (.getfield 38, 3) := by decide +kernel
theorem dX2_dropFaultless_75 : decode cX2_dropFaultless 75 = .ok (.iconst 0, 1) := by decide +kernel
theorem dX2_dropFaultless_76 : decode cX2_dropFaultless 76 = .ok (.invokevirtual 203, 3) := by decide +kernel
theorem dX2_dropFaultless_79 : decode cX2_dropFaultless 79 = .ok (.aload_n 0, 1) := by decide +kernel
theorem dX2_dropFaultless_80 : decode cX2_dropFaultless 80 = .ok (.getfield 45, 3) := by decide +kernel
theorem dX2_dropFaultless_83 : decode cX2_dropFaultless 83 = .ok (.invokevirtual 200, 3) := by decide +kernel
theorem dX2_dropFaultless_86 : decode cX2_dropFaultless 86 = .ok (.iinc 1 1, 3) := by decide +kernel
theorem dX2_dropFaultless_89 : decode cX2_dropFaultless 89 = .ok (.goto (-53), 3) := by decide +kernel
theorem dX2_dropFaultless_92 : decode cX2_dropFaultless 92 = .ok (.return_, 1) := by decide +kernel
set_option maxRecDepth 20000 in
theorem ggX2_serve_X2_hasTurbine : GoodIn wsX2_serve wsX2_hasTurbine := goodIn_r _ [11, 12, 82, 83, 84, 85, 86, 87, 88, 89, 90, 91] (by decide +kernel) (by decide +kernel)
set_option maxRecDepth 20000 in
theorem gX2_serve_X2_hasTurbine : GoodIn wsX2_serve (wsV RX2 112 RX2 yX2_hasTurbine wsX2_hasTurbine) := goodIn_app (goodIn_of _ (by decide +kernel)) ggX2_serve_X2_hasTurbine
set_option maxRecDepth 20000 in
theorem ggX2_serve_X1_isOnWay : GoodIn wsX2_serve wsX1_isOnWay := goodIn_r _ [17, 18, 92, 93, 94, 95, 96] (by decide +kernel) (by decide +kernel)
set_option maxRecDepth 20000 in
theorem gX2_serve_X1_isOnWay : GoodIn wsX2_serve (wsV RX2 206 RX1 yX1_isOnWay wsX1_isOnWay) := goodIn_app (goodIn_of _ (by decide +kernel)) ggX2_serve_X1_isOnWay
set_option maxRecDepth 20000 in
theorem ggX2_serve_X2_hoursBetween : GoodIn wsX2_serve wsX2_hoursBetween := goodIn_r _ [22, 6, 23, 24, 25, 26, 27, 28, 29, 30, 31, 32, 33, 34, 35, 36, 37, 38, 39, 40, 41, 82, 83, 84, 85, 86, 87, 88, 89, 90, 91, 104, 105, 106] (by decide +kernel) (by decide +kernel)
set_option maxRecDepth 20000 in
theorem gX2_serve_X2_hoursBetween : GoodIn wsX2_serve (wsV RX2 211 RX2 yX2_hoursBetween wsX2_hoursBetween) := goodIn_app (goodIn_of _ (by decide +kernel)) ggX2_serve_X2_hoursBetween
set_option maxRecDepth 20000 in
theorem ggX2_serve_X1_driveTo : GoodIn wsX2_serve wsX1_driveTo := goodIn_r _ [45, 18, 46, 47, 24, 25, 26, 48, 92, 93, 94, 95, 96] (by decide +kernel) (by decide +kernel)
set_option maxRecDepth 20000 in
theorem gX2_serve_X1_driveTo : GoodIn wsX2_serve (wsV RX2 214 RX1 yX1_driveTo wsX1_driveTo) := goodIn_app (goodIn_of _ (by decide +kernel)) ggX2_serve_X1_driveTo
set_option maxRecDepth 20000 in
theorem ggX2_serve_X3_unloadedFor : GoodIn wsX2_serve wsX3_unloadedFor := goodIn_r _ [53, 54, 55, 56, 107, 108, 109] (by decide +kernel) (by decide +kernel)
set_option maxRecDepth 20000 in
theorem gX2_serve_X3_unloadedFor : GoodIn wsX2_serve (wsV RX2 131 RX3 yX3_unloadedFor wsX3_unloadedFor) := goodIn_app (goodIn_of _ (by decide +kernel)) ggX2_serve_X3_unloadedFor
set_option maxRecDepth 20000 in
theorem ggX2_serve_X2_windNow : GoodIn wsX2_serve wsX2_windNow := goodIn_r _ [60, 61, 62, 63, 64, 65, 66, 67, 68, 69, 82, 83, 84, 85, 86, 87, 88, 89, 90, 91, 110, 111] (by decide +kernel) (by decide +kernel)
set_option maxRecDepth 20000 in
theorem gX2_serve_X2_windNow : GoodIn wsX2_serve (wsV RX2 137 RX2 yX2_windNow wsX2_windNow) := goodIn_app (goodIn_of _ (by decide +kernel)) ggX2_serve_X2_windNow
set_option maxRecDepth 20000 in
theorem ggX2_serve_X5_limit : GoodIn wsX2_serve wsX5_limit := goodIn_r _ [74, 75, 97, 98, 99, 100, 101, 102, 103] (by decide +kernel) (by decide +kernel)
set_option maxRecDepth 20000 in
theorem gX2_serve_X5_limit : GoodIn wsX2_serve (wsV RX2 125 RX5 yX5_limit wsX5_limit) := goodIn_app (goodIn_of _ (by decide +kernel)) ggX2_serve_X5_limit
set_option maxRecDepth 20000 in
theorem ggX2_serve_X1_workAnHourOn : GoodIn wsX2_serve wsX1_workAnHourOn := goodIn_r _ [79, 80, 81, 92, 93, 94, 95, 96] (by decide +kernel) (by decide +kernel)
set_option maxRecDepth 20000 in
theorem gX2_serve_X1_workAnHourOn : GoodIn wsX2_serve (wsV RX2 217 RX1 yX1_workAnHourOn wsX1_workAnHourOn) := goodIn_app (goodIn_of _ (by decide +kernel)) ggX2_serve_X1_workAnHourOn
theorem dX2_serve_0 : decode cX2_serve 0 = .ok (.aload_n 0, 1) := by decide +kernel
theorem dX2_serve_1 : decode cX2_serve 1 = .ok (.iload_n 1, 1) := by decide +kernel
theorem dX2_serve_2 : decode cX2_serve 2 = .ok (.invokevirtual 112, 3) := by decide +kernel
theorem dX2_serve_5 : decode cX2_serve 5 = .ok (.ifCond .ne 5, 3) := by decide +kernel
theorem dX2_serve_8 : decode cX2_serve 8 = .ok (.iconst 0, 1) := by decide +kernel
theorem dX2_serve_9 : decode cX2_serve 9 = .ok (.ireturn, 1) := by decide +kernel
theorem dX2_serve_10 : decode cX2_serve 10 = .ok (.aload_n 0, 1) := by decide +kernel
theorem dX2_serve_11 : decode cX2_serve 11 = .ok (.getfield 11, 3) := by decide +kernel
theorem dX2_serve_14 : decode cX2_serve 14 = .ok (.iload_n 1, 1) := by decide +kernel
theorem dX2_serve_15 : decode cX2_serve 15 = .ok (.aaload, 1) := by decide +kernel
theorem dX2_serve_16 : decode cX2_serve 16 = .ok (.astore_n 2, 1) := by decide +kernel
theorem dX2_serve_17 : decode cX2_serve 17 = .ok (.aload_n 0, 1) := by decide +kernel
theorem dX2_serve_18 : decode cX2_serve 18 = .ok (.getfield 45, 3) := by decide +kernel
theorem dX2_serve_21 : decode cX2_serve 21 = .ok (.invokevirtual 206, 3) := by decide +kernel
theorem dX2_serve_24 : decode cX2_serve 24 = .ok (.ifCond .ne 17, 3) := by decide +kernel
theorem dX2_serve_27 : decode cX2_serve 27 = .ok (.aload_n 0, 1) := by decide +kernel
theorem dX2_serve_28 : decode cX2_serve 28 = .ok (.getfield 45, 3) := by decide +kernel
theorem dX2_serve_31 : decode cX2_serve 31 = .ok (.getfield 210, 3) := by decide +kernel
theorem dX2_serve_34 : decode cX2_serve 34 = .ok (.aload_n 2, 1) := by decide +kernel
theorem dX2_serve_35 : decode cX2_serve 35 = .ok (.getfield 95, 3) := by decide +kernel
theorem dX2_serve_38 : decode cX2_serve 38 = .ok (.if_icmp .eq 32, 3) := by decide +kernel
theorem dX2_serve_41 : decode cX2_serve 41 = .ok (.aload_n 0, 1) := by decide +kernel
theorem dX2_serve_42 : decode cX2_serve 42 = .ok (.getfield 45, 3) := by decide +kernel
theorem dX2_serve_45 : decode cX2_serve 45 = .ok (.iload_n 1, 1) := by decide +kernel
theorem dX2_serve_46 : decode cX2_serve 46 = .ok (.aload_n 2, 1) := by decide +kernel
theorem dX2_serve_47 : decode cX2_serve 47 = .ok (.getfield 95, 3) := by decide +kernel
theorem dX2_serve_50 : decode cX2_serve 50 = .ok (.aload_n 0, 1) := by decide +kernel
theorem dX2_serve_51 : decode cX2_serve 51 = .ok (.aload_n 0, 1) := by decide +kernel
theorem dX2_serve_52 : decode cX2_serve 52 = .ok (.getfield 45, 3) := by decide +kernel
theorem dX2_serve_55 : decode cX2_serve 55 = .ok (.getfield 210, 3) := by decide +kernel
theorem dX2_serve_58 : decode cX2_serve 58 = .ok (.aload_n 2, 1) := by decide +kernel
theorem dX2_serve_59 : decode cX2_serve 59 = .ok (.getfield 95, 3) := by decide +kernel
theorem dX2_serve_62 : decode cX2_serve 62 = .ok (.invokevirtual 211, 3) := by decide +kernel
theorem dX2_serve_65 : decode cX2_serve 65 = .ok (.invokevirtual 214, 3) := by decide +kernel
theorem dX2_serve_68 : decode cX2_serve 68 = .ok (.iconst 1, 1) := by decide +kernel
theorem dX2_serve_69 : decode cX2_serve 69 = .ok (.ireturn, 1) := by decide +kernel
theorem dX2_serve_70 : decode cX2_serve 70 = .ok (.aload_n 0, 1) := by decide +kernel
theorem dX2_serve_71 : decode cX2_serve 71 = .ok (.getfield 31, 3) := by decide +kernel
theorem dX2_serve_74 : decode cX2_serve 74 = .ok (.iload_n 1, 1) := by decide +kernel
theorem dX2_serve_75 : decode cX2_serve 75 = .ok (.invokevirtual 131, 3) := by decide +kernel
theorem dX2_serve_78 : decode cX2_serve 78 = .ok (.ifCond .ne 5, 3) := by decide +kernel
theorem dX2_serve_81 : decode cX2_serve 81 = .ok (.iconst 2, 1) := by decide +kernel
theorem dX2_serve_82 : decode cX2_serve 82 = .ok (.ireturn, 1) := by decide +kernel
theorem dX2_serve_83 : decode cX2_serve 83 = .ok (.aload_n 0, 1) := by decide +kernel
theorem dX2_serve_84 : decode cX2_serve 84 = .ok (.invokevirtual 137, 3) := by decide +kernel
theorem dX2_serve_87 : decode cX2_serve 87 = .ok (.aload_n 2, 1) := by decide +kernel
theorem dX2_serve_88 : decode cX2_serve 88 = .ok (.aload_n 0, 1) := by decide +kernel
theorem dX2_serve_89 : decode cX2_serve 89 = .ok (.getfield 56, 3) := by decide +kernel
theorem dX2_serve_92 : decode cX2_serve 92 = .ok (.iconst 0, 1) := by decide +kernel
theorem dX2_serve_93 : decode cX2_serve 93 = .ok (.iaload, 1) := by decide +kernel
theorem dX2_serve_94 : decode cX2_serve 94 = .ok (.invokevirtual 125, 3) := by decide +kernel
theorem dX2_serve_97 : decode cX2_serve 97 = .ok (.if_icmp .le 5, 3) := by decide +kernel
theorem dX2_serve_100 : decode cX2_serve 100 = .ok (.iconst 3, 1) := by decide +kernel
theorem dX2_serve_101 : decode cX2_serve 101 = .ok (.ireturn, 1) := by decide +kernel
theorem dX2_serve_102 : decode cX2_serve 102 = .ok (.aload_n 0, 1) := by decide +kernel
theorem dX2_serve_103 : decode cX2_serve 103 = .ok (.getfield 45, 3) := by decide +kernel
theorem dX2_serve_106 : decode cX2_serve 106 = .ok (.iload_n 1, 1) := by decide +kernel
theorem dX2_serve_107 : decode cX2_serve 107 = .ok (.invokevirtual 217, 3) := by decide +kernel
theorem dX2_serve_110 : decode cX2_serve 110 = .ok (.iconst 4, 1) := by decide +kernel
theorem dX2_serve_111 : decode cX2_serve 111 = .ok (.ireturn, 1) := by decide +kernel
set_option maxRecDepth 20000 in
theorem ggX2_sharePower_X2_windNow : GoodIn wsX2_sharePower wsX2_windNow := goodIn_r _ [11, 12, 13, 14, 15, 16, 17, 18, 19, 20, 31, 32, 33, 34, 35, 36, 37, 38, 39, 40, 48, 49] (by decide +kernel) (by decide +kernel)
set_option maxRecDepth 20000 in
theorem gX2_sharePower_X2_windNow : GoodIn wsX2_sharePower (wsV RX2 137 RX2 yX2_windNow wsX2_windNow) := goodIn_app (goodIn_of _ (by decide +kernel)) ggX2_sharePower_X2_windNow
set_option maxRecDepth 20000 in
theorem ggX2_sharePower_X5_fullPower : GoodIn wsX2_sharePower wsX5_fullPower := goodIn_r _ [25, 26, 27, 28, 29, 30, 41, 42, 43, 44, 45, 46, 47] (by decide +kernel) (by decide +kernel)
set_option maxRecDepth 20000 in
theorem gX2_sharePower_X5_fullPower : GoodIn wsX2_sharePower (wsV RX2 141 RX5 yX5_fullPower wsX5_fullPower) := goodIn_app (goodIn_of _ (by decide +kernel)) ggX2_sharePower_X5_fullPower
theorem dX2_sharePower_0 : decode cX2_sharePower 0 = .ok (.aload_n 0, 1) := by decide +kernel
theorem dX2_sharePower_1 : decode cX2_sharePower 1 = .ok (.invokevirtual 137, 3) := by decide +kernel
theorem dX2_sharePower_4 : decode cX2_sharePower 4 = .ok (.istore_n 3, 1) := by decide +kernel
theorem dX2_sharePower_5 : decode cX2_sharePower 5 = .ok (.iconst 0, 1) := by decide +kernel
theorem dX2_sharePower_6 : decode cX2_sharePower 6 = .ok (.istore 4, 2) := by decide +kernel
theorem dX2_sharePower_8 : decode cX2_sharePower 8 = .ok (.iconst 0, 1) := by decide +kernel
theorem dX2_sharePower_9 : decode cX2_sharePower 9 = .ok (.istore 5, 2) := by decide +kernel
theorem dX2_sharePower_11 : decode cX2_sharePower 11 = .ok (.iload 5, 2) := by decide +kernel
theorem dX2_sharePower_13 : decode cX2_sharePower 13 = .ok (.aload_n 0, 1) := by decide +kernel
theorem dX2_sharePower_14 : decode cX2_sharePower 14 = .ok (.getfield 17, 3) := by decide +kernel
theorem dX2_sharePower_17 : decode cX2_sharePower 17 = .ok (.if_icmp .ge 130, 3) := by decide +kernel
theorem dX2_sharePower_20 : decode cX2_sharePower 20 = .ok (.aload_n 0, 1) := by decide +kernel
theorem dX2_sharePower_21 : decode cX2_sharePower 21 = .ok (.getfield 11, 3) := by decide +kernel
theorem dX2_sharePower_24 : decode cX2_sharePower 24 = .ok (.iload 5, 2) := by decide +kernel
theorem dX2_sharePower_26 : decode cX2_sharePower 26 = .ok (.aaload, 1) := by decide +kernel
theorem dX2_sharePower_27 : decode cX2_sharePower 27 = .ok (.iload_n 3, 1) := by decide +kernel
theorem dX2_sharePower_28 : decode cX2_sharePower 28 = .ok (.invokevirtual 141, 3) := by decide +kernel
theorem dX2_sharePower_31 : decode cX2_sharePower 31 = .ok (.istore 6, 2) := by decide +kernel
theorem dX2_sharePower_33 : decode cX2_sharePower 33 = .ok (.iload 5, 2) := by decide +kernel
theorem dX2_sharePower_35 : decode cX2_sharePower 35 = .ok (.iload_n 1, 1) := by decide +kernel
theorem dX2_sharePower_36 : decode cX2_sharePower 36 = .ok (.if_icmp .ne 7, 3) := by decide +kernel
theorem dX2_sharePower_39 : decode cX2_sharePower 39 = .ok (.iload_n 2, 1) := by decide +kernel
theorem dX2_sharePower_40 : decode cX2_sharePower 40 = .ok (.goto 4, 3) := by decide +kernel
theorem dX2_sharePower_43 : decode cX2_sharePower 43 = .ok (.iconst 0, 1) := by decide +kernel
theorem dX2_sharePower_44 : decode cX2_sharePower 44 = .ok (.istore 7, 2) := by decide +kernel
theorem dX2_sharePower_46 : decode cX2_sharePower 46 = .ok (.iload 7, 2) := by decide +kernel
theorem dX2_sharePower_48 : decode cX2_sharePower 48 = .ok (.iconst 4, 1) := by decide +kernel
theorem dX2_sharePower_49 : decode cX2_sharePower 49 = .ok (.if_icmp .ne 8, 3) := by decide +kernel
theorem dX2_sharePower_52 : decode cX2_sharePower 52 = .ok (.iload 6, 2) := by decide +kernel
theorem dX2_sharePower_54 : decode cX2_sharePower 54 = .ok (.goto 18, 3) := by decide +kernel
theorem dX2_sharePower_57 : decode cX2_sharePower 57 = .ok (.iload 6, 2) := by decide +kernel
theorem dX2_sharePower_59 : decode cX2_sharePower 59 = .ok (.aload_n 0, 1) := by decide +kernel
theorem dX2_sharePower_60 : decode cX2_sharePower 60 = .ok (.getfield 11, 3) := by decide +kernel
theorem dX2_sharePower_63 : decode cX2_sharePower 63 = .ok (.iload 5, 2) := by decide +kernel
theorem dX2_sharePower_65 : decode cX2_sharePower 65 = .ok (.aaload, 1) := by decide +kernel
theorem dX2_sharePower_66 : decode cX2_sharePower 66 = .ok (.getfield 102, 3) := by decide +kernel
theorem dX2_sharePower_69 : decode cX2_sharePower 69 = .ok (.imul, 1) := by decide +kernel
theorem dX2_sharePower_70 : decode cX2_sharePower 70 = .ok (.iconst 4, 1) := by decide +kernel
theorem dX2_sharePower_71 : decode cX2_sharePower 71 = .ok (.idiv, 1) := by decide +kernel
theorem dX2_sharePower_72 : decode cX2_sharePower 72 = .ok (.istore 8, 2) := by decide +kernel
theorem dX2_sharePower_74 : decode cX2_sharePower 74 = .ok (.aload_n 0, 1) := by decide +kernel
theorem dX2_sharePower_75 : decode cX2_sharePower 75 = .ok (.getfield 11, 3) := by decide +kernel
theorem dX2_sharePower_78 : decode cX2_sharePower 78 = .ok (.iload 5, 2) := by decide +kernel
theorem dX2_sharePower_80 : decode cX2_sharePower 80 = .ok (.aaload, 1) := by decide +kernel
theorem dX2_sharePower_81 : decode cX2_sharePower 81 = .ok (.dup, 1) := by decide +kernel
theorem dX2_sharePower_82 : decode cX2_sharePower 82 = .ok (.getfield 134, 3) := by decide +kernel
theorem dX2_sharePower_85 : decode cX2_sharePower 85 = .ok (.iload 8, 2) := by decide +kernel
theorem dX2_sharePower_87 : decode cX2_sharePower 87 = .ok (.iadd, 1) := by decide +kernel
theorem dX2_sharePower_88 : decode cX2_sharePower 88 = .ok (.putfield 134, 3) := by decide +kernel
theorem dX2_sharePower_91 : decode cX2_sharePower 91 = .ok (.aload_n 0, 1) := by decide +kernel
theorem dX2_sharePower_92 : decode cX2_sharePower 92 = .ok (.getfield 11, 3) := by decide +kernel
theorem dX2_sharePower_95 : decode cX2_sharePower 95 = .ok (.iload 5, 2) := by decide +kernel
theorem dX2_sharePower_97 : decode cX2_sharePower 97 = .ok (.aaload, 1) := by decide +kernel
theorem dX2_sharePower_98 : decode cX2_sharePower 98 = .ok (.dup, 1) := by decide +kernel
theorem dX2_sharePower_99 : decode cX2_sharePower 99 = .ok (.getfield 105, 3) := by decide +kernel
theorem dX2_sharePower_102 : decode cX2_sharePower 102 = .ok (.iload 6, 2) := by decide +kernel
theorem dX2_sharePower_104 : decode cX2_sharePower 104 = .ok (.iload 8, 2) := by decide +kernel
theorem dX2_sharePower_106 : decode cX2_sharePower 106 = .ok (.isub, 1) := by decide +kernel
theorem dX2_sharePower_107 : decode cX2_sharePower 107 = .ok (.iadd, 1) := by decide +kernel
theorem dX2_sharePower_108 : decode cX2_sharePower 108 = .ok (.putfield 105, 3) := by decide +kernel
theorem dX2_sharePower_111 : decode cX2_sharePower 111 = .ok (.iload 7, 2) := by decide +kernel
theorem dX2_sharePower_113 : decode cX2_sharePower 113 = .ok (.ifCond .lt 21, 3) := by decide +kernel
theorem dX2_sharePower_116 : decode cX2_sharePower 116 = .ok (.iload 7, 2) := by decide +kernel
theorem dX2_sharePower_118 : decode cX2_sharePower 118 = .ok (.iconst 5, 1) := by decide +kernel
theorem dX2_sharePower_119 : decode cX2_sharePower 119 = .ok (.if_icmp .ge 15, 3) := by decide +kernel
theorem dX2_sharePower_122 : decode cX2_sharePower 122 = .ok (.aload_n 0, 1) := by decide +kernel
theorem dX2_sharePower_123 : decode cX2_sharePower 123 = .ok (.getfield 60, 3) := by decide +kernel
theorem dX2_sharePower_126 : decode cX2_sharePower 126 = .ok (.iload 7, 2) := by decide +kernel
theorem dX2_sharePower_128 : decode cX2_sharePower 128 = .ok (.dup2, 1) := by decide +kernel
theorem dX2_sharePower_129 : decode cX2_sharePower 129 = .ok (.iaload, 1) := by decide +kernel
theorem dX2_sharePower_130 : decode cX2_sharePower 130 = .ok (.iload 8, 2) := by decide +kernel
theorem dX2_sharePower_132 : decode cX2_sharePower 132 = .ok (.iadd, 1) := by decide +kernel
theorem dX2_sharePower_133 : decode cX2_sharePower 133 = .ok (.iastore, 1) := by decide +kernel
theorem dX2_sharePower_134 : decode cX2_sharePower 134 = .ok (.iload 4, 2) := by decide +kernel
theorem dX2_sharePower_136 : decode cX2_sharePower 136 = .ok (.iload 8, 2) := by decide +kernel
theorem dX2_sharePower_138 : decode cX2_sharePower 138 = .ok (.iadd, 1) := by decide +kernel
theorem dX2_sharePower_139 : decode cX2_sharePower 139 = .ok (.istore 4, 2) := by decide +kernel
theorem dX2_sharePower_141 : decode cX2_sharePower 141 = .ok (.iinc 5 1, 3) := by decide +kernel
theorem dX2_sharePower_144 : decode cX2_sharePower 144 = .ok (.goto (-133), 3) := by decide +kernel
theorem dX2_sharePower_147 : decode cX2_sharePower 147 = .ok (.iload 4, 2) := by decide +kernel
theorem dX2_sharePower_149 : decode cX2_sharePower 149 = .ok (.ireturn, 1) := by decide +kernel
set_option maxRecDepth 20000 in
theorem ggX2_finishIfDone_X2_hasTurbine : GoodIn wsX2_finishIfDone wsX2_hasTurbine := goodIn_r _ [13, 14, 45, 46, 47, 48, 49, 50, 51, 52, 53, 54] (by decide +kernel) (by decide +kernel)
set_option maxRecDepth 20000 in
theorem gX2_finishIfDone_X2_hasTurbine : GoodIn wsX2_finishIfDone (wsV RX2 112 RX2 yX2_hasTurbine wsX2_hasTurbine) := goodIn_app (goodIn_of _ (by decide +kernel)) ggX2_finishIfDone_X2_hasTurbine
set_option maxRecDepth 20000 in
theorem ggX2_finishIfDone_X3_useBladeFor : GoodIn wsX2_finishIfDone wsX3_useBladeFor := goodIn_r _ [19, 20, 21, 22, 23, 24, 25, 18, 26, 67, 68, 69] (by decide +kernel) (by decide +kernel)
set_option maxRecDepth 20000 in
theorem gX2_finishIfDone_X3_useBladeFor : GoodIn wsX2_finishIfDone (wsV RX2 223 RX3 yX3_useBladeFor wsX3_useBladeFor) := goodIn_app (goodIn_of _ (by decide +kernel)) ggX2_finishIfDone_X3_useBladeFor
set_option maxRecDepth 20000 in
theorem ggX2_finishIfDone_X1_forgetWork : GoodIn wsX2_finishIfDone wsX1_forgetWork := goodIn_r _ [31, 32, 33, 55, 56, 57, 58, 59] (by decide +kernel) (by decide +kernel)
set_option maxRecDepth 20000 in
theorem gX2_finishIfDone_X1_forgetWork : GoodIn wsX2_finishIfDone (wsV RX2 200 RX1 yX1_forgetWork wsX1_forgetWork) := goodIn_app (goodIn_of _ (by decide +kernel)) ggX2_finishIfDone_X1_forgetWork
set_option maxRecDepth 20000 in
theorem ggX2_finishIfDone_X4_placeOf : GoodIn wsX2_finishIfDone wsX4_placeOf := goodIn_r _ [38, 39, 40, 70, 71] (by decide +kernel) (by decide +kernel)
set_option maxRecDepth 20000 in
theorem gX2_finishIfDone_X4_placeOf : GoodIn wsX2_finishIfDone (wsV RX2 128 RX4 yX4_placeOf wsX4_placeOf) := goodIn_app (goodIn_of _ (by decide +kernel)) ggX2_finishIfDone_X4_placeOf
set_option maxRecDepth 20000 in
theorem ggX2_finishIfDone_X4_removeAt : GoodIn wsX2_finishIfDone wsX4_removeAt := goodIn_r _ [44, 39, 40, 70, 71] (by decide +kernel) (by decide +kernel)
set_option maxRecDepth 20000 in
theorem gX2_finishIfDone_X4_removeAt : GoodIn wsX2_finishIfDone (wsV RX2 203 RX4 yX4_removeAt wsX4_removeAt) := goodIn_app (goodIn_of _ (by decide +kernel)) ggX2_finishIfDone_X4_removeAt
theorem dX2_finishIfDone_0 : decode cX2_finishIfDone 0 = .ok (.aload_n 0, 1) := by decide +kernel
theorem dX2_finishIfDone_1 : decode cX2_finishIfDone 1 = .ok (.iload_n 1, 1) := by decide +kernel
theorem dX2_finishIfDone_2 : decode cX2_finishIfDone 2 = .ok (.invokevirtual 112, 3) := by decide +kernel
theorem dX2_finishIfDone_5 : decode cX2_finishIfDone 5 = .ok (.ifCond .eq 29, 3) := by decide +kernel
theorem dX2_finishIfDone_8 : decode cX2_finishIfDone 8 = .ok (.aload_n 0, 1) := by decide +kernel
theorem dX2_finishIfDone_9 : decode cX2_finishIfDone 9 = .ok (.getfield 45, 3) := by decide +kernel
theorem dX2_finishIfDone_12 : decode cX2_finishIfDone 12 = .ok (.getfield 220, 3) := by decide +kernel
theorem dX2_finishIfDone_15 : decode cX2_finishIfDone 15 = .ok (.aload_n 0, 1) := by decide +kernel
theorem dX2_finishIfDone_16 : decode cX2_finishIfDone 16 = .ok (.getfield 56, 3) := by decide +kernel
theorem dX2_finishIfDone_19 : decode cX2_finishIfDone 19 = .ok (.iconst 2, 1) := by decide +kernel
theorem dX2_finishIfDone_20 : decode cX2_finishIfDone 20 = .ok (.iaload, 1) := by decide +kernel
theorem dX2_finishIfDone_21 : decode cX2_finishIfDone 21 = .ok (.aload_n 0, 1) := by decide +kernel
theorem dX2_finishIfDone_22 : decode cX2_finishIfDone 22 = .ok (.getfield 11, 3) := by decide +kernel
theorem dX2_finishIfDone_25 : decode cX2_finishIfDone 25 = .ok (.iload_n 1, 1) := by decide +kernel
theorem dX2_finishIfDone_26 : decode cX2_finishIfDone 26 = .ok (.aaload, 1) := by decide +kernel
theorem dX2_finishIfDone_27 : decode cX2_finishIfDone 27 = .ok (.getfield 102, 3) := by decide +kernel
theorem dX2_finishIfDone_30 : decode cX2_finishIfDone 30 = .ok (.imul, 1) := by decide +kernel
theorem dX2_finishIfDone_31 : decode cX2_finishIfDone 31 = .ok (.if_icmp .ge 4, 3) := by decide +kernel
theorem dX2_finishIfDone_34 : decode cX2_finishIfDone 34 = .ok (.return_, 1) := by decide +kernel
theorem dX2_finishIfDone_35 : decode cX2_finishIfDone 35 = .ok (.aload_n 0, 1) := by decide +kernel
theorem dX2_finishIfDone_36 : decode cX2_finishIfDone 36 = .ok (.getfield 11, 3) := by decide +kernel
theorem dX2_finishIfDone_39 : decode cX2_finishIfDone 39 = .ok (.iload_n 1, 1) := by decide +kernel
theorem dX2_finishIfDone_40 : decode cX2_finishIfDone 40 = .ok (.aaload, 1) := by decide +kernel
theorem dX2_finishIfDone_41 : decode cX2_finishIfDone 41 = .ok (.iconst 0, 1) := by decide +kernel
theorem dX2_finishIfDone_42 : decode cX2_finishIfDone 42 = .ok (.putfield 102, 3) := by decide +kernel
theorem dX2_finishIfDone_45 : decode cX2_finishIfDone 45 = .ok (.aload_n 0, 1) := by decide +kernel
theorem dX2_finishIfDone_46 : decode cX2_finishIfDone 46 = .ok (.getfield 11, 3) := by decide +kernel
theorem dX2_finishIfDone_49 : decode cX2_finishIfDone 49 = .ok (.iload_n 1, 1) := by decide +kernel
theorem dX2_finishIfDone_50 : decode cX2_finishIfDone 50 = .ok (.aaload, 1) := by decide +kernel
theorem dX2_finishIfDone_51 : decode cX2_finishIfDone 51 = .ok (.iconst 0, 1) := by decide +kernel
theorem dX2_finishIfDone_52 : decode cX2_finishIfDone 52 = .ok (.putfield 122, 3) := by decide +kernel
theorem dX2_finishIfDone_55 : decode cX2_finishIfDone 55 = .ok (.aload_n 0, 1) := by decide +kernel
theorem dX2_finishIfDone_56 : decode cX2_finishIfDone 56 = .ok (.getfield 31, 3) := by decide +kernel
theorem dX2_finishIfDone_59 : decode cX2_finishIfDone 59 = .ok (.iload_n 1, 1) := by decide +kernel
theorem dX2_finishIfDone_60 : decode cX2_finishIfDone 60 = .ok (.invokevirtual 223, 3) := by decide +kernel
theorem dX2_finishIfDone_63 : decode cX2_finishIfDone 63 = .ok (.aload_n 0, 1) := by decide +kernel
theorem dX2_finishIfDone_64 : decode cX2_finishIfDone 64 = .ok (.getfield 45, 3) := by decide +kernel
theorem dX2_finishIfDone_67 : decode cX2_finishIfDone 67 = .ok (.invokevirtual 200, 3) := by decide +kernel
theorem dX2_finishIfDone_70 : decode cX2_finishIfDone 70 = .ok (.aload_n 0, 1) := by decide +kernel
theorem dX2_finishIfDone_71 : decode cX2_finishIfDone 71 = .ok (.getfield 38, 3) := by decide +kernel
theorem dX2_finishIfDone_74 : decode cX2_finishIfDone 74 = .ok (.aload_n 0, 1) := by decide +kernel
theorem dX2_finishIfDone_75 : decode cX2_finishIfDone 75 = .ok (.getfield 38, 3) := by decide +kernel
theorem dX2_finishIfDone_78 : decode cX2_finishIfDone 78 = .ok (.iload_n 1, 1) := by decide +kernel
theorem dX2_finishIfDone_79 : decode cX2_finishIfDone 79 = .ok (.invokevirtual 128, 3) := by decide +kernel
theorem dX2_finishIfDone_82 : decode cX2_finishIfDone 82 = .ok (.invokevirtual 203, 3) := by decide +kernel
theorem dX2_finishIfDone_85 : decode cX2_finishIfDone 85 = .ok (.return_, 1) := by decide +kernel
set_option maxRecDepth 20000 in
theorem ggX2_worsen_X5_growOlder : GoodIn wsX2_worsen wsX5_growOlder := goodIn_r _ [8, 9, 10, 21, 22, 23, 24, 25, 26, 27] (by decide +kernel) (by decide +kernel)
set_option maxRecDepth 20000 in
theorem gX2_worsen_X5_growOlder : GoodIn wsX2_worsen (wsV RX2 226 RX5 yX5_growOlder wsX5_growOlder) := goodIn_app (goodIn_of _ (by decide +kernel)) ggX2_worsen_X5_growOlder
theorem dX2_worsen_0 : decode cX2_worsen 0 = .ok (.iconst 0, 1) := by decide +kernel
theorem dX2_worsen_1 : decode cX2_worsen 1 = .ok (.istore_n 2, 1) := by decide +kernel
theorem dX2_worsen_2 : decode cX2_worsen 2 = .ok (.iload_n 2, 1) := by decide +kernel
theorem dX2_worsen_3 : decode cX2_worsen 3 = .ok (.aload_n 0, 1) := by decide +kernel
theorem dX2_worsen_4 : decode cX2_worsen 4 = .ok (.getfield 17, 3) := by decide +kernel
theorem dX2_worsen_7 : decode cX2_worsen 7 = .ok (.if_icmp .ge 29, 3) := by decide +kernel
theorem dX2_worsen_10 : decode cX2_worsen 10 = .ok (.iload_n 2, 1) := by decide +kernel
theorem dX2_worsen_11 : decode cX2_worsen 11 = .ok (.iload_n 1, 1) := by decide +kernel
theorem dX2_worsen_12 : decode cX2_worsen 12 = .ok (.if_icmp .eq 18, 3) := by decide +kernel
theorem dX2_worsen_15 : decode cX2_worsen 15 = .ok (.aload_n 0, 1) := by decide +kernel
theorem dX2_worsen_16 : decode cX2_worsen 16 = .ok (.getfield 11, 3) := by decide +kernel
theorem dX2_worsen_19 : decode cX2_worsen 19 = .ok (.iload_n 2, 1) := by decide +kernel
theorem dX2_worsen_20 : decode cX2_worsen 20 = .ok (.aaload, 1) := by decide +kernel
theorem dX2_worsen_21 : decode cX2_worsen 21 = .ok (.aload_n 0, 1) := by decide +kernel
theorem dX2_worsen_22 : decode cX2_worsen 22 = .ok (.getfield 56, 3) := by decide +kernel
theorem dX2_worsen_25 : decode cX2_worsen 25 = .ok (.iconst 3, 1) := by decide +kernel
theorem dX2_worsen_26 : decode cX2_worsen 26 = .ok (.iaload, 1) := by decide +kernel
theorem dX2_worsen_27 : decode cX2_worsen 27 = .ok (.invokevirtual 226, 3) := by decide +kernel
theorem dX2_worsen_30 : decode cX2_worsen 30 = .ok (.iinc 2 1, 3) := by decide +kernel
theorem dX2_worsen_33 : decode cX2_worsen 33 = .ok (.goto (-31), 3) := by decide +kernel
theorem dX2_worsen_36 : decode cX2_worsen 36 = .ok (.return_, 1) := by decide +kernel
end
section
/-! The frame of this proof: the cells of the system at fixed places, and a judgement that speaks of what they hold (our own text). -/
abbrev cr_E : Type := va_G × (Nat → Nat → Nat) × (Nat → Prop) × (Nat → ClassId)
abbrev cr_G : Type := Nat → Nat → Int32
abbrev cr_S : Type := (Nat → cr_G) × (Nat → Int64)
abbrev cr_C : Type := Program × Launch × Env × Room × State × MethodId × Array Value × List Frame × Method × Code
def cr_pa (G : cr_G) (j : Nat) (h : Nat → Int32) : cr_G := fun j' => if j' = j then h else G j'
def cr_pt (G : cr_G) (j i : Nat) (v : Int32) : cr_G := cr_pa G j (upd (G j) i v)
def cr_us (S : cr_S) (f : Nat) (G : cr_G) : cr_S := (fun f' => if f' = f then G else S.1 f', S.2)
def cr_ul (S : cr_S) (k : Nat) (v : Int64) : cr_S := (S.1, vp_updL S.2 k v)
theorem cr_us_eq (S : cr_S) (f : Nat) (G : cr_G) : (cr_us S f G).1 f = G := by simp [cr_us]
theorem cr_us_ne (S : cr_S) {f g : Nat} (G : cr_G) (h : g ≠ f) : (cr_us S f G).1 g = S.1 g := by simp [cr_us, h]
theorem cr_us_us (S : cr_S) (f : Nat) (G G' : cr_G) : cr_us (cr_us S f G) f G' = cr_us S f G' := by
  simp only [cr_us, Prod.mk.injEq, and_true]
  funext f'
  by_cases h : f' = f <;> simp [h]
theorem cr_us_self (S : cr_S) (f : Nat) : cr_us S f (S.1 f) = S := by
  obtain ⟨a, b⟩ := S
  simp only [cr_us, Prod.mk.injEq, and_true]
  funext f'
  by_cases h : f' = f <;> simp [h]
/-- the cells of a farm, of the campaign, of the reference, of the law -/
def cr_fc (E : cr_E) (f : Nat) (G : cr_G) (j : Nat) : va_E := match j with
  | 0 => .inr (2, [.ref (E.2.1 f 1), .int (G 0 1), .ref (E.2.1 f 2), .ref (E.2.1 f 5), .ref (E.2.1 f 8), .ref (E.2.1 f 10), .ref (E.2.1 f 11), .ref (E.2.1 f 13), .ref (E.2.1 f 14), .int (G 0 9)])
  | 1 => .inl (E.2.2.2 3, 10, .inr (.inr (.inr (.inr (fun t => some (E.2.1 f (t + 15)))))))
  | 2 => .inr (0, [.ref (E.2.1 f 3), .ref (E.2.1 f 4), .int (G 2 2)])
  | 3 => .inl (E.2.2.2 0, 6, .inl (G 3))
  | 4 => .inl (E.2.2.2 0, 6, .inl (G 4))
  | 5 => .inr (3, [.ref (E.2.1 f 6), .ref (E.2.1 f 7), .int (G 5 2)])
  | 6 => .inl (E.2.2.2 0, 10, .inl (G 6))
  | 7 => .inl (E.2.2.2 0, 10, .inl (G 7))
  | 8 => .inr (4, [.ref (E.2.1 f 9), .int (G 8 1)])
  | 9 => .inl (E.2.2.2 0, 10, .inl (G 9))
  | 10 => .inr (1, [.int (G 10 0), .int (G 10 1), .int (G 10 2), .int (G 10 3), .int (G 10 4)])
  | 11 => .inr (7, [.ref (E.2.1 f 12), .int (G 11 1)])
  | 12 => .inl (E.2.2.2 0, 48, .inl (G 12))
  | 13 => .inl (E.2.2.2 0, 7, .inl (G 13))
  | 14 => .inl (E.2.2.2 0, 5, .inl (G 14))
  | t + 15 => .inr (5, [.int (G (t + 15) 0), .int (G (t + 15) 1), .int (G (t + 15) 2), .int (G (t + 15) 3), .int (G (t + 15) 4), .int (G (t + 15) 5), .int (G (t + 15) 6)])
def cr_cc (E : cr_E) (G : cr_G) (j : Nat) : va_E := match j with
  | 0 => .inr (8, [.ref (E.2.1 0 0), .ref (E.2.1 1 0), .ref (E.2.1 8 1), .int (G 0 3), .int (G 0 4), .ref (E.2.1 8 2)])
  | 1 => .inl (E.2.2.2 2, 6, .inr (.inr (.inr (.inr (fun k => some (E.2.1 (k + 2) 0))))))
  | 2 => .inr (6, [.ref (E.2.1 8 3), .int (G 2 1)])
  | 3 => .inl (E.2.2.2 0, 60, .inl (G 3))
  | t + 4 => .inl (E.2.2.2 0, 0, .inl (G (t + 4)))
def cr_mc (E : cr_E) (G : cr_G) (h : Int64) (j : Nat) : va_E := match j with
  | 0 => .inr (9, [.ref (E.2.1 9 1), .ref (E.2.1 9 2), .ref (E.2.1 9 3), .ref (E.2.1 9 4), .ref (E.2.1 9 5), .int (G 0 5), .int (G 0 6), .int (G 0 7), .long h, .int (G 0 9), .int (G 0 10), .int (G 0 11), .int (G 0 12), .int (G 0 13), .ref (E.2.1 9 6)])
  | 1 => .inl (E.2.2.2 0, 184, .inl (G 1))
  | 2 => .inl (E.2.2.2 0, 184, .inl (G 2))
  | 3 => .inl (E.2.2.2 0, 1104, .inl (G 3))
  | 4 => .inl (E.2.2.2 0, 60, .inl (G 4))
  | 5 => .inl (E.2.2.2 0, 10, .inl (G 5))
  | 6 => .inl (E.2.2.2 0, 48, .inl (G 6))
  | t + 7 => .inl (E.2.2.2 0, 0, .inl (G (t + 7)))
def cr_lv (f j : Nat) : Prop := (f < 8 ∧ j < 25) ∨ (f = 8 ∧ j < 4) ∨ (f = 9 ∧ j < 7) ∨ (f = 10 ∧ j = 0)
def cr_wc (E : cr_E) (S : cr_S) (f j : Nat) : va_E :=
  if f < 8 then cr_fc E f (S.1 f) j else if f = 8 then cr_cc E (S.1 8) j else if f = 9 then cr_mc E (S.1 9) (S.2 0) j else .inl (E.2.2.2 1, 1, .inr (.inl (fun k => S.2 (k + 1))))
def cr_at (E : cr_E) (S : cr_S) (f j : Nat) (e : va_E) : Prop := cr_lv f j ∧ cr_wc E S f j = e
def cr_WH (E : cr_E) (S : cr_S) (H : Heap) : Prop := ∀ f j, cr_lv f j → va_at E.1 vwCl (E.2.1 f j, cr_wc E S f j) H
def cr_EK (E : cr_E) : Prop := (∀ f j f' j', cr_lv f j → cr_lv f' j' → E.2.1 f j = E.2.1 f' j' → f = f' ∧ j = j') ∧ ∀ f j, cr_lv f j → E.2.2.1 (E.2.1 f j)
def cr_tys (E : cr_E) : List (ClassId × FieldType) := [(E.2.2.2 0, .int), (E.2.2.2 1, .long), (E.2.2.2 2, .object "CraneCampaign$Farm"), (E.2.2.2 3, .object "CraneCampaign$Turbine")]
theorem cr_lv_f {f j : Nat} (hf : f < 8) (hj : j < 25) : cr_lv f j := Or.inl ⟨hf, hj⟩
theorem cr_lv_8 {j : Nat} (hj : j < 4) : cr_lv 8 j := Or.inr (Or.inl ⟨rfl, hj⟩)
theorem cr_lv_9 {j : Nat} (hj : j < 7) : cr_lv 9 j := Or.inr (Or.inr (Or.inl ⟨rfl, hj⟩))
theorem cr_lv_10 : cr_lv 10 0 := Or.inr (Or.inr (Or.inr ⟨rfl, rfl⟩))
theorem cr_atf {E : cr_E} {S : cr_S} {f j : Nat} {G : cr_G} (hf : f < 8) (hj : j < 25) (hG : S.1 f = G) : cr_at E S f j (cr_fc E f G j) := ⟨cr_lv_f hf hj, by simp only [cr_wc, hf, if_true, hG]⟩
theorem cr_at8 {E : cr_E} {S : cr_S} {j : Nat} {G : cr_G} (hj : j < 4) (hG : S.1 8 = G) : cr_at E S 8 j (cr_cc E G j) := ⟨cr_lv_8 hj, by subst hG; rfl⟩
theorem cr_at9 {E : cr_E} {S : cr_S} {j : Nat} {G : cr_G} (hj : j < 7) (hG : S.1 9 = G) : cr_at E S 9 j (cr_mc E G (S.2 0) j) := ⟨cr_lv_9 hj, by subst hG; rfl⟩
theorem cr_at10 {E : cr_E} {S : cr_S} : cr_at E S 10 0 (.inl (E.2.2.2 1, 1, .inr (.inl (fun k => S.2 (k + 1))))) := ⟨cr_lv_10, rfl⟩
/-- a cell depends on its own row alone (two of them on the longs) -/
theorem cr_wc_congr {E : cr_E} {S S' : cr_S} {f j : Nat} (h : S'.1 f j = S.1 f j) (h2 : S'.2 = S.2) : cr_wc E S' f j = cr_wc E S f j := by
  unfold cr_wc
  by_cases h8 : f < 8
  · simp only [h8, if_true]
    unfold cr_fc
    split <;> first | rfl | (simp only [h])
  · simp only [h8, if_false]
    by_cases h9 : f = 8
    · subst h9
      simp only [if_true]
      unfold cr_cc
      split <;> first | rfl | (simp only [h])
    · simp only [h9, if_false]
      by_cases h10 : f = 9
      · subst h10
        simp only [if_true, h2]
        unfold cr_mc
        split <;> first | rfl | (simp only [h])
      · simp only [h10, if_false, h2]

/-- what the statics hold that lie outside of the system's cells -/
def cr_SA (n d : String) (N : Nat) (f : Nat → Int32) (E : cr_E) (U : State) : Prop := ∃ b : Nat, va_Z "CraneCampaign" n d (.ref b) E.2.2.1 U U.heap ∧ va_X b N f U U.heap ∧ b < U.heap.size ∧ ¬ E.2.2.1 b
def cr_c0 : Nat → Int32 := fun k => ([16, 5, 3, 24, 2, 10, 0] : List Int32).getD k 0
def cr_c1 : Nat → Int32 := fun k => ([5, 1, 1, 1, 0, 1, 0] : List Int32).getD k 0
def cr_c2 : Nat → Int32 := fun k => ([25, 20, 12, 200, 10, 100, 50] : List Int32).getD k 0
def cr_strs : List (Nat × String) := [(43, "place, height or rate is out of range"), (57, "there are 10 turbines, or one at this place"), (322, "there is no such turbine"), (71, "fault is not 0 to 4"), (85, "place or need is out of range"), (101, "there are 6 bogs, and none at this place"), (324, "there is no such setting"), (120, "value is out of range"), (136, "there is no such place in the plan"), (146, "the turbine is not in the plan"), (158, "10 blades are ordered and not used"), (168, "hours is not 1 to 200"), (173, "the number of the hour would be above 10000"), (178, "code is not 33 to 126"), (181, "the buffer has 60 characters"), (195, "the buffer is not a complete wind row"), (200, "the row would have more than 48 numbers"), (213, "no state is saved"), (219, "what is not 0 to 10"), (225, "there is no such blade"), (227, "what is not 0 or 1"), (235, "there is no such bog"), (243, "cause is not 0 to 4"), (248, "what is not 0 to 14"), (253, "from or to is not 0 to 99"), (258, "hours or what is out of range"), (266, "hours is not 1 to 24")]
def cr_SF (E : cr_E) (U : State) : Prop :=
  cr_SA "SETTING_AT_FIRST" "[I" 7 cr_c0 E U ∧ cr_SA "SETTING_LOWEST" "[I" 7 cr_c1 E U ∧ cr_SA "SETTING_HIGHEST" "[I" 7 cr_c2 E U ∧
  vx_Zq Bundle.tN "UNASSIGNED_STACK" Bundle.steD E.2.2.1 U U.heap ∧ vx_Zq Bundle.tN "SUPPRESSED_SENTINEL" Bundle.listD E.2.2.1 U U.heap ∧ ∀ q ∈ cr_strs, ∃ a : Nat, vk_R "CraneCampaign" q.1 q.2 a U
theorem cr_SA.kept {n d : String} {N : Nat} {f : Nat → Int32} {E : cr_E} {u U : State} (h : cr_SA n d N f E u) (hvm : u.vm.Alike U.vm) (hz : u.heap.size ≤ U.heap.size) (hq : ∀ a : Nat, a < u.heap.size → ¬ E.2.2.1 a → U.heap[a]? = u.heap[a]?) : cr_SA n d N f E U := by
  obtain ⟨b, h1, h2, h3, h4⟩ := h
  exact ⟨b, va_Z.moved hvm (h1.kept hq), va_X.moved hvm (h2.kept (hq b h3 h4)), Nat.lt_of_lt_of_le h3 hz, h4⟩
theorem cr_SF.kept {E : cr_E} {u U : State} (h : cr_SF E u) (hW : u.WarmedH U.vm) (hz : u.heap.size ≤ U.heap.size) (hq : ∀ a : Nat, a < u.heap.size → ¬ E.2.2.1 a → U.heap[a]? = u.heap[a]?) : cr_SF E U := by
  obtain ⟨h1, h2, h3, h4, h5, h6⟩ := h
  have hvm := hW.alike
  refine ⟨h1.kept hvm hz hq, h2.kept hvm hz hq, h3.kept hvm hz hq, vx_Zq.moved hvm (h4.kept hq), vx_Zq.moved hvm (h5.kept hq), fun q hq9 => ?_⟩
  obtain ⟨a, ha⟩ := h6 q hq9
  exact ⟨a, vk_R.warm hW ha⟩
def cr_WU (E : cr_E) (S : cr_S) (U : State) : Prop := cr_WH E S U.heap ∧ va_K E.1 vwCl (cr_tys E) U ∧ cr_SF E U
theorem cr_WU.of {E : cr_E} {S : cr_S} {s U : State} (hW : cr_WH E S U.heap) (hK : va_K E.1 vwCl (cr_tys E) s) (hSF : cr_SF E s) (hvm : s.WarmedH U.vm) {locs : List Loc} (hS : va_S E.2.2.1 s.heap U.heap locs) : cr_WU E S U :=
  ⟨hW, va_K.moved hvm.alike hK, hSF.kept hvm hS.1 hS.2.1⟩
theorem cr_blind (E : cr_E) (S : cr_S) (av : List Value) : FrameBlind (va_Pc av (fun U => cr_WU E S U)) := by
  intro a U g mk h
  obtain ⟨h1, h2, h3, h4⟩ := h
  exact ⟨h1, h2, va_K.moved (u := U) (U := U.calling g mk a) (Vm.Alike.refl U.vm) h3, h4.kept (u := U) (U := U.calling g mk a) (State.WarmedH.refl U) (Nat.le_refl _) (fun _ _ _ => rfl)⟩
/-- the ends of a method: it returns, the cells hold S', nothing else has changed -/
def cr_Qc (E : cr_E) (post : Option Value → cr_S → Prop) : Array Value → State → Outcome → State → Prop := fun _ st oc t => (∃ (v : Option Value) (S' : cr_S), oc = .returned v ∧ post v S' ∧ cr_WH E S' t.heap) ∧ va_F E.2.2.1 st t
def cr_Qn (Γ : cr_C) (E : cr_E) (post : Option Value → cr_S → Prop) : State → Prop := MQ Γ.2.2.2.2.2.2.2.1 (cr_Qc E post) Γ.2.2.2.2.2.2.1 Γ.2.2.2.2.1 0 0 E.2.2.1
def cr_XC (E : cr_E) (px : String → cr_S → Prop) : String → State → State → Prop := fun C st t => (∃ S' : cr_S, px C S' ∧ cr_WH E S' t.heap) ∧ va_F E.2.2.1 st t
def cr_Qx (Γ : cr_C) (E : cr_E) (post : Option Value → cr_S → Prop) (px : String → cr_S → Prop) : State → Prop := vx_MQ Γ.2.2.2.2.2.2.2.1 (cr_Qc E post) (cr_XC E px) Γ.2.2.2.2.2.2.1 Γ.2.2.2.2.1 1 6 E.2.2.1
def cr_W (Γ : cr_C) (E : cr_E) (Q : State → Prop) (kc ks nL : Nat) (S : cr_S) (pc : Nat) (lv : List (Nat × Value)) (st : List Value) : Prop :=
  ∀ (H : Heap) (locs : List Loc) (ls : Array Slot), cr_WH E S H → va_S E.2.2.1 Γ.2.2.2.2.1.heap H locs → lv_has ls nL lv →
    W Γ.1 Γ.2.1 Γ.2.2.1 Γ.2.2.2.1 Γ.2.2.2.2.1 Γ.2.2.2.2.2.1 Γ.2.2.2.2.2.2.1 Γ.2.2.2.2.2.2.2.1 Γ.2.2.2.2.2.2.2.2.1 Γ.2.2.2.2.2.2.2.2.2 H locs kc ks Q (F0 Γ.2.2.2.2.2.1 pc ls st)
/-- what a walk of a body knows -/
def cr_X (Γ : cr_C) (E : cr_E) (cc : ByteArray) (nL : Nat) (own : String) (Ts : List Cond) (rm : Room) (rt : Option FieldType) : Prop :=
  Γ.1.tables.exec = Jvm.exec ∧ Γ.2.2.2.2.2.2.2.2.2.code = cc ∧ Γ.2.2.2.2.2.2.2.2.2.maxLocals = nL ∧ Γ.2.2.2.2.1.vm.findClass own = some Γ.2.2.2.2.2.1.cls ∧ (∀ w ∈ Ts, w.before Γ.2.2.2.2.2.2.1 Γ.2.2.2.2.1 = true) ∧
  va_K E.1 vwCl (cr_tys E) Γ.2.2.2.2.1 ∧ cr_EK E ∧ cr_SF E Γ.2.2.2.2.1 ∧ Γ.2.2.2.2.2.2.2.2.1.locks = false ∧ Γ.2.2.2.1 = rm ∧ Γ.2.2.2.2.2.2.2.2.1.sig.returnType = rt
/-- a walk that comes to the result res, if there is one; Φ a Q: what is owed at the end for the result a -/
def cr_P {α : Type} (Γ : cr_C) (E : cr_E) (nL : Nat) (Φ : α → (State → Prop) → Prop) (kc ks : Nat) (S : cr_S) (pc : Nat) (lv : List (Nat × Value)) (st : List Value) (res : Option α) : Prop :=
  ∀ (Q : State → Prop) (a : α), res = some a → Φ a Q → cr_W Γ E Q kc ks nL S pc lv st
/-- the end of a method that returns, by the view of its result -/
def cr_F {α : Type} (Γ : cr_C) (E : cr_E) (vw : α → Option Value × cr_S) : α → (State → Prop) → Prop := fun a Q => ∃ post : Option Value → cr_S → Prop, Q = cr_Qn Γ E post ∧ post (vw a).1 (vw a).2
/-- .. that returns or throws: .inl a class's name (the cells stay as they were at S0) -/
def cr_Fx {α : Type} (Γ : cr_C) (E : cr_E) (S0 : cr_S) (vw : α → Option Value × cr_S) : String ⊕ α → (State → Prop) → Prop := fun a Q => match a with
  | .inr b => ∃ post px, Q = cr_Qx Γ E post px ∧ post (vw b).1 (vw b).2
  | .inl C => ∃ post px, Q = cr_Qx Γ E post px ∧ px C S0
def cr_gd {α : Type} (b : Bool) (r : Option α) : Option α := bif b then r else none
def cr_bd {α β : Type} (v : α) (k : α → β) : β := k v
def cr_cl {α β : Type} (o : Option α) (k : α → Option β) : Option β := match o with
  | none => none
  | some a => k a
def cr_in (i : Int32) (n : Nat) : Bool := decide (¬ (i < 0 ∨ n ≤ i.toNatClampNeg))
def cr_nz (y : Int32) : Bool := decide (¬ y = 0)
def cr_b (b : Bool) : Int32 := bif b then 1 else 0
def cr_max (x y : Int32) : Int32 := if x < y then y else x
def cr_min (x y : Int32) : Int32 := if y < x then y else x
def cr_abs (x : Int32) : Int32 := if 0 ≤ x then x else 0 - x
/-- contracts -/
def cr_M {α : Type} (l : Launch) (E : cr_E) (y : MethodName) (ws : List Cond) (rm : Room) (av : List Value) (S : cr_S) (vw : α → Option Value × cr_S) (res : Option α) : Prop :=
  ∀ (a : α) (post : Option Value → cr_S → Prop), res = some a → post (vw a).1 (vw a).2 → Met l y ws rm (va_Pc av (fun U => cr_WU E S U)) (cr_Qc E post) 0 0 E.2.2.1
def cr_Mx {α : Type} (l : Launch) (E : cr_E) (y : MethodName) (ws : List Cond) (rm : Room) (av : List Value) (S : cr_S) (vw : α → Option Value × cr_S) (res : Option (String ⊕ α)) : Prop :=
  ∀ (a : String ⊕ α) (post : Option Value → cr_S → Prop) (px : String → cr_S → Prop), res = some a → (∀ b, a = .inr b → post (vw b).1 (vw b).2) → (∀ C, a = .inl C → px C S) → vx_Met l y ws rm (va_Pc av (fun U => cr_WU E S U)) (cr_Qc E post) (cr_XC E px) 1 6 E.2.2.1

/-- a cell as a function of its row and of the longs -/
def cr_ac (E : cr_E) (f j : Nat) (cf : (Nat → Int64) → (Nat → Int32) → va_E) : Prop := cr_lv f j ∧ ∀ S : cr_S, cr_wc E S f j = cf S.2 (S.1 f j)
theorem cr_ac.at {E : cr_E} {f j : Nat} {cf : (Nat → Int64) → (Nat → Int32) → va_E} {S : cr_S} {h : Nat → Int32} {e : va_E} (ha : cr_ac E f j cf) (hr : S.1 f j = h) (he : cf S.2 h = e) : cr_at E S f j e := ⟨ha.1, by rw [ha.2 S, hr]; exact he⟩
theorem cr_row (S0 : cr_S) (f : Nat) (G : cr_G) (j : Nat) : (cr_us S0 f G).1 f j = G j := by rw [cr_us_eq]
theorem cr_rowo (S0 : cr_S) {f g : Nat} (G : cr_G) (h : g ≠ f) (j : Nat) : (cr_us S0 f G).1 g j = S0.1 g j := by rw [cr_us_ne S0 G h]
theorem cr_a0 (E : cr_E) {f : Nat} (hf : f < 8) : cr_ac E f 0 (fun _ h => .inr (2, [.ref (E.2.1 f 1), .int (h 1), .ref (E.2.1 f 2), .ref (E.2.1 f 5), .ref (E.2.1 f 8), .ref (E.2.1 f 10), .ref (E.2.1 f 11), .ref (E.2.1 f 13), .ref (E.2.1 f 14), .int (h 9)])) := ⟨cr_lv_f hf (by decide), fun S => by simp only [cr_wc, hf, if_true, cr_fc]⟩
theorem cr_a1 (E : cr_E) {f : Nat} (hf : f < 8) : cr_ac E f 1 (fun _ h => .inl (E.2.2.2 3, 10, .inr (.inr (.inr (.inr (fun t => some (E.2.1 f (t + 15)))))))) := ⟨cr_lv_f hf (by decide), fun S => by simp only [cr_wc, hf, if_true, cr_fc]⟩
theorem cr_a2 (E : cr_E) {f : Nat} (hf : f < 8) : cr_ac E f 2 (fun _ h => .inr (0, [.ref (E.2.1 f 3), .ref (E.2.1 f 4), .int (h 2)])) := ⟨cr_lv_f hf (by decide), fun S => by simp only [cr_wc, hf, if_true, cr_fc]⟩
theorem cr_a3 (E : cr_E) {f : Nat} (hf : f < 8) : cr_ac E f 3 (fun _ h => .inl (E.2.2.2 0, 6, .inl h)) := ⟨cr_lv_f hf (by decide), fun S => by simp only [cr_wc, hf, if_true, cr_fc]⟩
theorem cr_a4 (E : cr_E) {f : Nat} (hf : f < 8) : cr_ac E f 4 (fun _ h => .inl (E.2.2.2 0, 6, .inl h)) := ⟨cr_lv_f hf (by decide), fun S => by simp only [cr_wc, hf, if_true, cr_fc]⟩
theorem cr_a5 (E : cr_E) {f : Nat} (hf : f < 8) : cr_ac E f 5 (fun _ h => .inr (3, [.ref (E.2.1 f 6), .ref (E.2.1 f 7), .int (h 2)])) := ⟨cr_lv_f hf (by decide), fun S => by simp only [cr_wc, hf, if_true, cr_fc]⟩
theorem cr_a6 (E : cr_E) {f : Nat} (hf : f < 8) : cr_ac E f 6 (fun _ h => .inl (E.2.2.2 0, 10, .inl h)) := ⟨cr_lv_f hf (by decide), fun S => by simp only [cr_wc, hf, if_true, cr_fc]⟩
theorem cr_a7 (E : cr_E) {f : Nat} (hf : f < 8) : cr_ac E f 7 (fun _ h => .inl (E.2.2.2 0, 10, .inl h)) := ⟨cr_lv_f hf (by decide), fun S => by simp only [cr_wc, hf, if_true, cr_fc]⟩
theorem cr_a8 (E : cr_E) {f : Nat} (hf : f < 8) : cr_ac E f 8 (fun _ h => .inr (4, [.ref (E.2.1 f 9), .int (h 1)])) := ⟨cr_lv_f hf (by decide), fun S => by simp only [cr_wc, hf, if_true, cr_fc]⟩
theorem cr_a9 (E : cr_E) {f : Nat} (hf : f < 8) : cr_ac E f 9 (fun _ h => .inl (E.2.2.2 0, 10, .inl h)) := ⟨cr_lv_f hf (by decide), fun S => by simp only [cr_wc, hf, if_true, cr_fc]⟩
theorem cr_a10 (E : cr_E) {f : Nat} (hf : f < 8) : cr_ac E f 10 (fun _ h => .inr (1, [.int (h 0), .int (h 1), .int (h 2), .int (h 3), .int (h 4)])) := ⟨cr_lv_f hf (by decide), fun S => by simp only [cr_wc, hf, if_true, cr_fc]⟩
theorem cr_a11 (E : cr_E) {f : Nat} (hf : f < 8) : cr_ac E f 11 (fun _ h => .inr (7, [.ref (E.2.1 f 12), .int (h 1)])) := ⟨cr_lv_f hf (by decide), fun S => by simp only [cr_wc, hf, if_true, cr_fc]⟩
theorem cr_a12 (E : cr_E) {f : Nat} (hf : f < 8) : cr_ac E f 12 (fun _ h => .inl (E.2.2.2 0, 48, .inl h)) := ⟨cr_lv_f hf (by decide), fun S => by simp only [cr_wc, hf, if_true, cr_fc]⟩
theorem cr_a13 (E : cr_E) {f : Nat} (hf : f < 8) : cr_ac E f 13 (fun _ h => .inl (E.2.2.2 0, 7, .inl h)) := ⟨cr_lv_f hf (by decide), fun S => by simp only [cr_wc, hf, if_true, cr_fc]⟩
theorem cr_a14 (E : cr_E) {f : Nat} (hf : f < 8) : cr_ac E f 14 (fun _ h => .inl (E.2.2.2 0, 5, .inl h)) := ⟨cr_lv_f hf (by decide), fun S => by simp only [cr_wc, hf, if_true, cr_fc]⟩
theorem cr_aT (E : cr_E) {f t : Nat} (hf : f < 8) (ht : t < 10) : cr_ac E f (t + 15) (fun _ h => .inr (5, [.int (h 0), .int (h 1), .int (h 2), .int (h 3), .int (h 4), .int (h 5), .int (h 6)])) := ⟨cr_lv_f hf (by omega), fun S => by simp only [cr_wc, hf, if_true, cr_fc]⟩
theorem cr_b0 (E : cr_E) : cr_ac E 8 0 (fun _ h => .inr (8, [.ref (E.2.1 0 0), .ref (E.2.1 1 0), .ref (E.2.1 8 1), .int (h 3), .int (h 4), .ref (E.2.1 8 2)])) := ⟨cr_lv_8 (by decide), fun S => rfl⟩
theorem cr_b1 (E : cr_E) : cr_ac E 8 1 (fun _ h => .inl (E.2.2.2 2, 6, .inr (.inr (.inr (.inr (fun k => some (E.2.1 (k + 2) 0))))))) := ⟨cr_lv_8 (by decide), fun S => rfl⟩
theorem cr_b2 (E : cr_E) : cr_ac E 8 2 (fun _ h => .inr (6, [.ref (E.2.1 8 3), .int (h 1)])) := ⟨cr_lv_8 (by decide), fun S => rfl⟩
theorem cr_b3 (E : cr_E) : cr_ac E 8 3 (fun _ h => .inl (E.2.2.2 0, 60, .inl h)) := ⟨cr_lv_8 (by decide), fun S => rfl⟩
theorem cr_m0 (E : cr_E) : cr_ac E 9 0 (fun q h => .inr (9, [.ref (E.2.1 9 1), .ref (E.2.1 9 2), .ref (E.2.1 9 3), .ref (E.2.1 9 4), .ref (E.2.1 9 5), .int (h 5), .int (h 6), .int (h 7), .long (q 0), .int (h 9), .int (h 10), .int (h 11), .int (h 12), .int (h 13), .ref (E.2.1 9 6)])) := ⟨cr_lv_9 (by decide), fun S => rfl⟩
theorem cr_m1 (E : cr_E) : cr_ac E 9 1 (fun q h => .inl (E.2.2.2 0, 184, .inl h)) := ⟨cr_lv_9 (by decide), fun S => rfl⟩
theorem cr_m2 (E : cr_E) : cr_ac E 9 2 (fun q h => .inl (E.2.2.2 0, 184, .inl h)) := ⟨cr_lv_9 (by decide), fun S => rfl⟩
theorem cr_m3 (E : cr_E) : cr_ac E 9 3 (fun q h => .inl (E.2.2.2 0, 1104, .inl h)) := ⟨cr_lv_9 (by decide), fun S => rfl⟩
theorem cr_m4 (E : cr_E) : cr_ac E 9 4 (fun q h => .inl (E.2.2.2 0, 60, .inl h)) := ⟨cr_lv_9 (by decide), fun S => rfl⟩
theorem cr_m5 (E : cr_E) : cr_ac E 9 5 (fun q h => .inl (E.2.2.2 0, 10, .inl h)) := ⟨cr_lv_9 (by decide), fun S => rfl⟩
theorem cr_m6 (E : cr_E) : cr_ac E 9 6 (fun q h => .inl (E.2.2.2 0, 48, .inl h)) := ⟨cr_lv_9 (by decide), fun S => rfl⟩
theorem cr_o0 (E : cr_E) : cr_ac E 10 0 (fun q _ => .inl (E.2.2.2 1, 1, .inr (.inl (fun k => q (k + 1))))) := ⟨cr_lv_10, fun S => rfl⟩
end
section
section CR
variable {α : Type} {Γ : cr_C} {E : cr_E} {nL : Nat} {Φ : α → (State → Prop) → Prop} {kc ks : Nat} {S : cr_S} {pc : Nat} {lv : List (Nat × Value)} {rest : List Value} {res : Option α} {cc : ByteArray} {own : String} {Ts : List Cond} {rm : Room} {rt : Option FieldType}

theorem cr_iconst (X : cr_X Γ E cc nL own Ts rm rt) {n : Int} (v : Int32) (hv : Int32.ofInt n = v) (hdg : decode cc pc = .ok (.iconst n, 1)) (kk : cr_P Γ E nL Φ kc ks S (pc + 1) lv (.int v :: rest) res) : cr_P Γ E nL Φ kc ks S pc lv (rest) res := by
  obtain ⟨p, l, e, R, s, m, args, below, meth, c⟩ := Γ
  obtain ⟨hx, hb, -⟩ := X
  intro Q a h1 h2 H locs ls hW hS hls
  exact lv_iconst hx hb hdg hv (kk Q a h1 h2 H locs ls hW hS hls)

theorem cr_bipush (X : cr_X Γ E cc nL own Ts rm rt) {n : Int} (v : Int32) (hv : (Int8.ofInt n).toInt32 = v) (hdg : decode cc pc = .ok (.bipush n, 2)) (kk : cr_P Γ E nL Φ kc ks S (pc + 2) lv (.int v :: rest) res) : cr_P Γ E nL Φ kc ks S pc lv (rest) res := by
  obtain ⟨p, l, e, R, s, m, args, below, meth, c⟩ := Γ
  obtain ⟨hx, hb, -⟩ := X
  intro Q a h1 h2 H locs ls hW hS hls
  exact lv_bipush hx hb hdg hv (kk Q a h1 h2 H locs ls hW hS hls)

theorem cr_sipush (X : cr_X Γ E cc nL own Ts rm rt) {n : Int} (v : Int32) (hv : (Int16.ofInt n).toInt32 = v) (hdg : decode cc pc = .ok (.sipush n, 3)) (kk : cr_P Γ E nL Φ kc ks S (pc + 3) lv (.int v :: rest) res) : cr_P Γ E nL Φ kc ks S pc lv (rest) res := by
  obtain ⟨p, l, e, R, s, m, args, below, meth, c⟩ := Γ
  obtain ⟨hx, hb, -⟩ := X
  intro Q a h1 h2 H locs ls hW hS hls
  exact lv_sipush hx hb hdg hv (kk Q a h1 h2 H locs ls hW hS hls)

theorem cr_lconst (X : cr_X Γ E cc nL own Ts rm rt) {n : Fin 2} (v : Int64) (hv : Int64.ofNat (n : Nat) = v) (hdg : decode cc pc = .ok (.lconst n, 1)) (kk : cr_P Γ E nL Φ kc ks S (pc + 1) lv (.long v :: rest) res) : cr_P Γ E nL Φ kc ks S pc lv (rest) res := by
  obtain ⟨p, l, e, R, s, m, args, below, meth, c⟩ := Γ
  obtain ⟨hx, hb, -⟩ := X
  intro Q a h1 h2 H locs ls hW hS hls
  exact lv_lconst hx hb hdg hv (kk Q a h1 h2 H locs ls hW hS hls)

theorem cr_ldc (X : cr_X Γ E cc nL own Ts rm rt) {index : Nat} {v : Int32} (hc : Cond.constant own index v ∈ Ts) (hdg : decode cc pc = .ok (.ldc index, 2)) (kk : cr_P Γ E nL Φ kc ks S (pc + 2) lv (.int v :: rest) res) : cr_P Γ E nL Φ kc ks S pc lv (rest) res := by
  obtain ⟨p, l, e, R, s, m, args, below, meth, c⟩ := Γ
  obtain ⟨hx, hb, hml, hown, hts, -⟩ := X
  intro Q a h1 h2 H locs ls hW hS hls
  exact lv_ldc hx hb hown (hts _ hc) hdg (kk Q a h1 h2 H locs ls hW hS hls)

theorem cr_ldcw (X : cr_X Γ E cc nL own Ts rm rt) {index : Nat} {v : Int32} (hc : Cond.constant own index v ∈ Ts) (hdg : decode cc pc = .ok (.ldc_w index, 3)) (kk : cr_P Γ E nL Φ kc ks S (pc + 3) lv (.int v :: rest) res) : cr_P Γ E nL Φ kc ks S pc lv (rest) res := by
  obtain ⟨p, l, e, R, s, m, args, below, meth, c⟩ := Γ
  obtain ⟨hx, hb, hml, hown, hts, -⟩ := X
  intro Q a h1 h2 H locs ls hW hS hls
  exact lv_ldcw hx hb hown (hts _ hc) hdg (kk Q a h1 h2 H locs ls hW hS hls)

theorem cr_ldc2 (X : cr_X Γ E cc nL own Ts rm rt) {index : Nat} {v : Int64} (hc : Cond.constantLong own index v ∈ Ts) (hdg : decode cc pc = .ok (.ldc2_w index, 3)) (kk : cr_P Γ E nL Φ kc ks S (pc + 3) lv (.long v :: rest) res) : cr_P Γ E nL Φ kc ks S pc lv (rest) res := by
  obtain ⟨p, l, e, R, s, m, args, below, meth, c⟩ := Γ
  obtain ⟨hx, hb, hml, hown, hts, -⟩ := X
  intro Q a h1 h2 H locs ls hW hS hls
  exact lv_ldc2 hx hb hown (hts _ hc) hdg (kk Q a h1 h2 H locs ls hW hS hls)

theorem cr_ldcf (X : cr_X Γ E cc nL own Ts rm rt) {index : Nat} {v : UInt32} (hc : Cond.constantFloat own index v ∈ Ts) (hdg : decode cc pc = .ok (.ldc index, 2)) (kk : cr_P Γ E nL Φ kc ks S (pc + 2) lv (.float v :: rest) res) : cr_P Γ E nL Φ kc ks S pc lv (rest) res := by
  obtain ⟨p, l, e, R, s, m, args, below, meth, c⟩ := Γ
  obtain ⟨hx, hb, hml, hown, hts, -⟩ := X
  intro Q a h1 h2 H locs ls hW hS hls
  exact lv_ldcf hx hb hown (hts _ hc) hdg (kk Q a h1 h2 H locs ls hW hS hls)

theorem cr_ldc2d (X : cr_X Γ E cc nL own Ts rm rt) {index : Nat} {v : UInt64} (hc : Cond.constantDouble own index v ∈ Ts) (hdg : decode cc pc = .ok (.ldc2_w index, 3)) (kk : cr_P Γ E nL Φ kc ks S (pc + 3) lv (.double v :: rest) res) : cr_P Γ E nL Φ kc ks S pc lv (rest) res := by
  obtain ⟨p, l, e, R, s, m, args, below, meth, c⟩ := Γ
  obtain ⟨hx, hb, hml, hown, hts, -⟩ := X
  intro Q a h1 h2 H locs ls hW hS hls
  exact lv_ldc2d hx hb hown (hts _ hc) hdg (kk Q a h1 h2 H locs ls hW hS hls)

theorem cr_iload_n (X : cr_X Γ E cc nL own Ts rm rt) {k : Fin 4} {x : Int32} (q : Nat) (hl : lv[q]? = some ((k : Nat), .int x)) (hdg : decode cc pc = .ok (.iload_n k, 1)) (kk : cr_P Γ E nL Φ kc ks S (pc + 1) lv (.int x :: rest) res) : cr_P Γ E nL Φ kc ks S pc lv (rest) res := by
  obtain ⟨p, l, e, R, s, m, args, below, meth, c⟩ := Γ
  obtain ⟨hx, hb, -⟩ := X
  intro Q a h1 h2 H locs ls hW hS hls
  exact lv_iload_n hx hb hdg rfl (lv_at hls q hl) (kk Q a h1 h2 H locs ls hW hS hls)
theorem cr_iload (X : cr_X Γ E cc nL own Ts rm rt) {i : Nat} {x : Int32} (q : Nat) (hl : lv[q]? = some (i, .int x)) (hdg : decode cc pc = .ok (.iload i, 2)) (kk : cr_P Γ E nL Φ kc ks S (pc + 2) lv (.int x :: rest) res) : cr_P Γ E nL Φ kc ks S pc lv (rest) res := by
  obtain ⟨p, l, e, R, s, m, args, below, meth, c⟩ := Γ
  obtain ⟨hx, hb, -⟩ := X
  intro Q a h1 h2 H locs ls hW hS hls
  exact lv_iload hx hb hdg (lv_at hls q hl) (kk Q a h1 h2 H locs ls hW hS hls)

theorem cr_istore_n (X : cr_X Γ E cc nL own Ts rm rt) {k : Fin 4} {x : Int32} (lv' : List (Nat × Value)) (hl : ((k : Nat), Value.int x) :: lv.filter (fun q => !(q.1 == (k : Nat)) && !(q.1 + 1 == (k : Nat) && q.2.category == 2)) = lv') (hn : (k : Nat) < nL) (hdg : decode cc pc = .ok (.istore_n k, 1)) (kk : cr_P Γ E nL Φ kc ks S (pc + 1) lv' (rest) res) : cr_P Γ E nL Φ kc ks S pc lv (.int x :: rest) res := by
  obtain ⟨p, l, e, R, s, m, args, below, meth, c⟩ := Γ
  obtain ⟨hx, hb, -⟩ := X
  intro Q a h1 h2 H locs ls hW hS hls
  exact lv_istore_n hx hb hdg rfl hls hn hl (fun ls' h' => kk Q a h1 h2 H locs ls' hW hS h')

theorem cr_istore_nb (X : cr_X Γ E cc nL own Ts rm rt) {k : Fin 4} {x : Int32} {kf : Int32 → Option α} (lv' : Int32 → List (Nat × Value)) (hl : ∀ x, ((k : Nat), Value.int x) :: lv.filter (fun q => !(q.1 == (k : Nat)) && !(q.1 + 1 == (k : Nat) && q.2.category == 2)) = lv' x) (hn : (k : Nat) < nL) (hdg : decode cc pc = .ok (.istore_n k, 1)) (kk : ∀ x, cr_P Γ E nL Φ kc ks S (pc + 1) (lv' x) (rest) (kf x)) : cr_P Γ E nL Φ kc ks S pc lv (.int x :: rest) (cr_bd x kf) :=
  cr_istore_n X (lv' x) (hl x) hn hdg (kk x)

theorem cr_istore (X : cr_X Γ E cc nL own Ts rm rt) {i : Nat} {x : Int32} (lv' : List (Nat × Value)) (hl : (i, Value.int x) :: lv.filter (fun q => !(q.1 == i) && !(q.1 + 1 == i && q.2.category == 2)) = lv') (hn : i < nL) (hdg : decode cc pc = .ok (.istore i, 2)) (kk : cr_P Γ E nL Φ kc ks S (pc + 2) lv' (rest) res) : cr_P Γ E nL Φ kc ks S pc lv (.int x :: rest) res := by
  obtain ⟨p, l, e, R, s, m, args, below, meth, c⟩ := Γ
  obtain ⟨hx, hb, -⟩ := X
  intro Q a h1 h2 H locs ls hW hS hls
  exact lv_istore hx hb hdg hls hn hl (fun ls' h' => kk Q a h1 h2 H locs ls' hW hS h')

theorem cr_istoreb (X : cr_X Γ E cc nL own Ts rm rt) {i : Nat} {x : Int32} {kf : Int32 → Option α} (lv' : Int32 → List (Nat × Value)) (hl : ∀ x, (i, Value.int x) :: lv.filter (fun q => !(q.1 == i) && !(q.1 + 1 == i && q.2.category == 2)) = lv' x) (hn : i < nL) (hdg : decode cc pc = .ok (.istore i, 2)) (kk : ∀ x, cr_P Γ E nL Φ kc ks S (pc + 2) (lv' x) (rest) (kf x)) : cr_P Γ E nL Φ kc ks S pc lv (.int x :: rest) (cr_bd x kf) :=
  cr_istore X (lv' x) (hl x) hn hdg (kk x)

theorem cr_lload_n (X : cr_X Γ E cc nL own Ts rm rt) {k : Fin 4} {x : Int64} (q : Nat) (hl : lv[q]? = some ((k : Nat), .long x)) (hdg : decode cc pc = .ok (.lload_n k, 1)) (kk : cr_P Γ E nL Φ kc ks S (pc + 1) lv (.long x :: rest) res) : cr_P Γ E nL Φ kc ks S pc lv (rest) res := by
  obtain ⟨p, l, e, R, s, m, args, below, meth, c⟩ := Γ
  obtain ⟨hx, hb, -⟩ := X
  intro Q a h1 h2 H locs ls hW hS hls
  exact lv_lload_n hx hb hdg rfl (lv_at hls q hl) (kk Q a h1 h2 H locs ls hW hS hls)
theorem cr_lload (X : cr_X Γ E cc nL own Ts rm rt) {i : Nat} {x : Int64} (q : Nat) (hl : lv[q]? = some (i, .long x)) (hdg : decode cc pc = .ok (.lload i, 2)) (kk : cr_P Γ E nL Φ kc ks S (pc + 2) lv (.long x :: rest) res) : cr_P Γ E nL Φ kc ks S pc lv (rest) res := by
  obtain ⟨p, l, e, R, s, m, args, below, meth, c⟩ := Γ
  obtain ⟨hx, hb, -⟩ := X
  intro Q a h1 h2 H locs ls hW hS hls
  exact lv_lload hx hb hdg (lv_at hls q hl) (kk Q a h1 h2 H locs ls hW hS hls)

theorem cr_lstore_n (X : cr_X Γ E cc nL own Ts rm rt) {k : Fin 4} {x : Int64} (lv' : List (Nat × Value)) (hl : ((k : Nat), Value.long x) :: lv.filter (fun q => !(q.1 == (k : Nat)) && (!(q.1 == (k : Nat) + 1) && !(q.1 + 1 == (k : Nat) && q.2.category == 2))) = lv') (hn : (k : Nat) + 1 < nL) (hdg : decode cc pc = .ok (.lstore_n k, 1)) (kk : cr_P Γ E nL Φ kc ks S (pc + 1) lv' (rest) res) : cr_P Γ E nL Φ kc ks S pc lv (.long x :: rest) res := by
  obtain ⟨p, l, e, R, s, m, args, below, meth, c⟩ := Γ
  obtain ⟨hx, hb, -⟩ := X
  intro Q a h1 h2 H locs ls hW hS hls
  exact lv_lstore_n hx hb hdg rfl hls hn hl (fun ls' h' => kk Q a h1 h2 H locs ls' hW hS h')

theorem cr_lstore_nb (X : cr_X Γ E cc nL own Ts rm rt) {k : Fin 4} {x : Int64} {kf : Int64 → Option α} (lv' : Int64 → List (Nat × Value)) (hl : ∀ x, ((k : Nat), Value.long x) :: lv.filter (fun q => !(q.1 == (k : Nat)) && (!(q.1 == (k : Nat) + 1) && !(q.1 + 1 == (k : Nat) && q.2.category == 2))) = lv' x) (hn : (k : Nat) + 1 < nL) (hdg : decode cc pc = .ok (.lstore_n k, 1)) (kk : ∀ x, cr_P Γ E nL Φ kc ks S (pc + 1) (lv' x) (rest) (kf x)) : cr_P Γ E nL Φ kc ks S pc lv (.long x :: rest) (cr_bd x kf) :=
  cr_lstore_n X (lv' x) (hl x) hn hdg (kk x)

theorem cr_lstore (X : cr_X Γ E cc nL own Ts rm rt) {i : Nat} {x : Int64} (lv' : List (Nat × Value)) (hl : (i, Value.long x) :: lv.filter (fun q => !(q.1 == i) && (!(q.1 == i + 1) && !(q.1 + 1 == i && q.2.category == 2))) = lv') (hn : i + 1 < nL) (hdg : decode cc pc = .ok (.lstore i, 2)) (kk : cr_P Γ E nL Φ kc ks S (pc + 2) lv' (rest) res) : cr_P Γ E nL Φ kc ks S pc lv (.long x :: rest) res := by
  obtain ⟨p, l, e, R, s, m, args, below, meth, c⟩ := Γ
  obtain ⟨hx, hb, -⟩ := X
  intro Q a h1 h2 H locs ls hW hS hls
  exact lv_lstore hx hb hdg hls hn hl (fun ls' h' => kk Q a h1 h2 H locs ls' hW hS h')

theorem cr_lstoreb (X : cr_X Γ E cc nL own Ts rm rt) {i : Nat} {x : Int64} {kf : Int64 → Option α} (lv' : Int64 → List (Nat × Value)) (hl : ∀ x, (i, Value.long x) :: lv.filter (fun q => !(q.1 == i) && (!(q.1 == i + 1) && !(q.1 + 1 == i && q.2.category == 2))) = lv' x) (hn : i + 1 < nL) (hdg : decode cc pc = .ok (.lstore i, 2)) (kk : ∀ x, cr_P Γ E nL Φ kc ks S (pc + 2) (lv' x) (rest) (kf x)) : cr_P Γ E nL Φ kc ks S pc lv (.long x :: rest) (cr_bd x kf) :=
  cr_lstore X (lv' x) (hl x) hn hdg (kk x)

theorem cr_fload_n (X : cr_X Γ E cc nL own Ts rm rt) {k : Fin 4} {x : UInt32} (q : Nat) (hl : lv[q]? = some ((k : Nat), .float x)) (hdg : decode cc pc = .ok (.fload_n k, 1)) (kk : cr_P Γ E nL Φ kc ks S (pc + 1) lv (.float x :: rest) res) : cr_P Γ E nL Φ kc ks S pc lv (rest) res := by
  obtain ⟨p, l, e, R, s, m, args, below, meth, c⟩ := Γ
  obtain ⟨hx, hb, -⟩ := X
  intro Q a h1 h2 H locs ls hW hS hls
  exact lv_fload_n hx hb hdg rfl (lv_at hls q hl) (kk Q a h1 h2 H locs ls hW hS hls)
theorem cr_fload (X : cr_X Γ E cc nL own Ts rm rt) {i : Nat} {x : UInt32} (q : Nat) (hl : lv[q]? = some (i, .float x)) (hdg : decode cc pc = .ok (.fload i, 2)) (kk : cr_P Γ E nL Φ kc ks S (pc + 2) lv (.float x :: rest) res) : cr_P Γ E nL Φ kc ks S pc lv (rest) res := by
  obtain ⟨p, l, e, R, s, m, args, below, meth, c⟩ := Γ
  obtain ⟨hx, hb, -⟩ := X
  intro Q a h1 h2 H locs ls hW hS hls
  exact lv_fload hx hb hdg (lv_at hls q hl) (kk Q a h1 h2 H locs ls hW hS hls)

theorem cr_fstore_n (X : cr_X Γ E cc nL own Ts rm rt) {k : Fin 4} {x : UInt32} (lv' : List (Nat × Value)) (hl : ((k : Nat), Value.float x) :: lv.filter (fun q => !(q.1 == (k : Nat)) && !(q.1 + 1 == (k : Nat) && q.2.category == 2)) = lv') (hn : (k : Nat) < nL) (hdg : decode cc pc = .ok (.fstore_n k, 1)) (kk : cr_P Γ E nL Φ kc ks S (pc + 1) lv' (rest) res) : cr_P Γ E nL Φ kc ks S pc lv (.float x :: rest) res := by
  obtain ⟨p, l, e, R, s, m, args, below, meth, c⟩ := Γ
  obtain ⟨hx, hb, -⟩ := X
  intro Q a h1 h2 H locs ls hW hS hls
  exact lv_fstore_n hx hb hdg rfl hls hn hl (fun ls' h' => kk Q a h1 h2 H locs ls' hW hS h')

theorem cr_fstore_nb (X : cr_X Γ E cc nL own Ts rm rt) {k : Fin 4} {x : UInt32} {kf : UInt32 → Option α} (lv' : UInt32 → List (Nat × Value)) (hl : ∀ x, ((k : Nat), Value.float x) :: lv.filter (fun q => !(q.1 == (k : Nat)) && !(q.1 + 1 == (k : Nat) && q.2.category == 2)) = lv' x) (hn : (k : Nat) < nL) (hdg : decode cc pc = .ok (.fstore_n k, 1)) (kk : ∀ x, cr_P Γ E nL Φ kc ks S (pc + 1) (lv' x) (rest) (kf x)) : cr_P Γ E nL Φ kc ks S pc lv (.float x :: rest) (cr_bd x kf) :=
  cr_fstore_n X (lv' x) (hl x) hn hdg (kk x)

theorem cr_fstore (X : cr_X Γ E cc nL own Ts rm rt) {i : Nat} {x : UInt32} (lv' : List (Nat × Value)) (hl : (i, Value.float x) :: lv.filter (fun q => !(q.1 == i) && !(q.1 + 1 == i && q.2.category == 2)) = lv') (hn : i < nL) (hdg : decode cc pc = .ok (.fstore i, 2)) (kk : cr_P Γ E nL Φ kc ks S (pc + 2) lv' (rest) res) : cr_P Γ E nL Φ kc ks S pc lv (.float x :: rest) res := by
  obtain ⟨p, l, e, R, s, m, args, below, meth, c⟩ := Γ
  obtain ⟨hx, hb, -⟩ := X
  intro Q a h1 h2 H locs ls hW hS hls
  exact lv_fstore hx hb hdg hls hn hl (fun ls' h' => kk Q a h1 h2 H locs ls' hW hS h')

theorem cr_fstoreb (X : cr_X Γ E cc nL own Ts rm rt) {i : Nat} {x : UInt32} {kf : UInt32 → Option α} (lv' : UInt32 → List (Nat × Value)) (hl : ∀ x, (i, Value.float x) :: lv.filter (fun q => !(q.1 == i) && !(q.1 + 1 == i && q.2.category == 2)) = lv' x) (hn : i < nL) (hdg : decode cc pc = .ok (.fstore i, 2)) (kk : ∀ x, cr_P Γ E nL Φ kc ks S (pc + 2) (lv' x) (rest) (kf x)) : cr_P Γ E nL Φ kc ks S pc lv (.float x :: rest) (cr_bd x kf) :=
  cr_fstore X (lv' x) (hl x) hn hdg (kk x)

theorem cr_dload_n (X : cr_X Γ E cc nL own Ts rm rt) {k : Fin 4} {x : UInt64} (q : Nat) (hl : lv[q]? = some ((k : Nat), .double x)) (hdg : decode cc pc = .ok (.dload_n k, 1)) (kk : cr_P Γ E nL Φ kc ks S (pc + 1) lv (.double x :: rest) res) : cr_P Γ E nL Φ kc ks S pc lv (rest) res := by
  obtain ⟨p, l, e, R, s, m, args, below, meth, c⟩ := Γ
  obtain ⟨hx, hb, -⟩ := X
  intro Q a h1 h2 H locs ls hW hS hls
  exact lv_dload_n hx hb hdg rfl (lv_at hls q hl) (kk Q a h1 h2 H locs ls hW hS hls)
theorem cr_dload (X : cr_X Γ E cc nL own Ts rm rt) {i : Nat} {x : UInt64} (q : Nat) (hl : lv[q]? = some (i, .double x)) (hdg : decode cc pc = .ok (.dload i, 2)) (kk : cr_P Γ E nL Φ kc ks S (pc + 2) lv (.double x :: rest) res) : cr_P Γ E nL Φ kc ks S pc lv (rest) res := by
  obtain ⟨p, l, e, R, s, m, args, below, meth, c⟩ := Γ
  obtain ⟨hx, hb, -⟩ := X
  intro Q a h1 h2 H locs ls hW hS hls
  exact lv_dload hx hb hdg (lv_at hls q hl) (kk Q a h1 h2 H locs ls hW hS hls)

theorem cr_dstore_n (X : cr_X Γ E cc nL own Ts rm rt) {k : Fin 4} {x : UInt64} (lv' : List (Nat × Value)) (hl : ((k : Nat), Value.double x) :: lv.filter (fun q => !(q.1 == (k : Nat)) && (!(q.1 == (k : Nat) + 1) && !(q.1 + 1 == (k : Nat) && q.2.category == 2))) = lv') (hn : (k : Nat) + 1 < nL) (hdg : decode cc pc = .ok (.dstore_n k, 1)) (kk : cr_P Γ E nL Φ kc ks S (pc + 1) lv' (rest) res) : cr_P Γ E nL Φ kc ks S pc lv (.double x :: rest) res := by
  obtain ⟨p, l, e, R, s, m, args, below, meth, c⟩ := Γ
  obtain ⟨hx, hb, -⟩ := X
  intro Q a h1 h2 H locs ls hW hS hls
  exact lv_dstore_n hx hb hdg rfl hls hn hl (fun ls' h' => kk Q a h1 h2 H locs ls' hW hS h')

theorem cr_dstore_nb (X : cr_X Γ E cc nL own Ts rm rt) {k : Fin 4} {x : UInt64} {kf : UInt64 → Option α} (lv' : UInt64 → List (Nat × Value)) (hl : ∀ x, ((k : Nat), Value.double x) :: lv.filter (fun q => !(q.1 == (k : Nat)) && (!(q.1 == (k : Nat) + 1) && !(q.1 + 1 == (k : Nat) && q.2.category == 2))) = lv' x) (hn : (k : Nat) + 1 < nL) (hdg : decode cc pc = .ok (.dstore_n k, 1)) (kk : ∀ x, cr_P Γ E nL Φ kc ks S (pc + 1) (lv' x) (rest) (kf x)) : cr_P Γ E nL Φ kc ks S pc lv (.double x :: rest) (cr_bd x kf) :=
  cr_dstore_n X (lv' x) (hl x) hn hdg (kk x)

theorem cr_dstore (X : cr_X Γ E cc nL own Ts rm rt) {i : Nat} {x : UInt64} (lv' : List (Nat × Value)) (hl : (i, Value.double x) :: lv.filter (fun q => !(q.1 == i) && (!(q.1 == i + 1) && !(q.1 + 1 == i && q.2.category == 2))) = lv') (hn : i + 1 < nL) (hdg : decode cc pc = .ok (.dstore i, 2)) (kk : cr_P Γ E nL Φ kc ks S (pc + 2) lv' (rest) res) : cr_P Γ E nL Φ kc ks S pc lv (.double x :: rest) res := by
  obtain ⟨p, l, e, R, s, m, args, below, meth, c⟩ := Γ
  obtain ⟨hx, hb, -⟩ := X
  intro Q a h1 h2 H locs ls hW hS hls
  exact lv_dstore hx hb hdg hls hn hl (fun ls' h' => kk Q a h1 h2 H locs ls' hW hS h')

theorem cr_dstoreb (X : cr_X Γ E cc nL own Ts rm rt) {i : Nat} {x : UInt64} {kf : UInt64 → Option α} (lv' : UInt64 → List (Nat × Value)) (hl : ∀ x, (i, Value.double x) :: lv.filter (fun q => !(q.1 == i) && (!(q.1 == i + 1) && !(q.1 + 1 == i && q.2.category == 2))) = lv' x) (hn : i + 1 < nL) (hdg : decode cc pc = .ok (.dstore i, 2)) (kk : ∀ x, cr_P Γ E nL Φ kc ks S (pc + 2) (lv' x) (rest) (kf x)) : cr_P Γ E nL Φ kc ks S pc lv (.double x :: rest) (cr_bd x kf) :=
  cr_dstore X (lv' x) (hl x) hn hdg (kk x)

theorem cr_aload_n (X : cr_X Γ E cc nL own Ts rm rt) {k : Fin 4} {x : Nat} (q : Nat) (hl : lv[q]? = some ((k : Nat), .ref x)) (hdg : decode cc pc = .ok (.aload_n k, 1)) (kk : cr_P Γ E nL Φ kc ks S (pc + 1) lv (.ref x :: rest) res) : cr_P Γ E nL Φ kc ks S pc lv (rest) res := by
  obtain ⟨p, l, e, R, s, m, args, below, meth, c⟩ := Γ
  obtain ⟨hx, hb, -⟩ := X
  intro Q a h1 h2 H locs ls hW hS hls
  exact lv_aload_n hx hb hdg rfl (lv_at hls q hl) (kk Q a h1 h2 H locs ls hW hS hls)
theorem cr_aload (X : cr_X Γ E cc nL own Ts rm rt) {i : Nat} {x : Nat} (q : Nat) (hl : lv[q]? = some (i, .ref x)) (hdg : decode cc pc = .ok (.aload i, 2)) (kk : cr_P Γ E nL Φ kc ks S (pc + 2) lv (.ref x :: rest) res) : cr_P Γ E nL Φ kc ks S pc lv (rest) res := by
  obtain ⟨p, l, e, R, s, m, args, below, meth, c⟩ := Γ
  obtain ⟨hx, hb, -⟩ := X
  intro Q a h1 h2 H locs ls hW hS hls
  exact lv_aload hx hb hdg (lv_at hls q hl) (kk Q a h1 h2 H locs ls hW hS hls)

theorem cr_astore_n (X : cr_X Γ E cc nL own Ts rm rt) {k : Fin 4} {x : Nat} (lv' : List (Nat × Value)) (hl : ((k : Nat), Value.ref x) :: lv.filter (fun q => !(q.1 == (k : Nat)) && !(q.1 + 1 == (k : Nat) && q.2.category == 2)) = lv') (hn : (k : Nat) < nL) (hdg : decode cc pc = .ok (.astore_n k, 1)) (kk : cr_P Γ E nL Φ kc ks S (pc + 1) lv' (rest) res) : cr_P Γ E nL Φ kc ks S pc lv (.ref x :: rest) res := by
  obtain ⟨p, l, e, R, s, m, args, below, meth, c⟩ := Γ
  obtain ⟨hx, hb, -⟩ := X
  intro Q a h1 h2 H locs ls hW hS hls
  exact lv_astore_n hx hb hdg rfl hls hn hl (fun ls' h' => kk Q a h1 h2 H locs ls' hW hS h')

theorem cr_astore (X : cr_X Γ E cc nL own Ts rm rt) {i : Nat} {x : Nat} (lv' : List (Nat × Value)) (hl : (i, Value.ref x) :: lv.filter (fun q => !(q.1 == i) && !(q.1 + 1 == i && q.2.category == 2)) = lv') (hn : i < nL) (hdg : decode cc pc = .ok (.astore i, 2)) (kk : cr_P Γ E nL Φ kc ks S (pc + 2) lv' (rest) res) : cr_P Γ E nL Φ kc ks S pc lv (.ref x :: rest) res := by
  obtain ⟨p, l, e, R, s, m, args, below, meth, c⟩ := Γ
  obtain ⟨hx, hb, -⟩ := X
  intro Q a h1 h2 H locs ls hW hS hls
  exact lv_astore hx hb hdg hls hn hl (fun ls' h' => kk Q a h1 h2 H locs ls' hW hS h')

theorem cr_iinc (X : cr_X Γ E cc nL own Ts rm rt) {i : Nat} {n : Int} {x : Int32} (v : Int32) {kf : Int32 → Option α} (lv' : Int32 → List (Nat × Value)) (q : Nat) (hk : lv[q]? = some (i, .int x)) (hv : x + Int32.ofInt n = v) (hl : ∀ v, (i, Value.int v) :: lv.filter (fun q => !(q.1 == i) && !(q.1 + 1 == i && q.2.category == 2)) = lv' v) (hn : i < nL) (hdg : decode cc pc = .ok (.iinc i n, 3)) (kk : ∀ v, cr_P Γ E nL Φ kc ks S (pc + 3) (lv' v) (rest) (kf v)) : cr_P Γ E nL Φ kc ks S pc lv (rest) (cr_bd v kf) := by
  obtain ⟨p, l, e, R, s, m, args, below, meth, c⟩ := Γ
  obtain ⟨hx, hb, -⟩ := X
  intro Q a h1 h2 H locs ls hW hS hls
  exact lv_iinc hx hb hdg hls hk hv hn (hl v) (fun ls' h' => kk v Q a h1 h2 H locs ls' hW hS h')
theorem cr_sub {lv' : List (Nat × Value)} (qs : List Nat) (h : lv_pick lv qs = lv') (kk : cr_P Γ E nL Φ kc ks S pc lv' (rest) res) : cr_P Γ E nL Φ kc ks S pc lv (rest) res :=
  fun Q a h1 h2 H locs ls hW hS hls => kk Q a h1 h2 H locs ls hW hS (lv_sub hls qs h)
theorem cr_none {st : List Value} : cr_P Γ E nL Φ kc ks S pc lv (st) none := fun _ _ h1 => nomatch h1
theorem cr_ite {c : Prop} [Decidable c] {r1 r2 : Option α} {st : List Value} (k1 : c → cr_P Γ E nL Φ kc ks S pc lv (st) r1) (k2 : ¬ c → cr_P Γ E nL Φ kc ks S pc lv (st) r2) : cr_P Γ E nL Φ kc ks S pc lv (st) (if c then r1 else r2) := by
  by_cases h : c
  · rw [if_pos h]; exact k1 h
  · rw [if_neg h]; exact k2 h
theorem cr_gdi {b : Bool} {st : List Value} (k : b = true → cr_P Γ E nL Φ kc ks S pc lv (st) res) : cr_P Γ E nL Φ kc ks S pc lv (st) (cr_gd b res) := by
  cases b with
  | true => exact k rfl
  | false => exact fun _ _ h1 => nomatch h1
theorem cr_bdi {β : Type} {v : β} {kf : β → Option α} {st : β → List Value} (k : ∀ v, cr_P Γ E nL Φ kc ks S pc lv (st v) (kf v)) : cr_P Γ E nL Φ kc ks S pc lv (st v) (cr_bd v kf) := k v

theorem cr_iadd (X : cr_X Γ E cc nL own Ts rm rt) {x y : Int32} (hdg : decode cc pc = .ok (.iadd, 1)) (kk : cr_P Γ E nL Φ kc ks S (pc + 1) lv (.int (x + y) :: rest) res) : cr_P Γ E nL Φ kc ks S pc lv (.int y :: .int x :: rest) res := by
  obtain ⟨p, l, e, R, s, m, args, below, meth, c⟩ := Γ
  obtain ⟨hx, hb, -⟩ := X
  intro Q a h1 h2 H locs ls hW hS hls
  exact lv_iadd hx hb hdg (kk Q a h1 h2 H locs ls hW hS hls)

theorem cr_isub (X : cr_X Γ E cc nL own Ts rm rt) {x y : Int32} (hdg : decode cc pc = .ok (.isub, 1)) (kk : cr_P Γ E nL Φ kc ks S (pc + 1) lv (.int (x - y) :: rest) res) : cr_P Γ E nL Φ kc ks S pc lv (.int y :: .int x :: rest) res := by
  obtain ⟨p, l, e, R, s, m, args, below, meth, c⟩ := Γ
  obtain ⟨hx, hb, -⟩ := X
  intro Q a h1 h2 H locs ls hW hS hls
  exact lv_isub hx hb hdg (kk Q a h1 h2 H locs ls hW hS hls)

theorem cr_imul (X : cr_X Γ E cc nL own Ts rm rt) {x y : Int32} (hdg : decode cc pc = .ok (.imul, 1)) (kk : cr_P Γ E nL Φ kc ks S (pc + 1) lv (.int (x * y) :: rest) res) : cr_P Γ E nL Φ kc ks S pc lv (.int y :: .int x :: rest) res := by
  obtain ⟨p, l, e, R, s, m, args, below, meth, c⟩ := Γ
  obtain ⟨hx, hb, -⟩ := X
  intro Q a h1 h2 H locs ls hW hS hls
  exact lv_imul hx hb hdg (kk Q a h1 h2 H locs ls hW hS hls)

theorem cr_iand (X : cr_X Γ E cc nL own Ts rm rt) {x y : Int32} (hdg : decode cc pc = .ok (.iand, 1)) (kk : cr_P Γ E nL Φ kc ks S (pc + 1) lv (.int (x &&& y) :: rest) res) : cr_P Γ E nL Φ kc ks S pc lv (.int y :: .int x :: rest) res := by
  obtain ⟨p, l, e, R, s, m, args, below, meth, c⟩ := Γ
  obtain ⟨hx, hb, -⟩ := X
  intro Q a h1 h2 H locs ls hW hS hls
  exact lv_iand hx hb hdg (kk Q a h1 h2 H locs ls hW hS hls)

theorem cr_ior (X : cr_X Γ E cc nL own Ts rm rt) {x y : Int32} (hdg : decode cc pc = .ok (.ior, 1)) (kk : cr_P Γ E nL Φ kc ks S (pc + 1) lv (.int (x ||| y) :: rest) res) : cr_P Γ E nL Φ kc ks S pc lv (.int y :: .int x :: rest) res := by
  obtain ⟨p, l, e, R, s, m, args, below, meth, c⟩ := Γ
  obtain ⟨hx, hb, -⟩ := X
  intro Q a h1 h2 H locs ls hW hS hls
  exact lv_ior hx hb hdg (kk Q a h1 h2 H locs ls hW hS hls)

theorem cr_ishl (X : cr_X Γ E cc nL own Ts rm rt) {x y : Int32} (hdg : decode cc pc = .ok (.ishl, 1)) (kk : cr_P Γ E nL Φ kc ks S (pc + 1) lv (.int (x <<< (y &&& 31)) :: rest) res) : cr_P Γ E nL Φ kc ks S pc lv (.int y :: .int x :: rest) res := by
  obtain ⟨p, l, e, R, s, m, args, below, meth, c⟩ := Γ
  obtain ⟨hx, hb, -⟩ := X
  intro Q a h1 h2 H locs ls hW hS hls
  exact lv_ishl hx hb hdg (kk Q a h1 h2 H locs ls hW hS hls)

theorem cr_ladd (X : cr_X Γ E cc nL own Ts rm rt) {x y : Int64} (hdg : decode cc pc = .ok (.ladd, 1)) (kk : cr_P Γ E nL Φ kc ks S (pc + 1) lv (.long (x + y) :: rest) res) : cr_P Γ E nL Φ kc ks S pc lv (.long y :: .long x :: rest) res := by
  obtain ⟨p, l, e, R, s, m, args, below, meth, c⟩ := Γ
  obtain ⟨hx, hb, -⟩ := X
  intro Q a h1 h2 H locs ls hW hS hls
  exact lv_ladd hx hb hdg (kk Q a h1 h2 H locs ls hW hS hls)

theorem cr_lsub (X : cr_X Γ E cc nL own Ts rm rt) {x y : Int64} (hdg : decode cc pc = .ok (.lsub, 1)) (kk : cr_P Γ E nL Φ kc ks S (pc + 1) lv (.long (x - y) :: rest) res) : cr_P Γ E nL Φ kc ks S pc lv (.long y :: .long x :: rest) res := by
  obtain ⟨p, l, e, R, s, m, args, below, meth, c⟩ := Γ
  obtain ⟨hx, hb, -⟩ := X
  intro Q a h1 h2 H locs ls hW hS hls
  exact lv_lsub hx hb hdg (kk Q a h1 h2 H locs ls hW hS hls)

theorem cr_lmul (X : cr_X Γ E cc nL own Ts rm rt) {x y : Int64} (hdg : decode cc pc = .ok (.lmul, 1)) (kk : cr_P Γ E nL Φ kc ks S (pc + 1) lv (.long (x * y) :: rest) res) : cr_P Γ E nL Φ kc ks S pc lv (.long y :: .long x :: rest) res := by
  obtain ⟨p, l, e, R, s, m, args, below, meth, c⟩ := Γ
  obtain ⟨hx, hb, -⟩ := X
  intro Q a h1 h2 H locs ls hW hS hls
  exact lv_lmul hx hb hdg (kk Q a h1 h2 H locs ls hW hS hls)

theorem cr_lor (X : cr_X Γ E cc nL own Ts rm rt) {x y : Int64} (hdg : decode cc pc = .ok (.lor, 1)) (kk : cr_P Γ E nL Φ kc ks S (pc + 1) lv (.long (x ||| y) :: rest) res) : cr_P Γ E nL Φ kc ks S pc lv (.long y :: .long x :: rest) res := by
  obtain ⟨p, l, e, R, s, m, args, below, meth, c⟩ := Γ
  obtain ⟨hx, hb, -⟩ := X
  intro Q a h1 h2 H locs ls hW hS hls
  exact lv_lor hx hb hdg (kk Q a h1 h2 H locs ls hW hS hls)

theorem cr_lshl (X : cr_X Γ E cc nL own Ts rm rt) {x : Int64} {y : Int32} (hdg : decode cc pc = .ok (.lshl, 1)) (kk : cr_P Γ E nL Φ kc ks S (pc + 1) lv (.long (x <<< (y.toInt64 &&& 63)) :: rest) res) : cr_P Γ E nL Φ kc ks S pc lv (.int y :: .long x :: rest) res := by
  obtain ⟨p, l, e, R, s, m, args, below, meth, c⟩ := Γ
  obtain ⟨hx, hb, -⟩ := X
  intro Q a h1 h2 H locs ls hW hS hls
  exact lv_lshl hx hb hdg rfl (kk Q a h1 h2 H locs ls hW hS hls)

theorem cr_idiv (X : cr_X Γ E cc nL own Ts rm rt) {x y : Int32} (hdg : decode cc pc = .ok (.idiv, 1)) (kk : cr_P Γ E nL Φ kc ks S (pc + 1) lv (.int (x / y) :: rest) res) : cr_P Γ E nL Φ kc ks S pc lv (.int y :: .int x :: rest) (cr_gd (cr_nz y) res) := by
  refine cr_gdi (fun h => ?_)
  obtain ⟨p, l, e, R, s, m, args, below, meth, c⟩ := Γ
  obtain ⟨hx, hb, -⟩ := X
  intro Q a h1 h2 H locs ls hW hS hls
  exact lv_idiv hx hb hdg (of_decide_eq_true h) (kk Q a h1 h2 H locs ls hW hS hls)
theorem cr_idivk (X : cr_X Γ E cc nL own Ts rm rt) {x y : Int32} (hy : ¬ y = 0) (hdg : decode cc pc = .ok (.idiv, 1)) (kk : cr_P Γ E nL Φ kc ks S (pc + 1) lv (.int (x / y) :: rest) res) : cr_P Γ E nL Φ kc ks S pc lv (.int y :: .int x :: rest) res := by
  obtain ⟨p, l, e, R, s, m, args, below, meth, c⟩ := Γ
  obtain ⟨hx, hb, -⟩ := X
  intro Q a h1 h2 H locs ls hW hS hls
  exact lv_idiv hx hb hdg hy (kk Q a h1 h2 H locs ls hW hS hls)

theorem cr_irem (X : cr_X Γ E cc nL own Ts rm rt) {x y : Int32} (hdg : decode cc pc = .ok (.irem, 1)) (kk : cr_P Γ E nL Φ kc ks S (pc + 1) lv (.int (x - x / y * y) :: rest) res) : cr_P Γ E nL Φ kc ks S pc lv (.int y :: .int x :: rest) (cr_gd (cr_nz y) res) := by
  refine cr_gdi (fun h => ?_)
  obtain ⟨p, l, e, R, s, m, args, below, meth, c⟩ := Γ
  obtain ⟨hx, hb, -⟩ := X
  intro Q a h1 h2 H locs ls hW hS hls
  exact lv_irem hx hb hdg (of_decide_eq_true h) (kk Q a h1 h2 H locs ls hW hS hls)
theorem cr_iremk (X : cr_X Γ E cc nL own Ts rm rt) {x y : Int32} (hy : ¬ y = 0) (hdg : decode cc pc = .ok (.irem, 1)) (kk : cr_P Γ E nL Φ kc ks S (pc + 1) lv (.int (x - x / y * y) :: rest) res) : cr_P Γ E nL Φ kc ks S pc lv (.int y :: .int x :: rest) res := by
  obtain ⟨p, l, e, R, s, m, args, below, meth, c⟩ := Γ
  obtain ⟨hx, hb, -⟩ := X
  intro Q a h1 h2 H locs ls hW hS hls
  exact lv_irem hx hb hdg hy (kk Q a h1 h2 H locs ls hW hS hls)

theorem cr_i2l (X : cr_X Γ E cc nL own Ts rm rt) {x : Int32} (hdg : decode cc pc = .ok (.i2l, 1)) (kk : cr_P Γ E nL Φ kc ks S (pc + 1) lv (.long x.toInt64 :: rest) res) : cr_P Γ E nL Φ kc ks S pc lv (.int x :: rest) res := by
  obtain ⟨p, l, e, R, s, m, args, below, meth, c⟩ := Γ
  obtain ⟨hx, hb, -⟩ := X
  intro Q a h1 h2 H locs ls hW hS hls
  exact lv_i2l hx hb hdg rfl (kk Q a h1 h2 H locs ls hW hS hls)

theorem cr_i2f (X : cr_X Γ E cc nL own Ts rm rt) {x : Int32} (hdg : decode cc pc = .ok (.i2f, 1)) (kk : cr_P Γ E nL Φ kc ks S (pc + 1) lv (.float (FP.i2f x) :: rest) res) : cr_P Γ E nL Φ kc ks S pc lv (.int x :: rest) res := by
  obtain ⟨p, l, e, R, s, m, args, below, meth, c⟩ := Γ
  obtain ⟨hx, hb, -⟩ := X
  intro Q a h1 h2 H locs ls hW hS hls
  exact lv_i2f hx hb hdg (kk Q a h1 h2 H locs ls hW hS hls)

theorem cr_i2d (X : cr_X Γ E cc nL own Ts rm rt) {x : Int32} (hdg : decode cc pc = .ok (.i2d, 1)) (kk : cr_P Γ E nL Φ kc ks S (pc + 1) lv (.double (FP.i2d x) :: rest) res) : cr_P Γ E nL Φ kc ks S pc lv (.int x :: rest) res := by
  obtain ⟨p, l, e, R, s, m, args, below, meth, c⟩ := Γ
  obtain ⟨hx, hb, -⟩ := X
  intro Q a h1 h2 H locs ls hW hS hls
  exact lv_i2d hx hb hdg (kk Q a h1 h2 H locs ls hW hS hls)

theorem cr_f2i (X : cr_X Γ E cc nL own Ts rm rt) {x : UInt32} (hdg : decode cc pc = .ok (.f2i, 1)) (kk : cr_P Γ E nL Φ kc ks S (pc + 1) lv (.int (FP.f2i x) :: rest) res) : cr_P Γ E nL Φ kc ks S pc lv (.float x :: rest) res := by
  obtain ⟨p, l, e, R, s, m, args, below, meth, c⟩ := Γ
  obtain ⟨hx, hb, -⟩ := X
  intro Q a h1 h2 H locs ls hW hS hls
  exact lv_f2i hx hb hdg (kk Q a h1 h2 H locs ls hW hS hls)

theorem cr_d2l (X : cr_X Γ E cc nL own Ts rm rt) {x : UInt64} (hdg : decode cc pc = .ok (.d2l, 1)) (kk : cr_P Γ E nL Φ kc ks S (pc + 1) lv (.long (FP.d2l x) :: rest) res) : cr_P Γ E nL Φ kc ks S pc lv (.double x :: rest) res := by
  obtain ⟨p, l, e, R, s, m, args, below, meth, c⟩ := Γ
  obtain ⟨hx, hb, -⟩ := X
  intro Q a h1 h2 H locs ls hW hS hls
  exact lv_d2l hx hb hdg (kk Q a h1 h2 H locs ls hW hS hls)

theorem cr_lcmp (X : cr_X Γ E cc nL own Ts rm rt) {x y : Int64} (hdg : decode cc pc = .ok (.lcmp, 1)) (kk : cr_P Γ E nL Φ kc ks S (pc + 1) lv (.int (lg_cmp x y) :: rest) res) : cr_P Γ E nL Φ kc ks S pc lv (.long y :: .long x :: rest) res := by
  obtain ⟨p, l, e, R, s, m, args, below, meth, c⟩ := Γ
  obtain ⟨hx, hb, -⟩ := X
  intro Q a h1 h2 H locs ls hW hS hls
  exact W.lcmp hx hb hdg (kk Q a h1 h2 H locs ls hW hS hls)

theorem cr_fcmp (X : cr_X Γ E cc nL own Ts rm rt) {x y : UInt32} {op : CmpOp} (hdg : decode cc pc = .ok (.fcmp op, 1)) (kk : cr_P Γ E nL Φ kc ks S (pc + 1) lv (.int (Op.cmpValue (FP.fcmp x y) op) :: rest) res) : cr_P Γ E nL Φ kc ks S pc lv (.float y :: .float x :: rest) res := by
  obtain ⟨p, l, e, R, s, m, args, below, meth, c⟩ := Γ
  obtain ⟨hx, hb, -⟩ := X
  intro Q a h1 h2 H locs ls hW hS hls
  exact lv_fcmp hx hb hdg (kk Q a h1 h2 H locs ls hW hS hls)

theorem cr_dcmp (X : cr_X Γ E cc nL own Ts rm rt) {x y : UInt64} {op : CmpOp} (hdg : decode cc pc = .ok (.dcmp op, 1)) (kk : cr_P Γ E nL Φ kc ks S (pc + 1) lv (.int (Op.cmpValue (FP.dcmp x y) op) :: rest) res) : cr_P Γ E nL Φ kc ks S pc lv (.double y :: .double x :: rest) res := by
  obtain ⟨p, l, e, R, s, m, args, below, meth, c⟩ := Γ
  obtain ⟨hx, hb, -⟩ := X
  intro Q a h1 h2 H locs ls hW hS hls
  exact lv_dcmp hx hb hdg (kk Q a h1 h2 H locs ls hW hS hls)

def cr_nfdiv (x y : UInt32) : Bool := decide (FP.fdiv x y &&& 0x7fffffff ≤ 0x7f800000)
theorem cr_fdiv (X : cr_X Γ E cc nL own Ts rm rt) {x y : UInt32} (hdg : decode cc pc = .ok (.fdiv, 1)) (kk : cr_P Γ E nL Φ kc ks S (pc + 1) lv (.float (FP.fdiv x y) :: rest) res) : cr_P Γ E nL Φ kc ks S pc lv (.float y :: .float x :: rest) (cr_gd (cr_nfdiv x y) res) := by
  refine cr_gdi (fun h => ?_)
  obtain ⟨p, l, e, R, s, m, args, below, meth, c⟩ := Γ
  obtain ⟨hx, hb, -⟩ := X
  intro Q a h1 h2 H locs ls hW hS hls
  have hd : FP.fdiv x y &&& 0x7fffffff ≤ 0x7f800000 := of_decide_eq_true h
  exact lv_fdiv hx hb hdg hd (kk Q a h1 h2 H locs ls hW hS hls)

def cr_nfmul (x y : UInt32) : Bool := decide (FP.fmul x y &&& 0x7fffffff ≤ 0x7f800000)
theorem cr_fmul (X : cr_X Γ E cc nL own Ts rm rt) {x y : UInt32} (hdg : decode cc pc = .ok (.fmul, 1)) (kk : cr_P Γ E nL Φ kc ks S (pc + 1) lv (.float (FP.fmul x y) :: rest) res) : cr_P Γ E nL Φ kc ks S pc lv (.float y :: .float x :: rest) (cr_gd (cr_nfmul x y) res) := by
  refine cr_gdi (fun h => ?_)
  obtain ⟨p, l, e, R, s, m, args, below, meth, c⟩ := Γ
  obtain ⟨hx, hb, -⟩ := X
  intro Q a h1 h2 H locs ls hW hS hls
  have hd : FP.fmul x y &&& 0x7fffffff ≤ 0x7f800000 := of_decide_eq_true h
  exact lv_fmul hx hb hdg hd (kk Q a h1 h2 H locs ls hW hS hls)

def cr_nfsub (x y : UInt32) : Bool := decide (FP.fsub x y &&& 0x7fffffff ≤ 0x7f800000)
theorem cr_fsub (X : cr_X Γ E cc nL own Ts rm rt) {x y : UInt32} (hdg : decode cc pc = .ok (.fsub, 1)) (kk : cr_P Γ E nL Φ kc ks S (pc + 1) lv (.float (FP.fsub x y) :: rest) res) : cr_P Γ E nL Φ kc ks S pc lv (.float y :: .float x :: rest) (cr_gd (cr_nfsub x y) res) := by
  refine cr_gdi (fun h => ?_)
  obtain ⟨p, l, e, R, s, m, args, below, meth, c⟩ := Γ
  obtain ⟨hx, hb, -⟩ := X
  intro Q a h1 h2 H locs ls hW hS hls
  have hd : FP.fsub x y &&& 0x7fffffff ≤ 0x7f800000 := of_decide_eq_true h
  exact lv_fsub hx hb hdg hd (kk Q a h1 h2 H locs ls hW hS hls)

def cr_nddiv (x y : UInt64) : Bool := decide (FP.ddiv x y &&& 0x7fffffffffffffff ≤ 0x7ff0000000000000)
theorem cr_ddiv (X : cr_X Γ E cc nL own Ts rm rt) {x y : UInt64} (hdg : decode cc pc = .ok (.ddiv, 1)) (kk : cr_P Γ E nL Φ kc ks S (pc + 1) lv (.double (FP.ddiv x y) :: rest) res) : cr_P Γ E nL Φ kc ks S pc lv (.double y :: .double x :: rest) (cr_gd (cr_nddiv x y) res) := by
  refine cr_gdi (fun h => ?_)
  obtain ⟨p, l, e, R, s, m, args, below, meth, c⟩ := Γ
  obtain ⟨hx, hb, -⟩ := X
  intro Q a h1 h2 H locs ls hW hS hls
  have hd : FP.ddiv x y &&& 0x7fffffffffffffff ≤ 0x7ff0000000000000 := of_decide_eq_true h
  exact lv_ddiv hx hb hdg hd (kk Q a h1 h2 H locs ls hW hS hls)

def cr_ndmul (x y : UInt64) : Bool := decide (FP.dmul x y &&& 0x7fffffffffffffff ≤ 0x7ff0000000000000)
theorem cr_dmul (X : cr_X Γ E cc nL own Ts rm rt) {x y : UInt64} (hdg : decode cc pc = .ok (.dmul, 1)) (kk : cr_P Γ E nL Φ kc ks S (pc + 1) lv (.double (FP.dmul x y) :: rest) res) : cr_P Γ E nL Φ kc ks S pc lv (.double y :: .double x :: rest) (cr_gd (cr_ndmul x y) res) := by
  refine cr_gdi (fun h => ?_)
  obtain ⟨p, l, e, R, s, m, args, below, meth, c⟩ := Γ
  obtain ⟨hx, hb, -⟩ := X
  intro Q a h1 h2 H locs ls hW hS hls
  have hd : FP.dmul x y &&& 0x7fffffffffffffff ≤ 0x7ff0000000000000 := of_decide_eq_true h
  exact lv_dmul hx hb hdg hd (kk Q a h1 h2 H locs ls hW hS hls)

def cr_ndsub (x y : UInt64) : Bool := decide (FP.dsub x y &&& 0x7fffffffffffffff ≤ 0x7ff0000000000000)
theorem cr_dsub (X : cr_X Γ E cc nL own Ts rm rt) {x y : UInt64} (hdg : decode cc pc = .ok (.dsub, 1)) (kk : cr_P Γ E nL Φ kc ks S (pc + 1) lv (.double (FP.dsub x y) :: rest) res) : cr_P Γ E nL Φ kc ks S pc lv (.double y :: .double x :: rest) (cr_gd (cr_ndsub x y) res) := by
  refine cr_gdi (fun h => ?_)
  obtain ⟨p, l, e, R, s, m, args, below, meth, c⟩ := Γ
  obtain ⟨hx, hb, -⟩ := X
  intro Q a h1 h2 H locs ls hW hS hls
  have hd : FP.dsub x y &&& 0x7fffffffffffffff ≤ 0x7ff0000000000000 := of_decide_eq_true h
  exact lv_dsub hx hb hdg hd (kk Q a h1 h2 H locs ls hW hS hls)

def cr_nf2d (x : UInt32) : Bool := decide (FP.f2d x &&& 0x7fffffffffffffff ≤ 0x7ff0000000000000)
theorem cr_f2d (X : cr_X Γ E cc nL own Ts rm rt) {x : UInt32} (hdg : decode cc pc = .ok (.f2d, 1)) (kk : cr_P Γ E nL Φ kc ks S (pc + 1) lv (.double (FP.f2d x) :: rest) res) : cr_P Γ E nL Φ kc ks S pc lv (.float x :: rest) (cr_gd (cr_nf2d x) res) := by
  refine cr_gdi (fun h => ?_)
  obtain ⟨p, l, e, R, s, m, args, below, meth, c⟩ := Γ
  obtain ⟨hx, hb, -⟩ := X
  intro Q a h1 h2 H locs ls hW hS hls
  have hd : FP.f2d x &&& 0x7fffffffffffffff ≤ 0x7ff0000000000000 := of_decide_eq_true h
  exact lv_f2d hx hb hdg hd (kk Q a h1 h2 H locs ls hW hS hls)

theorem cr_fconst0 (X : cr_X Γ E cc nL own Ts rm rt) (hdg : decode cc pc = .ok (.fconst 0, 1)) (kk : cr_P Γ E nL Φ kc ks S (pc + 1) lv (.float FP.fconst0 :: rest) res) : cr_P Γ E nL Φ kc ks S pc lv (rest) res := by
  obtain ⟨p, l, e, R, s, m, args, below, meth, c⟩ := Γ
  obtain ⟨hx, hb, -⟩ := X
  intro Q a h1 h2 H locs ls hW hS hls
  exact lv_fconst0 hx hb hdg (kk Q a h1 h2 H locs ls hW hS hls)

theorem cr_fconst1 (X : cr_X Γ E cc nL own Ts rm rt) (hdg : decode cc pc = .ok (.fconst 1, 1)) (kk : cr_P Γ E nL Φ kc ks S (pc + 1) lv (.float FP.fconst1 :: rest) res) : cr_P Γ E nL Φ kc ks S pc lv (rest) res := by
  obtain ⟨p, l, e, R, s, m, args, below, meth, c⟩ := Γ
  obtain ⟨hx, hb, -⟩ := X
  intro Q a h1 h2 H locs ls hW hS hls
  exact lv_fconst1 hx hb hdg (kk Q a h1 h2 H locs ls hW hS hls)

theorem cr_fconst2 (X : cr_X Γ E cc nL own Ts rm rt) (hdg : decode cc pc = .ok (.fconst 2, 1)) (kk : cr_P Γ E nL Φ kc ks S (pc + 1) lv (.float FP.fconst2 :: rest) res) : cr_P Γ E nL Φ kc ks S pc lv (rest) res := by
  obtain ⟨p, l, e, R, s, m, args, below, meth, c⟩ := Γ
  obtain ⟨hx, hb, -⟩ := X
  intro Q a h1 h2 H locs ls hW hS hls
  exact lv_fconst2 hx hb hdg (kk Q a h1 h2 H locs ls hW hS hls)

theorem cr_dconst0 (X : cr_X Γ E cc nL own Ts rm rt) (hdg : decode cc pc = .ok (.dconst 0, 1)) (kk : cr_P Γ E nL Φ kc ks S (pc + 1) lv (.double FP.dconst0 :: rest) res) : cr_P Γ E nL Φ kc ks S pc lv (rest) res := by
  obtain ⟨p, l, e, R, s, m, args, below, meth, c⟩ := Γ
  obtain ⟨hx, hb, -⟩ := X
  intro Q a h1 h2 H locs ls hW hS hls
  exact lv_dconst0 hx hb hdg (kk Q a h1 h2 H locs ls hW hS hls)

theorem cr_dconst1 (X : cr_X Γ E cc nL own Ts rm rt) (hdg : decode cc pc = .ok (.dconst 1, 1)) (kk : cr_P Γ E nL Φ kc ks S (pc + 1) lv (.double FP.dconst1 :: rest) res) : cr_P Γ E nL Φ kc ks S pc lv (rest) res := by
  obtain ⟨p, l, e, R, s, m, args, below, meth, c⟩ := Γ
  obtain ⟨hx, hb, -⟩ := X
  intro Q a h1 h2 H locs ls hW hS hls
  exact lv_dconst1 hx hb hdg (kk Q a h1 h2 H locs ls hW hS hls)

theorem cr_dup (X : cr_X Γ E cc nL own Ts rm rt) {va : Value} (hva : va.category = 1) (hdg : decode cc pc = .ok (.dup, 1)) (kk : cr_P Γ E nL Φ kc ks S (pc + 1) lv (va :: va :: rest) res) : cr_P Γ E nL Φ kc ks S pc lv (va :: rest) res := by
  obtain ⟨p, l, e, R, s, m, args, below, meth, c⟩ := Γ
  obtain ⟨hx, hb, -⟩ := X
  intro Q a h1 h2 H locs ls hW hS hls
  exact lv_dup hx hb hdg hva (kk Q a h1 h2 H locs ls hW hS hls)

theorem cr_pop (X : cr_X Γ E cc nL own Ts rm rt) {va : Value} (hva : va.category = 1) (hdg : decode cc pc = .ok (.pop, 1)) (kk : cr_P Γ E nL Φ kc ks S (pc + 1) lv (rest) res) : cr_P Γ E nL Φ kc ks S pc lv (va :: rest) res := by
  obtain ⟨p, l, e, R, s, m, args, below, meth, c⟩ := Γ
  obtain ⟨hx, hb, -⟩ := X
  intro Q a h1 h2 H locs ls hW hS hls
  exact lv_pop hx hb hdg hva (kk Q a h1 h2 H locs ls hW hS hls)

theorem cr_dup2 (X : cr_X Γ E cc nL own Ts rm rt) {va vb : Value} (hva : va.category = 1) (hvb : vb.category = 1) (hdg : decode cc pc = .ok (.dup2, 1)) (kk : cr_P Γ E nL Φ kc ks S (pc + 1) lv (va :: vb :: va :: vb :: rest) res) : cr_P Γ E nL Φ kc ks S pc lv (va :: vb :: rest) res := by
  obtain ⟨p, l, e, R, s, m, args, below, meth, c⟩ := Γ
  obtain ⟨hx, hb, -⟩ := X
  intro Q a h1 h2 H locs ls hW hS hls
  exact lv_dup2_11 hx hb hdg hva hvb (kk Q a h1 h2 H locs ls hW hS hls)

theorem cr_if_eq (X : cr_X Γ E cc nL own Ts rm rt) {x : Int32} {off : Int} (tgt : Nat) {r1 r2 : Option α} (hdg : decode cc pc = .ok (.ifCond .eq off, 3)) (ht : (pc : Int) + off = (tgt : Int)) (k1 : cr_P Γ E nL Φ kc ks S tgt lv (rest) r1) (k2 : cr_P Γ E nL Φ kc ks S (pc + 3) lv (rest) r2) : cr_P Γ E nL Φ kc ks S pc lv (.int x :: rest) (if x = 0 then r1 else r2) := by
  obtain ⟨p, l, e, R, s, m, args, below, meth, c⟩ := Γ
  obtain ⟨hx, hb, -⟩ := X
  intro Q a h1 h2 H locs ls hW hS hls
  by_cases hc : x = 0
  · rw [if_pos hc] at h1
    exact lv_if_eq hx hb hdg ht (fun _ => k1 Q a h1 h2 H locs ls hW hS hls) (fun h => absurd hc h)
  · rw [if_neg hc] at h1
    exact lv_if_eq hx hb hdg ht (fun h => absurd h hc) (fun _ => k2 Q a h1 h2 H locs ls hW hS hls)

theorem cr_ifb_eq (X : cr_X Γ E cc nL own Ts rm rt) {b : Bool} {off : Int} (tgt : Nat) {r1 r2 : Option α} (hdg : decode cc pc = .ok (.ifCond .eq off, 3)) (ht : (pc : Int) + off = (tgt : Int)) (k1 : cr_P Γ E nL Φ kc ks S tgt lv (rest) r1) (k2 : cr_P Γ E nL Φ kc ks S (pc + 3) lv (rest) r2) : cr_P Γ E nL Φ kc ks S pc lv (.int (cr_b b) :: rest) (if b = true then r2 else r1) := by
  obtain ⟨p, l, e, R, s, m, args, below, meth, c⟩ := Γ
  obtain ⟨hx, hb, -⟩ := X
  intro Q a h1 h2 H locs ls hW hS hls
  cases b with
  | true => exact lv_if_eq hx hb hdg ht (fun h => absurd h (by decide)) (fun h => k2 Q a h1 h2 H locs ls hW hS hls)
  | false => exact lv_if_eq hx hb hdg ht (fun h => k1 Q a h1 h2 H locs ls hW hS hls) (fun h => absurd rfl h)

theorem cr_icmp_eq (X : cr_X Γ E cc nL own Ts rm rt) {x y : Int32} {off : Int} (tgt : Nat) {r1 r2 : Option α} (hdg : decode cc pc = .ok (.if_icmp .eq off, 3)) (ht : (pc : Int) + off = (tgt : Int)) (k1 : cr_P Γ E nL Φ kc ks S tgt lv (rest) r1) (k2 : cr_P Γ E nL Φ kc ks S (pc + 3) lv (rest) r2) : cr_P Γ E nL Φ kc ks S pc lv (.int y :: .int x :: rest) (if x = y then r1 else r2) := by
  obtain ⟨p, l, e, R, s, m, args, below, meth, c⟩ := Γ
  obtain ⟨hx, hb, -⟩ := X
  intro Q a h1 h2 H locs ls hW hS hls
  by_cases hc : x = y
  · rw [if_pos hc] at h1
    exact lv_icmp_eq hx hb hdg ht (fun _ => k1 Q a h1 h2 H locs ls hW hS hls) (fun h => absurd hc h)
  · rw [if_neg hc] at h1
    exact lv_icmp_eq hx hb hdg ht (fun h => absurd h hc) (fun _ => k2 Q a h1 h2 H locs ls hW hS hls)

theorem cr_if_ne (X : cr_X Γ E cc nL own Ts rm rt) {x : Int32} {off : Int} (tgt : Nat) {r1 r2 : Option α} (hdg : decode cc pc = .ok (.ifCond .ne off, 3)) (ht : (pc : Int) + off = (tgt : Int)) (k1 : cr_P Γ E nL Φ kc ks S tgt lv (rest) r1) (k2 : cr_P Γ E nL Φ kc ks S (pc + 3) lv (rest) r2) : cr_P Γ E nL Φ kc ks S pc lv (.int x :: rest) (if x = 0 then r2 else r1) := by
  obtain ⟨p, l, e, R, s, m, args, below, meth, c⟩ := Γ
  obtain ⟨hx, hb, -⟩ := X
  intro Q a h1 h2 H locs ls hW hS hls
  by_cases hc : x = 0
  · rw [if_pos hc] at h1
    exact lv_if_ne hx hb hdg ht (fun h => absurd hc h) (fun _ => k2 Q a h1 h2 H locs ls hW hS hls)
  · rw [if_neg hc] at h1
    exact lv_if_ne hx hb hdg ht (fun _ => k1 Q a h1 h2 H locs ls hW hS hls) (fun h => absurd h hc)

theorem cr_ifb_ne (X : cr_X Γ E cc nL own Ts rm rt) {b : Bool} {off : Int} (tgt : Nat) {r1 r2 : Option α} (hdg : decode cc pc = .ok (.ifCond .ne off, 3)) (ht : (pc : Int) + off = (tgt : Int)) (k1 : cr_P Γ E nL Φ kc ks S tgt lv (rest) r1) (k2 : cr_P Γ E nL Φ kc ks S (pc + 3) lv (rest) r2) : cr_P Γ E nL Φ kc ks S pc lv (.int (cr_b b) :: rest) (if b = true then r1 else r2) := by
  obtain ⟨p, l, e, R, s, m, args, below, meth, c⟩ := Γ
  obtain ⟨hx, hb, -⟩ := X
  intro Q a h1 h2 H locs ls hW hS hls
  cases b with
  | true => exact lv_if_ne hx hb hdg ht (fun h => k1 Q a h1 h2 H locs ls hW hS hls) (fun h => absurd h (by decide))
  | false => exact lv_if_ne hx hb hdg ht (fun h => absurd rfl h) (fun h => k2 Q a h1 h2 H locs ls hW hS hls)

theorem cr_icmp_ne (X : cr_X Γ E cc nL own Ts rm rt) {x y : Int32} {off : Int} (tgt : Nat) {r1 r2 : Option α} (hdg : decode cc pc = .ok (.if_icmp .ne off, 3)) (ht : (pc : Int) + off = (tgt : Int)) (k1 : cr_P Γ E nL Φ kc ks S tgt lv (rest) r1) (k2 : cr_P Γ E nL Φ kc ks S (pc + 3) lv (rest) r2) : cr_P Γ E nL Φ kc ks S pc lv (.int y :: .int x :: rest) (if x = y then r2 else r1) := by
  obtain ⟨p, l, e, R, s, m, args, below, meth, c⟩ := Γ
  obtain ⟨hx, hb, -⟩ := X
  intro Q a h1 h2 H locs ls hW hS hls
  by_cases hc : x = y
  · rw [if_pos hc] at h1
    exact lv_icmp_ne hx hb hdg ht (fun h => absurd hc h) (fun _ => k2 Q a h1 h2 H locs ls hW hS hls)
  · rw [if_neg hc] at h1
    exact lv_icmp_ne hx hb hdg ht (fun _ => k1 Q a h1 h2 H locs ls hW hS hls) (fun h => absurd h hc)

theorem cr_if_lt (X : cr_X Γ E cc nL own Ts rm rt) {x : Int32} {off : Int} (tgt : Nat) {r1 r2 : Option α} (hdg : decode cc pc = .ok (.ifCond .lt off, 3)) (ht : (pc : Int) + off = (tgt : Int)) (k1 : cr_P Γ E nL Φ kc ks S tgt lv (rest) r1) (k2 : cr_P Γ E nL Φ kc ks S (pc + 3) lv (rest) r2) : cr_P Γ E nL Φ kc ks S pc lv (.int x :: rest) (if x < 0 then r1 else r2) := by
  obtain ⟨p, l, e, R, s, m, args, below, meth, c⟩ := Γ
  obtain ⟨hx, hb, -⟩ := X
  intro Q a h1 h2 H locs ls hW hS hls
  by_cases hc : x < 0
  · rw [if_pos hc] at h1
    exact lv_if_lt hx hb hdg ht (fun _ => k1 Q a h1 h2 H locs ls hW hS hls) (fun h => absurd hc h)
  · rw [if_neg hc] at h1
    exact lv_if_lt hx hb hdg ht (fun h => absurd h hc) (fun _ => k2 Q a h1 h2 H locs ls hW hS hls)

theorem cr_icmp_lt (X : cr_X Γ E cc nL own Ts rm rt) {x y : Int32} {off : Int} (tgt : Nat) {r1 r2 : Option α} (hdg : decode cc pc = .ok (.if_icmp .lt off, 3)) (ht : (pc : Int) + off = (tgt : Int)) (k1 : cr_P Γ E nL Φ kc ks S tgt lv (rest) r1) (k2 : cr_P Γ E nL Φ kc ks S (pc + 3) lv (rest) r2) : cr_P Γ E nL Φ kc ks S pc lv (.int y :: .int x :: rest) (if x < y then r1 else r2) := by
  obtain ⟨p, l, e, R, s, m, args, below, meth, c⟩ := Γ
  obtain ⟨hx, hb, -⟩ := X
  intro Q a h1 h2 H locs ls hW hS hls
  by_cases hc : x < y
  · rw [if_pos hc] at h1
    exact lv_icmp_lt hx hb hdg ht (fun _ => k1 Q a h1 h2 H locs ls hW hS hls) (fun h => absurd hc h)
  · rw [if_neg hc] at h1
    exact lv_icmp_lt hx hb hdg ht (fun h => absurd h hc) (fun _ => k2 Q a h1 h2 H locs ls hW hS hls)

theorem cr_if_ge (X : cr_X Γ E cc nL own Ts rm rt) {x : Int32} {off : Int} (tgt : Nat) {r1 r2 : Option α} (hdg : decode cc pc = .ok (.ifCond .ge off, 3)) (ht : (pc : Int) + off = (tgt : Int)) (k1 : cr_P Γ E nL Φ kc ks S tgt lv (rest) r1) (k2 : cr_P Γ E nL Φ kc ks S (pc + 3) lv (rest) r2) : cr_P Γ E nL Φ kc ks S pc lv (.int x :: rest) (if 0 ≤ x then r1 else r2) := by
  obtain ⟨p, l, e, R, s, m, args, below, meth, c⟩ := Γ
  obtain ⟨hx, hb, -⟩ := X
  intro Q a h1 h2 H locs ls hW hS hls
  by_cases hc : 0 ≤ x
  · rw [if_pos hc] at h1
    exact lv_if_ge hx hb hdg ht (fun _ => k1 Q a h1 h2 H locs ls hW hS hls) (fun h => absurd hc h)
  · rw [if_neg hc] at h1
    exact lv_if_ge hx hb hdg ht (fun h => absurd h hc) (fun _ => k2 Q a h1 h2 H locs ls hW hS hls)

theorem cr_icmp_ge (X : cr_X Γ E cc nL own Ts rm rt) {x y : Int32} {off : Int} (tgt : Nat) {r1 r2 : Option α} (hdg : decode cc pc = .ok (.if_icmp .ge off, 3)) (ht : (pc : Int) + off = (tgt : Int)) (k1 : cr_P Γ E nL Φ kc ks S tgt lv (rest) r1) (k2 : cr_P Γ E nL Φ kc ks S (pc + 3) lv (rest) r2) : cr_P Γ E nL Φ kc ks S pc lv (.int y :: .int x :: rest) (if y ≤ x then r1 else r2) := by
  obtain ⟨p, l, e, R, s, m, args, below, meth, c⟩ := Γ
  obtain ⟨hx, hb, -⟩ := X
  intro Q a h1 h2 H locs ls hW hS hls
  by_cases hc : y ≤ x
  · rw [if_pos hc] at h1
    exact lv_icmp_ge hx hb hdg ht (fun _ => k1 Q a h1 h2 H locs ls hW hS hls) (fun h => absurd hc h)
  · rw [if_neg hc] at h1
    exact lv_icmp_ge hx hb hdg ht (fun h => absurd h hc) (fun _ => k2 Q a h1 h2 H locs ls hW hS hls)

theorem cr_if_gt (X : cr_X Γ E cc nL own Ts rm rt) {x : Int32} {off : Int} (tgt : Nat) {r1 r2 : Option α} (hdg : decode cc pc = .ok (.ifCond .gt off, 3)) (ht : (pc : Int) + off = (tgt : Int)) (k1 : cr_P Γ E nL Φ kc ks S tgt lv (rest) r1) (k2 : cr_P Γ E nL Φ kc ks S (pc + 3) lv (rest) r2) : cr_P Γ E nL Φ kc ks S pc lv (.int x :: rest) (if 0 < x then r1 else r2) := by
  obtain ⟨p, l, e, R, s, m, args, below, meth, c⟩ := Γ
  obtain ⟨hx, hb, -⟩ := X
  intro Q a h1 h2 H locs ls hW hS hls
  by_cases hc : 0 < x
  · rw [if_pos hc] at h1
    exact lv_if_gt hx hb hdg ht (fun _ => k1 Q a h1 h2 H locs ls hW hS hls) (fun h => absurd hc h)
  · rw [if_neg hc] at h1
    exact lv_if_gt hx hb hdg ht (fun h => absurd h hc) (fun _ => k2 Q a h1 h2 H locs ls hW hS hls)

theorem cr_icmp_gt (X : cr_X Γ E cc nL own Ts rm rt) {x y : Int32} {off : Int} (tgt : Nat) {r1 r2 : Option α} (hdg : decode cc pc = .ok (.if_icmp .gt off, 3)) (ht : (pc : Int) + off = (tgt : Int)) (k1 : cr_P Γ E nL Φ kc ks S tgt lv (rest) r1) (k2 : cr_P Γ E nL Φ kc ks S (pc + 3) lv (rest) r2) : cr_P Γ E nL Φ kc ks S pc lv (.int y :: .int x :: rest) (if y < x then r1 else r2) := by
  obtain ⟨p, l, e, R, s, m, args, below, meth, c⟩ := Γ
  obtain ⟨hx, hb, -⟩ := X
  intro Q a h1 h2 H locs ls hW hS hls
  by_cases hc : y < x
  · rw [if_pos hc] at h1
    exact lv_icmp_gt hx hb hdg ht (fun _ => k1 Q a h1 h2 H locs ls hW hS hls) (fun h => absurd hc h)
  · rw [if_neg hc] at h1
    exact lv_icmp_gt hx hb hdg ht (fun h => absurd h hc) (fun _ => k2 Q a h1 h2 H locs ls hW hS hls)

theorem cr_if_le (X : cr_X Γ E cc nL own Ts rm rt) {x : Int32} {off : Int} (tgt : Nat) {r1 r2 : Option α} (hdg : decode cc pc = .ok (.ifCond .le off, 3)) (ht : (pc : Int) + off = (tgt : Int)) (k1 : cr_P Γ E nL Φ kc ks S tgt lv (rest) r1) (k2 : cr_P Γ E nL Φ kc ks S (pc + 3) lv (rest) r2) : cr_P Γ E nL Φ kc ks S pc lv (.int x :: rest) (if x ≤ 0 then r1 else r2) := by
  obtain ⟨p, l, e, R, s, m, args, below, meth, c⟩ := Γ
  obtain ⟨hx, hb, -⟩ := X
  intro Q a h1 h2 H locs ls hW hS hls
  by_cases hc : x ≤ 0
  · rw [if_pos hc] at h1
    exact lv_if_le hx hb hdg ht (fun _ => k1 Q a h1 h2 H locs ls hW hS hls) (fun h => absurd hc h)
  · rw [if_neg hc] at h1
    exact lv_if_le hx hb hdg ht (fun h => absurd h hc) (fun _ => k2 Q a h1 h2 H locs ls hW hS hls)

theorem cr_icmp_le (X : cr_X Γ E cc nL own Ts rm rt) {x y : Int32} {off : Int} (tgt : Nat) {r1 r2 : Option α} (hdg : decode cc pc = .ok (.if_icmp .le off, 3)) (ht : (pc : Int) + off = (tgt : Int)) (k1 : cr_P Γ E nL Φ kc ks S tgt lv (rest) r1) (k2 : cr_P Γ E nL Φ kc ks S (pc + 3) lv (rest) r2) : cr_P Γ E nL Φ kc ks S pc lv (.int y :: .int x :: rest) (if x ≤ y then r1 else r2) := by
  obtain ⟨p, l, e, R, s, m, args, below, meth, c⟩ := Γ
  obtain ⟨hx, hb, -⟩ := X
  intro Q a h1 h2 H locs ls hW hS hls
  by_cases hc : x ≤ y
  · rw [if_pos hc] at h1
    exact lv_icmp_le hx hb hdg ht (fun _ => k1 Q a h1 h2 H locs ls hW hS hls) (fun h => absurd hc h)
  · rw [if_neg hc] at h1
    exact lv_icmp_le hx hb hdg ht (fun h => absurd h hc) (fun _ => k2 Q a h1 h2 H locs ls hW hS hls)

theorem cr_goto (X : cr_X Γ E cc nL own Ts rm rt) {off : Int} (tgt : Nat) (hdg : decode cc pc = .ok (.goto off, 3)) (ht : (pc : Int) + off = (tgt : Int)) (kk : cr_P Γ E nL Φ kc ks S tgt lv (rest) res) : cr_P Γ E nL Φ kc ks S pc lv (rest) res := by
  obtain ⟨p, l, e, R, s, m, args, below, meth, c⟩ := Γ
  obtain ⟨hx, hb, -⟩ := X
  intro Q a h1 h2 H locs ls hW hS hls
  exact lv_goto hx hb hdg ht (kk Q a h1 h2 H locs ls hW hS hls)
theorem cr_tin (X : cr_X Γ E cc nL own Ts rm rt) {dflt lo hi : Int} {offs : Array Int} {len : Nat} {x : Int32} (v : Int32) {off : Int} (tgt : Nat) (hv : x = v) (hdg : decode cc pc = .ok (.tableswitch dflt lo hi offs, len)) (h12 : ¬ v.toInt < lo ∧ ¬ hi < v.toInt) (ho : offs[(v.toInt - lo).toNat]? = some off) (ht : (pc : Int) + off = (tgt : Int)) (kk : cr_P Γ E nL Φ kc ks S tgt lv (rest) res) : cr_P Γ E nL Φ kc ks S pc lv (.int x :: rest) res := by
  obtain ⟨p, l, e, R, s, m, args, below, meth, c⟩ := Γ
  obtain ⟨hx, hb, -⟩ := X
  intro Q a h1 h2 H locs ls hW hS hls
  subst hv
  exact lv_tableIn hx hb hdg h12.1 h12.2 ho ht (kk Q a h1 h2 H locs ls hW hS hls)
theorem cr_tout (X : cr_X Γ E cc nL own Ts rm rt) {dflt lo hi : Int} {offs : Array Int} {len : Nat} {x : Int32} (tgt : Nat) (hdg : decode cc pc = .ok (.tableswitch dflt lo hi offs, len)) (h12 : x.toInt < lo ∨ hi < x.toInt) (ht : (pc : Int) + dflt = (tgt : Int)) (kk : cr_P Γ E nL Φ kc ks S tgt lv (rest) res) : cr_P Γ E nL Φ kc ks S pc lv (.int x :: rest) res := by
  obtain ⟨p, l, e, R, s, m, args, below, meth, c⟩ := Γ
  obtain ⟨hx, hb, -⟩ := X
  intro Q a h1 h2 H locs ls hW hS hls
  exact lv_tableOut hx hb hdg h12 ht (kk Q a h1 h2 H locs ls hW hS hls)

theorem cr_iald (X : cr_X Γ E cc nL own Ts rm rt) {f j n : Nat} {h : Nat → Int32} {i : Int32} (ha : cr_at E S f j (.inl (E.2.2.2 0, n, .inl h))) (hdg : decode cc pc = .ok (.iaload, 1)) (kk : cr_P Γ E nL Φ kc ks S (pc + 1) lv (.int (h i.toNatClampNeg) :: rest) res) : cr_P Γ E nL Φ kc ks S pc lv (.int i :: .ref (E.2.1 f j) :: rest) (cr_gd (cr_in i n) res) := by
  refine cr_gdi (fun hg => ?_)
  have hg : vp_in i n := (show ¬ (i < 0 ∨ n ≤ i.toNatClampNeg) from of_decide_eq_true hg)
  obtain ⟨p, l, e, R, s, m, args, below, meth, c⟩ := Γ
  obtain ⟨hx, hb, hml, hown, hts, hK, -⟩ := X
  intro Q a h1 h2 H locs ls hW hS hls
  have hc := hW f j ha.1
  rw [ha.2] at hc
  exact va_iald (ws := [(E.2.1 f j, .inl (E.2.2.2 0, n, .inl h))]) hx hb hK (fun k q hq => by
    cases k with
    | zero => cases hq; exact hc
    | succ k => cases hq) 0 0 rfl rfl hg hdg (kk Q a h1 h2 H locs ls hW hS hls)
theorem cr_aald (X : cr_X Γ E cc nL own Ts rm rt) {f j n : Nat} {h : Nat → Nat} {i : Int32} (q0 : Nat) {C : String} {cA : ClassId} (hty : (cr_tys E)[q0]? = some (cA, .object C)) {kf : Nat → Option α} (ha : cr_at E S f j (.inl (cA, n, .inr (.inr (.inr (.inr (fun t => some (h t)))))))) (hdg : decode cc pc = .ok (.aaload, 1)) (kk : ∀ t, t < n → cr_P Γ E nL Φ kc ks S (pc + 1) lv (.ref (h t) :: rest) (kf t)) : cr_P Γ E nL Φ kc ks S pc lv (.int i :: .ref (E.2.1 f j) :: rest) (cr_gd (cr_in i n) (cr_bd i.toNatClampNeg kf)) := by
  refine cr_gdi (fun hg => ?_)
  have hg : vp_in i n := (show ¬ (i < 0 ∨ n ≤ i.toNatClampNeg) from of_decide_eq_true hg)
  obtain ⟨p, l, e, R, s, m, args, below, meth, c⟩ := Γ
  obtain ⟨hx, hb, hml, hown, hts, hK, -⟩ := X
  intro Q a h1 h2 H locs ls hW hS hls
  have hc := hW f j ha.1
  rw [ha.2] at hc
  have hin := hg
  exact va_aldq (ws := [(E.2.1 f j, .inl (cA, n, .inr (.inr (.inr (.inr (fun t => some (h t)))))))]) hx hb hK (fun k q hq => by
    cases k with
    | zero => cases hq; exact hc
    | succ k => cases hq) 0 q0 rfl hty hin hdg (kk i.toNatClampNeg (Nat.not_le.mp fun q => hin (Or.inr q)) Q a h1 h2 H locs ls hW hS hls)
theorem cr_lald (X : cr_X Γ E cc nL own Ts rm rt) {f j n : Nat} {h : Nat → Int64} {i : Int32} (ha : cr_at E S f j (.inl (E.2.2.2 1, n, .inr (.inl h)))) (hdg : decode cc pc = .ok (.laload, 1)) (kk : cr_P Γ E nL Φ kc ks S (pc + 1) lv (.long (h i.toNatClampNeg) :: rest) res) : cr_P Γ E nL Φ kc ks S pc lv (.int i :: .ref (E.2.1 f j) :: rest) (cr_gd (cr_in i n) res) := by
  refine cr_gdi (fun hg => ?_)
  have hg : vp_in i n := (show ¬ (i < 0 ∨ n ≤ i.toNatClampNeg) from of_decide_eq_true hg)
  obtain ⟨p, l, e, R, s, m, args, below, meth, c⟩ := Γ
  obtain ⟨hx, hb, hml, hown, hts, hK, -⟩ := X
  intro Q a h1 h2 H locs ls hW hS hls
  have hc := hW f j ha.1
  rw [ha.2] at hc
  exact va_lald (ws := [(E.2.1 f j, .inl (E.2.2.2 1, n, .inr (.inl h)))]) hx hb hK (fun k q hq => by
    cases k with
    | zero => cases hq; exact hc
    | succ k => cases hq) 0 1 rfl rfl hg hdg (kk Q a h1 h2 H locs ls hW hS hls)
theorem cr_get (X : cr_X Γ E cc nL own Ts rm rt) {f j ci : Nat} {fs : List Value} (ha : cr_at E S f j (.inr (ci, fs))) {C : String} {T : u_T} {N : Nat} (hc : vwCl[ci]? = some (C, T, N)) (hin : ∀ w ∈ u_ws C T N, w ∈ Ts) (k : Nat) (hk : k < N) {index : Nat} (hlink : Cond.fieldLink own index (T k).1 (T k).2.1 (T k).2.2.1 ∈ Ts) {v : Value} (hv : fs[k]? = some v) (hdg : decode cc pc = .ok (.getfield index, 3)) (kk : cr_P Γ E nL Φ kc ks S (pc + 3) lv (v :: rest) res) : cr_P Γ E nL Φ kc ks S pc lv (.ref (E.2.1 f j) :: rest) res := by
  obtain ⟨p, l, e, R, s, m, args, below, meth, c⟩ := Γ
  obtain ⟨hx, hb, hml, hown, hts, hK, -⟩ := X
  intro Q a h1 h2 H locs ls hW hS hls
  have hcl := hW f j ha.1
  rw [ha.2] at hcl
  exact va_get (ws := [(E.2.1 f j, .inr (ci, fs))]) hx hb hts hin hown hK (fun k q hq => by
    cases k with
    | zero => cases hq; exact hcl
    | succ k => cases hq) 0 rfl hc k hk (hts _ hlink) (fun _ h9 => h9) hv hdg (kk Q a h1 h2 H locs ls hW hS hls)

def cr_ids : List (Nat × Nat) := (List.range 8).flatMap (fun f => (List.range 25).map (fun j => (f, j))) ++ [(8, 0), (8, 1), (8, 2), (8, 3), (9, 0), (9, 1), (9, 2), (9, 3), (9, 4), (9, 5), (9, 6), (10, 0)]
def cr_ws (E : cr_E) (S : cr_S) : va_W := cr_ids.map (fun q => (E.2.1 q.1 q.2, cr_wc E S q.1 q.2))
theorem cr_ids_nd : cr_ids.Nodup := by decide +kernel
theorem cr_ids_in : ∀ q ∈ cr_ids, cr_lv q.1 q.2 := by
  have h : cr_ids.all (fun q => decide ((q.1 < 8 ∧ q.2 < 25) ∨ (q.1 = 8 ∧ q.2 < 4) ∨ (q.1 = 9 ∧ q.2 < 7) ∨ (q.1 = 10 ∧ q.2 = 0))) = true := by decide +kernel
  intro q hq
  have h9 := List.all_eq_true.mp h q hq
  simp only [decide_eq_true_eq] at h9
  exact h9
theorem cr_ids_mem {f j : Nat} (h : cr_lv f j) : (f, j) ∈ cr_ids := by
  have h1 : ∀ f, f < 8 → ∀ j, j < 25 → (f, j) ∈ cr_ids := by decide +kernel
  have h2 : ∀ j, j < 4 → (8, j) ∈ cr_ids := by decide +kernel
  have h3 : ∀ j, j < 7 → (9, j) ∈ cr_ids := by decide +kernel
  have h4 : (10, 0) ∈ cr_ids := by decide +kernel
  rcases h with ⟨a, b⟩ | ⟨rfl, b⟩ | ⟨rfl, b⟩ | ⟨rfl, rfl⟩
  · exact h1 f a j b
  · exact h2 j b
  · exact h3 j b
  · exact h4
theorem cr_ids_at {f j : Nat} (h : cr_lv f j) : ∃ k : Nat, cr_ids[k]? = some (f, j) := List.getElem?_of_mem (cr_ids_mem h)
theorem cr_ws_at {E : cr_E} {S : cr_S} {f j k : Nat} {e : va_E} (hk : cr_ids[k]? = some (f, j)) (he : cr_wc E S f j = e) : (cr_ws E S)[k]? = some (E.2.1 f j, e) := by
  subst he
  simp [cr_ws, hk]
theorem cr_WH.P {E : cr_E} {S : cr_S} {H : Heap} (h : cr_WH E S H) : va_P E.1 vwCl (cr_ws E S) H := by
  intro k q hk
  simp only [cr_ws, List.getElem?_map, Option.map_eq_some_iff] at hk
  obtain ⟨⟨f, j⟩, h1, rfl⟩ := hk
  exact h f j (cr_ids_in _ (List.mem_of_getElem? h1))
theorem cr_WH.of {E : cr_E} {S : cr_S} {H : Heap} (h : va_P E.1 vwCl (cr_ws E S) H) : cr_WH E S H := by
  intro f j hl
  obtain ⟨k, hk⟩ := cr_ids_at hl
  exact h k _ (cr_ws_at hk rfl)
theorem cr_EK.D {E : cr_E} (h : cr_EK E) (S : cr_S) : va_D E.2.2.1 (cr_ws E S) := by
  refine ⟨fun i j p q hi hj e => ?_, fun k q hk => ?_⟩
  · simp only [cr_ws, List.getElem?_map, Option.map_eq_some_iff] at hi hj
    obtain ⟨⟨f, a⟩, h1, rfl⟩ := hi
    obtain ⟨⟨g, b⟩, h2, rfl⟩ := hj
    obtain ⟨rfl, rfl⟩ := h.1 f a g b (cr_ids_in _ (List.mem_of_getElem? h1)) (cr_ids_in _ (List.mem_of_getElem? h2)) e
    exact (List.getElem?_inj (List.getElem?_eq_some_iff.mp h1).1 cr_ids_nd).mp (h1.trans h2.symm)
  · simp only [cr_ws, List.getElem?_map, Option.map_eq_some_iff] at hk
    obtain ⟨⟨f, a⟩, h1, rfl⟩ := hk
    exact h.2 f a (cr_ids_in _ (List.mem_of_getElem? h1))
theorem cr_ws_set {E : cr_E} {S S' : cr_S} {f j k : Nat} {e : va_E} (hk : cr_ids[k]? = some (f, j)) (he : cr_wc E S' f j = e) (ho : ∀ f' j', ¬ (f' = f ∧ j' = j) → cr_lv f' j' → cr_wc E S' f' j' = cr_wc E S f' j') : (cr_ws E S).set k (E.2.1 f j, e) = cr_ws E S' := by
  refine List.ext_getElem? (fun i => ?_)
  rw [List.getElem?_set]
  by_cases hi : k = i
  · subst hi
    have hlt : k < (cr_ws E S).length := by
      have := (List.getElem?_eq_some_iff.mp hk).1
      simpa [cr_ws] using this
    rw [if_pos rfl, if_pos hlt, cr_ws_at hk he]
  · rw [if_neg hi]
    simp only [cr_ws, List.getElem?_map]
    cases hq : cr_ids[i]? with
    | none => rfl
    | some q =>
      have hne : ¬ (q.1 = f ∧ q.2 = j) := by
        rintro ⟨rfl, rfl⟩
        exact hi ((List.getElem?_inj (List.getElem?_eq_some_iff.mp hk).1 cr_ids_nd).mp (hk.trans hq.symm))
      simp only [Option.map_some]
      rw [ho q.1 q.2 hne (cr_ids_in _ (List.mem_of_getElem? hq))]
theorem cr_iast0 (X : cr_X Γ E cc nL own Ts rm rt) (S' : cr_S) {f j n : Nat} {h : Nat → Int32} {i x : Int32} (ha : cr_at E S f j (.inl (E.2.2.2 0, n, .inl h))) (ha' : cr_wc E S' f j = .inl (E.2.2.2 0, n, .inl (upd h i.toNatClampNeg x))) (ho : ∀ f' j', ¬ (f' = f ∧ j' = j) → cr_lv f' j' → cr_wc E S' f' j' = cr_wc E S f' j') (hdg : decode cc pc = .ok (.iastore, 1)) (kk : cr_P Γ E nL Φ kc ks S' (pc + 1) lv (rest) res) : cr_P Γ E nL Φ kc ks S pc lv (.int x :: .int i :: .ref (E.2.1 f j) :: rest) (cr_gd (cr_in i n) res) := by
  refine cr_gdi (fun hg => ?_)
  have hg : vp_in i n := (show ¬ (i < 0 ∨ n ≤ i.toNatClampNeg) from of_decide_eq_true hg)
  obtain ⟨p, l, e, R, s, m, args, below, meth, c⟩ := Γ
  obtain ⟨hx, hb, hml, hown, hts, hK, hEK, -⟩ := X
  intro Q a h1 h2 H locs ls hW hS hls
  obtain ⟨k, hk⟩ := cr_ids_at ha.1
  refine va_iast hx hb hK hW.P (hEK.D S) hS k 0 (cr_ws_at hk ha.2) rfl hg hdg (fun H1 locs1 hP1 _ hS1 => ?_)
  rw [cr_ws_set hk ha' ho] at hP1
  exact kk Q a h1 h2 H1 locs1 ls (cr_WH.of hP1) hS1 hls
theorem cr_last0 (X : cr_X Γ E cc nL own Ts rm rt) (S' : cr_S) {f j n : Nat} {h : Nat → Int64} {i : Int32} {x : Int64} (ha : cr_at E S f j (.inl (E.2.2.2 1, n, .inr (.inl h)))) (ha' : cr_wc E S' f j = .inl (E.2.2.2 1, n, .inr (.inl (vp_updL h i.toNatClampNeg x)))) (ho : ∀ f' j', ¬ (f' = f ∧ j' = j) → cr_lv f' j' → cr_wc E S' f' j' = cr_wc E S f' j') (hdg : decode cc pc = .ok (.lastore, 1)) (kk : cr_P Γ E nL Φ kc ks S' (pc + 1) lv (rest) res) : cr_P Γ E nL Φ kc ks S pc lv (.long x :: .int i :: .ref (E.2.1 f j) :: rest) (cr_gd (cr_in i n) res) := by
  refine cr_gdi (fun hg => ?_)
  have hg : vp_in i n := (show ¬ (i < 0 ∨ n ≤ i.toNatClampNeg) from of_decide_eq_true hg)
  obtain ⟨p, l, e, R, s, m, args, below, meth, c⟩ := Γ
  obtain ⟨hx, hb, hml, hown, hts, hK, hEK, -⟩ := X
  intro Q a h1 h2 H locs ls hW hS hls
  obtain ⟨k, hk⟩ := cr_ids_at ha.1
  refine va_last hx hb hK hW.P (hEK.D S) hS k 1 (cr_ws_at hk ha.2) rfl hg hdg (fun H1 locs1 hP1 _ hS1 => ?_)
  rw [cr_ws_set hk ha' ho] at hP1
  exact kk Q a h1 h2 H1 locs1 ls (cr_WH.of hP1) hS1 hls
theorem cr_put0 (X : cr_X Γ E cc nL own Ts rm rt) (S' : cr_S) {f j ci : Nat} {fs : List Value} (ha : cr_at E S f j (.inr (ci, fs))) {C : String} {T : u_T} {N : Nat} (hc : vwCl[ci]? = some (C, T, N)) (hin : ∀ w ∈ u_ws C T N, w ∈ Ts) (ty0 : Nat → FieldType) (hty : ∀ k, k < N → parseFieldDescriptor (T k).2.2.1 = some (ty0 k)) (hnm : ∀ a, a < N → ∀ b, b < N → a ≠ b → (T a).2.1 ≠ (T b).2.1) (k : Nat) (hk : k < N) {index : Nat} (hlink : Cond.fieldLink own index (T k).1 (T k).2.1 (T k).2.2.1 ∈ Ts) (hfin : (T k).2.2.2 = false) {v : Value} (hn : narrow (ty0 k) v = v) (hfit : fits (ty0 k) v = true) (hl : k < fs.length) (ha' : cr_wc E S' f j = .inr (ci, fs.set k v)) (ho : ∀ f' j', ¬ (f' = f ∧ j' = j) → cr_lv f' j' → cr_wc E S' f' j' = cr_wc E S f' j') (hdg : decode cc pc = .ok (.putfield index, 3)) (kk : cr_P Γ E nL Φ kc ks S' (pc + 3) lv (rest) res) : cr_P Γ E nL Φ kc ks S pc lv (v :: .ref (E.2.1 f j) :: rest) res := by
  obtain ⟨p, l, e, R, s, m, args, below, meth, c⟩ := Γ
  obtain ⟨hx, hb, hml, hown, hts, hK, hEK, -⟩ := X
  intro Q a h1 h2 H locs ls hW hS hls
  obtain ⟨k9, hk9⟩ := cr_ids_at ha.1
  refine va_put hx hb hts hin ty0 hty hnm hown hK hW.P (hEK.D S) hS k9 (cr_ws_at hk9 ha.2) hc k hk (hts _ hlink) (fun _ h9 => h9) hfin (hty k hk) hn hfit hl hdg (fun H1 locs1 hP1 _ hS1 => ?_)
  rw [cr_ws_set hk9 ha' ho] at hP1
  exact kk Q a h1 h2 H1 locs1 ls (cr_WH.of hP1) hS1 hls
theorem cr_acopy0 (X : cr_X Γ E cc nL own Ts rm rt) (S' : cr_S) {f j f2 j2 n0 n1 : Nat} {h0 h1 : Nat → Int32} (ha0 : cr_at E S f2 j2 (.inl (E.2.2.2 0, n0, .inl h0))) (ha : cr_at E S f j (.inl (E.2.2.2 0, n1, .inl h1))) {sp dp n : Int32} (hs : ¬ sp < 0 ∧ ¬ dp < 0 ∧ ¬ n < 0 ∧ sp.toNatClampNeg + n.toNatClampNeg ≤ n0 ∧ dp.toNatClampNeg + n.toNatClampNeg ≤ n1) (ha' : cr_wc E S' f j = .inl (E.2.2.2 0, n1, .inl (va_cpy h0 h1 sp.toNatClampNeg dp.toNatClampNeg n.toNatClampNeg))) (ho : ∀ f' j', ¬ (f' = f ∧ j' = j) → cr_lv f' j' → cr_wc E S' f' j' = cr_wc E S f' j') {index : Nat} (hlink : Cond.methodLink own index arraycopyName ∈ Ts) (hnat : Cond.native arraycopyName ∈ Ts) (hstat : Cond.static arraycopyName ∈ Ts) (hini : Cond.initialized "java/lang/System" ∈ Ts) (hfr : 1 ≤ rm.frames) (hlo : (rest.map fun v => v.category).sum + (nativeFrameWords "java/lang/System" "arraycopy" 5 + 11) ≤ rm.locals) (hdg : decode cc pc = .ok (.invokestatic index, 3)) (kk : cr_P Γ E nL Φ kc ks S' (pc + 3) lv (rest) res) : cr_P Γ E nL Φ kc ks S pc lv (.int n :: .int dp :: .ref (E.2.1 f j) :: .int sp :: .ref (E.2.1 f2 j2) :: rest) res := by
  obtain ⟨p, l, e, R, s, m, args, below, meth, c⟩ := Γ
  obtain ⟨hx, hb, hml, hown, hts, hK, hEK, hSF, hlk, hRm, hrt⟩ := X
  have hRm : R = rm := hRm
  subst hRm
  intro Q a g1 g2 H locs ls hW hS hls
  obtain ⟨k, hk⟩ := cr_ids_at ha.1
  obtain ⟨k0, hk0⟩ := cr_ids_at ha0.1
  refine va_copyi hx hb (hml.trans hls.1.symm) hown (hts _ hlink) (hts _ hnat) (hts _ hstat) (hts _ hini) hK hW.P (hEK.D S) hS k0 k 0 0 (cr_ws_at hk0 ha0.2) (cr_ws_at hk ha.2) rfl rfl rfl hs.1 hs.2.1 hs.2.2.1 hs.2.2.2.1 hs.2.2.2.2 (fun i _ => rfl) hfr hlo hdg (fun H1 locs1 hP1 _ hS1 => ?_)
  rw [cr_ws_set hk ha' ho] at hP1
  exact kk Q a g1 g2 H1 locs1 ls (cr_WH.of hP1) hS1 hls
theorem cr_ialdk (X : cr_X Γ E cc nL own Ts rm rt) {f j n : Nat} {h : Nat → Int32} {i : Int32} (k : Nat) (hk : i.toNatClampNeg = k) (hi : cr_in i n = true) (ha : cr_at E S f j (.inl (E.2.2.2 0, n, .inl h))) (hdg : decode cc pc = .ok (.iaload, 1)) (kk : cr_P Γ E nL Φ kc ks S (pc + 1) lv (.int (h k) :: rest) res) : cr_P Γ E nL Φ kc ks S pc lv (.int i :: .ref (E.2.1 f j) :: rest) res := by
  subst hk
  have h9 := cr_iald X ha (i := i) hdg kk
  rw [hi] at h9
  exact h9
end CR
end
section
section CR2
variable {α : Type} {Γ : cr_C} {E : cr_E} {nL : Nat} {Φ : α → (State → Prop) → Prop} {kc ks : Nat} {S : cr_S} {pc : Nat} {lv : List (Nat × Value)} {rest : List Value} {res : Option α} {cc : ByteArray} {own : String} {Ts : List Cond} {rm : Room} {rt : Option FieldType}
theorem cr_rows (S0 : cr_S) (f : Nat) (G : cr_G) (j : Nat) (h : Nat → Int32) (f' j' : Nat) (hn : ¬ (f' = f ∧ j' = j)) : (cr_us S0 f (cr_pa G j h)).1 f' j' = (cr_us S0 f G).1 f' j' := by
  by_cases hf : f' = f
  · subst hf
    have hj : j' ≠ j := fun e => hn ⟨rfl, e⟩
    rw [cr_us_eq, cr_us_eq]
    simp [cr_pa, hj]
  · rw [cr_us_ne _ _ hf, cr_us_ne _ _ hf]
theorem cr_pa_row (G : cr_G) (j : Nat) (h : Nat → Int32) : cr_pa G j h j = h := by simp [cr_pa]
/-- a point of one group, out of the whole -/
def cr_sp (S : cr_S) (f j i : Nat) (v : Int32) : cr_S := cr_us S f (cr_pt (S.1 f) j i v)
theorem cr_iastG (X : cr_X Γ E cc nL own Ts rm rt) {S0 : cr_S} {f j n : Nat} {G : cr_G} {cf : (Nat → Int64) → (Nat → Int32) → va_E} (ha : cr_ac E f j cf) (he : ∀ q h, cf q h = .inl (E.2.2.2 0, n, .inl h)) {i x : Int32} {kf : cr_G → Option α} (hdg : decode cc pc = .ok (.iastore, 1)) (kk : ∀ G', cr_P Γ E nL Φ kc ks (cr_us S0 f G') (pc + 1) lv rest (kf G')) : cr_P Γ E nL Φ kc ks (cr_us S0 f G) pc lv (.int x :: .int i :: .ref (E.2.1 f j) :: rest) (cr_gd (cr_in i n) (cr_bd (cr_pt G j i.toNatClampNeg x) kf)) :=
  cr_iast0 X (cr_us S0 f (cr_pt G j i.toNatClampNeg x)) (h := G j) (ha.at (cr_row S0 f G j) (he _ _)) (by rw [ha.2, he, cr_row]; unfold cr_pt; rw [cr_pa_row]) (fun f' j' hn _ => cr_wc_congr (cr_rows S0 f G j _ f' j' hn) rfl) hdg (kk _)
theorem cr_iastS (X : cr_X Γ E cc nL own Ts rm rt) {f j n : Nat} {cf : (Nat → Int64) → (Nat → Int32) → va_E} (ha : cr_ac E f j cf) (he : ∀ q h, cf q h = .inl (E.2.2.2 0, n, .inl h)) {i x : Int32} {kf : cr_S → Option α} (hdg : decode cc pc = .ok (.iastore, 1)) (kk : ∀ S', cr_P Γ E nL Φ kc ks S' (pc + 1) lv rest (kf S')) : cr_P Γ E nL Φ kc ks S pc lv (.int x :: .int i :: .ref (E.2.1 f j) :: rest) (cr_gd (cr_in i n) (cr_bd (cr_sp S f j i.toNatClampNeg x) kf)) := by
  have h := cr_iastG (kf := fun G' => kf (cr_us S f G')) X (S0 := S) (G := S.1 f) ha he (i := i) (x := x) hdg (fun G' => kk _)
  rw [cr_us_self] at h
  exact h
theorem cr_putG (X : cr_X Γ E cc nL own Ts rm rt) {S0 : cr_S} {f j ci : Nat} {G : cr_G} {cf : (Nat → Int64) → (Nat → Int32) → va_E} (ha : cr_ac E f j cf) {fs : List Value} {v : Int32} (k : Nat) (he : cf S0.2 (G j) = .inr (ci, fs)) (he' : cf S0.2 (upd (G j) k v) = .inr (ci, fs.set k (.int v))) {C : String} {T : u_T} {N : Nat} (hc : vwCl[ci]? = some (C, T, N)) (hin : ∀ w ∈ u_ws C T N, w ∈ Ts) (ty0 : Nat → FieldType) (hty : ∀ k, k < N → parseFieldDescriptor (T k).2.2.1 = some (ty0 k)) (hnm : ∀ a, a < N → ∀ b, b < N → a ≠ b → (T a).2.1 ≠ (T b).2.1) (hk : k < N) {index : Nat} (hlink : Cond.fieldLink own index (T k).1 (T k).2.1 (T k).2.2.1 ∈ Ts) (hfin : (T k).2.2.2 = false) (hn : narrow (ty0 k) (.int v) = .int v) (hfit : fits (ty0 k) (.int v) = true) (hl : k < fs.length) {kf : cr_G → Option α} (hdg : decode cc pc = .ok (.putfield index, 3)) (kk : ∀ G', cr_P Γ E nL Φ kc ks (cr_us S0 f G') (pc + 3) lv rest (kf G')) : cr_P Γ E nL Φ kc ks (cr_us S0 f G) pc lv (.int v :: .ref (E.2.1 f j) :: rest) (cr_bd (cr_pt G j k v) kf) :=
  cr_put0 X (cr_us S0 f (cr_pt G j k v)) (ha.at (cr_row S0 f G j) he) hc hin ty0 hty hnm k hk hlink hfin hn hfit hl (by rw [ha.2, cr_row]; unfold cr_pt; rw [cr_pa_row]; exact he') (fun f' j' hn _ => cr_wc_congr (cr_rows S0 f G j _ f' j' hn) rfl) hdg (kk _)
theorem cr_putS (X : cr_X Γ E cc nL own Ts rm rt) {f j ci : Nat} {cf : (Nat → Int64) → (Nat → Int32) → va_E} (ha : cr_ac E f j cf) {fs : List Value} {v : Int32} (k : Nat) (he : cf S.2 (S.1 f j) = .inr (ci, fs)) (he' : cf S.2 (upd (S.1 f j) k v) = .inr (ci, fs.set k (.int v))) {C : String} {T : u_T} {N : Nat} (hc : vwCl[ci]? = some (C, T, N)) (hin : ∀ w ∈ u_ws C T N, w ∈ Ts) (ty0 : Nat → FieldType) (hty : ∀ k, k < N → parseFieldDescriptor (T k).2.2.1 = some (ty0 k)) (hnm : ∀ a, a < N → ∀ b, b < N → a ≠ b → (T a).2.1 ≠ (T b).2.1) (hk : k < N) {index : Nat} (hlink : Cond.fieldLink own index (T k).1 (T k).2.1 (T k).2.2.1 ∈ Ts) (hfin : (T k).2.2.2 = false) (hn : narrow (ty0 k) (.int v) = .int v) (hfit : fits (ty0 k) (.int v) = true) (hl : k < fs.length) {kf : cr_S → Option α} (hdg : decode cc pc = .ok (.putfield index, 3)) (kk : ∀ S', cr_P Γ E nL Φ kc ks S' (pc + 3) lv rest (kf S')) : cr_P Γ E nL Φ kc ks S pc lv (.int v :: .ref (E.2.1 f j) :: rest) (cr_bd (cr_sp S f j k v) kf) := by
  have h := cr_putG (kf := fun G' => kf (cr_us S f G')) X (S0 := S) (G := S.1 f) ha k he he' hc hin ty0 hty hnm hk hlink hfin hn hfit hl hdg (fun G' => kk _)
  rw [cr_us_self] at h
  exact h
theorem cr_iastGk (X : cr_X Γ E cc nL own Ts rm rt) {S0 : cr_S} {f j n : Nat} {G : cr_G} {cf : (Nat → Int64) → (Nat → Int32) → va_E} (k : Nat) (ha : cr_ac E f j cf) (he : ∀ q h, cf q h = .inl (E.2.2.2 0, n, .inl h)) {i x : Int32} (hk : i.toNatClampNeg = k) (hi : cr_in i n = true) {kf : cr_G → Option α} (hdg : decode cc pc = .ok (.iastore, 1)) (kk : ∀ G', cr_P Γ E nL Φ kc ks (cr_us S0 f G') (pc + 1) lv rest (kf G')) : cr_P Γ E nL Φ kc ks (cr_us S0 f G) pc lv (.int x :: .int i :: .ref (E.2.1 f j) :: rest) (cr_bd (cr_pt G j k x) kf) := by
  subst hk
  have h9 := cr_iastG (G := G) X ha he (i := i) (x := x) (kf := kf) hdg kk
  rw [hi] at h9
  exact h9
theorem cr_iastSk (X : cr_X Γ E cc nL own Ts rm rt) {f j n : Nat} {cf : (Nat → Int64) → (Nat → Int32) → va_E} (k : Nat) (ha : cr_ac E f j cf) (he : ∀ q h, cf q h = .inl (E.2.2.2 0, n, .inl h)) {i x : Int32} (hk : i.toNatClampNeg = k) (hi : cr_in i n = true) {kf : cr_S → Option α} (hdg : decode cc pc = .ok (.iastore, 1)) (kk : ∀ S', cr_P Γ E nL Φ kc ks S' (pc + 1) lv rest (kf S')) : cr_P Γ E nL Φ kc ks S pc lv (.int x :: .int i :: .ref (E.2.1 f j) :: rest) (cr_bd (cr_sp S f j k x) kf) := by
  subst hk
  have h9 := cr_iastS (S := S) X ha he (i := i) (x := x) (kf := kf) hdg kk
  rw [hi] at h9
  exact h9
theorem cr_acopyG (X : cr_X Γ E cc nL own Ts rm rt) {S0 : cr_S} {f j f2 j2 n0 n1 : Nat} {G : cr_G} {cf cf2 : (Nat → Int64) → (Nat → Int32) → va_E} (h0 : Nat → Int32) (ha0 : cr_at E (cr_us S0 f G) f2 j2 (.inl (E.2.2.2 0, n0, .inl h0))) (ha : cr_ac E f j cf) (he : ∀ q h, cf q h = .inl (E.2.2.2 0, n1, .inl h)) {sp dp n : Int32} (a b c : Nat) (hs : ¬ sp < 0 ∧ ¬ dp < 0 ∧ ¬ n < 0 ∧ sp.toNatClampNeg + n.toNatClampNeg ≤ n0 ∧ dp.toNatClampNeg + n.toNatClampNeg ≤ n1) (hs2 : sp.toNatClampNeg = a ∧ dp.toNatClampNeg = b ∧ n.toNatClampNeg = c) {index : Nat} (hlink : Cond.methodLink own index arraycopyName ∈ Ts) (hnat : Cond.native arraycopyName ∈ Ts) (hstat : Cond.static arraycopyName ∈ Ts) (hini : Cond.initialized "java/lang/System" ∈ Ts) (hfr : 1 ≤ rm.frames) (hlo : (rest.map fun v => v.category).sum + (nativeFrameWords "java/lang/System" "arraycopy" 5 + 11) ≤ rm.locals) {kf : cr_G → Option α} (hdg : decode cc pc = .ok (.invokestatic index, 3)) (kk : ∀ G', cr_P Γ E nL Φ kc ks (cr_us S0 f G') (pc + 3) lv rest (kf G')) : cr_P Γ E nL Φ kc ks (cr_us S0 f G) pc lv (.int n :: .int dp :: .ref (E.2.1 f j) :: .int sp :: .ref (E.2.1 f2 j2) :: rest) (cr_bd (cr_pa G j (va_cpy h0 (G j) a b c)) kf) := by
  obtain ⟨rfl, rfl, rfl⟩ := hs2
  exact cr_acopy0 X (cr_us S0 f (cr_pa G j (va_cpy h0 (G j) sp.toNatClampNeg dp.toNatClampNeg n.toNatClampNeg))) (h1 := G j) ha0 (ha.at (cr_row S0 f G j) (he _ _)) hs (by rw [ha.2, he, cr_row, cr_pa_row]) (fun f' j' hn _ => cr_wc_congr (cr_rows S0 f G j _ f' j' hn) rfl) hlink hnat hstat hini hfr hlo hdg (kk _)
/-- a call that has run -/
theorem cr_went {β : Type} {p : Program} {l : Launch} {e : Env} {R : Room} {s : State} {m : MethodId} {args : Array Value} {below : List Frame} {meth : Method} {c : Code} {H : Heap} {locs : List Loc} {ls : Array Slot} {av : Array Value} {st : List Value} {b : β} {vw : β → Option Value × cr_S} {Q : State → Prop}
    (hr : va_Run p l e R s m args below meth c H locs kc ks 0 0 (F0 m pc ls st) rest (cr_Qc E (fun v S' => v = (vw b).1 ∧ S' = (vw b).2) av) E.2.2.1) (hS : va_S E.2.2.1 s.heap H locs) (hls : lv_has ls nL lv)
    (kk : cr_W (p, l, e, R, s, m, args, below, meth, c) E Q kc ks nL (vw b).2 (pc + 3) lv ((vw b).1.toList ++ rest)) : W p l e R s m args below meth c H locs kc ks Q (F0 m pc ls st) := by
  intro T hT X
  obtain ⟨v, st₀, t, T', L, h0, X', hL, e1, e2, ⟨⟨v', S', hv, ⟨hp1, hp2⟩, hWH⟩, hz, hk⟩, hst⟩ := hr T hT X
  cases hv
  subst hp1; subst hp2
  rw [h0] at hz hk
  have hS' : va_S E.2.2.1 s.heap T'.heap (locs ++ L) := by
    refine ⟨Nat.le_trans hS.1 (by rw [e1]; exact hz), fun q h1 h2 => ?_, fun q hq => ?_⟩
    · rw [e1, hk q (Nat.lt_of_lt_of_le h1 hS.1) h2]; exact hS.2.1 q h1 h2
    · rcases List.mem_append.mp hq with h | h
      · exact hS.2.2 q h
      · exact hL q h
  obtain ⟨t2, a1, b1⟩ := kk T'.heap (locs ++ L) ls (by rw [e1]; exact hWH) hS' hls T' rfl X'
  exact ⟨t2, hst t2 a1, b1⟩
theorem cr_callV {β : Type} (X : cr_X Γ E cc nL own Ts rm rt) {y : MethodName} {ws ws' : List Cond} {bytes : ByteArray} {maxL index f j ci : Nat} {ret : Option FieldType} {rm' : Room} {fs : List Value} {C : String} {T : u_T} {N : Nat} {As st : List Value} {vw : β → Option Value × cr_S} {o : Option β} {kf : β → Option α}
    (hM : cr_M Γ.2.1 E y ws rm' (.ref (E.2.1 f j) :: As) S vw o) (ha : cr_at E S f j (.inr (ci, fs))) (hc : vwCl[ci]? = some (C, T, N)) (n : Nat) (hT : GoodIn Ts (wsV own index C y ws)) (hw : ws = Cond.code y bytes maxL ret :: ws') (hrc : rm'.cells = 0) (hrs : rm'.slots = 0)
    (hd : y.cls = C ∧ y.cls ≠ "java/lang/invoke/MethodHandle" ∧ y.cls ≠ "java/lang/invoke/VarHandle" ∧ (parseMethodDescriptor y.desc).map (fun d => d.parameters.length) = some n) (hR : rm'.frames + 1 ≤ rm.frames ∧ 8 + (maxL + 11) + rm'.locals ≤ rm.locals) (hkk : kc ≤ rm.cells ∧ ks ≤ rm.slots)
    (hn : As.length = n) (hst : st = As.reverse ++ .ref (E.2.1 f j) :: rest) (hrest : (rest.map fun v => v.category).sum ≤ 8) (hdg : decode cc pc = .ok (.invokevirtual index, 3)) (kk : ∀ b, cr_P Γ E nL Φ kc ks (vw b).2 (pc + 3) lv ((vw b).1.toList ++ rest) (kf b)) : cr_P Γ E nL Φ kc ks S pc lv st (cr_cl o kf) := by
  intro Q a h1 h2 H locs ls hW hS hls
  cases o with
  | none => cases h1
  | some b =>
    obtain ⟨p, l, e, R, s, m, args, below, meth, c⟩ := Γ
    have hMet := hM b (fun v S' => v = (vw b).1 ∧ S' = (vw b).2) rfl ⟨rfl, rfl⟩
    obtain ⟨hx, hb, hml, hown, hts, hK, hEK, hSF, hlk, hRm, hrt⟩ := X
    have hRm : R = rm := hRm
    subst hRm
    have hcl := hW f j ha.1
    rw [ha.2] at hcl
    have hP1 : va_P E.1 vwCl [(E.2.1 f j, .inr (ci, fs))] H := fun k q hq => by
      cases k with
      | zero => cases hq; exact hcl
      | succ k => cases hq
    exact cr_went (va_runV (As := As) (rest := rest) ⟨hx, hb, hml, hown, hts⟩ hMet (cwV n hts hT hw hrc hrs hd hR) ⟨cr_blind E S _, va_recv hK hP1 (q0 := 0) hc rfl, fun U hU hWm => ⟨rfl, cr_WU.of (by rw [hU]; exact hW) hK hSF hWm (locs := locs) (by rw [hU]; exact hS)⟩⟩ rfl hn hls.1 hst (lv_room hrest) hdg hkk) hS hls (kk b Q a h1 h2)
theorem cr_callS {β : Type} (X : cr_X Γ E cc nL own Ts rm rt) {y : MethodName} {ws ws' : List Cond} {bytes : ByteArray} {maxL index : Nat} {ret : Option FieldType} {rm' : Room} {As st : List Value} {vw : β → Option Value × cr_S} {o : Option β} {kf : β → Option α}
    (hM : cr_M Γ.2.1 E y ws rm' As S vw o) (n : Nat) (hT : GoodIn Ts (va_wsS own index y ws)) (hw : ws = Cond.code y bytes maxL ret :: ws') (hrc : rm'.cells = 0) (hrs : rm'.slots = 0)
    (hd : y.cls ≠ "java/lang/invoke/MethodHandle" ∧ y.cls ≠ "java/lang/invoke/VarHandle" ∧ (parseMethodDescriptor y.desc).map (fun d => d.parameters.length) = some n) (hR : rm'.frames + 1 ≤ rm.frames ∧ 8 + (maxL + 11) + rm'.locals ≤ rm.locals) (hkk : kc ≤ rm.cells ∧ ks ≤ rm.slots)
    (hn : As.length = n) (hst : st = As.reverse ++ rest) (hrest : (rest.map fun v => v.category).sum ≤ 8) (hdg : decode cc pc = .ok (.invokestatic index, 3)) (kk : ∀ b, cr_P Γ E nL Φ kc ks (vw b).2 (pc + 3) lv ((vw b).1.toList ++ rest) (kf b)) : cr_P Γ E nL Φ kc ks S pc lv st (cr_cl o kf) := by
  intro Q a h1 h2 H locs ls hW hS hls
  cases o with
  | none => cases h1
  | some b =>
    obtain ⟨p, l, e, R, s, m, args, below, meth, c⟩ := Γ
    have hMet := hM b (fun v S' => v = (vw b).1 ∧ S' = (vw b).2) rfl ⟨rfl, rfl⟩
    obtain ⟨hx, hb, hml, hown, hts, hK, hEK, hSF, hlk, hRm, hrt⟩ := X
    have hRm : R = rm := hRm
    subst hRm
    have ok : ∀ w ∈ va_wsS own index y ws, w.before args s = true := fun w h => hts w (hT w h).1
    exact cr_went (va_runS (As := As) (rest := rest) ⟨hx, hb, hml, hown, hts⟩ hMet ⟨callB_of n hts (fun w h => hT w (by unfold va_wsS; exact List.mem_append_right _ h)) hw hrc hrs (ok _ (by simp [va_wsS])) (ok _ (by simp [va_wsS])) hd hR, ok _ (by simp [va_wsS])⟩ ⟨cr_blind E S _, fun U hU hWm => ⟨rfl, cr_WU.of (by rw [hU]; exact hW) hK hSF hWm (locs := locs) (by rw [hU]; exact hS)⟩⟩ rfl hn hls.1 hst (lv_room hrest) hdg hkk) hS hls (kk b Q a h1 h2)
/-- the ends -/
theorem cr_iret (X : cr_X Γ E cc nL own Ts rm rt) {vw : α → Option Value × cr_S} {a : α} {v : Int32} (hr : rt = some .int) (ha : vw a = (some (.int v), S)) (hdg : decode cc pc = .ok (.ireturn, 1)) : cr_P Γ E nL (cr_F Γ E vw) 0 0 S pc lv [.int v] (some a) := by
  obtain ⟨p, l, e, R, s, m, args, below, meth, c⟩ := Γ
  obtain ⟨hx, hb, hml, hown, hts, hK, hEK, hSF, hlk, hRm, hrt⟩ := X
  rintro Q a' h1 ⟨post, hQ, hp⟩ H locs ls hW hS hls
  cases h1; subst hQ; rw [ha] at hp
  exact W.iret hx hb (hrt.trans hr) (fun t ht hWm => ⟨⟨_, _, rfl, hp, by rw [ht]; exact hW⟩, hS.F ht⟩) (fun q hq => hS.2.2 q hq) hdg hlk
theorem cr_zret (X : cr_X Γ E cc nL own Ts rm rt) {vw : α → Option Value × cr_S} {a : α} (b : Bool) {v : Int32} (hv : v = cr_b b) (hr : rt = some .boolean) (ha : vw a = (some (.int v), S)) (hdg : decode cc pc = .ok (.ireturn, 1)) : cr_P Γ E nL (cr_F Γ E vw) 0 0 S pc lv [.int v] (some a) := by
  obtain ⟨p, l, e, R, s, m, args, below, meth, c⟩ := Γ
  obtain ⟨hx, hb, hml, hown, hts, hK, hEK, hSF, hlk, hRm, hrt⟩ := X
  rintro Q a' h1 ⟨post, hQ, hp⟩ H locs ls hW hS hls
  cases h1; subst hQ; rw [ha] at hp
  exact W.zret hx hb (hrt.trans hr) (by subst hv; cases b <;> rfl) (fun t ht hWm => ⟨⟨_, _, rfl, hp, by rw [ht]; exact hW⟩, hS.F ht⟩) (fun q hq => hS.2.2 q hq) hdg hlk
theorem cr_vret (X : cr_X Γ E cc nL own Ts rm rt) {vw : α → Option Value × cr_S} {a : α} (hr : rt = none) (ha : vw a = (none, S)) (hdg : decode cc pc = .ok (.return_, 1)) : cr_P Γ E nL (cr_F Γ E vw) 0 0 S pc lv [] (some a) := by
  obtain ⟨p, l, e, R, s, m, args, below, meth, c⟩ := Γ
  obtain ⟨hx, hb, hml, hown, hts, hK, hEK, hSF, hlk, hRm, hrt⟩ := X
  rintro Q a' h1 ⟨post, hQ, hp⟩ H locs ls hW hS hls
  cases h1; subst hQ; rw [ha] at hp
  exact W.vret hx hb (hrt.trans hr) (fun t ht hWm => ⟨⟨_, _, rfl, hp, by rw [ht]; exact hW⟩, hS.F ht⟩) (fun q hq => hS.2.2 q hq) hdg hlk
theorem cr_lret (X : cr_X Γ E cc nL own Ts rm rt) {vw : α → Option Value × cr_S} {a : α} {v : Int64} (hr : rt = some .long) (ha : vw a = (some (.long v), S)) (hdg : decode cc pc = .ok (.lreturn, 1)) : cr_P Γ E nL (cr_F Γ E vw) 0 0 S pc lv [.long v] (some a) := by
  obtain ⟨p, l, e, R, s, m, args, below, meth, c⟩ := Γ
  obtain ⟨hx, hb, hml, hown, hts, hK, hEK, hSF, hlk, hRm, hrt⟩ := X
  rintro Q a' h1 ⟨post, hQ, hp⟩ H locs ls hW hS hls
  cases h1; subst hQ; rw [ha] at hp
  exact W.lret hx hb (hrt.trans hr) (fun t ht hWm => ⟨⟨_, _, rfl, hp, by rw [ht]; exact hW⟩, hS.F ht⟩) (fun q hq => hS.2.2 q hq) hdg hlk
theorem cr_fret (X : cr_X Γ E cc nL own Ts rm rt) {vw : α → Option Value × cr_S} {a : α} {v : UInt32} (hr : rt = some .float) (ha : vw a = (some (.float v), S)) (hdg : decode cc pc = .ok (.freturn, 1)) : cr_P Γ E nL (cr_F Γ E vw) 0 0 S pc lv [.float v] (some a) := by
  obtain ⟨p, l, e, R, s, m, args, below, meth, c⟩ := Γ
  obtain ⟨hx, hb, hml, hown, hts, hK, hEK, hSF, hlk, hRm, hrt⟩ := X
  rintro Q a' h1 ⟨post, hQ, hp⟩ H locs ls hW hS hls
  cases h1; subst hQ; rw [ha] at hp
  exact W.fret hx hb (hrt.trans hr) (fun t ht hWm => ⟨⟨_, _, rfl, hp, by rw [ht]; exact hW⟩, hS.F ht⟩) (fun q hq => hS.2.2 q hq) hdg hlk
theorem cr_dret (X : cr_X Γ E cc nL own Ts rm rt) {vw : α → Option Value × cr_S} {a : α} {v : UInt64} (hr : rt = some .double) (ha : vw a = (some (.double v), S)) (hdg : decode cc pc = .ok (.dreturn, 1)) : cr_P Γ E nL (cr_F Γ E vw) 0 0 S pc lv [.double v] (some a) := by
  obtain ⟨p, l, e, R, s, m, args, below, meth, c⟩ := Γ
  obtain ⟨hx, hb, hml, hown, hts, hK, hEK, hSF, hlk, hRm, hrt⟩ := X
  rintro Q a' h1 ⟨post, hQ, hp⟩ H locs ls hW hS hls
  cases h1; subst hQ; rw [ha] at hp
  exact W.dret hx hb (hrt.trans hr) (fun t ht hWm => ⟨⟨_, _, rfl, hp, by rw [ht]; exact hW⟩, hS.F ht⟩) (fun q hq => hS.2.2 q hq) hdg hlk
/-- a contract out of the walk of the body -/
theorem cr_enter {l : Launch} {y : MethodName} {ws' : List Cond} {av : List Value} {vw : α → Option Value × cr_S} (hEK : cr_EK E) (hy : plainName y.cls = true) (hw : Ts = Cond.code y cc nL rt :: ws') (hlen : (lg_sl av).length ≤ nL)
    (hB : ∀ Γ : cr_C, Γ.2.1 = l → cr_X Γ E cc nL y.cls Ts rm rt → cr_P Γ E nL (cr_F Γ E vw) 0 0 S 0 (lv_args 0 av) [] res) : cr_M l E y Ts rm av S vw res := by
  intro a post h1 h2
  refine Met.ofW (cc := cc) (maxL := nL) (ret := rt) hy hw ?_
  intro p e s m args below meth c s₁ B hml hv
  obtain ⟨rfl, hWH, hK, hSF⟩ := hv
  have hl := lv_entry av (n := nL) hlen
  rw [lg_entry_eq]
  exact hB (p, l, e, _, s, m, _, below, meth, c) rfl ⟨B.exec, B.bytes, hml, findClass_of_methodNamed B.named, atoms_spec (ws := Ts) B.pre, hK, hEK, hSF, B.notSynchronized, rfl, B.returns⟩ _ a h1 ⟨post, rfl, h2⟩ s.heap [] _ hWH va_S.rf hl
end CR2
end
section
abbrev cr_vI (S : cr_S) : Int32 → Option Value × cr_S := fun a => (some (.int a), S)
abbrev cr_vB (S : cr_S) : Bool → Option Value × cr_S := fun a => (some (.int (cr_b a)), S)
abbrev cr_vL (S : cr_S) : Int64 → Option Value × cr_S := fun a => (some (.long a), S)
abbrev cr_vF (S : cr_S) : UInt32 → Option Value × cr_S := fun a => (some (.float a), S)
abbrev cr_vD (S : cr_S) : UInt64 → Option Value × cr_S := fun a => (some (.double a), S)
abbrev cr_vU (S : cr_S) : Unit → Option Value × cr_S := fun _ => (none, S)
abbrev cr_vVG (S0 : cr_S) (f : Nat) : cr_G → Option Value × cr_S := fun G => (none, cr_us S0 f G)
abbrev cr_vIG (S0 : cr_S) (f : Nat) : Int32 × cr_G → Option Value × cr_S := fun a => (some (.int a.1), cr_us S0 f a.2)
abbrev cr_vBG (S0 : cr_S) (f : Nat) : Bool × cr_G → Option Value × cr_S := fun a => (some (.int (cr_b a.1)), cr_us S0 f a.2)
abbrev cr_vLG (S0 : cr_S) (f : Nat) : Int64 × cr_G → Option Value × cr_S := fun a => (some (.long a.1), cr_us S0 f a.2)
abbrev cr_vFG (S0 : cr_S) (f : Nat) : UInt32 × cr_G → Option Value × cr_S := fun a => (some (.float a.1), cr_us S0 f a.2)
abbrev cr_vDG (S0 : cr_S) (f : Nat) : UInt64 × cr_G → Option Value × cr_S := fun a => (some (.double a.1), cr_us S0 f a.2)
abbrev cr_vVS : cr_S → Option Value × cr_S := fun S => (none, S)
abbrev cr_vIS : Int32 × cr_S → Option Value × cr_S := fun a => (some (.int a.1), a.2)
abbrev cr_vBS : Bool × cr_S → Option Value × cr_S := fun a => (some (.int (cr_b a.1)), a.2)
abbrev cr_vLS : Int64 × cr_S → Option Value × cr_S := fun a => (some (.long a.1), a.2)
section CR3
variable {α : Type} {Γ : cr_C} {E : cr_E} {nL : Nat} {Φ : α → (State → Prop) → Prop} {kc ks : Nat} {S : cr_S} {pc : Nat} {lv : List (Nat × Value)} {rest : List Value} {res : Option α} {cc : ByteArray} {own : String} {Ts : List Cond} {rm : Room} {rt : Option FieldType}
theorem cr_bds {kf : cr_S → Option α} {st : List Value} (k : ∀ S', cr_P Γ E nL Φ kc ks S' pc lv st (kf S')) : cr_P Γ E nL Φ kc ks S pc lv st (cr_bd S kf) := k S
theorem cr_mmax (X : cr_X Γ E cc nL own Ts rm rt) {index : Nat} (hlink : Cond.methodLink own index Lib.Math.max.name ∈ Ts) (hstat : Cond.static Lib.Math.max.name ∈ Ts) (hini : Cond.initialized "java/lang/Math" ∈ Ts) (hcode : Cond.code Lib.Math.max.name Lib.Math.max.code 2 (some .int) ∈ Ts) (hfr : 1 ≤ rm.frames) (hlo : (rest.map fun v => v.category).sum + 13 ≤ rm.locals) (hkk : kc ≤ rm.cells ∧ ks ≤ rm.slots) {x y : Int32} (hdg : decode cc pc = .ok (.invokestatic index, 3)) (kk : cr_P Γ E nL Φ kc ks S (pc + 3) lv (.int (cr_max x y) :: rest) res) : cr_P Γ E nL Φ kc ks S pc lv (.int y :: .int x :: rest) res := by
  obtain ⟨p, l, e, R, s, m, args, below, meth, c⟩ := Γ
  obtain ⟨hx, hb, hml, hown, hts, hK, hEK, hSF, hlk, hRm, hrt⟩ := X
  have hRm : R = rm := hRm
  subst hRm
  intro Q a h1 h2 H locs ls hW hS hls
  exact va_mmax hx hb (hml.trans hls.1.symm) hown (hts _ hlink) (hts _ hstat) (hts _ hini) (hts _ hcode) hfr hlo hkk.1 hkk.2 hdg (kk Q a h1 h2 H locs ls hW hS hls)
theorem cr_mmin (X : cr_X Γ E cc nL own Ts rm rt) {index : Nat} (hlink : Cond.methodLink own index Lib.Math.min.name ∈ Ts) (hstat : Cond.static Lib.Math.min.name ∈ Ts) (hini : Cond.initialized "java/lang/Math" ∈ Ts) (hcode : Cond.code Lib.Math.min.name Lib.Math.min.code 2 (some .int) ∈ Ts) (hfr : 1 ≤ rm.frames) (hlo : (rest.map fun v => v.category).sum + 13 ≤ rm.locals) (hkk : kc ≤ rm.cells ∧ ks ≤ rm.slots) {x y : Int32} (hdg : decode cc pc = .ok (.invokestatic index, 3)) (kk : cr_P Γ E nL Φ kc ks S (pc + 3) lv (.int (cr_min x y) :: rest) res) : cr_P Γ E nL Φ kc ks S pc lv (.int y :: .int x :: rest) res := by
  obtain ⟨p, l, e, R, s, m, args, below, meth, c⟩ := Γ
  obtain ⟨hx, hb, hml, hown, hts, hK, hEK, hSF, hlk, hRm, hrt⟩ := X
  have hRm : R = rm := hRm
  subst hRm
  intro Q a h1 h2 H locs ls hW hS hls
  exact va_mmin hx hb (hml.trans hls.1.symm) hown (hts _ hlink) (hts _ hstat) (hts _ hini) (hts _ hcode) hfr hlo hkk.1 hkk.2 hdg (kk Q a h1 h2 H locs ls hW hS hls)
theorem cr_mabs (X : cr_X Γ E cc nL own Ts rm rt) {index : Nat} (hlink : Cond.methodLink own index Lib.Math.abs.name ∈ Ts) (hstat : Cond.static Lib.Math.abs.name ∈ Ts) (hini : Cond.initialized "java/lang/Math" ∈ Ts) (hcode : Cond.code Lib.Math.abs.name Lib.Math.abs.code 1 (some .int) ∈ Ts) (hfr : 1 ≤ rm.frames) (hlo : (rest.map fun v => v.category).sum + 13 ≤ rm.locals) (hkk : kc ≤ rm.cells ∧ ks ≤ rm.slots) {x : Int32} (hdg : decode cc pc = .ok (.invokestatic index, 3)) (kk : cr_P Γ E nL Φ kc ks S (pc + 3) lv (.int (cr_abs x) :: rest) res) : cr_P Γ E nL Φ kc ks S pc lv (.int x :: rest) res := by
  obtain ⟨p, l, e, R, s, m, args, below, meth, c⟩ := Γ
  obtain ⟨hx, hb, hml, hown, hts, hK, hEK, hSF, hlk, hRm, hrt⟩ := X
  have hRm : R = rm := hRm
  subst hRm
  intro Q a h1 h2 H locs ls hW hS hls
  exact va_mabs hx hb (hml.trans hls.1.symm) hown (hts _ hlink) (hts _ hstat) (hts _ hini) (hts _ hcode) hfr (by omega) hkk.1 hkk.2 hdg (kk Q a h1 h2 H locs ls hW hS hls)
theorem cr_rawf (X : cr_X Γ E cc nL own Ts rm rt) {index : Nat} (hlink : Cond.methodLink own index ⟨"java/lang/Float", "floatToRawIntBits", "(F)I"⟩ ∈ Ts) (hnat : Cond.native ⟨"java/lang/Float", "floatToRawIntBits", "(F)I"⟩ ∈ Ts) (hstat : Cond.static ⟨"java/lang/Float", "floatToRawIntBits", "(F)I"⟩ ∈ Ts) (hini : Cond.initialized "java/lang/Float" ∈ Ts) (hfr : 1 ≤ rm.frames) (hlo : (rest.map fun v => v.category).sum + 15 ≤ rm.locals) {x : UInt32} (hdg : decode cc pc = .ok (.invokestatic index, 3)) (kk : cr_P Γ E nL Φ kc ks S (pc + 3) lv (.int x.toInt32 :: rest) res) : cr_P Γ E nL Φ kc ks S pc lv (.float x :: rest) res := by
  obtain ⟨p, l, e, R, s, m, args, below, meth, c⟩ := Γ
  obtain ⟨hx, hb, hml, hown, hts, hK, hEK, hSF, hlk, hRm, hrt⟩ := X
  have hRm : R = rm := hRm
  subst hRm
  intro Q a h1 h2 H locs ls hW hS hls
  exact vn_f2i hx hb (hml.trans hls.1.symm) hown (hts _ hlink) (hts _ hnat) (hts _ hstat) (hts _ hini) hfr hlo hdg (kk Q a h1 h2 H locs ls hW hS hls)
theorem cr_rawd (X : cr_X Γ E cc nL own Ts rm rt) {index : Nat} (hlink : Cond.methodLink own index ⟨"java/lang/Double", "doubleToRawLongBits", "(D)J"⟩ ∈ Ts) (hnat : Cond.native ⟨"java/lang/Double", "doubleToRawLongBits", "(D)J"⟩ ∈ Ts) (hstat : Cond.static ⟨"java/lang/Double", "doubleToRawLongBits", "(D)J"⟩ ∈ Ts) (hini : Cond.initialized "java/lang/Double" ∈ Ts) (hfr : 1 ≤ rm.frames) (hlo : (rest.map fun v => v.category).sum + 15 ≤ rm.locals) {x : UInt64} (hdg : decode cc pc = .ok (.invokestatic index, 3)) (kk : cr_P Γ E nL Φ kc ks S (pc + 3) lv (.long x.toInt64 :: rest) res) : cr_P Γ E nL Φ kc ks S pc lv (.double x :: rest) res := by
  obtain ⟨p, l, e, R, s, m, args, below, meth, c⟩ := Γ
  obtain ⟨hx, hb, hml, hown, hts, hK, hEK, hSF, hlk, hRm, hrt⟩ := X
  have hRm : R = rm := hRm
  subst hRm
  intro Q a h1 h2 H locs ls hW hS hls
  exact vn_d2l hx hb (hml.trans hls.1.symm) hown (hts _ hlink) (hts _ hnat) (hts _ hstat) (hts _ hini) hfr hlo hdg (kk Q a h1 h2 H locs ls hW hS hls)
/-- the reference's long -/
theorem cr_wc_ul {E : cr_E} {S : cr_S} {v : Int64} {f j : Nat} (h : ¬ (f = 9 ∧ j = 0)) (hl : cr_lv f j) : cr_wc E (cr_ul S 0 v) f j = cr_wc E S f j := by
  rcases hl with ⟨a, b⟩ | ⟨rfl, b⟩ | ⟨rfl, b⟩ | ⟨rfl, rfl⟩
  · simp only [cr_wc, a, if_true, cr_ul]
  · rfl
  · show cr_mc E (S.1 9) _ j = cr_mc E (S.1 9) _ j
    match j, b with
    | 0, _ => exact absurd ⟨rfl, rfl⟩ h
    | 1, _ => rfl
    | 2, _ => rfl
    | 3, _ => rfl
    | 4, _ => rfl
    | 5, _ => rfl
    | 6, _ => rfl
  · show (Sum.inl _ : va_E) = Sum.inl _
    refine congrArg Sum.inl (congrArg _ (congrArg _ (congrArg _ (congrArg _ (funext fun k => ?_)))))
    simp [cr_ul, vp_updL]
theorem cr_puth (X : cr_X Γ E cc nL own Ts rm rt) {v : Int64} (hin : ∀ w ∈ wsX90, w ∈ Ts) {index : Nat} (hlink : Cond.fieldLink own index "CraneCampaignModel" "h" "J" ∈ Ts) {kf : cr_S → Option α} (hdg : decode cc pc = .ok (.putfield index, 3)) (kk : ∀ S', cr_P Γ E nL Φ kc ks S' (pc + 3) lv rest (kf S')) : cr_P Γ E nL Φ kc ks S pc lv (.long v :: .ref (E.2.1 9 0) :: rest) (cr_bd (cr_ul S 0 v) kf) :=
  cr_put0 X (cr_ul S 0 v) ((cr_m0 E).at rfl rfl) rfl hin tyX9 tyX9_ok nmX9 8 (by decide) hlink rfl rfl rfl (Nat.le_of_ble_eq_true rfl) (by rw [(cr_m0 E).2]; rfl) (fun f' j' hn hl => cr_wc_ul hn hl) hdg (kk _)
theorem cr_wc_uo {E : cr_E} {S : cr_S} {v : Int64} {k f j : Nat} (h : ¬ (f = 10 ∧ j = 0)) (hl : cr_lv f j) : cr_wc E (cr_ul S (k + 1) v) f j = cr_wc E S f j := by
  rcases hl with ⟨a, b⟩ | ⟨rfl, b⟩ | ⟨rfl, b⟩ | ⟨rfl, rfl⟩
  · simp only [cr_wc, a, if_true, cr_ul]
  · rfl
  · show cr_mc E (S.1 9) (vp_updL S.2 (k + 1) v 0) j = cr_mc E (S.1 9) _ j
    have e : vp_updL S.2 (k + 1) v 0 = S.2 0 := by simp [vp_updL]
    rw [e]
  · exact absurd ⟨rfl, rfl⟩ h
theorem cr_lastS (X : cr_X Γ E cc nL own Ts rm rt) {i : Int32} {v : Int64} {kf : cr_S → Option α} (hdg : decode cc pc = .ok (.lastore, 1)) (kk : ∀ S', cr_P Γ E nL Φ kc ks S' (pc + 1) lv rest (kf S')) : cr_P Γ E nL Φ kc ks S pc lv (.long v :: .int i :: .ref (E.2.1 10 0) :: rest) (cr_gd (cr_in i 1) (cr_bd (cr_ul S (i.toNatClampNeg + 1) v) kf)) :=
  cr_last0 X (cr_ul S (i.toNatClampNeg + 1) v) ((cr_o0 E).at rfl rfl) (by
    rw [(cr_o0 E).2]
    refine congrArg Sum.inl (congrArg _ (congrArg _ (congrArg _ (congrArg _ (funext fun k => ?_)))))
    simp [cr_ul, vp_updL]) (fun f' j' hn hl => cr_wc_uo hn hl) hdg (kk _)
end CR3
end
section
theorem k_X0_copyFrom_1 : (Cond.fieldLink RX0 9 "CraneCampaign$Bogs" "place" "[I") ∈ wsX0_copyFrom := List.mem_of_getElem? (i := 1) (by rfl)
theorem k_X0_copyFrom_2 : (Cond.methodLink RX0 22 arraycopyName) ∈ wsX0_copyFrom := List.mem_of_getElem? (i := 2) (by rfl)
theorem k_X0_copyFrom_3 : (Cond.native arraycopyName) ∈ wsX0_copyFrom := List.mem_of_getElem? (i := 3) (by rfl)
theorem k_X0_copyFrom_4 : (Cond.static arraycopyName) ∈ wsX0_copyFrom := List.mem_of_getElem? (i := 4) (by rfl)
theorem k_X0_copyFrom_5 : (Cond.initialized "java/lang/System") ∈ wsX0_copyFrom := List.mem_of_getElem? (i := 5) (by rfl)
theorem k_X0_copyFrom_6 : (Cond.fieldLink RX0 15 "CraneCampaign$Bogs" "need" "[I") ∈ wsX0_copyFrom := List.mem_of_getElem? (i := 6) (by rfl)
theorem k_X0_copyFrom_7 : (Cond.fieldLink RX0 18 "CraneCampaign$Bogs" "count" "I") ∈ wsX0_copyFrom := List.mem_of_getElem? (i := 7) (by rfl)
theorem i_X0_copyFrom_X0 : ∀ w ∈ wsX00, w ∈ wsX0_copyFrom := by decide +kernel
abbrev rm_X0_copyFrom : Room := { frames := 1, cells := 0, slots := 0, locals := 40 }
def s_X0_copyFrom (Go : cr_G) (G : cr_G) : Option cr_G := (cr_bd (cr_pa G 3 (va_cpy (Go 3) (G 3) 0 0 6)) (fun G12_1 => (cr_bd (cr_pa G12_1 4 (va_cpy (Go 4) (G12_1 4) 0 0 6)) (fun G27_2 => (cr_bd (cr_pt G27_2 2 2 (((Go 2) 2))) (fun G35_3 => (some G35_3)))))))
set_option maxHeartbeats 4000000 in
set_option maxRecDepth 100000 in
theorem c_X0_copyFrom (l : Launch) (E : cr_E) (hEK : cr_EK E) (S0 : cr_S) {f : Nat} (hf : f < 8) {g : Nat} (hg : g < 8) (hne : g ≠ f) (G : cr_G) : cr_M l E yX0_copyFrom wsX0_copyFrom rm_X0_copyFrom [.ref (E.2.1 f 2), .ref (E.2.1 g 2)] (cr_us S0 f G) (cr_vVG S0 f) (s_X0_copyFrom (S0.1 g) G) := by
  refine cr_enter (cc := cX0_copyFrom) (nL := 2) (rt := none) hEK (by decide) rfl (Nat.le_of_ble_eq_true rfl) (fun Γ hΓ X => ?_)
  subst hΓ
  have X : cr_X Γ E cX0_copyFrom 2 RX0 wsX0_copyFrom rm_X0_copyFrom none := X
  unfold s_X0_copyFrom
  show cr_P Γ E 2 _ 0 0 (cr_us S0 f G) 0 ([(0, .ref (E.2.1 f 2)), (1, .ref (E.2.1 g 2))]) [] _
  refine cr_aload_n X 1 rfl dX0_copyFrom_0 ?_
  refine cr_get X ((cr_a2 E hg).at (cr_rowo S0 G hne 2) rfl) rfl i_X0_copyFrom_X0 0 (by decide) k_X0_copyFrom_1 rfl dX0_copyFrom_1 ?_
  refine cr_iconst X (0 : Int32) (by decide) dX0_copyFrom_4 ?_
  refine cr_aload_n X 0 rfl dX0_copyFrom_5 ?_
  refine cr_get X ((cr_a2 E hf).at (cr_row S0 f G 2) rfl) rfl i_X0_copyFrom_X0 0 (by decide) k_X0_copyFrom_1 rfl dX0_copyFrom_6 ?_
  refine cr_iconst X (0 : Int32) (by decide) dX0_copyFrom_9 ?_
  refine cr_bipush X (6 : Int32) (by decide) dX0_copyFrom_10 ?_
  refine cr_acopyG X ((S0.1 g) 3) ((cr_a3 E hg).at (cr_rowo S0 G hne 3) rfl) (cr_a3 E hf) (fun _ _ => rfl) 0 0 6 (by decide) (by decide) k_X0_copyFrom_2 k_X0_copyFrom_3 k_X0_copyFrom_4 k_X0_copyFrom_5 (by decide) (by decide +kernel) dX0_copyFrom_12 (fun G12_1 => ?_)
  refine cr_aload_n X 1 rfl dX0_copyFrom_15 ?_
  refine cr_get X ((cr_a2 E hg).at (cr_rowo S0 G12_1 hne 2) rfl) rfl i_X0_copyFrom_X0 1 (by decide) k_X0_copyFrom_6 rfl dX0_copyFrom_16 ?_
  refine cr_iconst X (0 : Int32) (by decide) dX0_copyFrom_19 ?_
  refine cr_aload_n X 0 rfl dX0_copyFrom_20 ?_
  refine cr_get X ((cr_a2 E hf).at (cr_row S0 f G12_1 2) rfl) rfl i_X0_copyFrom_X0 1 (by decide) k_X0_copyFrom_6 rfl dX0_copyFrom_21 ?_
  refine cr_iconst X (0 : Int32) (by decide) dX0_copyFrom_24 ?_
  refine cr_bipush X (6 : Int32) (by decide) dX0_copyFrom_25 ?_
  refine cr_acopyG X ((S0.1 g) 4) ((cr_a4 E hg).at (cr_rowo S0 G12_1 hne 4) rfl) (cr_a4 E hf) (fun _ _ => rfl) 0 0 6 (by decide) (by decide) k_X0_copyFrom_2 k_X0_copyFrom_3 k_X0_copyFrom_4 k_X0_copyFrom_5 (by decide) (by decide +kernel) dX0_copyFrom_27 (fun G27_2 => ?_)
  refine cr_aload_n X 0 rfl dX0_copyFrom_30 ?_
  refine cr_aload_n X 1 rfl dX0_copyFrom_31 ?_
  refine cr_get X ((cr_a2 E hg).at (cr_rowo S0 G27_2 hne 2) rfl) rfl i_X0_copyFrom_X0 2 (by decide) k_X0_copyFrom_7 rfl dX0_copyFrom_32 ?_
  refine cr_putG X (cr_a2 E hf) 2 rfl rfl rfl i_X0_copyFrom_X0 tyX0 tyX0_ok nmX0 (by decide) k_X0_copyFrom_7 rfl rfl rfl (Nat.le_of_ble_eq_true rfl) dX0_copyFrom_35 (fun G35_3 => ?_)
  exact cr_vret X rfl rfl dX0_copyFrom_38
theorem c_X0_copyFrom_S (l : Launch) (E : cr_E) (hEK : cr_EK E) (S : cr_S) {f : Nat} (hf : f < 8) {g : Nat} (hg : g < 8) (hne : g ≠ f) : cr_M l E yX0_copyFrom wsX0_copyFrom rm_X0_copyFrom [.ref (E.2.1 f 2), .ref (E.2.1 g 2)] S (cr_vVG S f) (s_X0_copyFrom (S.1 g)  (S.1 f)) := by
  have h := c_X0_copyFrom l E hEK S hf hg hne (S.1 f)
  rw [cr_us_self] at h
  exact h

theorem k_X0_countBetween_1 : (Cond.fieldLink RX0 18 "CraneCampaign$Bogs" "count" "I") ∈ wsX0_countBetween := List.mem_of_getElem? (i := 1) (by rfl)
theorem k_X0_countBetween_2 : (Cond.fieldLink RX0 9 "CraneCampaign$Bogs" "place" "[I") ∈ wsX0_countBetween := List.mem_of_getElem? (i := 2) (by rfl)
theorem k_X0_countBetween_3 : (Cond.fieldLink RX0 15 "CraneCampaign$Bogs" "need" "[I") ∈ wsX0_countBetween := List.mem_of_getElem? (i := 3) (by rfl)
theorem i_X0_countBetween_X0 : ∀ w ∈ wsX00, w ∈ wsX0_countBetween := by decide +kernel
abbrev rm_X0_countBetween : Room := { frames := 0, cells := 0, slots := 0, locals := 0 }
def s_X0_countBetween_6 (G : cr_G) : Nat → Int32 → Int32 → Int32 → Int32 → Int32 → Option Int32
  | 0, _, _, _, _, _ => none
  | n + 1, x1, x2, x3, x4, x5 => (if ((G 2) 2) ≤ x5 then (some x4) else (cr_gd (cr_in x5 6) (if ((G 3) (x5).toNatClampNeg) ≤ x1 then (cr_bd (x5 + 1) (fun v51_1 => (s_X0_countBetween_6 G n x1 x2 x3 x4 v51_1))) else (cr_gd (cr_in x5 6) (if x2 ≤ ((G 3) (x5).toNatClampNeg) then (cr_bd (x5 + 1) (fun v51_2 => (s_X0_countBetween_6 G n x1 x2 x3 x4 v51_2))) else (cr_gd (cr_in x5 6) (if ((G 4) (x5).toNatClampNeg) ≤ x3 then (cr_bd (x5 + 1) (fun v51_3 => (s_X0_countBetween_6 G n x1 x2 x3 x4 v51_3))) else (cr_bd (x4 + 1) (fun v48_4 => (cr_bd (x5 + 1) (fun v51_5 => (s_X0_countBetween_6 G n x1 x2 x3 v48_4 v51_5))))))))))))
set_option maxHeartbeats 4000000 in
set_option maxRecDepth 100000 in
theorem b_X0_countBetween_6 {Γ : cr_C} {E : cr_E} (X : cr_X Γ E cX0_countBetween 6 RX0 wsX0_countBetween rm_X0_countBetween (some .int)) (S0 : cr_S) {f : Nat} (hf : f < 8) (G : cr_G) : ∀ (n : Nat) (x1 : Int32) (x2 : Int32) (x3 : Int32) (x4 : Int32) (x5 : Int32), cr_P Γ E 6 (cr_F Γ E (cr_vI (cr_us S0 f G))) 0 0 (cr_us S0 f G) 6 ([(0, .ref (E.2.1 f 2)), (1, .int x1), (2, .int x2), (3, .int x3), (4, .int x4), (5, .int x5)]) ([]) (s_X0_countBetween_6 G n x1 x2 x3 x4 x5) := by
  have hEK := X.2.2.2.2.2.2.1
  intro n
  induction n with
  | zero => intro x1 x2 x3 x4 x5; exact cr_none
  | succ n ih =>
    intro x1 x2 x3 x4 x5
    rw [s_X0_countBetween_6]
    refine cr_iload X 5 rfl dX0_countBetween_6 ?_
    refine cr_aload_n X 0 rfl dX0_countBetween_8 ?_
    refine cr_get X ((cr_a2 E hf).at (cr_row S0 f G 2) rfl) rfl i_X0_countBetween_X0 2 (by decide) k_X0_countBetween_1 rfl dX0_countBetween_9 ?_
    refine cr_icmp_ge X 57 dX0_countBetween_12 rfl ?_ ?_
    · refine cr_iload X 4 rfl dX0_countBetween_57 ?_
      exact cr_iret X rfl rfl dX0_countBetween_59
    · refine cr_aload_n X 0 rfl dX0_countBetween_15 ?_
      refine cr_get X ((cr_a2 E hf).at (cr_row S0 f G 2) rfl) rfl i_X0_countBetween_X0 0 (by decide) k_X0_countBetween_2 rfl dX0_countBetween_16 ?_
      refine cr_iload X 5 rfl dX0_countBetween_19 ?_
      refine cr_iald X ((cr_a3 E hf).at (cr_row S0 f G 3) rfl) dX0_countBetween_21 ?_
      refine cr_iload_n X 1 rfl dX0_countBetween_22 ?_
      refine cr_icmp_le X 51 dX0_countBetween_23 rfl ?_ ?_
      · refine cr_iinc X (x5 + 1) (fun v51_1 => [(5, .int v51_1), (0, .ref (E.2.1 f 2)), (1, .int x1), (2, .int x2), (3, .int x3), (4, .int x4)]) 5 rfl rfl (fun _ => rfl) (by decide) dX0_countBetween_51 (fun v51_1 => ?_)
        refine cr_goto X 6 dX0_countBetween_54 rfl ?_
        refine cr_sub (lv' := [(0, .ref (E.2.1 f 2)), (1, .int x1), (2, .int x2), (3, .int x3), (4, .int x4), (5, .int v51_1)]) [1, 2, 3, 4, 5, 0] rfl ?_
        exact ih x1 x2 x3 x4 v51_1
      · refine cr_aload_n X 0 rfl dX0_countBetween_26 ?_
        refine cr_get X ((cr_a2 E hf).at (cr_row S0 f G 2) rfl) rfl i_X0_countBetween_X0 0 (by decide) k_X0_countBetween_2 rfl dX0_countBetween_27 ?_
        refine cr_iload X 5 rfl dX0_countBetween_30 ?_
        refine cr_iald X ((cr_a3 E hf).at (cr_row S0 f G 3) rfl) dX0_countBetween_32 ?_
        refine cr_iload_n X 2 rfl dX0_countBetween_33 ?_
        refine cr_icmp_ge X 51 dX0_countBetween_34 rfl ?_ ?_
        · refine cr_iinc X (x5 + 1) (fun v51_2 => [(5, .int v51_2), (0, .ref (E.2.1 f 2)), (1, .int x1), (2, .int x2), (3, .int x3), (4, .int x4)]) 5 rfl rfl (fun _ => rfl) (by decide) dX0_countBetween_51 (fun v51_2 => ?_)
          refine cr_goto X 6 dX0_countBetween_54 rfl ?_
          refine cr_sub (lv' := [(0, .ref (E.2.1 f 2)), (1, .int x1), (2, .int x2), (3, .int x3), (4, .int x4), (5, .int v51_2)]) [1, 2, 3, 4, 5, 0] rfl ?_
          exact ih x1 x2 x3 x4 v51_2
        · refine cr_aload_n X 0 rfl dX0_countBetween_37 ?_
          refine cr_get X ((cr_a2 E hf).at (cr_row S0 f G 2) rfl) rfl i_X0_countBetween_X0 1 (by decide) k_X0_countBetween_3 rfl dX0_countBetween_38 ?_
          refine cr_iload X 5 rfl dX0_countBetween_41 ?_
          refine cr_iald X ((cr_a4 E hf).at (cr_row S0 f G 4) rfl) dX0_countBetween_43 ?_
          refine cr_iload_n X 3 rfl dX0_countBetween_44 ?_
          refine cr_icmp_le X 51 dX0_countBetween_45 rfl ?_ ?_
          · refine cr_iinc X (x5 + 1) (fun v51_3 => [(5, .int v51_3), (0, .ref (E.2.1 f 2)), (1, .int x1), (2, .int x2), (3, .int x3), (4, .int x4)]) 5 rfl rfl (fun _ => rfl) (by decide) dX0_countBetween_51 (fun v51_3 => ?_)
            refine cr_goto X 6 dX0_countBetween_54 rfl ?_
            refine cr_sub (lv' := [(0, .ref (E.2.1 f 2)), (1, .int x1), (2, .int x2), (3, .int x3), (4, .int x4), (5, .int v51_3)]) [1, 2, 3, 4, 5, 0] rfl ?_
            exact ih x1 x2 x3 x4 v51_3
          · refine cr_iinc X (x4 + 1) (fun v48_4 => [(4, .int v48_4), (0, .ref (E.2.1 f 2)), (1, .int x1), (2, .int x2), (3, .int x3), (5, .int x5)]) 4 rfl rfl (fun _ => rfl) (by decide) dX0_countBetween_48 (fun v48_4 => ?_)
            refine cr_iinc X (x5 + 1) (fun v51_5 => [(5, .int v51_5), (4, .int v48_4), (0, .ref (E.2.1 f 2)), (1, .int x1), (2, .int x2), (3, .int x3)]) 5 rfl rfl (fun _ => rfl) (by decide) dX0_countBetween_51 (fun v51_5 => ?_)
            refine cr_goto X 6 dX0_countBetween_54 rfl ?_
            refine cr_sub (lv' := [(0, .ref (E.2.1 f 2)), (1, .int x1), (2, .int x2), (3, .int x3), (4, .int v48_4), (5, .int v51_5)]) [2, 3, 4, 5, 1, 0] rfl ?_
            exact ih x1 x2 x3 v48_4 v51_5
def s_X0_countBetween (G : cr_G) (p1 : Int32) (p2 : Int32) (p3 : Int32) : Option Int32 := (s_X0_countBetween_6 G 1200 p1 p2 p3 ((0 : Int32)) ((0 : Int32)))
set_option maxHeartbeats 4000000 in
set_option maxRecDepth 100000 in
theorem c_X0_countBetween (l : Launch) (E : cr_E) (hEK : cr_EK E) (S0 : cr_S) {f : Nat} (hf : f < 8) (G : cr_G) (p1 : Int32) (p2 : Int32) (p3 : Int32) : cr_M l E yX0_countBetween wsX0_countBetween rm_X0_countBetween [.ref (E.2.1 f 2), .int p1, .int p2, .int p3] (cr_us S0 f G) (cr_vI (cr_us S0 f G)) (s_X0_countBetween G p1 p2 p3) := by
  refine cr_enter (cc := cX0_countBetween) (nL := 6) (rt := (some .int)) hEK (by decide) rfl (Nat.le_of_ble_eq_true rfl) (fun Γ hΓ X => ?_)
  subst hΓ
  have X : cr_X Γ E cX0_countBetween 6 RX0 wsX0_countBetween rm_X0_countBetween (some .int) := X
  unfold s_X0_countBetween
  show cr_P Γ E 6 _ 0 0 (cr_us S0 f G) 0 ([(0, .ref (E.2.1 f 2)), (1, .int p1), (2, .int p2), (3, .int p3)]) [] _
  refine cr_iconst X (0 : Int32) (by decide) dX0_countBetween_0 ?_
  refine cr_istore X ([(4, .int ((0 : Int32))), (0, .ref (E.2.1 f 2)), (1, .int p1), (2, .int p2), (3, .int p3)]) rfl (by decide) dX0_countBetween_1 ?_
  refine cr_iconst X (0 : Int32) (by decide) dX0_countBetween_3 ?_
  refine cr_istore X ([(5, .int ((0 : Int32))), (4, .int ((0 : Int32))), (0, .ref (E.2.1 f 2)), (1, .int p1), (2, .int p2), (3, .int p3)]) rfl (by decide) dX0_countBetween_4 ?_
  refine cr_sub (lv' := [(0, .ref (E.2.1 f 2)), (1, .int p1), (2, .int p2), (3, .int p3), (4, .int ((0 : Int32))), (5, .int ((0 : Int32)))]) [2, 3, 4, 5, 1, 0] rfl ?_
  exact b_X0_countBetween_6 X S0 hf G 1200 p1 p2 p3 ((0 : Int32)) ((0 : Int32))
theorem c_X0_countBetween_S (l : Launch) (E : cr_E) (hEK : cr_EK E) (S : cr_S) {f : Nat} (hf : f < 8) (p1 : Int32) (p2 : Int32) (p3 : Int32) : cr_M l E yX0_countBetween wsX0_countBetween rm_X0_countBetween [.ref (E.2.1 f 2), .int p1, .int p2, .int p3] S (cr_vI S) (s_X0_countBetween (S.1 f) p1 p2 p3) := by
  have h := c_X0_countBetween l E hEK S hf (S.1 f) p1 p2 p3
  rw [cr_us_self] at h
  exact h

theorem k_X0_indexAt_1 : (Cond.fieldLink RX0 18 "CraneCampaign$Bogs" "count" "I") ∈ wsX0_indexAt := List.mem_of_getElem? (i := 1) (by rfl)
theorem k_X0_indexAt_2 : (Cond.fieldLink RX0 9 "CraneCampaign$Bogs" "place" "[I") ∈ wsX0_indexAt := List.mem_of_getElem? (i := 2) (by rfl)
theorem i_X0_indexAt_X0 : ∀ w ∈ wsX00, w ∈ wsX0_indexAt := by decide +kernel
abbrev rm_X0_indexAt : Room := { frames := 0, cells := 0, slots := 0, locals := 0 }
def s_X0_indexAt_2 (G : cr_G) : Nat → Int32 → Int32 → Option Int32
  | 0, _, _ => none
  | n + 1, x1, x2 => (if ((G 2) 2) ≤ x2 then (some ((-1 : Int32))) else (cr_gd (cr_in x2 6) (if ((G 3) (x2).toNatClampNeg) = x1 then (some x2) else (cr_bd (x2 + 1) (fun v22_1 => (s_X0_indexAt_2 G n x1 v22_1))))))
set_option maxHeartbeats 4000000 in
set_option maxRecDepth 100000 in
theorem b_X0_indexAt_2 {Γ : cr_C} {E : cr_E} (X : cr_X Γ E cX0_indexAt 3 RX0 wsX0_indexAt rm_X0_indexAt (some .int)) (S0 : cr_S) {f : Nat} (hf : f < 8) (G : cr_G) : ∀ (n : Nat) (x1 : Int32) (x2 : Int32), cr_P Γ E 3 (cr_F Γ E (cr_vI (cr_us S0 f G))) 0 0 (cr_us S0 f G) 2 ([(0, .ref (E.2.1 f 2)), (1, .int x1), (2, .int x2)]) ([]) (s_X0_indexAt_2 G n x1 x2) := by
  have hEK := X.2.2.2.2.2.2.1
  intro n
  induction n with
  | zero => intro x1 x2; exact cr_none
  | succ n ih =>
    intro x1 x2
    rw [s_X0_indexAt_2]
    refine cr_iload_n X 2 rfl dX0_indexAt_2 ?_
    refine cr_aload_n X 0 rfl dX0_indexAt_3 ?_
    refine cr_get X ((cr_a2 E hf).at (cr_row S0 f G 2) rfl) rfl i_X0_indexAt_X0 2 (by decide) k_X0_indexAt_1 rfl dX0_indexAt_4 ?_
    refine cr_icmp_ge X 28 dX0_indexAt_7 rfl ?_ ?_
    · refine cr_iconst X (-1 : Int32) (by decide) dX0_indexAt_28 ?_
      exact cr_iret X rfl rfl dX0_indexAt_29
    · refine cr_aload_n X 0 rfl dX0_indexAt_10 ?_
      refine cr_get X ((cr_a2 E hf).at (cr_row S0 f G 2) rfl) rfl i_X0_indexAt_X0 0 (by decide) k_X0_indexAt_2 rfl dX0_indexAt_11 ?_
      refine cr_iload_n X 2 rfl dX0_indexAt_14 ?_
      refine cr_iald X ((cr_a3 E hf).at (cr_row S0 f G 3) rfl) dX0_indexAt_15 ?_
      refine cr_iload_n X 1 rfl dX0_indexAt_16 ?_
      refine cr_icmp_ne X 22 dX0_indexAt_17 rfl ?_ ?_
      · refine cr_iinc X (x2 + 1) (fun v22_1 => [(2, .int v22_1), (0, .ref (E.2.1 f 2)), (1, .int x1)]) 2 rfl rfl (fun _ => rfl) (by decide) dX0_indexAt_22 (fun v22_1 => ?_)
        refine cr_goto X 2 dX0_indexAt_25 rfl ?_
        refine cr_sub (lv' := [(0, .ref (E.2.1 f 2)), (1, .int x1), (2, .int v22_1)]) [1, 2, 0] rfl ?_
        exact ih x1 v22_1
      · refine cr_iload_n X 2 rfl dX0_indexAt_20 ?_
        exact cr_iret X rfl rfl dX0_indexAt_21
def s_X0_indexAt (G : cr_G) (p1 : Int32) : Option Int32 := (s_X0_indexAt_2 G 1200 p1 ((0 : Int32)))
set_option maxHeartbeats 4000000 in
set_option maxRecDepth 100000 in
theorem c_X0_indexAt (l : Launch) (E : cr_E) (hEK : cr_EK E) (S0 : cr_S) {f : Nat} (hf : f < 8) (G : cr_G) (p1 : Int32) : cr_M l E yX0_indexAt wsX0_indexAt rm_X0_indexAt [.ref (E.2.1 f 2), .int p1] (cr_us S0 f G) (cr_vI (cr_us S0 f G)) (s_X0_indexAt G p1) := by
  refine cr_enter (cc := cX0_indexAt) (nL := 3) (rt := (some .int)) hEK (by decide) rfl (Nat.le_of_ble_eq_true rfl) (fun Γ hΓ X => ?_)
  subst hΓ
  have X : cr_X Γ E cX0_indexAt 3 RX0 wsX0_indexAt rm_X0_indexAt (some .int) := X
  unfold s_X0_indexAt
  show cr_P Γ E 3 _ 0 0 (cr_us S0 f G) 0 ([(0, .ref (E.2.1 f 2)), (1, .int p1)]) [] _
  refine cr_iconst X (0 : Int32) (by decide) dX0_indexAt_0 ?_
  refine cr_istore_n X ([(2, .int ((0 : Int32))), (0, .ref (E.2.1 f 2)), (1, .int p1)]) rfl (by decide) dX0_indexAt_1 ?_
  refine cr_sub (lv' := [(0, .ref (E.2.1 f 2)), (1, .int p1), (2, .int ((0 : Int32)))]) [1, 2, 0] rfl ?_
  exact b_X0_indexAt_2 X S0 hf G 1200 p1 ((0 : Int32))
theorem c_X0_indexAt_S (l : Launch) (E : cr_E) (hEK : cr_EK E) (S : cr_S) {f : Nat} (hf : f < 8) (p1 : Int32) : cr_M l E yX0_indexAt wsX0_indexAt rm_X0_indexAt [.ref (E.2.1 f 2), .int p1] S (cr_vI S) (s_X0_indexAt (S.1 f) p1) := by
  have h := c_X0_indexAt l E hEK S hf (S.1 f) p1
  rw [cr_us_self] at h
  exact h

theorem k_X0_isFull_1 : (Cond.fieldLink RX0 18 "CraneCampaign$Bogs" "count" "I") ∈ wsX0_isFull := List.mem_of_getElem? (i := 1) (by rfl)
theorem i_X0_isFull_X0 : ∀ w ∈ wsX00, w ∈ wsX0_isFull := by decide +kernel
abbrev rm_X0_isFull : Room := { frames := 0, cells := 0, slots := 0, locals := 0 }
def s_X0_isFull (G : cr_G) : Option Bool := (if ((G 2) 2) < (6 : Int32) then (some false) else (some true))
set_option maxHeartbeats 4000000 in
set_option maxRecDepth 100000 in
theorem c_X0_isFull (l : Launch) (E : cr_E) (hEK : cr_EK E) (S0 : cr_S) {f : Nat} (hf : f < 8) (G : cr_G) : cr_M l E yX0_isFull wsX0_isFull rm_X0_isFull [.ref (E.2.1 f 2)] (cr_us S0 f G) (cr_vB (cr_us S0 f G)) (s_X0_isFull G) := by
  refine cr_enter (cc := cX0_isFull) (nL := 1) (rt := (some .boolean)) hEK (by decide) rfl (Nat.le_of_ble_eq_true rfl) (fun Γ hΓ X => ?_)
  subst hΓ
  have X : cr_X Γ E cX0_isFull 1 RX0 wsX0_isFull rm_X0_isFull (some .boolean) := X
  unfold s_X0_isFull
  show cr_P Γ E 1 _ 0 0 (cr_us S0 f G) 0 ([(0, .ref (E.2.1 f 2))]) [] _
  refine cr_aload_n X 0 rfl dX0_isFull_0 ?_
  refine cr_get X ((cr_a2 E hf).at (cr_row S0 f G 2) rfl) rfl i_X0_isFull_X0 2 (by decide) k_X0_isFull_1 rfl dX0_isFull_1 ?_
  refine cr_bipush X (6 : Int32) (by decide) dX0_isFull_4 ?_
  refine cr_icmp_lt X 13 dX0_isFull_6 rfl ?_ ?_
  · refine cr_iconst X (0 : Int32) (by decide) dX0_isFull_13 ?_
    exact cr_zret X false rfl rfl rfl dX0_isFull_14
  · refine cr_iconst X (1 : Int32) (by decide) dX0_isFull_9 ?_
    refine cr_goto X 14 dX0_isFull_10 rfl ?_
    exact cr_zret X true rfl rfl rfl dX0_isFull_14
theorem c_X0_isFull_S (l : Launch) (E : cr_E) (hEK : cr_EK E) (S : cr_S) {f : Nat} (hf : f < 8) : cr_M l E yX0_isFull wsX0_isFull rm_X0_isFull [.ref (E.2.1 f 2)] S (cr_vB S) (s_X0_isFull (S.1 f)) := by
  have h := c_X0_isFull l E hEK S hf (S.1 f)
  rw [cr_us_self] at h
  exact h

theorem k_X0_insert_1 : (Cond.fieldLink RX0 18 "CraneCampaign$Bogs" "count" "I") ∈ wsX0_insert := List.mem_of_getElem? (i := 1) (by rfl)
theorem k_X0_insert_2 : (Cond.fieldLink RX0 9 "CraneCampaign$Bogs" "place" "[I") ∈ wsX0_insert := List.mem_of_getElem? (i := 2) (by rfl)
theorem k_X0_insert_3 : (Cond.fieldLink RX0 15 "CraneCampaign$Bogs" "need" "[I") ∈ wsX0_insert := List.mem_of_getElem? (i := 3) (by rfl)
theorem i_X0_insert_X0 : ∀ w ∈ wsX00, w ∈ wsX0_insert := by decide +kernel
abbrev rm_X0_insert : Room := { frames := 1, cells := 0, slots := 0, locals := 20 }
def s_X0_insert_80 (x1 : Int32) (x2 : Int32) (x3 : Int32) (G : cr_G) : Option cr_G := (cr_gd (cr_in x3 6) (cr_bd (cr_pt G 3 (x3).toNatClampNeg x1) (fun G86_8 => (cr_gd (cr_in x3 6) (cr_bd (cr_pt G86_8 4 (x3).toNatClampNeg x2) (fun G93_9 => (cr_bd (cr_pt G93_9 2 2 ((((G93_9 2) 2) + (1 : Int32)))) (fun G101_10 => (some G101_10)))))))))
set_option maxHeartbeats 4000000 in
set_option maxRecDepth 100000 in
theorem b_X0_insert_80 {Γ : cr_C} {E : cr_E} (X : cr_X Γ E cX0_insert 5 RX0 wsX0_insert rm_X0_insert none) (S0 : cr_S) {f : Nat} (hf : f < 8) (x1 : Int32) (x2 : Int32) (x3 : Int32) (G : cr_G) : cr_P Γ E 5 (cr_F Γ E (cr_vVG S0 f)) 0 0 (cr_us S0 f G) 80 ([(0, .ref (E.2.1 f 2)), (1, .int x1), (2, .int x2), (3, .int x3)]) ([]) (s_X0_insert_80 x1 x2 x3 G) := by
  have hEK := X.2.2.2.2.2.2.1
  unfold s_X0_insert_80
  refine cr_aload_n X 0 rfl dX0_insert_80 ?_
  refine cr_get X ((cr_a2 E hf).at (cr_row S0 f G 2) rfl) rfl i_X0_insert_X0 0 (by decide) k_X0_insert_2 rfl dX0_insert_81 ?_
  refine cr_iload_n X 3 rfl dX0_insert_84 ?_
  refine cr_iload_n X 1 rfl dX0_insert_85 ?_
  refine cr_iastG X (cr_a3 E hf) (fun _ _ => rfl) dX0_insert_86 (fun G86_8 => ?_)
  refine cr_aload_n X 0 rfl dX0_insert_87 ?_
  refine cr_get X ((cr_a2 E hf).at (cr_row S0 f G86_8 2) rfl) rfl i_X0_insert_X0 1 (by decide) k_X0_insert_3 rfl dX0_insert_88 ?_
  refine cr_iload_n X 3 rfl dX0_insert_91 ?_
  refine cr_iload_n X 2 rfl dX0_insert_92 ?_
  refine cr_iastG X (cr_a4 E hf) (fun _ _ => rfl) dX0_insert_93 (fun G93_9 => ?_)
  refine cr_aload_n X 0 rfl dX0_insert_94 ?_
  refine cr_dup X rfl dX0_insert_95 ?_
  refine cr_get X ((cr_a2 E hf).at (cr_row S0 f G93_9 2) rfl) rfl i_X0_insert_X0 2 (by decide) k_X0_insert_1 rfl dX0_insert_96 ?_
  refine cr_iconst X (1 : Int32) (by decide) dX0_insert_99 ?_
  refine cr_iadd X dX0_insert_100 ?_
  refine cr_putG X (cr_a2 E hf) 2 rfl rfl rfl i_X0_insert_X0 tyX0 tyX0_ok nmX0 (by decide) k_X0_insert_1 rfl rfl rfl (Nat.le_of_ble_eq_true rfl) dX0_insert_101 (fun G101_10 => ?_)
  exact cr_vret X rfl rfl dX0_insert_104
def s_X0_insert_19 : Nat → Int32 → Int32 → Int32 → Int32 → cr_G → Option cr_G
  | 0, _, _, _, _, _ => none
  | n + 1, x1, x2, x3, x4, G => (if x4 ≤ 0 then (s_X0_insert_80 x1 x2 x3 G) else (cr_gd (cr_in ((x4 - (1 : Int32))) 6) (if ((G 3) ((x4 - (1 : Int32))).toNatClampNeg) ≤ x1 then (s_X0_insert_80 x1 x2 x3 G) else (cr_gd (cr_in ((x4 - (1 : Int32))) 6) (cr_gd (cr_in x4 6) (cr_bd (cr_pt G 3 (x4).toNatClampNeg (((G 3) ((x4 - (1 : Int32))).toNatClampNeg))) (fun G52_4 => (cr_gd (cr_in ((x4 - (1 : Int32))) 6) (cr_gd (cr_in x4 6) (cr_bd (cr_pt G52_4 4 (x4).toNatClampNeg (((G52_4 4) ((x4 - (1 : Int32))).toNatClampNeg))) (fun G68_5 => (cr_bd (x4 - (1 : Int32)) (fun v73_6 => (cr_bd (x4 + (-1)) (fun v74_7 => (s_X0_insert_19 n x1 x2 v73_6 v74_7 G68_5))))))))))))))))
set_option maxHeartbeats 4000000 in
set_option maxRecDepth 100000 in
theorem b_X0_insert_19 {Γ : cr_C} {E : cr_E} (X : cr_X Γ E cX0_insert 5 RX0 wsX0_insert rm_X0_insert none) (S0 : cr_S) {f : Nat} (hf : f < 8) : ∀ (n : Nat) (x1 : Int32) (x2 : Int32) (x3 : Int32) (x4 : Int32) (G : cr_G), cr_P Γ E 5 (cr_F Γ E (cr_vVG S0 f)) 0 0 (cr_us S0 f G) 19 ([(0, .ref (E.2.1 f 2)), (1, .int x1), (2, .int x2), (3, .int x3), (4, .int x4)]) ([]) (s_X0_insert_19 n x1 x2 x3 x4 G) := by
  have hEK := X.2.2.2.2.2.2.1
  intro n
  induction n with
  | zero => intro x1 x2 x3 x4 G; exact cr_none
  | succ n ih =>
    intro x1 x2 x3 x4 G
    rw [s_X0_insert_19]
    refine cr_iload X 4 rfl dX0_insert_19 ?_
    refine cr_if_le X 80 dX0_insert_21 rfl ?_ ?_
    · refine cr_sub (lv' := [(0, .ref (E.2.1 f 2)), (1, .int x1), (2, .int x2), (3, .int x3)]) [0, 1, 2, 3] rfl ?_
      exact b_X0_insert_80 X S0 hf x1 x2 x3 G
    · refine cr_aload_n X 0 rfl dX0_insert_24 ?_
      refine cr_get X ((cr_a2 E hf).at (cr_row S0 f G 2) rfl) rfl i_X0_insert_X0 0 (by decide) k_X0_insert_2 rfl dX0_insert_25 ?_
      refine cr_iload X 4 rfl dX0_insert_28 ?_
      refine cr_iconst X (1 : Int32) (by decide) dX0_insert_30 ?_
      refine cr_isub X dX0_insert_31 ?_
      refine cr_iald X ((cr_a3 E hf).at (cr_row S0 f G 3) rfl) dX0_insert_32 ?_
      refine cr_iload_n X 1 rfl dX0_insert_33 ?_
      refine cr_icmp_le X 80 dX0_insert_34 rfl ?_ ?_
      · refine cr_sub (lv' := [(0, .ref (E.2.1 f 2)), (1, .int x1), (2, .int x2), (3, .int x3)]) [0, 1, 2, 3] rfl ?_
        exact b_X0_insert_80 X S0 hf x1 x2 x3 G
      · refine cr_aload_n X 0 rfl dX0_insert_37 ?_
        refine cr_get X ((cr_a2 E hf).at (cr_row S0 f G 2) rfl) rfl i_X0_insert_X0 0 (by decide) k_X0_insert_2 rfl dX0_insert_38 ?_
        refine cr_iload X 4 rfl dX0_insert_41 ?_
        refine cr_aload_n X 0 rfl dX0_insert_43 ?_
        refine cr_get X ((cr_a2 E hf).at (cr_row S0 f G 2) rfl) rfl i_X0_insert_X0 0 (by decide) k_X0_insert_2 rfl dX0_insert_44 ?_
        refine cr_iload X 4 rfl dX0_insert_47 ?_
        refine cr_iconst X (1 : Int32) (by decide) dX0_insert_49 ?_
        refine cr_isub X dX0_insert_50 ?_
        refine cr_iald X ((cr_a3 E hf).at (cr_row S0 f G 3) rfl) dX0_insert_51 ?_
        refine cr_iastG X (cr_a3 E hf) (fun _ _ => rfl) dX0_insert_52 (fun G52_4 => ?_)
        refine cr_aload_n X 0 rfl dX0_insert_53 ?_
        refine cr_get X ((cr_a2 E hf).at (cr_row S0 f G52_4 2) rfl) rfl i_X0_insert_X0 1 (by decide) k_X0_insert_3 rfl dX0_insert_54 ?_
        refine cr_iload X 4 rfl dX0_insert_57 ?_
        refine cr_aload_n X 0 rfl dX0_insert_59 ?_
        refine cr_get X ((cr_a2 E hf).at (cr_row S0 f G52_4 2) rfl) rfl i_X0_insert_X0 1 (by decide) k_X0_insert_3 rfl dX0_insert_60 ?_
        refine cr_iload X 4 rfl dX0_insert_63 ?_
        refine cr_iconst X (1 : Int32) (by decide) dX0_insert_65 ?_
        refine cr_isub X dX0_insert_66 ?_
        refine cr_iald X ((cr_a4 E hf).at (cr_row S0 f G52_4 4) rfl) dX0_insert_67 ?_
        refine cr_iastG X (cr_a4 E hf) (fun _ _ => rfl) dX0_insert_68 (fun G68_5 => ?_)
        refine cr_iload X 4 rfl dX0_insert_69 ?_
        refine cr_iconst X (1 : Int32) (by decide) dX0_insert_71 ?_
        refine cr_isub X dX0_insert_72 ?_
        refine cr_istore_nb X (fun v73_6 => [(3, .int v73_6), (0, .ref (E.2.1 f 2)), (1, .int x1), (2, .int x2), (4, .int x4)]) (fun _ => rfl) (by decide) dX0_insert_73 (fun v73_6 => ?_)
        refine cr_iinc X (x4 + (-1)) (fun v74_7 => [(4, .int v74_7), (3, .int v73_6), (0, .ref (E.2.1 f 2)), (1, .int x1), (2, .int x2)]) 4 rfl (congrArg (fun z => x4 + z) (show Int32.ofInt (-1) = (-1 : Int32) by decide)) (fun _ => rfl) (by decide) dX0_insert_74 (fun v74_7 => ?_)
        refine cr_goto X 19 dX0_insert_77 rfl ?_
        refine cr_sub (lv' := [(0, .ref (E.2.1 f 2)), (1, .int x1), (2, .int x2), (3, .int v73_6), (4, .int v74_7)]) [2, 3, 4, 1, 0] rfl ?_
        exact ih x1 x2 v73_6 v74_7 G68_5
def s_X0_insert (p1 : Int32) (p2 : Int32) (G : cr_G) : Option cr_G := (cr_cl (s_X0_isFull G) (fun r1_1 => (if r1_1 = true then (some G) else (cr_bd ((G 2) 2) (fun v12_2 => (cr_bd ((G 2) 2) (fun v17_3 => (s_X0_insert_19 1200 p1 p2 v12_2 v17_3 G))))))))
set_option maxHeartbeats 4000000 in
set_option maxRecDepth 100000 in
theorem c_X0_insert (l : Launch) (E : cr_E) (hEK : cr_EK E) (S0 : cr_S) {f : Nat} (hf : f < 8) (G : cr_G) (p1 : Int32) (p2 : Int32) : cr_M l E yX0_insert wsX0_insert rm_X0_insert [.ref (E.2.1 f 2), .int p1, .int p2] (cr_us S0 f G) (cr_vVG S0 f) (s_X0_insert p1 p2 G) := by
  refine cr_enter (cc := cX0_insert) (nL := 5) (rt := none) hEK (by decide) rfl (Nat.le_of_ble_eq_true rfl) (fun Γ hΓ X => ?_)
  subst hΓ
  have X : cr_X Γ E cX0_insert 5 RX0 wsX0_insert rm_X0_insert none := X
  unfold s_X0_insert
  show cr_P Γ E 5 _ 0 0 (cr_us S0 f G) 0 ([(0, .ref (E.2.1 f 2)), (1, .int p1), (2, .int p2)]) [] _
  refine cr_aload_n X 0 rfl dX0_insert_0 ?_
  refine cr_callV X (As := []) (rest := []) (c_X0_isFull Γ.2.1 E hEK S0 hf G) ((cr_a2 E hf).at (cr_row S0 f G 2) rfl) rfl 0 gX0_insert_X0_isFull rfl rfl rfl (by decide +kernel) ⟨Nat.le_of_ble_eq_true rfl, Nat.le_of_ble_eq_true rfl⟩ (by decide) rfl rfl (Nat.le_of_ble_eq_true rfl) dX0_insert_1 (fun r1_1 => ?_)
  show cr_P Γ E 5 _ 0 0 (cr_us S0 f G) 4 ([(0, .ref (E.2.1 f 2)), (1, .int p1), (2, .int p2)]) ([.int (cr_b r1_1)]) _
  refine cr_ifb_eq X 8 dX0_insert_4 rfl ?_ ?_
  · refine cr_aload_n X 0 rfl dX0_insert_8 ?_
    refine cr_get X ((cr_a2 E hf).at (cr_row S0 f G 2) rfl) rfl i_X0_insert_X0 2 (by decide) k_X0_insert_1 rfl dX0_insert_9 ?_
    refine cr_istore_nb X (fun v12_2 => [(3, .int v12_2), (0, .ref (E.2.1 f 2)), (1, .int p1), (2, .int p2)]) (fun _ => rfl) (by decide) dX0_insert_12 (fun v12_2 => ?_)
    refine cr_aload_n X 1 rfl dX0_insert_13 ?_
    refine cr_get X ((cr_a2 E hf).at (cr_row S0 f G 2) rfl) rfl i_X0_insert_X0 2 (by decide) k_X0_insert_1 rfl dX0_insert_14 ?_
    refine cr_istoreb X (fun v17_3 => [(4, .int v17_3), (3, .int v12_2), (0, .ref (E.2.1 f 2)), (1, .int p1), (2, .int p2)]) (fun _ => rfl) (by decide) dX0_insert_17 (fun v17_3 => ?_)
    refine cr_sub (lv' := [(0, .ref (E.2.1 f 2)), (1, .int p1), (2, .int p2), (3, .int v12_2), (4, .int v17_3)]) [2, 3, 4, 1, 0] rfl ?_
    exact b_X0_insert_19 X S0 hf 1200 p1 p2 v12_2 v17_3 G
  · exact cr_vret X rfl rfl dX0_insert_7
theorem c_X0_insert_S (l : Launch) (E : cr_E) (hEK : cr_EK E) (S : cr_S) {f : Nat} (hf : f < 8) (p1 : Int32) (p2 : Int32) : cr_M l E yX0_insert wsX0_insert rm_X0_insert [.ref (E.2.1 f 2), .int p1, .int p2] S (cr_vVG S f) (s_X0_insert  p1 p2 (S.1 f)) := by
  have h := c_X0_insert l E hEK S hf (S.1 f) p1 p2
  rw [cr_us_self] at h
  exact h

theorem k_X0_removeAt_1 : (Cond.fieldLink RX0 18 "CraneCampaign$Bogs" "count" "I") ∈ wsX0_removeAt := List.mem_of_getElem? (i := 1) (by rfl)
theorem k_X0_removeAt_2 : (Cond.fieldLink RX0 9 "CraneCampaign$Bogs" "place" "[I") ∈ wsX0_removeAt := List.mem_of_getElem? (i := 2) (by rfl)
theorem k_X0_removeAt_3 : (Cond.fieldLink RX0 15 "CraneCampaign$Bogs" "need" "[I") ∈ wsX0_removeAt := List.mem_of_getElem? (i := 3) (by rfl)
theorem i_X0_removeAt_X0 : ∀ w ∈ wsX00, w ∈ wsX0_removeAt := by decide +kernel
abbrev rm_X0_removeAt : Room := { frames := 0, cells := 0, slots := 0, locals := 0 }
def s_X0_removeAt_25 : Nat → Int32 → cr_G → Option cr_G
  | 0, _, _ => none
  | n + 1, x2, G => (if ((G 2) 2) ≤ x2 then (some G) else (cr_gd (cr_in ((x2 + (1 : Int32))) 6) (cr_gd (cr_in x2 6) (cr_bd (cr_pt G 3 (x2).toNatClampNeg (((G 3) ((x2 + (1 : Int32))).toNatClampNeg))) (fun G46_2 => (cr_gd (cr_in ((x2 + (1 : Int32))) 6) (cr_gd (cr_in x2 6) (cr_bd (cr_pt G46_2 4 (x2).toNatClampNeg (((G46_2 4) ((x2 + (1 : Int32))).toNatClampNeg))) (fun G60_3 => (cr_bd (x2 + 1) (fun v61_4 => (s_X0_removeAt_25 n v61_4 G60_3))))))))))))
set_option maxHeartbeats 4000000 in
set_option maxRecDepth 100000 in
theorem b_X0_removeAt_25 {Γ : cr_C} {E : cr_E} (X : cr_X Γ E cX0_removeAt 3 RX0 wsX0_removeAt rm_X0_removeAt none) (S0 : cr_S) {f : Nat} (hf : f < 8) : ∀ (n : Nat) (x2 : Int32) (G : cr_G), cr_P Γ E 3 (cr_F Γ E (cr_vVG S0 f)) 0 0 (cr_us S0 f G) 25 ([(0, .ref (E.2.1 f 2)), (2, .int x2)]) ([]) (s_X0_removeAt_25 n x2 G) := by
  have hEK := X.2.2.2.2.2.2.1
  intro n
  induction n with
  | zero => intro x2 G; exact cr_none
  | succ n ih =>
    intro x2 G
    rw [s_X0_removeAt_25]
    refine cr_iload_n X 1 rfl dX0_removeAt_25 ?_
    refine cr_aload_n X 0 rfl dX0_removeAt_26 ?_
    refine cr_get X ((cr_a2 E hf).at (cr_row S0 f G 2) rfl) rfl i_X0_removeAt_X0 2 (by decide) k_X0_removeAt_1 rfl dX0_removeAt_27 ?_
    refine cr_icmp_ge X 67 dX0_removeAt_30 rfl ?_ ?_
    · exact cr_vret X rfl rfl dX0_removeAt_67
    · refine cr_aload_n X 0 rfl dX0_removeAt_33 ?_
      refine cr_get X ((cr_a2 E hf).at (cr_row S0 f G 2) rfl) rfl i_X0_removeAt_X0 0 (by decide) k_X0_removeAt_2 rfl dX0_removeAt_34 ?_
      refine cr_iload_n X 1 rfl dX0_removeAt_37 ?_
      refine cr_aload_n X 0 rfl dX0_removeAt_38 ?_
      refine cr_get X ((cr_a2 E hf).at (cr_row S0 f G 2) rfl) rfl i_X0_removeAt_X0 0 (by decide) k_X0_removeAt_2 rfl dX0_removeAt_39 ?_
      refine cr_iload_n X 1 rfl dX0_removeAt_42 ?_
      refine cr_iconst X (1 : Int32) (by decide) dX0_removeAt_43 ?_
      refine cr_iadd X dX0_removeAt_44 ?_
      refine cr_iald X ((cr_a3 E hf).at (cr_row S0 f G 3) rfl) dX0_removeAt_45 ?_
      refine cr_iastG X (cr_a3 E hf) (fun _ _ => rfl) dX0_removeAt_46 (fun G46_2 => ?_)
      refine cr_aload_n X 0 rfl dX0_removeAt_47 ?_
      refine cr_get X ((cr_a2 E hf).at (cr_row S0 f G46_2 2) rfl) rfl i_X0_removeAt_X0 1 (by decide) k_X0_removeAt_3 rfl dX0_removeAt_48 ?_
      refine cr_iload_n X 1 rfl dX0_removeAt_51 ?_
      refine cr_aload_n X 0 rfl dX0_removeAt_52 ?_
      refine cr_get X ((cr_a2 E hf).at (cr_row S0 f G46_2 2) rfl) rfl i_X0_removeAt_X0 1 (by decide) k_X0_removeAt_3 rfl dX0_removeAt_53 ?_
      refine cr_iload_n X 1 rfl dX0_removeAt_56 ?_
      refine cr_iconst X (1 : Int32) (by decide) dX0_removeAt_57 ?_
      refine cr_iadd X dX0_removeAt_58 ?_
      refine cr_iald X ((cr_a4 E hf).at (cr_row S0 f G46_2 4) rfl) dX0_removeAt_59 ?_
      refine cr_iastG X (cr_a4 E hf) (fun _ _ => rfl) dX0_removeAt_60 (fun G60_3 => ?_)
      refine cr_iinc X (x2 + 1) (fun v61_4 => [(2, .int v61_4), (0, .ref (E.2.1 f 2))]) 1 rfl rfl (fun _ => rfl) (by decide) dX0_removeAt_61 (fun v61_4 => ?_)
      refine cr_goto X 25 dX0_removeAt_64 rfl ?_
      refine cr_sub (lv' := [(0, .ref (E.2.1 f 2)), (2, .int v61_4)]) [1, 0] rfl ?_
      exact ih v61_4 G60_3
def s_X0_removeAt (p1 : Int32) (G : cr_G) : Option cr_G := (if p1 < 0 then (some G) else (if p1 < ((G 2) 2) then (cr_bd (cr_pt G 2 2 ((((G 2) 2) - (1 : Int32)))) (fun G20_1 => (s_X0_removeAt_25 1200 p1 G20_1))) else (some G)))
set_option maxHeartbeats 4000000 in
set_option maxRecDepth 100000 in
theorem c_X0_removeAt (l : Launch) (E : cr_E) (hEK : cr_EK E) (S0 : cr_S) {f : Nat} (hf : f < 8) (G : cr_G) (p1 : Int32) : cr_M l E yX0_removeAt wsX0_removeAt rm_X0_removeAt [.ref (E.2.1 f 2), .int p1] (cr_us S0 f G) (cr_vVG S0 f) (s_X0_removeAt p1 G) := by
  refine cr_enter (cc := cX0_removeAt) (nL := 3) (rt := none) hEK (by decide) rfl (Nat.le_of_ble_eq_true rfl) (fun Γ hΓ X => ?_)
  subst hΓ
  have X : cr_X Γ E cX0_removeAt 3 RX0 wsX0_removeAt rm_X0_removeAt none := X
  unfold s_X0_removeAt
  show cr_P Γ E 3 _ 0 0 (cr_us S0 f G) 0 ([(0, .ref (E.2.1 f 2)), (1, .int p1)]) [] _
  refine cr_iload_n X 1 rfl dX0_removeAt_0 ?_
  refine cr_if_lt X 12 dX0_removeAt_1 rfl ?_ ?_
  · exact cr_vret X rfl rfl dX0_removeAt_12
  · refine cr_iload_n X 1 rfl dX0_removeAt_4 ?_
    refine cr_aload_n X 0 rfl dX0_removeAt_5 ?_
    refine cr_get X ((cr_a2 E hf).at (cr_row S0 f G 2) rfl) rfl i_X0_removeAt_X0 2 (by decide) k_X0_removeAt_1 rfl dX0_removeAt_6 ?_
    refine cr_icmp_lt X 13 dX0_removeAt_9 rfl ?_ ?_
    · refine cr_aload_n X 0 rfl dX0_removeAt_13 ?_
      refine cr_dup X rfl dX0_removeAt_14 ?_
      refine cr_get X ((cr_a2 E hf).at (cr_row S0 f G 2) rfl) rfl i_X0_removeAt_X0 2 (by decide) k_X0_removeAt_1 rfl dX0_removeAt_15 ?_
      refine cr_iconst X (1 : Int32) (by decide) dX0_removeAt_18 ?_
      refine cr_isub X dX0_removeAt_19 ?_
      refine cr_putG X (cr_a2 E hf) 2 rfl rfl rfl i_X0_removeAt_X0 tyX0 tyX0_ok nmX0 (by decide) k_X0_removeAt_1 rfl rfl rfl (Nat.le_of_ble_eq_true rfl) dX0_removeAt_20 (fun G20_1 => ?_)
      refine cr_iload_n X 1 rfl dX0_removeAt_23 ?_
      refine cr_istore_n X ([(2, .int p1), (0, .ref (E.2.1 f 2)), (1, .int p1)]) rfl (by decide) dX0_removeAt_24 ?_
      refine cr_sub (lv' := [(0, .ref (E.2.1 f 2)), (2, .int p1)]) [1, 0] rfl ?_
      exact b_X0_removeAt_25 X S0 hf 1200 p1 G20_1
    · exact cr_vret X rfl rfl dX0_removeAt_12
theorem c_X0_removeAt_S (l : Launch) (E : cr_E) (hEK : cr_EK E) (S : cr_S) {f : Nat} (hf : f < 8) (p1 : Int32) : cr_M l E yX0_removeAt wsX0_removeAt rm_X0_removeAt [.ref (E.2.1 f 2), .int p1] S (cr_vVG S f) (s_X0_removeAt  p1 (S.1 f)) := by
  have h := c_X0_removeAt l E hEK S hf (S.1 f) p1
  rw [cr_us_self] at h
  exact h

theorem k_X0_put_1 : (Cond.fieldLink RX0 15 "CraneCampaign$Bogs" "need" "[I") ∈ wsX0_put := List.mem_of_getElem? (i := 1) (by rfl)
theorem i_X0_put_X0 : ∀ w ∈ wsX00, w ∈ wsX0_put := by decide +kernel
abbrev rm_X0_put : Room := { frames := 2, cells := 0, slots := 0, locals := 44 }
def s_X0_put (p1 : Int32) (p2 : Int32) (G : cr_G) : Option cr_G := (cr_cl (s_X0_indexAt G p1) (fun r2_1 => (if p2 = 0 then (cr_cl (s_X0_removeAt r2_1 G) (fun r12_4 => (some r12_4))) else (if r2_1 = (-1 : Int32) then (cr_cl (s_X0_insert p1 p2 G) (fun r26_3 => (some r26_3))) else (cr_gd (cr_in r2_1 6) (cr_bd (cr_pt G 4 (r2_1).toNatClampNeg p2) (fun G38_2 => (some G38_2))))))))
set_option maxHeartbeats 4000000 in
set_option maxRecDepth 100000 in
theorem c_X0_put (l : Launch) (E : cr_E) (hEK : cr_EK E) (S0 : cr_S) {f : Nat} (hf : f < 8) (G : cr_G) (p1 : Int32) (p2 : Int32) : cr_M l E yX0_put wsX0_put rm_X0_put [.ref (E.2.1 f 2), .int p1, .int p2] (cr_us S0 f G) (cr_vVG S0 f) (s_X0_put p1 p2 G) := by
  refine cr_enter (cc := cX0_put) (nL := 4) (rt := none) hEK (by decide) rfl (Nat.le_of_ble_eq_true rfl) (fun Γ hΓ X => ?_)
  subst hΓ
  have X : cr_X Γ E cX0_put 4 RX0 wsX0_put rm_X0_put none := X
  unfold s_X0_put
  show cr_P Γ E 4 _ 0 0 (cr_us S0 f G) 0 ([(0, .ref (E.2.1 f 2)), (1, .int p1), (2, .int p2)]) [] _
  refine cr_aload_n X 0 rfl dX0_put_0 ?_
  refine cr_iload_n X 1 rfl dX0_put_1 ?_
  refine cr_callV X (As := [.int p1]) (rest := []) (c_X0_indexAt Γ.2.1 E hEK S0 hf G p1) ((cr_a2 E hf).at (cr_row S0 f G 2) rfl) rfl 1 gX0_put_X0_indexAt rfl rfl rfl (by decide +kernel) ⟨Nat.le_of_ble_eq_true rfl, Nat.le_of_ble_eq_true rfl⟩ (by decide) rfl rfl (Nat.le_of_ble_eq_true rfl) dX0_put_2 (fun r2_1 => ?_)
  show cr_P Γ E 4 _ 0 0 (cr_us S0 f G) 5 ([(0, .ref (E.2.1 f 2)), (1, .int p1), (2, .int p2)]) ([.int r2_1]) _
  refine cr_istore_n X ([(3, .int r2_1), (0, .ref (E.2.1 f 2)), (1, .int p1), (2, .int p2)]) rfl (by decide) dX0_put_5 ?_
  refine cr_iload_n X 3 rfl dX0_put_6 ?_
  refine cr_if_ne X 18 dX0_put_7 rfl ?_ ?_
  · refine cr_iload_n X 0 rfl dX0_put_18 ?_
    refine cr_iconst X (-1 : Int32) (by decide) dX0_put_19 ?_
    refine cr_icmp_ne X 32 dX0_put_20 rfl ?_ ?_
    · refine cr_aload_n X 1 rfl dX0_put_32 ?_
      refine cr_get X ((cr_a2 E hf).at (cr_row S0 f G 2) rfl) rfl i_X0_put_X0 1 (by decide) k_X0_put_1 rfl dX0_put_33 ?_
      refine cr_iload_n X 0 rfl dX0_put_36 ?_
      refine cr_iload_n X 3 rfl dX0_put_37 ?_
      refine cr_iastG X (cr_a4 E hf) (fun _ _ => rfl) dX0_put_38 (fun G38_2 => ?_)
      exact cr_vret X rfl rfl dX0_put_39
    · refine cr_aload_n X 1 rfl dX0_put_23 ?_
      refine cr_iload_n X 2 rfl dX0_put_24 ?_
      refine cr_iload_n X 3 rfl dX0_put_25 ?_
      refine cr_callV X (As := [.int p1, .int p2]) (rest := []) (c_X0_insert Γ.2.1 E hEK S0 hf G p1 p2) ((cr_a2 E hf).at (cr_row S0 f G 2) rfl) rfl 2 gX0_put_X0_insert rfl rfl rfl (by decide +kernel) ⟨Nat.le_of_ble_eq_true rfl, Nat.le_of_ble_eq_true rfl⟩ (by decide) rfl rfl (Nat.le_of_ble_eq_true rfl) dX0_put_26 (fun r26_3 => ?_)
      show cr_P Γ E 4 _ 0 0 (cr_us S0 f r26_3) 29 ([(3, .int r2_1), (0, .ref (E.2.1 f 2)), (1, .int p1), (2, .int p2)]) ([]) _
      refine cr_goto X 39 dX0_put_29 rfl ?_
      exact cr_vret X rfl rfl dX0_put_39
  · refine cr_aload_n X 1 rfl dX0_put_10 ?_
    refine cr_iload_n X 0 rfl dX0_put_11 ?_
    refine cr_callV X (As := [.int r2_1]) (rest := []) (c_X0_removeAt Γ.2.1 E hEK S0 hf G r2_1) ((cr_a2 E hf).at (cr_row S0 f G 2) rfl) rfl 1 gX0_put_X0_removeAt rfl rfl rfl (by decide +kernel) ⟨Nat.le_of_ble_eq_true rfl, Nat.le_of_ble_eq_true rfl⟩ (by decide) rfl rfl (Nat.le_of_ble_eq_true rfl) dX0_put_12 (fun r12_4 => ?_)
    show cr_P Γ E 4 _ 0 0 (cr_us S0 f r12_4) 15 ([(3, .int r2_1), (0, .ref (E.2.1 f 2)), (1, .int p1), (2, .int p2)]) ([]) _
    refine cr_goto X 39 dX0_put_15 rfl ?_
    exact cr_vret X rfl rfl dX0_put_39
theorem c_X0_put_S (l : Launch) (E : cr_E) (hEK : cr_EK E) (S : cr_S) {f : Nat} (hf : f < 8) (p1 : Int32) (p2 : Int32) : cr_M l E yX0_put wsX0_put rm_X0_put [.ref (E.2.1 f 2), .int p1, .int p2] S (cr_vVG S f) (s_X0_put  p1 p2 (S.1 f)) := by
  have h := c_X0_put l E hEK S hf (S.1 f) p1 p2
  rw [cr_us_self] at h
  exact h

theorem k_X1_copyFrom_1 : (Cond.fieldLink RX1 9 "CraneCampaign$Crane" "place" "I") ∈ wsX1_copyFrom := List.mem_of_getElem? (i := 1) (by rfl)
theorem k_X1_copyFrom_2 : (Cond.fieldLink RX1 15 "CraneCampaign$Crane" "hoursLeft" "I") ∈ wsX1_copyFrom := List.mem_of_getElem? (i := 2) (by rfl)
theorem k_X1_copyFrom_3 : (Cond.fieldLink RX1 18 "CraneCampaign$Crane" "goal" "I") ∈ wsX1_copyFrom := List.mem_of_getElem? (i := 3) (by rfl)
theorem k_X1_copyFrom_4 : (Cond.fieldLink RX1 21 "CraneCampaign$Crane" "workDone" "I") ∈ wsX1_copyFrom := List.mem_of_getElem? (i := 4) (by rfl)
theorem k_X1_copyFrom_5 : (Cond.fieldLink RX1 24 "CraneCampaign$Crane" "workedOn" "I") ∈ wsX1_copyFrom := List.mem_of_getElem? (i := 5) (by rfl)
theorem i_X1_copyFrom_X1 : ∀ w ∈ wsX10, w ∈ wsX1_copyFrom := by decide +kernel
abbrev rm_X1_copyFrom : Room := { frames := 0, cells := 0, slots := 0, locals := 0 }
def s_X1_copyFrom (Go : cr_G) (G : cr_G) : Option cr_G := (cr_bd (cr_pt G 10 0 (((Go 10) 0))) (fun G5_1 => (cr_bd (cr_pt G5_1 10 1 (((Go 10) 1))) (fun G13_2 => (cr_bd (cr_pt G13_2 10 2 (((Go 10) 2))) (fun G21_3 => (cr_bd (cr_pt G21_3 10 3 (((Go 10) 3))) (fun G29_4 => (cr_bd (cr_pt G29_4 10 4 (((Go 10) 4))) (fun G37_5 => (some G37_5)))))))))))
set_option maxHeartbeats 4000000 in
set_option maxRecDepth 100000 in
theorem c_X1_copyFrom (l : Launch) (E : cr_E) (hEK : cr_EK E) (S0 : cr_S) {f : Nat} (hf : f < 8) {g : Nat} (hg : g < 8) (hne : g ≠ f) (G : cr_G) : cr_M l E yX1_copyFrom wsX1_copyFrom rm_X1_copyFrom [.ref (E.2.1 f 10), .ref (E.2.1 g 10)] (cr_us S0 f G) (cr_vVG S0 f) (s_X1_copyFrom (S0.1 g) G) := by
  refine cr_enter (cc := cX1_copyFrom) (nL := 2) (rt := none) hEK (by decide) rfl (Nat.le_of_ble_eq_true rfl) (fun Γ hΓ X => ?_)
  subst hΓ
  have X : cr_X Γ E cX1_copyFrom 2 RX1 wsX1_copyFrom rm_X1_copyFrom none := X
  unfold s_X1_copyFrom
  show cr_P Γ E 2 _ 0 0 (cr_us S0 f G) 0 ([(0, .ref (E.2.1 f 10)), (1, .ref (E.2.1 g 10))]) [] _
  refine cr_aload_n X 0 rfl dX1_copyFrom_0 ?_
  refine cr_aload_n X 1 rfl dX1_copyFrom_1 ?_
  refine cr_get X ((cr_a10 E hg).at (cr_rowo S0 G hne 10) rfl) rfl i_X1_copyFrom_X1 0 (by decide) k_X1_copyFrom_1 rfl dX1_copyFrom_2 ?_
  refine cr_putG X (cr_a10 E hf) 0 rfl rfl rfl i_X1_copyFrom_X1 tyX1 tyX1_ok nmX1 (by decide) k_X1_copyFrom_1 rfl rfl rfl (Nat.le_of_ble_eq_true rfl) dX1_copyFrom_5 (fun G5_1 => ?_)
  refine cr_aload_n X 0 rfl dX1_copyFrom_8 ?_
  refine cr_aload_n X 1 rfl dX1_copyFrom_9 ?_
  refine cr_get X ((cr_a10 E hg).at (cr_rowo S0 G5_1 hne 10) rfl) rfl i_X1_copyFrom_X1 1 (by decide) k_X1_copyFrom_2 rfl dX1_copyFrom_10 ?_
  refine cr_putG X (cr_a10 E hf) 1 rfl rfl rfl i_X1_copyFrom_X1 tyX1 tyX1_ok nmX1 (by decide) k_X1_copyFrom_2 rfl rfl rfl (Nat.le_of_ble_eq_true rfl) dX1_copyFrom_13 (fun G13_2 => ?_)
  refine cr_aload_n X 0 rfl dX1_copyFrom_16 ?_
  refine cr_aload_n X 1 rfl dX1_copyFrom_17 ?_
  refine cr_get X ((cr_a10 E hg).at (cr_rowo S0 G13_2 hne 10) rfl) rfl i_X1_copyFrom_X1 2 (by decide) k_X1_copyFrom_3 rfl dX1_copyFrom_18 ?_
  refine cr_putG X (cr_a10 E hf) 2 rfl rfl rfl i_X1_copyFrom_X1 tyX1 tyX1_ok nmX1 (by decide) k_X1_copyFrom_3 rfl rfl rfl (Nat.le_of_ble_eq_true rfl) dX1_copyFrom_21 (fun G21_3 => ?_)
  refine cr_aload_n X 0 rfl dX1_copyFrom_24 ?_
  refine cr_aload_n X 1 rfl dX1_copyFrom_25 ?_
  refine cr_get X ((cr_a10 E hg).at (cr_rowo S0 G21_3 hne 10) rfl) rfl i_X1_copyFrom_X1 3 (by decide) k_X1_copyFrom_4 rfl dX1_copyFrom_26 ?_
  refine cr_putG X (cr_a10 E hf) 3 rfl rfl rfl i_X1_copyFrom_X1 tyX1 tyX1_ok nmX1 (by decide) k_X1_copyFrom_4 rfl rfl rfl (Nat.le_of_ble_eq_true rfl) dX1_copyFrom_29 (fun G29_4 => ?_)
  refine cr_aload_n X 0 rfl dX1_copyFrom_32 ?_
  refine cr_aload_n X 1 rfl dX1_copyFrom_33 ?_
  refine cr_get X ((cr_a10 E hg).at (cr_rowo S0 G29_4 hne 10) rfl) rfl i_X1_copyFrom_X1 4 (by decide) k_X1_copyFrom_5 rfl dX1_copyFrom_34 ?_
  refine cr_putG X (cr_a10 E hf) 4 rfl rfl rfl i_X1_copyFrom_X1 tyX1 tyX1_ok nmX1 (by decide) k_X1_copyFrom_5 rfl rfl rfl (Nat.le_of_ble_eq_true rfl) dX1_copyFrom_37 (fun G37_5 => ?_)
  exact cr_vret X rfl rfl dX1_copyFrom_40
theorem c_X1_copyFrom_S (l : Launch) (E : cr_E) (hEK : cr_EK E) (S : cr_S) {f : Nat} (hf : f < 8) {g : Nat} (hg : g < 8) (hne : g ≠ f) : cr_M l E yX1_copyFrom wsX1_copyFrom rm_X1_copyFrom [.ref (E.2.1 f 10), .ref (E.2.1 g 10)] S (cr_vVG S f) (s_X1_copyFrom (S.1 g)  (S.1 f)) := by
  have h := c_X1_copyFrom l E hEK S hf hg hne (S.1 f)
  rw [cr_us_self] at h
  exact h

theorem k_X1_driveTo_1 : (Cond.fieldLink RX1 18 "CraneCampaign$Crane" "goal" "I") ∈ wsX1_driveTo := List.mem_of_getElem? (i := 1) (by rfl)
theorem k_X1_driveTo_2 : (Cond.fieldLink RX1 15 "CraneCampaign$Crane" "hoursLeft" "I") ∈ wsX1_driveTo := List.mem_of_getElem? (i := 2) (by rfl)
theorem k_X1_driveTo_3 : (Cond.methodLink RX1 27 Lib.Math.max.name) ∈ wsX1_driveTo := List.mem_of_getElem? (i := 3) (by rfl)
theorem k_X1_driveTo_4 : (Cond.static Lib.Math.max.name) ∈ wsX1_driveTo := List.mem_of_getElem? (i := 4) (by rfl)
theorem k_X1_driveTo_5 : (Cond.initialized "java/lang/Math") ∈ wsX1_driveTo := List.mem_of_getElem? (i := 5) (by rfl)
theorem k_X1_driveTo_6 : (Cond.code Lib.Math.max.name Lib.Math.max.code 2 (some .int)) ∈ wsX1_driveTo := List.mem_of_getElem? (i := 6) (by rfl)
theorem k_X1_driveTo_7 : (Cond.fieldLink RX1 9 "CraneCampaign$Crane" "place" "I") ∈ wsX1_driveTo := List.mem_of_getElem? (i := 7) (by rfl)
theorem i_X1_driveTo_X1 : ∀ w ∈ wsX10, w ∈ wsX1_driveTo := by decide +kernel
abbrev rm_X1_driveTo : Room := { frames := 1, cells := 0, slots := 0, locals := 24 }
def s_X1_driveTo_18 (x1 : Int32) (x2 : Int32) (y0 : Int32) (y1 : Int32) (G : cr_G) : Option cr_G := (cr_bd (cr_pt G 10 1 ((cr_max y1 ((y0 - (1 : Int32)))))) (fun G23_1 => (cr_bd (cr_pt G23_1 10 2 x1) (fun G28_2 => (if ((G28_2 10) 1) = 0 then (cr_bd (cr_pt G28_2 10 0 x2) (fun G40_3 => (cr_bd (cr_pt G40_3 10 2 ((-1 : Int32))) (fun G45_4 => (some G45_4))))) else (some G28_2))))))
set_option maxHeartbeats 4000000 in
set_option maxRecDepth 100000 in
theorem b_X1_driveTo_18 {Γ : cr_C} {E : cr_E} (X : cr_X Γ E cX1_driveTo 4 RX1 wsX1_driveTo rm_X1_driveTo none) (S0 : cr_S) {f : Nat} (hf : f < 8) (x1 : Int32) (x2 : Int32) (y0 : Int32) (y1 : Int32) (G : cr_G) : cr_P Γ E 4 (cr_F Γ E (cr_vVG S0 f)) 0 0 (cr_us S0 f G) 18 ([(0, .ref (E.2.1 f 10)), (1, .int x1), (2, .int x2)]) ([.int y0, .int y1, .ref (E.2.1 f 10)]) (s_X1_driveTo_18 x1 x2 y0 y1 G) := by
  have hEK := X.2.2.2.2.2.2.1
  unfold s_X1_driveTo_18
  refine cr_iconst X (1 : Int32) (by decide) dX1_driveTo_18 ?_
  refine cr_isub X dX1_driveTo_19 ?_
  refine cr_mmax X k_X1_driveTo_3 k_X1_driveTo_4 k_X1_driveTo_5 k_X1_driveTo_6 (by decide) (Nat.le_of_ble_eq_true rfl) (by decide) dX1_driveTo_20 ?_
  refine cr_putG X (cr_a10 E hf) 1 rfl rfl rfl i_X1_driveTo_X1 tyX1 tyX1_ok nmX1 (by decide) k_X1_driveTo_2 rfl rfl rfl (Nat.le_of_ble_eq_true rfl) dX1_driveTo_23 (fun G23_1 => ?_)
  refine cr_aload_n X 0 rfl dX1_driveTo_26 ?_
  refine cr_iload_n X 1 rfl dX1_driveTo_27 ?_
  refine cr_putG X (cr_a10 E hf) 2 rfl rfl rfl i_X1_driveTo_X1 tyX1 tyX1_ok nmX1 (by decide) k_X1_driveTo_1 rfl rfl rfl (Nat.le_of_ble_eq_true rfl) dX1_driveTo_28 (fun G28_2 => ?_)
  refine cr_aload_n X 0 rfl dX1_driveTo_31 ?_
  refine cr_get X ((cr_a10 E hf).at (cr_row S0 f G28_2 10) rfl) rfl i_X1_driveTo_X1 1 (by decide) k_X1_driveTo_2 rfl dX1_driveTo_32 ?_
  refine cr_if_ne X 48 dX1_driveTo_35 rfl ?_ ?_
  · exact cr_vret X rfl rfl dX1_driveTo_48
  · refine cr_aload_n X 0 rfl dX1_driveTo_38 ?_
    refine cr_iload_n X 2 rfl dX1_driveTo_39 ?_
    refine cr_putG X (cr_a10 E hf) 0 rfl rfl rfl i_X1_driveTo_X1 tyX1 tyX1_ok nmX1 (by decide) k_X1_driveTo_7 rfl rfl rfl (Nat.le_of_ble_eq_true rfl) dX1_driveTo_40 (fun G40_3 => ?_)
    refine cr_aload_n X 0 rfl dX1_driveTo_43 ?_
    refine cr_iconst X (-1 : Int32) (by decide) dX1_driveTo_44 ?_
    refine cr_putG X (cr_a10 E hf) 2 rfl rfl rfl i_X1_driveTo_X1 tyX1 tyX1_ok nmX1 (by decide) k_X1_driveTo_1 rfl rfl rfl (Nat.le_of_ble_eq_true rfl) dX1_driveTo_45 (fun G45_4 => ?_)
    exact cr_vret X rfl rfl dX1_driveTo_48
def s_X1_driveTo (p1 : Int32) (p2 : Int32) (p3 : Int32) (G : cr_G) : Option cr_G := (if ((G 10) 2) = p1 then (s_X1_driveTo_18 p1 p2 (((G 10) 1)) ((0 : Int32)) G) else (s_X1_driveTo_18 p1 p2 p3 ((0 : Int32)) G))
set_option maxHeartbeats 4000000 in
set_option maxRecDepth 100000 in
theorem c_X1_driveTo (l : Launch) (E : cr_E) (hEK : cr_EK E) (S0 : cr_S) {f : Nat} (hf : f < 8) (G : cr_G) (p1 : Int32) (p2 : Int32) (p3 : Int32) : cr_M l E yX1_driveTo wsX1_driveTo rm_X1_driveTo [.ref (E.2.1 f 10), .int p1, .int p2, .int p3] (cr_us S0 f G) (cr_vVG S0 f) (s_X1_driveTo p1 p2 p3 G) := by
  refine cr_enter (cc := cX1_driveTo) (nL := 4) (rt := none) hEK (by decide) rfl (Nat.le_of_ble_eq_true rfl) (fun Γ hΓ X => ?_)
  subst hΓ
  have X : cr_X Γ E cX1_driveTo 4 RX1 wsX1_driveTo rm_X1_driveTo none := X
  unfold s_X1_driveTo
  show cr_P Γ E 4 _ 0 0 (cr_us S0 f G) 0 ([(0, .ref (E.2.1 f 10)), (1, .int p1), (2, .int p2), (3, .int p3)]) [] _
  refine cr_aload_n X 0 rfl dX1_driveTo_0 ?_
  refine cr_iconst X (0 : Int32) (by decide) dX1_driveTo_1 ?_
  refine cr_aload_n X 0 rfl dX1_driveTo_2 ?_
  refine cr_get X ((cr_a10 E hf).at (cr_row S0 f G 10) rfl) rfl i_X1_driveTo_X1 2 (by decide) k_X1_driveTo_1 rfl dX1_driveTo_3 ?_
  refine cr_iload_n X 1 rfl dX1_driveTo_6 ?_
  refine cr_icmp_ne X 17 dX1_driveTo_7 rfl ?_ ?_
  · refine cr_iload_n X 3 rfl dX1_driveTo_17 ?_
    refine cr_sub (lv' := [(0, .ref (E.2.1 f 10)), (1, .int p1), (2, .int p2)]) [0, 1, 2] rfl ?_
    exact b_X1_driveTo_18 X S0 hf p1 p2 p3 ((0 : Int32)) G
  · refine cr_aload_n X 0 rfl dX1_driveTo_10 ?_
    refine cr_get X ((cr_a10 E hf).at (cr_row S0 f G 10) rfl) rfl i_X1_driveTo_X1 1 (by decide) k_X1_driveTo_2 rfl dX1_driveTo_11 ?_
    refine cr_goto X 18 dX1_driveTo_14 rfl ?_
    refine cr_sub (lv' := [(0, .ref (E.2.1 f 10)), (1, .int p1), (2, .int p2)]) [0, 1, 2] rfl ?_
    exact b_X1_driveTo_18 X S0 hf p1 p2 (((G 10) 1)) ((0 : Int32)) G
theorem c_X1_driveTo_S (l : Launch) (E : cr_E) (hEK : cr_EK E) (S : cr_S) {f : Nat} (hf : f < 8) (p1 : Int32) (p2 : Int32) (p3 : Int32) : cr_M l E yX1_driveTo wsX1_driveTo rm_X1_driveTo [.ref (E.2.1 f 10), .int p1, .int p2, .int p3] S (cr_vVG S f) (s_X1_driveTo  p1 p2 p3 (S.1 f)) := by
  have h := c_X1_driveTo l E hEK S hf (S.1 f) p1 p2 p3
  rw [cr_us_self] at h
  exact h

theorem k_X1_forgetWork_1 : (Cond.fieldLink RX1 24 "CraneCampaign$Crane" "workedOn" "I") ∈ wsX1_forgetWork := List.mem_of_getElem? (i := 1) (by rfl)
theorem k_X1_forgetWork_2 : (Cond.fieldLink RX1 21 "CraneCampaign$Crane" "workDone" "I") ∈ wsX1_forgetWork := List.mem_of_getElem? (i := 2) (by rfl)
theorem i_X1_forgetWork_X1 : ∀ w ∈ wsX10, w ∈ wsX1_forgetWork := by decide +kernel
abbrev rm_X1_forgetWork : Room := { frames := 0, cells := 0, slots := 0, locals := 0 }
def s_X1_forgetWork (G : cr_G) : Option cr_G := (cr_bd (cr_pt G 10 4 ((-1 : Int32))) (fun G2_1 => (cr_bd (cr_pt G2_1 10 3 ((0 : Int32))) (fun G7_2 => (some G7_2)))))
set_option maxHeartbeats 4000000 in
set_option maxRecDepth 100000 in
theorem c_X1_forgetWork (l : Launch) (E : cr_E) (hEK : cr_EK E) (S0 : cr_S) {f : Nat} (hf : f < 8) (G : cr_G) : cr_M l E yX1_forgetWork wsX1_forgetWork rm_X1_forgetWork [.ref (E.2.1 f 10)] (cr_us S0 f G) (cr_vVG S0 f) (s_X1_forgetWork G) := by
  refine cr_enter (cc := cX1_forgetWork) (nL := 1) (rt := none) hEK (by decide) rfl (Nat.le_of_ble_eq_true rfl) (fun Γ hΓ X => ?_)
  subst hΓ
  have X : cr_X Γ E cX1_forgetWork 1 RX1 wsX1_forgetWork rm_X1_forgetWork none := X
  unfold s_X1_forgetWork
  show cr_P Γ E 1 _ 0 0 (cr_us S0 f G) 0 ([(0, .ref (E.2.1 f 10))]) [] _
  refine cr_aload_n X 0 rfl dX1_forgetWork_0 ?_
  refine cr_iconst X (-1 : Int32) (by decide) dX1_forgetWork_1 ?_
  refine cr_putG X (cr_a10 E hf) 4 rfl rfl rfl i_X1_forgetWork_X1 tyX1 tyX1_ok nmX1 (by decide) k_X1_forgetWork_1 rfl rfl rfl (Nat.le_of_ble_eq_true rfl) dX1_forgetWork_2 (fun G2_1 => ?_)
  refine cr_aload_n X 0 rfl dX1_forgetWork_5 ?_
  refine cr_iconst X (0 : Int32) (by decide) dX1_forgetWork_6 ?_
  refine cr_putG X (cr_a10 E hf) 3 rfl rfl rfl i_X1_forgetWork_X1 tyX1 tyX1_ok nmX1 (by decide) k_X1_forgetWork_2 rfl rfl rfl (Nat.le_of_ble_eq_true rfl) dX1_forgetWork_7 (fun G7_2 => ?_)
  exact cr_vret X rfl rfl dX1_forgetWork_10
theorem c_X1_forgetWork_S (l : Launch) (E : cr_E) (hEK : cr_EK E) (S : cr_S) {f : Nat} (hf : f < 8) : cr_M l E yX1_forgetWork wsX1_forgetWork rm_X1_forgetWork [.ref (E.2.1 f 10)] S (cr_vVG S f) (s_X1_forgetWork   (S.1 f)) := by
  have h := c_X1_forgetWork l E hEK S hf (S.1 f)
  rw [cr_us_self] at h
  exact h

theorem k_X1_isOnWay_1 : (Cond.fieldLink RX1 18 "CraneCampaign$Crane" "goal" "I") ∈ wsX1_isOnWay := List.mem_of_getElem? (i := 1) (by rfl)
theorem i_X1_isOnWay_X1 : ∀ w ∈ wsX10, w ∈ wsX1_isOnWay := by decide +kernel
abbrev rm_X1_isOnWay : Room := { frames := 0, cells := 0, slots := 0, locals := 0 }
def s_X1_isOnWay (G : cr_G) : Option Bool := (if ((G 10) 2) = (-1 : Int32) then (some false) else (some true))
set_option maxHeartbeats 4000000 in
set_option maxRecDepth 100000 in
theorem c_X1_isOnWay (l : Launch) (E : cr_E) (hEK : cr_EK E) (S0 : cr_S) {f : Nat} (hf : f < 8) (G : cr_G) : cr_M l E yX1_isOnWay wsX1_isOnWay rm_X1_isOnWay [.ref (E.2.1 f 10)] (cr_us S0 f G) (cr_vB (cr_us S0 f G)) (s_X1_isOnWay G) := by
  refine cr_enter (cc := cX1_isOnWay) (nL := 1) (rt := (some .boolean)) hEK (by decide) rfl (Nat.le_of_ble_eq_true rfl) (fun Γ hΓ X => ?_)
  subst hΓ
  have X : cr_X Γ E cX1_isOnWay 1 RX1 wsX1_isOnWay rm_X1_isOnWay (some .boolean) := X
  unfold s_X1_isOnWay
  show cr_P Γ E 1 _ 0 0 (cr_us S0 f G) 0 ([(0, .ref (E.2.1 f 10))]) [] _
  refine cr_aload_n X 0 rfl dX1_isOnWay_0 ?_
  refine cr_get X ((cr_a10 E hf).at (cr_row S0 f G 10) rfl) rfl i_X1_isOnWay_X1 2 (by decide) k_X1_isOnWay_1 rfl dX1_isOnWay_1 ?_
  refine cr_iconst X (-1 : Int32) (by decide) dX1_isOnWay_4 ?_
  refine cr_icmp_eq X 12 dX1_isOnWay_5 rfl ?_ ?_
  · refine cr_iconst X (0 : Int32) (by decide) dX1_isOnWay_12 ?_
    exact cr_zret X false rfl rfl rfl dX1_isOnWay_13
  · refine cr_iconst X (1 : Int32) (by decide) dX1_isOnWay_8 ?_
    refine cr_goto X 13 dX1_isOnWay_9 rfl ?_
    exact cr_zret X true rfl rfl rfl dX1_isOnWay_13
theorem c_X1_isOnWay_S (l : Launch) (E : cr_E) (hEK : cr_EK E) (S : cr_S) {f : Nat} (hf : f < 8) : cr_M l E yX1_isOnWay wsX1_isOnWay rm_X1_isOnWay [.ref (E.2.1 f 10)] S (cr_vB S) (s_X1_isOnWay (S.1 f)) := by
  have h := c_X1_isOnWay l E hEK S hf (S.1 f)
  rw [cr_us_self] at h
  exact h

theorem k_X1_workAnHourOn_1 : (Cond.fieldLink RX1 24 "CraneCampaign$Crane" "workedOn" "I") ∈ wsX1_workAnHourOn := List.mem_of_getElem? (i := 1) (by rfl)
theorem k_X1_workAnHourOn_2 : (Cond.fieldLink RX1 21 "CraneCampaign$Crane" "workDone" "I") ∈ wsX1_workAnHourOn := List.mem_of_getElem? (i := 2) (by rfl)
theorem i_X1_workAnHourOn_X1 : ∀ w ∈ wsX10, w ∈ wsX1_workAnHourOn := by decide +kernel
abbrev rm_X1_workAnHourOn : Room := { frames := 0, cells := 0, slots := 0, locals := 0 }
def s_X1_workAnHourOn (p1 : Int32) (G : cr_G) : Option cr_G := (cr_bd (cr_pt G 10 4 p1) (fun G2_1 => (cr_bd (cr_pt G2_1 10 3 ((((G2_1 10) 3) + (1 : Int32)))) (fun G12_2 => (some G12_2)))))
set_option maxHeartbeats 4000000 in
set_option maxRecDepth 100000 in
theorem c_X1_workAnHourOn (l : Launch) (E : cr_E) (hEK : cr_EK E) (S0 : cr_S) {f : Nat} (hf : f < 8) (G : cr_G) (p1 : Int32) : cr_M l E yX1_workAnHourOn wsX1_workAnHourOn rm_X1_workAnHourOn [.ref (E.2.1 f 10), .int p1] (cr_us S0 f G) (cr_vVG S0 f) (s_X1_workAnHourOn p1 G) := by
  refine cr_enter (cc := cX1_workAnHourOn) (nL := 2) (rt := none) hEK (by decide) rfl (Nat.le_of_ble_eq_true rfl) (fun Γ hΓ X => ?_)
  subst hΓ
  have X : cr_X Γ E cX1_workAnHourOn 2 RX1 wsX1_workAnHourOn rm_X1_workAnHourOn none := X
  unfold s_X1_workAnHourOn
  show cr_P Γ E 2 _ 0 0 (cr_us S0 f G) 0 ([(0, .ref (E.2.1 f 10)), (1, .int p1)]) [] _
  refine cr_aload_n X 0 rfl dX1_workAnHourOn_0 ?_
  refine cr_iload_n X 1 rfl dX1_workAnHourOn_1 ?_
  refine cr_putG X (cr_a10 E hf) 4 rfl rfl rfl i_X1_workAnHourOn_X1 tyX1 tyX1_ok nmX1 (by decide) k_X1_workAnHourOn_1 rfl rfl rfl (Nat.le_of_ble_eq_true rfl) dX1_workAnHourOn_2 (fun G2_1 => ?_)
  refine cr_aload_n X 0 rfl dX1_workAnHourOn_5 ?_
  refine cr_dup X rfl dX1_workAnHourOn_6 ?_
  refine cr_get X ((cr_a10 E hf).at (cr_row S0 f G2_1 10) rfl) rfl i_X1_workAnHourOn_X1 3 (by decide) k_X1_workAnHourOn_2 rfl dX1_workAnHourOn_7 ?_
  refine cr_iconst X (1 : Int32) (by decide) dX1_workAnHourOn_10 ?_
  refine cr_iadd X dX1_workAnHourOn_11 ?_
  refine cr_putG X (cr_a10 E hf) 3 rfl rfl rfl i_X1_workAnHourOn_X1 tyX1 tyX1_ok nmX1 (by decide) k_X1_workAnHourOn_2 rfl rfl rfl (Nat.le_of_ble_eq_true rfl) dX1_workAnHourOn_12 (fun G12_2 => ?_)
  exact cr_vret X rfl rfl dX1_workAnHourOn_15
theorem c_X1_workAnHourOn_S (l : Launch) (E : cr_E) (hEK : cr_EK E) (S : cr_S) {f : Nat} (hf : f < 8) (p1 : Int32) : cr_M l E yX1_workAnHourOn wsX1_workAnHourOn rm_X1_workAnHourOn [.ref (E.2.1 f 10), .int p1] S (cr_vVG S f) (s_X1_workAnHourOn  p1 (S.1 f)) := by
  have h := c_X1_workAnHourOn l E hEK S hf (S.1 f) p1
  rw [cr_us_self] at h
  exact h

theorem k_X1_workOn_1 : (Cond.fieldLink RX1 24 "CraneCampaign$Crane" "workedOn" "I") ∈ wsX1_workOn := List.mem_of_getElem? (i := 1) (by rfl)
theorem k_X1_workOn_2 : (Cond.fieldLink RX1 21 "CraneCampaign$Crane" "workDone" "I") ∈ wsX1_workOn := List.mem_of_getElem? (i := 2) (by rfl)
theorem i_X1_workOn_X1 : ∀ w ∈ wsX10, w ∈ wsX1_workOn := by decide +kernel
abbrev rm_X1_workOn : Room := { frames := 0, cells := 0, slots := 0, locals := 0 }
def s_X1_workOn (G : cr_G) (p1 : Int32) : Option Int32 := (if p1 = ((G 10) 4) then (some (((G 10) 3))) else (some ((0 : Int32))))
set_option maxHeartbeats 4000000 in
set_option maxRecDepth 100000 in
theorem c_X1_workOn (l : Launch) (E : cr_E) (hEK : cr_EK E) (S0 : cr_S) {f : Nat} (hf : f < 8) (G : cr_G) (p1 : Int32) : cr_M l E yX1_workOn wsX1_workOn rm_X1_workOn [.ref (E.2.1 f 10), .int p1] (cr_us S0 f G) (cr_vI (cr_us S0 f G)) (s_X1_workOn G p1) := by
  refine cr_enter (cc := cX1_workOn) (nL := 2) (rt := (some .int)) hEK (by decide) rfl (Nat.le_of_ble_eq_true rfl) (fun Γ hΓ X => ?_)
  subst hΓ
  have X : cr_X Γ E cX1_workOn 2 RX1 wsX1_workOn rm_X1_workOn (some .int) := X
  unfold s_X1_workOn
  show cr_P Γ E 2 _ 0 0 (cr_us S0 f G) 0 ([(0, .ref (E.2.1 f 10)), (1, .int p1)]) [] _
  refine cr_iload_n X 1 rfl dX1_workOn_0 ?_
  refine cr_aload_n X 0 rfl dX1_workOn_1 ?_
  refine cr_get X ((cr_a10 E hf).at (cr_row S0 f G 10) rfl) rfl i_X1_workOn_X1 4 (by decide) k_X1_workOn_1 rfl dX1_workOn_2 ?_
  refine cr_icmp_ne X 15 dX1_workOn_5 rfl ?_ ?_
  · refine cr_iconst X (0 : Int32) (by decide) dX1_workOn_15 ?_
    exact cr_iret X rfl rfl dX1_workOn_16
  · refine cr_aload_n X 0 rfl dX1_workOn_8 ?_
    refine cr_get X ((cr_a10 E hf).at (cr_row S0 f G 10) rfl) rfl i_X1_workOn_X1 3 (by decide) k_X1_workOn_2 rfl dX1_workOn_9 ?_
    refine cr_goto X 16 dX1_workOn_12 rfl ?_
    exact cr_iret X rfl rfl dX1_workOn_16
theorem c_X1_workOn_S (l : Launch) (E : cr_E) (hEK : cr_EK E) (S : cr_S) {f : Nat} (hf : f < 8) (p1 : Int32) : cr_M l E yX1_workOn wsX1_workOn rm_X1_workOn [.ref (E.2.1 f 10), .int p1] S (cr_vI S) (s_X1_workOn (S.1 f) p1) := by
  have h := c_X1_workOn l E hEK S hf (S.1 f) p1
  rw [cr_us_self] at h
  exact h

theorem k_X3_copyFrom_1 : (Cond.fieldLink RX3 9 "CraneCampaign$Harbour" "turbine" "[I") ∈ wsX3_copyFrom := List.mem_of_getElem? (i := 1) (by rfl)
theorem k_X3_copyFrom_2 : (Cond.methodLink RX3 22 arraycopyName) ∈ wsX3_copyFrom := List.mem_of_getElem? (i := 2) (by rfl)
theorem k_X3_copyFrom_3 : (Cond.native arraycopyName) ∈ wsX3_copyFrom := List.mem_of_getElem? (i := 3) (by rfl)
theorem k_X3_copyFrom_4 : (Cond.static arraycopyName) ∈ wsX3_copyFrom := List.mem_of_getElem? (i := 4) (by rfl)
theorem k_X3_copyFrom_5 : (Cond.initialized "java/lang/System") ∈ wsX3_copyFrom := List.mem_of_getElem? (i := 5) (by rfl)
theorem k_X3_copyFrom_6 : (Cond.fieldLink RX3 15 "CraneCampaign$Harbour" "weight" "[I") ∈ wsX3_copyFrom := List.mem_of_getElem? (i := 6) (by rfl)
theorem k_X3_copyFrom_7 : (Cond.fieldLink RX3 18 "CraneCampaign$Harbour" "count" "I") ∈ wsX3_copyFrom := List.mem_of_getElem? (i := 7) (by rfl)
theorem i_X3_copyFrom_X3 : ∀ w ∈ wsX30, w ∈ wsX3_copyFrom := by decide +kernel
abbrev rm_X3_copyFrom : Room := { frames := 1, cells := 0, slots := 0, locals := 40 }
def s_X3_copyFrom (Go : cr_G) (G : cr_G) : Option cr_G := (cr_bd (cr_pa G 6 (va_cpy (Go 6) (G 6) 0 0 10)) (fun G12_1 => (cr_bd (cr_pa G12_1 7 (va_cpy (Go 7) (G12_1 7) 0 0 10)) (fun G27_2 => (cr_bd (cr_pt G27_2 5 2 (((Go 5) 2))) (fun G35_3 => (some G35_3)))))))
set_option maxHeartbeats 4000000 in
set_option maxRecDepth 100000 in
theorem c_X3_copyFrom (l : Launch) (E : cr_E) (hEK : cr_EK E) (S0 : cr_S) {f : Nat} (hf : f < 8) {g : Nat} (hg : g < 8) (hne : g ≠ f) (G : cr_G) : cr_M l E yX3_copyFrom wsX3_copyFrom rm_X3_copyFrom [.ref (E.2.1 f 5), .ref (E.2.1 g 5)] (cr_us S0 f G) (cr_vVG S0 f) (s_X3_copyFrom (S0.1 g) G) := by
  refine cr_enter (cc := cX3_copyFrom) (nL := 2) (rt := none) hEK (by decide) rfl (Nat.le_of_ble_eq_true rfl) (fun Γ hΓ X => ?_)
  subst hΓ
  have X : cr_X Γ E cX3_copyFrom 2 RX3 wsX3_copyFrom rm_X3_copyFrom none := X
  unfold s_X3_copyFrom
  show cr_P Γ E 2 _ 0 0 (cr_us S0 f G) 0 ([(0, .ref (E.2.1 f 5)), (1, .ref (E.2.1 g 5))]) [] _
  refine cr_aload_n X 1 rfl dX3_copyFrom_0 ?_
  refine cr_get X ((cr_a5 E hg).at (cr_rowo S0 G hne 5) rfl) rfl i_X3_copyFrom_X3 0 (by decide) k_X3_copyFrom_1 rfl dX3_copyFrom_1 ?_
  refine cr_iconst X (0 : Int32) (by decide) dX3_copyFrom_4 ?_
  refine cr_aload_n X 0 rfl dX3_copyFrom_5 ?_
  refine cr_get X ((cr_a5 E hf).at (cr_row S0 f G 5) rfl) rfl i_X3_copyFrom_X3 0 (by decide) k_X3_copyFrom_1 rfl dX3_copyFrom_6 ?_
  refine cr_iconst X (0 : Int32) (by decide) dX3_copyFrom_9 ?_
  refine cr_bipush X (10 : Int32) (by decide) dX3_copyFrom_10 ?_
  refine cr_acopyG X ((S0.1 g) 6) ((cr_a6 E hg).at (cr_rowo S0 G hne 6) rfl) (cr_a6 E hf) (fun _ _ => rfl) 0 0 10 (by decide) (by decide) k_X3_copyFrom_2 k_X3_copyFrom_3 k_X3_copyFrom_4 k_X3_copyFrom_5 (by decide) (by decide +kernel) dX3_copyFrom_12 (fun G12_1 => ?_)
  refine cr_aload_n X 1 rfl dX3_copyFrom_15 ?_
  refine cr_get X ((cr_a5 E hg).at (cr_rowo S0 G12_1 hne 5) rfl) rfl i_X3_copyFrom_X3 1 (by decide) k_X3_copyFrom_6 rfl dX3_copyFrom_16 ?_
  refine cr_iconst X (0 : Int32) (by decide) dX3_copyFrom_19 ?_
  refine cr_aload_n X 0 rfl dX3_copyFrom_20 ?_
  refine cr_get X ((cr_a5 E hf).at (cr_row S0 f G12_1 5) rfl) rfl i_X3_copyFrom_X3 1 (by decide) k_X3_copyFrom_6 rfl dX3_copyFrom_21 ?_
  refine cr_iconst X (0 : Int32) (by decide) dX3_copyFrom_24 ?_
  refine cr_bipush X (10 : Int32) (by decide) dX3_copyFrom_25 ?_
  refine cr_acopyG X ((S0.1 g) 7) ((cr_a7 E hg).at (cr_rowo S0 G12_1 hne 7) rfl) (cr_a7 E hf) (fun _ _ => rfl) 0 0 10 (by decide) (by decide) k_X3_copyFrom_2 k_X3_copyFrom_3 k_X3_copyFrom_4 k_X3_copyFrom_5 (by decide) (by decide +kernel) dX3_copyFrom_27 (fun G27_2 => ?_)
  refine cr_aload_n X 0 rfl dX3_copyFrom_30 ?_
  refine cr_aload_n X 1 rfl dX3_copyFrom_31 ?_
  refine cr_get X ((cr_a5 E hg).at (cr_rowo S0 G27_2 hne 5) rfl) rfl i_X3_copyFrom_X3 2 (by decide) k_X3_copyFrom_7 rfl dX3_copyFrom_32 ?_
  refine cr_putG X (cr_a5 E hf) 2 rfl rfl rfl i_X3_copyFrom_X3 tyX3 tyX3_ok nmX3 (by decide) k_X3_copyFrom_7 rfl rfl rfl (Nat.le_of_ble_eq_true rfl) dX3_copyFrom_35 (fun G35_3 => ?_)
  exact cr_vret X rfl rfl dX3_copyFrom_38
theorem c_X3_copyFrom_S (l : Launch) (E : cr_E) (hEK : cr_EK E) (S : cr_S) {f : Nat} (hf : f < 8) {g : Nat} (hg : g < 8) (hne : g ≠ f) : cr_M l E yX3_copyFrom wsX3_copyFrom rm_X3_copyFrom [.ref (E.2.1 f 5), .ref (E.2.1 g 5)] S (cr_vVG S f) (s_X3_copyFrom (S.1 g)  (S.1 f)) := by
  have h := c_X3_copyFrom l E hEK S hf hg hne (S.1 f)
  rw [cr_us_self] at h
  exact h

theorem k_X3_isFull_1 : (Cond.fieldLink RX3 18 "CraneCampaign$Harbour" "count" "I") ∈ wsX3_isFull := List.mem_of_getElem? (i := 1) (by rfl)
theorem i_X3_isFull_X3 : ∀ w ∈ wsX30, w ∈ wsX3_isFull := by decide +kernel
abbrev rm_X3_isFull : Room := { frames := 0, cells := 0, slots := 0, locals := 0 }
def s_X3_isFull (G : cr_G) : Option Bool := (if ((G 5) 2) < (10 : Int32) then (some false) else (some true))
set_option maxHeartbeats 4000000 in
set_option maxRecDepth 100000 in
theorem c_X3_isFull (l : Launch) (E : cr_E) (hEK : cr_EK E) (S0 : cr_S) {f : Nat} (hf : f < 8) (G : cr_G) : cr_M l E yX3_isFull wsX3_isFull rm_X3_isFull [.ref (E.2.1 f 5)] (cr_us S0 f G) (cr_vB (cr_us S0 f G)) (s_X3_isFull G) := by
  refine cr_enter (cc := cX3_isFull) (nL := 1) (rt := (some .boolean)) hEK (by decide) rfl (Nat.le_of_ble_eq_true rfl) (fun Γ hΓ X => ?_)
  subst hΓ
  have X : cr_X Γ E cX3_isFull 1 RX3 wsX3_isFull rm_X3_isFull (some .boolean) := X
  unfold s_X3_isFull
  show cr_P Γ E 1 _ 0 0 (cr_us S0 f G) 0 ([(0, .ref (E.2.1 f 5))]) [] _
  refine cr_aload_n X 0 rfl dX3_isFull_0 ?_
  refine cr_get X ((cr_a5 E hf).at (cr_row S0 f G 5) rfl) rfl i_X3_isFull_X3 2 (by decide) k_X3_isFull_1 rfl dX3_isFull_1 ?_
  refine cr_bipush X (10 : Int32) (by decide) dX3_isFull_4 ?_
  refine cr_icmp_lt X 13 dX3_isFull_6 rfl ?_ ?_
  · refine cr_iconst X (0 : Int32) (by decide) dX3_isFull_13 ?_
    exact cr_zret X false rfl rfl rfl dX3_isFull_14
  · refine cr_iconst X (1 : Int32) (by decide) dX3_isFull_9 ?_
    refine cr_goto X 14 dX3_isFull_10 rfl ?_
    exact cr_zret X true rfl rfl rfl dX3_isFull_14
theorem c_X3_isFull_S (l : Launch) (E : cr_E) (hEK : cr_EK E) (S : cr_S) {f : Nat} (hf : f < 8) : cr_M l E yX3_isFull wsX3_isFull rm_X3_isFull [.ref (E.2.1 f 5)] S (cr_vB S) (s_X3_isFull (S.1 f)) := by
  have h := c_X3_isFull l E hEK S hf (S.1 f)
  rw [cr_us_self] at h
  exact h

theorem k_X3_removeAt_1 : (Cond.fieldLink RX3 18 "CraneCampaign$Harbour" "count" "I") ∈ wsX3_removeAt := List.mem_of_getElem? (i := 1) (by rfl)
theorem k_X3_removeAt_2 : (Cond.fieldLink RX3 9 "CraneCampaign$Harbour" "turbine" "[I") ∈ wsX3_removeAt := List.mem_of_getElem? (i := 2) (by rfl)
theorem k_X3_removeAt_3 : (Cond.fieldLink RX3 15 "CraneCampaign$Harbour" "weight" "[I") ∈ wsX3_removeAt := List.mem_of_getElem? (i := 3) (by rfl)
theorem i_X3_removeAt_X3 : ∀ w ∈ wsX30, w ∈ wsX3_removeAt := by decide +kernel
abbrev rm_X3_removeAt : Room := { frames := 0, cells := 0, slots := 0, locals := 0 }
def s_X3_removeAt_25 : Nat → Int32 → cr_G → Option cr_G
  | 0, _, _ => none
  | n + 1, x2, G => (if ((G 5) 2) ≤ x2 then (some G) else (cr_gd (cr_in ((x2 + (1 : Int32))) 10) (cr_gd (cr_in x2 10) (cr_bd (cr_pt G 6 (x2).toNatClampNeg (((G 6) ((x2 + (1 : Int32))).toNatClampNeg))) (fun G46_2 => (cr_gd (cr_in ((x2 + (1 : Int32))) 10) (cr_gd (cr_in x2 10) (cr_bd (cr_pt G46_2 7 (x2).toNatClampNeg (((G46_2 7) ((x2 + (1 : Int32))).toNatClampNeg))) (fun G60_3 => (cr_bd (x2 + 1) (fun v61_4 => (s_X3_removeAt_25 n v61_4 G60_3))))))))))))
set_option maxHeartbeats 4000000 in
set_option maxRecDepth 100000 in
theorem b_X3_removeAt_25 {Γ : cr_C} {E : cr_E} (X : cr_X Γ E cX3_removeAt 3 RX3 wsX3_removeAt rm_X3_removeAt none) (S0 : cr_S) {f : Nat} (hf : f < 8) : ∀ (n : Nat) (x2 : Int32) (G : cr_G), cr_P Γ E 3 (cr_F Γ E (cr_vVG S0 f)) 0 0 (cr_us S0 f G) 25 ([(0, .ref (E.2.1 f 5)), (2, .int x2)]) ([]) (s_X3_removeAt_25 n x2 G) := by
  have hEK := X.2.2.2.2.2.2.1
  intro n
  induction n with
  | zero => intro x2 G; exact cr_none
  | succ n ih =>
    intro x2 G
    rw [s_X3_removeAt_25]
    refine cr_iload_n X 1 rfl dX3_removeAt_25 ?_
    refine cr_aload_n X 0 rfl dX3_removeAt_26 ?_
    refine cr_get X ((cr_a5 E hf).at (cr_row S0 f G 5) rfl) rfl i_X3_removeAt_X3 2 (by decide) k_X3_removeAt_1 rfl dX3_removeAt_27 ?_
    refine cr_icmp_ge X 67 dX3_removeAt_30 rfl ?_ ?_
    · exact cr_vret X rfl rfl dX3_removeAt_67
    · refine cr_aload_n X 0 rfl dX3_removeAt_33 ?_
      refine cr_get X ((cr_a5 E hf).at (cr_row S0 f G 5) rfl) rfl i_X3_removeAt_X3 0 (by decide) k_X3_removeAt_2 rfl dX3_removeAt_34 ?_
      refine cr_iload_n X 1 rfl dX3_removeAt_37 ?_
      refine cr_aload_n X 0 rfl dX3_removeAt_38 ?_
      refine cr_get X ((cr_a5 E hf).at (cr_row S0 f G 5) rfl) rfl i_X3_removeAt_X3 0 (by decide) k_X3_removeAt_2 rfl dX3_removeAt_39 ?_
      refine cr_iload_n X 1 rfl dX3_removeAt_42 ?_
      refine cr_iconst X (1 : Int32) (by decide) dX3_removeAt_43 ?_
      refine cr_iadd X dX3_removeAt_44 ?_
      refine cr_iald X ((cr_a6 E hf).at (cr_row S0 f G 6) rfl) dX3_removeAt_45 ?_
      refine cr_iastG X (cr_a6 E hf) (fun _ _ => rfl) dX3_removeAt_46 (fun G46_2 => ?_)
      refine cr_aload_n X 0 rfl dX3_removeAt_47 ?_
      refine cr_get X ((cr_a5 E hf).at (cr_row S0 f G46_2 5) rfl) rfl i_X3_removeAt_X3 1 (by decide) k_X3_removeAt_3 rfl dX3_removeAt_48 ?_
      refine cr_iload_n X 1 rfl dX3_removeAt_51 ?_
      refine cr_aload_n X 0 rfl dX3_removeAt_52 ?_
      refine cr_get X ((cr_a5 E hf).at (cr_row S0 f G46_2 5) rfl) rfl i_X3_removeAt_X3 1 (by decide) k_X3_removeAt_3 rfl dX3_removeAt_53 ?_
      refine cr_iload_n X 1 rfl dX3_removeAt_56 ?_
      refine cr_iconst X (1 : Int32) (by decide) dX3_removeAt_57 ?_
      refine cr_iadd X dX3_removeAt_58 ?_
      refine cr_iald X ((cr_a7 E hf).at (cr_row S0 f G46_2 7) rfl) dX3_removeAt_59 ?_
      refine cr_iastG X (cr_a7 E hf) (fun _ _ => rfl) dX3_removeAt_60 (fun G60_3 => ?_)
      refine cr_iinc X (x2 + 1) (fun v61_4 => [(2, .int v61_4), (0, .ref (E.2.1 f 5))]) 1 rfl rfl (fun _ => rfl) (by decide) dX3_removeAt_61 (fun v61_4 => ?_)
      refine cr_goto X 25 dX3_removeAt_64 rfl ?_
      refine cr_sub (lv' := [(0, .ref (E.2.1 f 5)), (2, .int v61_4)]) [1, 0] rfl ?_
      exact ih v61_4 G60_3
def s_X3_removeAt (p1 : Int32) (G : cr_G) : Option cr_G := (if p1 < 0 then (some G) else (if p1 < ((G 5) 2) then (cr_bd (cr_pt G 5 2 ((((G 5) 2) - (1 : Int32)))) (fun G20_1 => (s_X3_removeAt_25 1200 p1 G20_1))) else (some G)))
set_option maxHeartbeats 4000000 in
set_option maxRecDepth 100000 in
theorem c_X3_removeAt (l : Launch) (E : cr_E) (hEK : cr_EK E) (S0 : cr_S) {f : Nat} (hf : f < 8) (G : cr_G) (p1 : Int32) : cr_M l E yX3_removeAt wsX3_removeAt rm_X3_removeAt [.ref (E.2.1 f 5), .int p1] (cr_us S0 f G) (cr_vVG S0 f) (s_X3_removeAt p1 G) := by
  refine cr_enter (cc := cX3_removeAt) (nL := 3) (rt := none) hEK (by decide) rfl (Nat.le_of_ble_eq_true rfl) (fun Γ hΓ X => ?_)
  subst hΓ
  have X : cr_X Γ E cX3_removeAt 3 RX3 wsX3_removeAt rm_X3_removeAt none := X
  unfold s_X3_removeAt
  show cr_P Γ E 3 _ 0 0 (cr_us S0 f G) 0 ([(0, .ref (E.2.1 f 5)), (1, .int p1)]) [] _
  refine cr_iload_n X 1 rfl dX3_removeAt_0 ?_
  refine cr_if_lt X 12 dX3_removeAt_1 rfl ?_ ?_
  · exact cr_vret X rfl rfl dX3_removeAt_12
  · refine cr_iload_n X 1 rfl dX3_removeAt_4 ?_
    refine cr_aload_n X 0 rfl dX3_removeAt_5 ?_
    refine cr_get X ((cr_a5 E hf).at (cr_row S0 f G 5) rfl) rfl i_X3_removeAt_X3 2 (by decide) k_X3_removeAt_1 rfl dX3_removeAt_6 ?_
    refine cr_icmp_lt X 13 dX3_removeAt_9 rfl ?_ ?_
    · refine cr_aload_n X 0 rfl dX3_removeAt_13 ?_
      refine cr_dup X rfl dX3_removeAt_14 ?_
      refine cr_get X ((cr_a5 E hf).at (cr_row S0 f G 5) rfl) rfl i_X3_removeAt_X3 2 (by decide) k_X3_removeAt_1 rfl dX3_removeAt_15 ?_
      refine cr_iconst X (1 : Int32) (by decide) dX3_removeAt_18 ?_
      refine cr_isub X dX3_removeAt_19 ?_
      refine cr_putG X (cr_a5 E hf) 2 rfl rfl rfl i_X3_removeAt_X3 tyX3 tyX3_ok nmX3 (by decide) k_X3_removeAt_1 rfl rfl rfl (Nat.le_of_ble_eq_true rfl) dX3_removeAt_20 (fun G20_1 => ?_)
      refine cr_iload_n X 1 rfl dX3_removeAt_23 ?_
      refine cr_istore_n X ([(2, .int p1), (0, .ref (E.2.1 f 5)), (1, .int p1)]) rfl (by decide) dX3_removeAt_24 ?_
      refine cr_sub (lv' := [(0, .ref (E.2.1 f 5)), (2, .int p1)]) [1, 0] rfl ?_
      exact b_X3_removeAt_25 X S0 hf 1200 p1 G20_1
    · exact cr_vret X rfl rfl dX3_removeAt_12
theorem c_X3_removeAt_S (l : Launch) (E : cr_E) (hEK : cr_EK E) (S : cr_S) {f : Nat} (hf : f < 8) (p1 : Int32) : cr_M l E yX3_removeAt wsX3_removeAt rm_X3_removeAt [.ref (E.2.1 f 5), .int p1] S (cr_vVG S f) (s_X3_removeAt  p1 (S.1 f)) := by
  have h := c_X3_removeAt l E hEK S hf (S.1 f) p1
  rw [cr_us_self] at h
  exact h

theorem k_X3_take_1 : (Cond.fieldLink RX3 9 "CraneCampaign$Harbour" "turbine" "[I") ∈ wsX3_take := List.mem_of_getElem? (i := 1) (by rfl)
theorem k_X3_take_2 : (Cond.fieldLink RX3 18 "CraneCampaign$Harbour" "count" "I") ∈ wsX3_take := List.mem_of_getElem? (i := 2) (by rfl)
theorem k_X3_take_3 : (Cond.fieldLink RX3 15 "CraneCampaign$Harbour" "weight" "[I") ∈ wsX3_take := List.mem_of_getElem? (i := 3) (by rfl)
theorem i_X3_take_X3 : ∀ w ∈ wsX30, w ∈ wsX3_take := by decide +kernel
abbrev rm_X3_take : Room := { frames := 1, cells := 0, slots := 0, locals := 20 }
def s_X3_take (p1 : Int32) (p2 : Int32) (G : cr_G) : Option cr_G := (cr_cl (s_X3_isFull G) (fun r1_1 => (if r1_1 = true then (some G) else (cr_gd (cr_in (((G 5) 2)) 10) (cr_bd (cr_pt G 6 (((G 5) 2)).toNatClampNeg p1) (fun G17_2 => (cr_gd (cr_in (((G17_2 5) 2)) 10) (cr_bd (cr_pt G17_2 7 (((G17_2 5) 2)).toNatClampNeg p2) (fun G27_3 => (cr_bd (cr_pt G27_3 5 2 ((((G27_3 5) 2) + (1 : Int32)))) (fun G35_4 => (some G35_4))))))))))))
set_option maxHeartbeats 4000000 in
set_option maxRecDepth 100000 in
theorem c_X3_take (l : Launch) (E : cr_E) (hEK : cr_EK E) (S0 : cr_S) {f : Nat} (hf : f < 8) (G : cr_G) (p1 : Int32) (p2 : Int32) : cr_M l E yX3_take wsX3_take rm_X3_take [.ref (E.2.1 f 5), .int p1, .int p2] (cr_us S0 f G) (cr_vVG S0 f) (s_X3_take p1 p2 G) := by
  refine cr_enter (cc := cX3_take) (nL := 3) (rt := none) hEK (by decide) rfl (Nat.le_of_ble_eq_true rfl) (fun Γ hΓ X => ?_)
  subst hΓ
  have X : cr_X Γ E cX3_take 3 RX3 wsX3_take rm_X3_take none := X
  unfold s_X3_take
  show cr_P Γ E 3 _ 0 0 (cr_us S0 f G) 0 ([(0, .ref (E.2.1 f 5)), (1, .int p1), (2, .int p2)]) [] _
  refine cr_aload_n X 0 rfl dX3_take_0 ?_
  refine cr_callV X (As := []) (rest := []) (c_X3_isFull Γ.2.1 E hEK S0 hf G) ((cr_a5 E hf).at (cr_row S0 f G 5) rfl) rfl 0 gX3_take_X3_isFull rfl rfl rfl (by decide +kernel) ⟨Nat.le_of_ble_eq_true rfl, Nat.le_of_ble_eq_true rfl⟩ (by decide) rfl rfl (Nat.le_of_ble_eq_true rfl) dX3_take_1 (fun r1_1 => ?_)
  show cr_P Γ E 3 _ 0 0 (cr_us S0 f G) 4 ([(0, .ref (E.2.1 f 5)), (1, .int p1), (2, .int p2)]) ([.int (cr_b r1_1)]) _
  refine cr_ifb_eq X 8 dX3_take_4 rfl ?_ ?_
  · refine cr_aload_n X 0 rfl dX3_take_8 ?_
    refine cr_get X ((cr_a5 E hf).at (cr_row S0 f G 5) rfl) rfl i_X3_take_X3 0 (by decide) k_X3_take_1 rfl dX3_take_9 ?_
    refine cr_aload_n X 0 rfl dX3_take_12 ?_
    refine cr_get X ((cr_a5 E hf).at (cr_row S0 f G 5) rfl) rfl i_X3_take_X3 2 (by decide) k_X3_take_2 rfl dX3_take_13 ?_
    refine cr_iload_n X 1 rfl dX3_take_16 ?_
    refine cr_iastG X (cr_a6 E hf) (fun _ _ => rfl) dX3_take_17 (fun G17_2 => ?_)
    refine cr_aload_n X 0 rfl dX3_take_18 ?_
    refine cr_get X ((cr_a5 E hf).at (cr_row S0 f G17_2 5) rfl) rfl i_X3_take_X3 1 (by decide) k_X3_take_3 rfl dX3_take_19 ?_
    refine cr_aload_n X 0 rfl dX3_take_22 ?_
    refine cr_get X ((cr_a5 E hf).at (cr_row S0 f G17_2 5) rfl) rfl i_X3_take_X3 2 (by decide) k_X3_take_2 rfl dX3_take_23 ?_
    refine cr_iload_n X 2 rfl dX3_take_26 ?_
    refine cr_iastG X (cr_a7 E hf) (fun _ _ => rfl) dX3_take_27 (fun G27_3 => ?_)
    refine cr_aload_n X 0 rfl dX3_take_28 ?_
    refine cr_dup X rfl dX3_take_29 ?_
    refine cr_get X ((cr_a5 E hf).at (cr_row S0 f G27_3 5) rfl) rfl i_X3_take_X3 2 (by decide) k_X3_take_2 rfl dX3_take_30 ?_
    refine cr_iconst X (1 : Int32) (by decide) dX3_take_33 ?_
    refine cr_iadd X dX3_take_34 ?_
    refine cr_putG X (cr_a5 E hf) 2 rfl rfl rfl i_X3_take_X3 tyX3 tyX3_ok nmX3 (by decide) k_X3_take_2 rfl rfl rfl (Nat.le_of_ble_eq_true rfl) dX3_take_35 (fun G35_4 => ?_)
    exact cr_vret X rfl rfl dX3_take_38
  · exact cr_vret X rfl rfl dX3_take_7
theorem c_X3_take_S (l : Launch) (E : cr_E) (hEK : cr_EK E) (S : cr_S) {f : Nat} (hf : f < 8) (p1 : Int32) (p2 : Int32) : cr_M l E yX3_take wsX3_take rm_X3_take [.ref (E.2.1 f 5), .int p1, .int p2] S (cr_vVG S f) (s_X3_take  p1 p2 (S.1 f)) := by
  have h := c_X3_take l E hEK S hf (S.1 f) p1 p2
  rw [cr_us_self] at h
  exact h

theorem k_X3_unload_1 : (Cond.fieldLink RX3 18 "CraneCampaign$Harbour" "count" "I") ∈ wsX3_unload := List.mem_of_getElem? (i := 1) (by rfl)
theorem k_X3_unload_2 : (Cond.fieldLink RX3 15 "CraneCampaign$Harbour" "weight" "[I") ∈ wsX3_unload := List.mem_of_getElem? (i := 2) (by rfl)
theorem k_X3_unload_3 : (Cond.methodLink RX3 32 Lib.Math.min.name) ∈ wsX3_unload := List.mem_of_getElem? (i := 3) (by rfl)
theorem k_X3_unload_4 : (Cond.static Lib.Math.min.name) ∈ wsX3_unload := List.mem_of_getElem? (i := 4) (by rfl)
theorem k_X3_unload_5 : (Cond.initialized "java/lang/Math") ∈ wsX3_unload := List.mem_of_getElem? (i := 5) (by rfl)
theorem k_X3_unload_6 : (Cond.code Lib.Math.min.name Lib.Math.min.code 2 (some .int)) ∈ wsX3_unload := List.mem_of_getElem? (i := 6) (by rfl)
theorem i_X3_unload_X3 : ∀ w ∈ wsX30, w ∈ wsX3_unload := by decide +kernel
abbrev rm_X3_unload : Room := { frames := 1, cells := 0, slots := 0, locals := 24 }
def s_X3_unload_4 : Nat → Int32 → Int32 → cr_G → Option cr_G
  | 0, _, _, _ => none
  | n + 1, x2, x3, G => (if ((G 5) 2) ≤ x3 then (some G) else (cr_gd (cr_in x3 10) (cr_bd (cr_min x2 (((G 7) (x3).toNatClampNeg))) (fun v22_1 => (cr_gd (cr_in x3 10) (cr_gd (cr_in x3 10) (cr_bd (cr_pt G 7 (x3).toNatClampNeg ((((G 7) (x3).toNatClampNeg) - v22_1))) (fun G34_2 => (cr_bd (x2 - v22_1) (fun v39_3 => (cr_bd (x3 + 1) (fun v40_4 => (s_X3_unload_4 n v39_3 v40_4 G34_2)))))))))))))
set_option maxHeartbeats 4000000 in
set_option maxRecDepth 100000 in
theorem b_X3_unload_4 {Γ : cr_C} {E : cr_E} (X : cr_X Γ E cX3_unload 5 RX3 wsX3_unload rm_X3_unload none) (S0 : cr_S) {f : Nat} (hf : f < 8) : ∀ (n : Nat) (x2 : Int32) (x3 : Int32) (G : cr_G), cr_P Γ E 5 (cr_F Γ E (cr_vVG S0 f)) 0 0 (cr_us S0 f G) 4 ([(0, .ref (E.2.1 f 5)), (2, .int x2), (3, .int x3)]) ([]) (s_X3_unload_4 n x2 x3 G) := by
  have hEK := X.2.2.2.2.2.2.1
  intro n
  induction n with
  | zero => intro x2 x3 G; exact cr_none
  | succ n ih =>
    intro x2 x3 G
    rw [s_X3_unload_4]
    refine cr_iload_n X 2 rfl dX3_unload_4 ?_
    refine cr_aload_n X 0 rfl dX3_unload_5 ?_
    refine cr_get X ((cr_a5 E hf).at (cr_row S0 f G 5) rfl) rfl i_X3_unload_X3 2 (by decide) k_X3_unload_1 rfl dX3_unload_6 ?_
    refine cr_icmp_ge X 46 dX3_unload_9 rfl ?_ ?_
    · exact cr_vret X rfl rfl dX3_unload_46
    · refine cr_iload_n X 1 rfl dX3_unload_12 ?_
      refine cr_aload_n X 0 rfl dX3_unload_13 ?_
      refine cr_get X ((cr_a5 E hf).at (cr_row S0 f G 5) rfl) rfl i_X3_unload_X3 1 (by decide) k_X3_unload_2 rfl dX3_unload_14 ?_
      refine cr_iload_n X 2 rfl dX3_unload_17 ?_
      refine cr_iald X ((cr_a7 E hf).at (cr_row S0 f G 7) rfl) dX3_unload_18 ?_
      refine cr_mmin X k_X3_unload_3 k_X3_unload_4 k_X3_unload_5 k_X3_unload_6 (by decide) (Nat.le_of_ble_eq_true rfl) (by decide) dX3_unload_19 ?_
      refine cr_istoreb X (fun v22_1 => [(4, .int v22_1), (0, .ref (E.2.1 f 5)), (2, .int x2), (3, .int x3)]) (fun _ => rfl) (by decide) dX3_unload_22 (fun v22_1 => ?_)
      refine cr_aload_n X 1 rfl dX3_unload_24 ?_
      refine cr_get X ((cr_a5 E hf).at (cr_row S0 f G 5) rfl) rfl i_X3_unload_X3 1 (by decide) k_X3_unload_2 rfl dX3_unload_25 ?_
      refine cr_iload_n X 3 rfl dX3_unload_28 ?_
      refine cr_dup2 X rfl rfl dX3_unload_29 ?_
      refine cr_iald X ((cr_a7 E hf).at (cr_row S0 f G 7) rfl) dX3_unload_30 ?_
      refine cr_iload X 0 rfl dX3_unload_31 ?_
      refine cr_isub X dX3_unload_33 ?_
      refine cr_iastG X (cr_a7 E hf) (fun _ _ => rfl) dX3_unload_34 (fun G34_2 => ?_)
      refine cr_iload_n X 2 rfl dX3_unload_35 ?_
      refine cr_iload X 0 rfl dX3_unload_36 ?_
      refine cr_isub X dX3_unload_38 ?_
      refine cr_istore_nb X (fun v39_3 => [(2, .int v39_3), (4, .int v22_1), (0, .ref (E.2.1 f 5)), (3, .int x3)]) (fun _ => rfl) (by decide) dX3_unload_39 (fun v39_3 => ?_)
      refine cr_iinc X (x3 + 1) (fun v40_4 => [(3, .int v40_4), (2, .int v39_3), (4, .int v22_1), (0, .ref (E.2.1 f 5))]) 3 rfl rfl (fun _ => rfl) (by decide) dX3_unload_40 (fun v40_4 => ?_)
      refine cr_goto X 4 dX3_unload_43 rfl ?_
      refine cr_sub (lv' := [(0, .ref (E.2.1 f 5)), (2, .int v39_3), (3, .int v40_4)]) [3, 1, 0] rfl ?_
      exact ih v39_3 v40_4 G34_2
def s_X3_unload (p1 : Int32) (G : cr_G) : Option cr_G := (s_X3_unload_4 1200 p1 ((0 : Int32)) G)
set_option maxHeartbeats 4000000 in
set_option maxRecDepth 100000 in
theorem c_X3_unload (l : Launch) (E : cr_E) (hEK : cr_EK E) (S0 : cr_S) {f : Nat} (hf : f < 8) (G : cr_G) (p1 : Int32) : cr_M l E yX3_unload wsX3_unload rm_X3_unload [.ref (E.2.1 f 5), .int p1] (cr_us S0 f G) (cr_vVG S0 f) (s_X3_unload p1 G) := by
  refine cr_enter (cc := cX3_unload) (nL := 5) (rt := none) hEK (by decide) rfl (Nat.le_of_ble_eq_true rfl) (fun Γ hΓ X => ?_)
  subst hΓ
  have X : cr_X Γ E cX3_unload 5 RX3 wsX3_unload rm_X3_unload none := X
  unfold s_X3_unload
  show cr_P Γ E 5 _ 0 0 (cr_us S0 f G) 0 ([(0, .ref (E.2.1 f 5)), (1, .int p1)]) [] _
  refine cr_iload_n X 1 rfl dX3_unload_0 ?_
  refine cr_istore_n X ([(2, .int p1), (0, .ref (E.2.1 f 5)), (1, .int p1)]) rfl (by decide) dX3_unload_1 ?_
  refine cr_iconst X (0 : Int32) (by decide) dX3_unload_2 ?_
  refine cr_istore_n X ([(3, .int ((0 : Int32))), (2, .int p1), (0, .ref (E.2.1 f 5)), (1, .int p1)]) rfl (by decide) dX3_unload_3 ?_
  refine cr_sub (lv' := [(0, .ref (E.2.1 f 5)), (2, .int p1), (3, .int ((0 : Int32)))]) [2, 1, 0] rfl ?_
  exact b_X3_unload_4 X S0 hf 1200 p1 ((0 : Int32)) G
theorem c_X3_unload_S (l : Launch) (E : cr_E) (hEK : cr_EK E) (S : cr_S) {f : Nat} (hf : f < 8) (p1 : Int32) : cr_M l E yX3_unload wsX3_unload rm_X3_unload [.ref (E.2.1 f 5), .int p1] S (cr_vVG S f) (s_X3_unload  p1 (S.1 f)) := by
  have h := c_X3_unload l E hEK S hf (S.1 f) p1
  rw [cr_us_self] at h
  exact h

theorem k_X3_unloadedFor_1 : (Cond.fieldLink RX3 18 "CraneCampaign$Harbour" "count" "I") ∈ wsX3_unloadedFor := List.mem_of_getElem? (i := 1) (by rfl)
theorem k_X3_unloadedFor_2 : (Cond.fieldLink RX3 9 "CraneCampaign$Harbour" "turbine" "[I") ∈ wsX3_unloadedFor := List.mem_of_getElem? (i := 2) (by rfl)
theorem k_X3_unloadedFor_3 : (Cond.fieldLink RX3 15 "CraneCampaign$Harbour" "weight" "[I") ∈ wsX3_unloadedFor := List.mem_of_getElem? (i := 3) (by rfl)
theorem i_X3_unloadedFor_X3 : ∀ w ∈ wsX30, w ∈ wsX3_unloadedFor := by decide +kernel
abbrev rm_X3_unloadedFor : Room := { frames := 0, cells := 0, slots := 0, locals := 0 }
def s_X3_unloadedFor_4 (G : cr_G) : Nat → Int32 → Int32 → Int32 → Option Int32
  | 0, _, _, _ => none
  | n + 1, x1, x2, x3 => (if ((G 5) 2) ≤ x3 then (some x2) else (cr_gd (cr_in x3 10) (if ((G 6) (x3).toNatClampNeg) = x1 then (cr_gd (cr_in x3 10) (if ((G 7) (x3).toNatClampNeg) = 0 then (cr_bd (x2 + 1) (fun v31_3 => (cr_bd (x3 + 1) (fun v34_4 => (s_X3_unloadedFor_4 G n x1 v31_3 v34_4))))) else (cr_bd (x3 + 1) (fun v34_2 => (s_X3_unloadedFor_4 G n x1 x2 v34_2))))) else (cr_bd (x3 + 1) (fun v34_1 => (s_X3_unloadedFor_4 G n x1 x2 v34_1))))))
set_option maxHeartbeats 4000000 in
set_option maxRecDepth 100000 in
theorem b_X3_unloadedFor_4 {Γ : cr_C} {E : cr_E} (X : cr_X Γ E cX3_unloadedFor 4 RX3 wsX3_unloadedFor rm_X3_unloadedFor (some .int)) (S0 : cr_S) {f : Nat} (hf : f < 8) (G : cr_G) : ∀ (n : Nat) (x1 : Int32) (x2 : Int32) (x3 : Int32), cr_P Γ E 4 (cr_F Γ E (cr_vI (cr_us S0 f G))) 0 0 (cr_us S0 f G) 4 ([(0, .ref (E.2.1 f 5)), (1, .int x1), (2, .int x2), (3, .int x3)]) ([]) (s_X3_unloadedFor_4 G n x1 x2 x3) := by
  have hEK := X.2.2.2.2.2.2.1
  intro n
  induction n with
  | zero => intro x1 x2 x3; exact cr_none
  | succ n ih =>
    intro x1 x2 x3
    rw [s_X3_unloadedFor_4]
    refine cr_iload_n X 3 rfl dX3_unloadedFor_4 ?_
    refine cr_aload_n X 0 rfl dX3_unloadedFor_5 ?_
    refine cr_get X ((cr_a5 E hf).at (cr_row S0 f G 5) rfl) rfl i_X3_unloadedFor_X3 2 (by decide) k_X3_unloadedFor_1 rfl dX3_unloadedFor_6 ?_
    refine cr_icmp_ge X 40 dX3_unloadedFor_9 rfl ?_ ?_
    · refine cr_iload_n X 2 rfl dX3_unloadedFor_40 ?_
      exact cr_iret X rfl rfl dX3_unloadedFor_41
    · refine cr_aload_n X 0 rfl dX3_unloadedFor_12 ?_
      refine cr_get X ((cr_a5 E hf).at (cr_row S0 f G 5) rfl) rfl i_X3_unloadedFor_X3 0 (by decide) k_X3_unloadedFor_2 rfl dX3_unloadedFor_13 ?_
      refine cr_iload_n X 3 rfl dX3_unloadedFor_16 ?_
      refine cr_iald X ((cr_a6 E hf).at (cr_row S0 f G 6) rfl) dX3_unloadedFor_17 ?_
      refine cr_iload_n X 1 rfl dX3_unloadedFor_18 ?_
      refine cr_icmp_ne X 34 dX3_unloadedFor_19 rfl ?_ ?_
      · refine cr_iinc X (x3 + 1) (fun v34_1 => [(3, .int v34_1), (0, .ref (E.2.1 f 5)), (1, .int x1), (2, .int x2)]) 3 rfl rfl (fun _ => rfl) (by decide) dX3_unloadedFor_34 (fun v34_1 => ?_)
        refine cr_goto X 4 dX3_unloadedFor_37 rfl ?_
        refine cr_sub (lv' := [(0, .ref (E.2.1 f 5)), (1, .int x1), (2, .int x2), (3, .int v34_1)]) [1, 2, 3, 0] rfl ?_
        exact ih x1 x2 v34_1
      · refine cr_aload_n X 0 rfl dX3_unloadedFor_22 ?_
        refine cr_get X ((cr_a5 E hf).at (cr_row S0 f G 5) rfl) rfl i_X3_unloadedFor_X3 1 (by decide) k_X3_unloadedFor_3 rfl dX3_unloadedFor_23 ?_
        refine cr_iload_n X 3 rfl dX3_unloadedFor_26 ?_
        refine cr_iald X ((cr_a7 E hf).at (cr_row S0 f G 7) rfl) dX3_unloadedFor_27 ?_
        refine cr_if_ne X 34 dX3_unloadedFor_28 rfl ?_ ?_
        · refine cr_iinc X (x3 + 1) (fun v34_2 => [(3, .int v34_2), (0, .ref (E.2.1 f 5)), (1, .int x1), (2, .int x2)]) 3 rfl rfl (fun _ => rfl) (by decide) dX3_unloadedFor_34 (fun v34_2 => ?_)
          refine cr_goto X 4 dX3_unloadedFor_37 rfl ?_
          refine cr_sub (lv' := [(0, .ref (E.2.1 f 5)), (1, .int x1), (2, .int x2), (3, .int v34_2)]) [1, 2, 3, 0] rfl ?_
          exact ih x1 x2 v34_2
        · refine cr_iinc X (x2 + 1) (fun v31_3 => [(2, .int v31_3), (0, .ref (E.2.1 f 5)), (1, .int x1), (3, .int x3)]) 2 rfl rfl (fun _ => rfl) (by decide) dX3_unloadedFor_31 (fun v31_3 => ?_)
          refine cr_iinc X (x3 + 1) (fun v34_4 => [(3, .int v34_4), (2, .int v31_3), (0, .ref (E.2.1 f 5)), (1, .int x1)]) 3 rfl rfl (fun _ => rfl) (by decide) dX3_unloadedFor_34 (fun v34_4 => ?_)
          refine cr_goto X 4 dX3_unloadedFor_37 rfl ?_
          refine cr_sub (lv' := [(0, .ref (E.2.1 f 5)), (1, .int x1), (2, .int v31_3), (3, .int v34_4)]) [2, 3, 1, 0] rfl ?_
          exact ih x1 v31_3 v34_4
def s_X3_unloadedFor (G : cr_G) (p1 : Int32) : Option Int32 := (s_X3_unloadedFor_4 G 1200 p1 ((0 : Int32)) ((0 : Int32)))
set_option maxHeartbeats 4000000 in
set_option maxRecDepth 100000 in
theorem c_X3_unloadedFor (l : Launch) (E : cr_E) (hEK : cr_EK E) (S0 : cr_S) {f : Nat} (hf : f < 8) (G : cr_G) (p1 : Int32) : cr_M l E yX3_unloadedFor wsX3_unloadedFor rm_X3_unloadedFor [.ref (E.2.1 f 5), .int p1] (cr_us S0 f G) (cr_vI (cr_us S0 f G)) (s_X3_unloadedFor G p1) := by
  refine cr_enter (cc := cX3_unloadedFor) (nL := 4) (rt := (some .int)) hEK (by decide) rfl (Nat.le_of_ble_eq_true rfl) (fun Γ hΓ X => ?_)
  subst hΓ
  have X : cr_X Γ E cX3_unloadedFor 4 RX3 wsX3_unloadedFor rm_X3_unloadedFor (some .int) := X
  unfold s_X3_unloadedFor
  show cr_P Γ E 4 _ 0 0 (cr_us S0 f G) 0 ([(0, .ref (E.2.1 f 5)), (1, .int p1)]) [] _
  refine cr_iconst X (0 : Int32) (by decide) dX3_unloadedFor_0 ?_
  refine cr_istore_n X ([(2, .int ((0 : Int32))), (0, .ref (E.2.1 f 5)), (1, .int p1)]) rfl (by decide) dX3_unloadedFor_1 ?_
  refine cr_iconst X (0 : Int32) (by decide) dX3_unloadedFor_2 ?_
  refine cr_istore_n X ([(3, .int ((0 : Int32))), (2, .int ((0 : Int32))), (0, .ref (E.2.1 f 5)), (1, .int p1)]) rfl (by decide) dX3_unloadedFor_3 ?_
  refine cr_sub (lv' := [(0, .ref (E.2.1 f 5)), (1, .int p1), (2, .int ((0 : Int32))), (3, .int ((0 : Int32)))]) [2, 3, 1, 0] rfl ?_
  exact b_X3_unloadedFor_4 X S0 hf G 1200 p1 ((0 : Int32)) ((0 : Int32))
theorem c_X3_unloadedFor_S (l : Launch) (E : cr_E) (hEK : cr_EK E) (S : cr_S) {f : Nat} (hf : f < 8) (p1 : Int32) : cr_M l E yX3_unloadedFor wsX3_unloadedFor rm_X3_unloadedFor [.ref (E.2.1 f 5), .int p1] S (cr_vI S) (s_X3_unloadedFor (S.1 f) p1) := by
  have h := c_X3_unloadedFor l E hEK S hf (S.1 f) p1
  rw [cr_us_self] at h
  exact h

theorem k_X3_useBladeFor_1 : (Cond.fieldLink RX3 18 "CraneCampaign$Harbour" "count" "I") ∈ wsX3_useBladeFor := List.mem_of_getElem? (i := 1) (by rfl)
theorem k_X3_useBladeFor_2 : (Cond.fieldLink RX3 9 "CraneCampaign$Harbour" "turbine" "[I") ∈ wsX3_useBladeFor := List.mem_of_getElem? (i := 2) (by rfl)
theorem k_X3_useBladeFor_3 : (Cond.fieldLink RX3 15 "CraneCampaign$Harbour" "weight" "[I") ∈ wsX3_useBladeFor := List.mem_of_getElem? (i := 3) (by rfl)
theorem i_X3_useBladeFor_X3 : ∀ w ∈ wsX30, w ∈ wsX3_useBladeFor := by decide +kernel
abbrev rm_X3_useBladeFor : Room := { frames := 1, cells := 0, slots := 0, locals := 22 }
def s_X3_useBladeFor_2 : Nat → Int32 → Int32 → cr_G → Option cr_G
  | 0, _, _, _ => none
  | n + 1, x1, x2, G => (if ((G 5) 2) ≤ x2 then (some G) else (cr_gd (cr_in x2 10) (if ((G 6) (x2).toNatClampNeg) = x1 then (cr_gd (cr_in x2 10) (if ((G 7) (x2).toNatClampNeg) = 0 then (cr_cl (s_X3_removeAt x2 G) (fun r31_3 => (some r31_3))) else (cr_bd (x2 + 1) (fun v35_2 => (s_X3_useBladeFor_2 n x1 v35_2 G))))) else (cr_bd (x2 + 1) (fun v35_1 => (s_X3_useBladeFor_2 n x1 v35_1 G))))))
set_option maxHeartbeats 4000000 in
set_option maxRecDepth 100000 in
theorem b_X3_useBladeFor_2 {Γ : cr_C} {E : cr_E} (X : cr_X Γ E cX3_useBladeFor 3 RX3 wsX3_useBladeFor rm_X3_useBladeFor none) (S0 : cr_S) {f : Nat} (hf : f < 8) : ∀ (n : Nat) (x1 : Int32) (x2 : Int32) (G : cr_G), cr_P Γ E 3 (cr_F Γ E (cr_vVG S0 f)) 0 0 (cr_us S0 f G) 2 ([(0, .ref (E.2.1 f 5)), (1, .int x1), (2, .int x2)]) ([]) (s_X3_useBladeFor_2 n x1 x2 G) := by
  have hEK := X.2.2.2.2.2.2.1
  intro n
  induction n with
  | zero => intro x1 x2 G; exact cr_none
  | succ n ih =>
    intro x1 x2 G
    rw [s_X3_useBladeFor_2]
    refine cr_iload_n X 2 rfl dX3_useBladeFor_2 ?_
    refine cr_aload_n X 0 rfl dX3_useBladeFor_3 ?_
    refine cr_get X ((cr_a5 E hf).at (cr_row S0 f G 5) rfl) rfl i_X3_useBladeFor_X3 2 (by decide) k_X3_useBladeFor_1 rfl dX3_useBladeFor_4 ?_
    refine cr_icmp_ge X 41 dX3_useBladeFor_7 rfl ?_ ?_
    · exact cr_vret X rfl rfl dX3_useBladeFor_41
    · refine cr_aload_n X 0 rfl dX3_useBladeFor_10 ?_
      refine cr_get X ((cr_a5 E hf).at (cr_row S0 f G 5) rfl) rfl i_X3_useBladeFor_X3 0 (by decide) k_X3_useBladeFor_2 rfl dX3_useBladeFor_11 ?_
      refine cr_iload_n X 2 rfl dX3_useBladeFor_14 ?_
      refine cr_iald X ((cr_a6 E hf).at (cr_row S0 f G 6) rfl) dX3_useBladeFor_15 ?_
      refine cr_iload_n X 1 rfl dX3_useBladeFor_16 ?_
      refine cr_icmp_ne X 35 dX3_useBladeFor_17 rfl ?_ ?_
      · refine cr_iinc X (x2 + 1) (fun v35_1 => [(2, .int v35_1), (0, .ref (E.2.1 f 5)), (1, .int x1)]) 2 rfl rfl (fun _ => rfl) (by decide) dX3_useBladeFor_35 (fun v35_1 => ?_)
        refine cr_goto X 2 dX3_useBladeFor_38 rfl ?_
        refine cr_sub (lv' := [(0, .ref (E.2.1 f 5)), (1, .int x1), (2, .int v35_1)]) [1, 2, 0] rfl ?_
        exact ih x1 v35_1 G
      · refine cr_aload_n X 0 rfl dX3_useBladeFor_20 ?_
        refine cr_get X ((cr_a5 E hf).at (cr_row S0 f G 5) rfl) rfl i_X3_useBladeFor_X3 1 (by decide) k_X3_useBladeFor_3 rfl dX3_useBladeFor_21 ?_
        refine cr_iload_n X 2 rfl dX3_useBladeFor_24 ?_
        refine cr_iald X ((cr_a7 E hf).at (cr_row S0 f G 7) rfl) dX3_useBladeFor_25 ?_
        refine cr_if_ne X 35 dX3_useBladeFor_26 rfl ?_ ?_
        · refine cr_iinc X (x2 + 1) (fun v35_2 => [(2, .int v35_2), (0, .ref (E.2.1 f 5)), (1, .int x1)]) 2 rfl rfl (fun _ => rfl) (by decide) dX3_useBladeFor_35 (fun v35_2 => ?_)
          refine cr_goto X 2 dX3_useBladeFor_38 rfl ?_
          refine cr_sub (lv' := [(0, .ref (E.2.1 f 5)), (1, .int x1), (2, .int v35_2)]) [1, 2, 0] rfl ?_
          exact ih x1 v35_2 G
        · refine cr_aload_n X 0 rfl dX3_useBladeFor_29 ?_
          refine cr_iload_n X 2 rfl dX3_useBladeFor_30 ?_
          refine cr_callV X (As := [.int x2]) (rest := []) (c_X3_removeAt Γ.2.1 E hEK S0 hf G x2) ((cr_a5 E hf).at (cr_row S0 f G 5) rfl) rfl 1 gX3_useBladeFor_X3_removeAt rfl rfl rfl (by decide +kernel) ⟨Nat.le_of_ble_eq_true rfl, Nat.le_of_ble_eq_true rfl⟩ (by decide) rfl rfl (Nat.le_of_ble_eq_true rfl) dX3_useBladeFor_31 (fun r31_3 => ?_)
          show cr_P Γ E 3 _ 0 0 (cr_us S0 f r31_3) 34 ([(0, .ref (E.2.1 f 5)), (1, .int x1), (2, .int x2)]) ([]) _
          exact cr_vret X rfl rfl dX3_useBladeFor_34
def s_X3_useBladeFor (p1 : Int32) (G : cr_G) : Option cr_G := (s_X3_useBladeFor_2 1200 p1 ((0 : Int32)) G)
set_option maxHeartbeats 4000000 in
set_option maxRecDepth 100000 in
theorem c_X3_useBladeFor (l : Launch) (E : cr_E) (hEK : cr_EK E) (S0 : cr_S) {f : Nat} (hf : f < 8) (G : cr_G) (p1 : Int32) : cr_M l E yX3_useBladeFor wsX3_useBladeFor rm_X3_useBladeFor [.ref (E.2.1 f 5), .int p1] (cr_us S0 f G) (cr_vVG S0 f) (s_X3_useBladeFor p1 G) := by
  refine cr_enter (cc := cX3_useBladeFor) (nL := 3) (rt := none) hEK (by decide) rfl (Nat.le_of_ble_eq_true rfl) (fun Γ hΓ X => ?_)
  subst hΓ
  have X : cr_X Γ E cX3_useBladeFor 3 RX3 wsX3_useBladeFor rm_X3_useBladeFor none := X
  unfold s_X3_useBladeFor
  show cr_P Γ E 3 _ 0 0 (cr_us S0 f G) 0 ([(0, .ref (E.2.1 f 5)), (1, .int p1)]) [] _
  refine cr_iconst X (0 : Int32) (by decide) dX3_useBladeFor_0 ?_
  refine cr_istore_n X ([(2, .int ((0 : Int32))), (0, .ref (E.2.1 f 5)), (1, .int p1)]) rfl (by decide) dX3_useBladeFor_1 ?_
  refine cr_sub (lv' := [(0, .ref (E.2.1 f 5)), (1, .int p1), (2, .int ((0 : Int32)))]) [1, 2, 0] rfl ?_
  exact b_X3_useBladeFor_2 X S0 hf 1200 p1 ((0 : Int32)) G
theorem c_X3_useBladeFor_S (l : Launch) (E : cr_E) (hEK : cr_EK E) (S : cr_S) {f : Nat} (hf : f < 8) (p1 : Int32) : cr_M l E yX3_useBladeFor wsX3_useBladeFor rm_X3_useBladeFor [.ref (E.2.1 f 5), .int p1] S (cr_vVG S f) (s_X3_useBladeFor  p1 (S.1 f)) := by
  have h := c_X3_useBladeFor l E hEK S hf (S.1 f) p1
  rw [cr_us_self] at h
  exact h

theorem k_X4_copyFrom_1 : (Cond.fieldLink RX4 9 "CraneCampaign$Plan" "row" "[I") ∈ wsX4_copyFrom := List.mem_of_getElem? (i := 1) (by rfl)
theorem k_X4_copyFrom_2 : (Cond.methodLink RX4 19 arraycopyName) ∈ wsX4_copyFrom := List.mem_of_getElem? (i := 2) (by rfl)
theorem k_X4_copyFrom_3 : (Cond.native arraycopyName) ∈ wsX4_copyFrom := List.mem_of_getElem? (i := 3) (by rfl)
theorem k_X4_copyFrom_4 : (Cond.static arraycopyName) ∈ wsX4_copyFrom := List.mem_of_getElem? (i := 4) (by rfl)
theorem k_X4_copyFrom_5 : (Cond.initialized "java/lang/System") ∈ wsX4_copyFrom := List.mem_of_getElem? (i := 5) (by rfl)
theorem k_X4_copyFrom_6 : (Cond.fieldLink RX4 15 "CraneCampaign$Plan" "count" "I") ∈ wsX4_copyFrom := List.mem_of_getElem? (i := 6) (by rfl)
theorem i_X4_copyFrom_X4 : ∀ w ∈ wsX40, w ∈ wsX4_copyFrom := by decide +kernel
abbrev rm_X4_copyFrom : Room := { frames := 1, cells := 0, slots := 0, locals := 40 }
def s_X4_copyFrom (Go : cr_G) (G : cr_G) : Option cr_G := (cr_bd (cr_pa G 9 (va_cpy (Go 9) (G 9) 0 0 10)) (fun G12_1 => (cr_bd (cr_pt G12_1 8 1 (((Go 8) 1))) (fun G20_2 => (some G20_2)))))
set_option maxHeartbeats 4000000 in
set_option maxRecDepth 100000 in
theorem c_X4_copyFrom (l : Launch) (E : cr_E) (hEK : cr_EK E) (S0 : cr_S) {f : Nat} (hf : f < 8) {g : Nat} (hg : g < 8) (hne : g ≠ f) (G : cr_G) : cr_M l E yX4_copyFrom wsX4_copyFrom rm_X4_copyFrom [.ref (E.2.1 f 8), .ref (E.2.1 g 8)] (cr_us S0 f G) (cr_vVG S0 f) (s_X4_copyFrom (S0.1 g) G) := by
  refine cr_enter (cc := cX4_copyFrom) (nL := 2) (rt := none) hEK (by decide) rfl (Nat.le_of_ble_eq_true rfl) (fun Γ hΓ X => ?_)
  subst hΓ
  have X : cr_X Γ E cX4_copyFrom 2 RX4 wsX4_copyFrom rm_X4_copyFrom none := X
  unfold s_X4_copyFrom
  show cr_P Γ E 2 _ 0 0 (cr_us S0 f G) 0 ([(0, .ref (E.2.1 f 8)), (1, .ref (E.2.1 g 8))]) [] _
  refine cr_aload_n X 1 rfl dX4_copyFrom_0 ?_
  refine cr_get X ((cr_a8 E hg).at (cr_rowo S0 G hne 8) rfl) rfl i_X4_copyFrom_X4 0 (by decide) k_X4_copyFrom_1 rfl dX4_copyFrom_1 ?_
  refine cr_iconst X (0 : Int32) (by decide) dX4_copyFrom_4 ?_
  refine cr_aload_n X 0 rfl dX4_copyFrom_5 ?_
  refine cr_get X ((cr_a8 E hf).at (cr_row S0 f G 8) rfl) rfl i_X4_copyFrom_X4 0 (by decide) k_X4_copyFrom_1 rfl dX4_copyFrom_6 ?_
  refine cr_iconst X (0 : Int32) (by decide) dX4_copyFrom_9 ?_
  refine cr_bipush X (10 : Int32) (by decide) dX4_copyFrom_10 ?_
  refine cr_acopyG X ((S0.1 g) 9) ((cr_a9 E hg).at (cr_rowo S0 G hne 9) rfl) (cr_a9 E hf) (fun _ _ => rfl) 0 0 10 (by decide) (by decide) k_X4_copyFrom_2 k_X4_copyFrom_3 k_X4_copyFrom_4 k_X4_copyFrom_5 (by decide) (by decide +kernel) dX4_copyFrom_12 (fun G12_1 => ?_)
  refine cr_aload_n X 0 rfl dX4_copyFrom_15 ?_
  refine cr_aload_n X 1 rfl dX4_copyFrom_16 ?_
  refine cr_get X ((cr_a8 E hg).at (cr_rowo S0 G12_1 hne 8) rfl) rfl i_X4_copyFrom_X4 1 (by decide) k_X4_copyFrom_6 rfl dX4_copyFrom_17 ?_
  refine cr_putG X (cr_a8 E hf) 1 rfl rfl rfl i_X4_copyFrom_X4 tyX4 tyX4_ok nmX4 (by decide) k_X4_copyFrom_6 rfl rfl rfl (Nat.le_of_ble_eq_true rfl) dX4_copyFrom_20 (fun G20_2 => ?_)
  exact cr_vret X rfl rfl dX4_copyFrom_23
theorem c_X4_copyFrom_S (l : Launch) (E : cr_E) (hEK : cr_EK E) (S : cr_S) {f : Nat} (hf : f < 8) {g : Nat} (hg : g < 8) (hne : g ≠ f) : cr_M l E yX4_copyFrom wsX4_copyFrom rm_X4_copyFrom [.ref (E.2.1 f 8), .ref (E.2.1 g 8)] S (cr_vVG S f) (s_X4_copyFrom (S.1 g)  (S.1 f)) := by
  have h := c_X4_copyFrom l E hEK S hf hg hne (S.1 f)
  rw [cr_us_self] at h
  exact h

theorem k_X4_placeOf_1 : (Cond.fieldLink RX4 15 "CraneCampaign$Plan" "count" "I") ∈ wsX4_placeOf := List.mem_of_getElem? (i := 1) (by rfl)
theorem k_X4_placeOf_2 : (Cond.fieldLink RX4 9 "CraneCampaign$Plan" "row" "[I") ∈ wsX4_placeOf := List.mem_of_getElem? (i := 2) (by rfl)
theorem i_X4_placeOf_X4 : ∀ w ∈ wsX40, w ∈ wsX4_placeOf := by decide +kernel
abbrev rm_X4_placeOf : Room := { frames := 0, cells := 0, slots := 0, locals := 0 }
def s_X4_placeOf_2 (G : cr_G) : Nat → Int32 → Int32 → Option Int32
  | 0, _, _ => none
  | n + 1, x1, x2 => (if ((G 8) 1) ≤ x2 then (some ((-1 : Int32))) else (cr_gd (cr_in x2 10) (if ((G 9) (x2).toNatClampNeg) = x1 then (some x2) else (cr_bd (x2 + 1) (fun v22_1 => (s_X4_placeOf_2 G n x1 v22_1))))))
set_option maxHeartbeats 4000000 in
set_option maxRecDepth 100000 in
theorem b_X4_placeOf_2 {Γ : cr_C} {E : cr_E} (X : cr_X Γ E cX4_placeOf 3 RX4 wsX4_placeOf rm_X4_placeOf (some .int)) (S0 : cr_S) {f : Nat} (hf : f < 8) (G : cr_G) : ∀ (n : Nat) (x1 : Int32) (x2 : Int32), cr_P Γ E 3 (cr_F Γ E (cr_vI (cr_us S0 f G))) 0 0 (cr_us S0 f G) 2 ([(0, .ref (E.2.1 f 8)), (1, .int x1), (2, .int x2)]) ([]) (s_X4_placeOf_2 G n x1 x2) := by
  have hEK := X.2.2.2.2.2.2.1
  intro n
  induction n with
  | zero => intro x1 x2; exact cr_none
  | succ n ih =>
    intro x1 x2
    rw [s_X4_placeOf_2]
    refine cr_iload_n X 2 rfl dX4_placeOf_2 ?_
    refine cr_aload_n X 0 rfl dX4_placeOf_3 ?_
    refine cr_get X ((cr_a8 E hf).at (cr_row S0 f G 8) rfl) rfl i_X4_placeOf_X4 1 (by decide) k_X4_placeOf_1 rfl dX4_placeOf_4 ?_
    refine cr_icmp_ge X 28 dX4_placeOf_7 rfl ?_ ?_
    · refine cr_iconst X (-1 : Int32) (by decide) dX4_placeOf_28 ?_
      exact cr_iret X rfl rfl dX4_placeOf_29
    · refine cr_aload_n X 0 rfl dX4_placeOf_10 ?_
      refine cr_get X ((cr_a8 E hf).at (cr_row S0 f G 8) rfl) rfl i_X4_placeOf_X4 0 (by decide) k_X4_placeOf_2 rfl dX4_placeOf_11 ?_
      refine cr_iload_n X 2 rfl dX4_placeOf_14 ?_
      refine cr_iald X ((cr_a9 E hf).at (cr_row S0 f G 9) rfl) dX4_placeOf_15 ?_
      refine cr_iload_n X 1 rfl dX4_placeOf_16 ?_
      refine cr_icmp_ne X 22 dX4_placeOf_17 rfl ?_ ?_
      · refine cr_iinc X (x2 + 1) (fun v22_1 => [(2, .int v22_1), (0, .ref (E.2.1 f 8)), (1, .int x1)]) 2 rfl rfl (fun _ => rfl) (by decide) dX4_placeOf_22 (fun v22_1 => ?_)
        refine cr_goto X 2 dX4_placeOf_25 rfl ?_
        refine cr_sub (lv' := [(0, .ref (E.2.1 f 8)), (1, .int x1), (2, .int v22_1)]) [1, 2, 0] rfl ?_
        exact ih x1 v22_1
      · refine cr_iload_n X 2 rfl dX4_placeOf_20 ?_
        exact cr_iret X rfl rfl dX4_placeOf_21
def s_X4_placeOf (G : cr_G) (p1 : Int32) : Option Int32 := (s_X4_placeOf_2 G 1200 p1 ((0 : Int32)))
set_option maxHeartbeats 4000000 in
set_option maxRecDepth 100000 in
theorem c_X4_placeOf (l : Launch) (E : cr_E) (hEK : cr_EK E) (S0 : cr_S) {f : Nat} (hf : f < 8) (G : cr_G) (p1 : Int32) : cr_M l E yX4_placeOf wsX4_placeOf rm_X4_placeOf [.ref (E.2.1 f 8), .int p1] (cr_us S0 f G) (cr_vI (cr_us S0 f G)) (s_X4_placeOf G p1) := by
  refine cr_enter (cc := cX4_placeOf) (nL := 3) (rt := (some .int)) hEK (by decide) rfl (Nat.le_of_ble_eq_true rfl) (fun Γ hΓ X => ?_)
  subst hΓ
  have X : cr_X Γ E cX4_placeOf 3 RX4 wsX4_placeOf rm_X4_placeOf (some .int) := X
  unfold s_X4_placeOf
  show cr_P Γ E 3 _ 0 0 (cr_us S0 f G) 0 ([(0, .ref (E.2.1 f 8)), (1, .int p1)]) [] _
  refine cr_iconst X (0 : Int32) (by decide) dX4_placeOf_0 ?_
  refine cr_istore_n X ([(2, .int ((0 : Int32))), (0, .ref (E.2.1 f 8)), (1, .int p1)]) rfl (by decide) dX4_placeOf_1 ?_
  refine cr_sub (lv' := [(0, .ref (E.2.1 f 8)), (1, .int p1), (2, .int ((0 : Int32)))]) [1, 2, 0] rfl ?_
  exact b_X4_placeOf_2 X S0 hf G 1200 p1 ((0 : Int32))
theorem c_X4_placeOf_S (l : Launch) (E : cr_E) (hEK : cr_EK E) (S : cr_S) {f : Nat} (hf : f < 8) (p1 : Int32) : cr_M l E yX4_placeOf wsX4_placeOf rm_X4_placeOf [.ref (E.2.1 f 8), .int p1] S (cr_vI S) (s_X4_placeOf (S.1 f) p1) := by
  have h := c_X4_placeOf l E hEK S hf (S.1 f) p1
  rw [cr_us_self] at h
  exact h

theorem k_X4_countWithout_1 : (Cond.fieldLink RX4 15 "CraneCampaign$Plan" "count" "I") ∈ wsX4_countWithout := List.mem_of_getElem? (i := 1) (by rfl)
theorem i_X4_countWithout_X4 : ∀ w ∈ wsX40, w ∈ wsX4_countWithout := by decide +kernel
abbrev rm_X4_countWithout : Room := { frames := 1, cells := 0, slots := 0, locals := 22 }
def s_X4_countWithout (G : cr_G) (p1 : Int32) : Option Int32 := (cr_cl (s_X4_placeOf G p1) (fun r2_1 => (if r2_1 = (-1 : Int32) then (some (((G 8) 1))) else (some ((((G 8) 1) - (1 : Int32)))))))
set_option maxHeartbeats 4000000 in
set_option maxRecDepth 100000 in
theorem c_X4_countWithout (l : Launch) (E : cr_E) (hEK : cr_EK E) (S0 : cr_S) {f : Nat} (hf : f < 8) (G : cr_G) (p1 : Int32) : cr_M l E yX4_countWithout wsX4_countWithout rm_X4_countWithout [.ref (E.2.1 f 8), .int p1] (cr_us S0 f G) (cr_vI (cr_us S0 f G)) (s_X4_countWithout G p1) := by
  refine cr_enter (cc := cX4_countWithout) (nL := 2) (rt := (some .int)) hEK (by decide) rfl (Nat.le_of_ble_eq_true rfl) (fun Γ hΓ X => ?_)
  subst hΓ
  have X : cr_X Γ E cX4_countWithout 2 RX4 wsX4_countWithout rm_X4_countWithout (some .int) := X
  unfold s_X4_countWithout
  show cr_P Γ E 2 _ 0 0 (cr_us S0 f G) 0 ([(0, .ref (E.2.1 f 8)), (1, .int p1)]) [] _
  refine cr_aload_n X 0 rfl dX4_countWithout_0 ?_
  refine cr_iload_n X 1 rfl dX4_countWithout_1 ?_
  refine cr_callV X (As := [.int p1]) (rest := []) (c_X4_placeOf Γ.2.1 E hEK S0 hf G p1) ((cr_a8 E hf).at (cr_row S0 f G 8) rfl) rfl 1 gX4_countWithout_X4_placeOf rfl rfl rfl (by decide +kernel) ⟨Nat.le_of_ble_eq_true rfl, Nat.le_of_ble_eq_true rfl⟩ (by decide) rfl rfl (Nat.le_of_ble_eq_true rfl) dX4_countWithout_2 (fun r2_1 => ?_)
  show cr_P Γ E 2 _ 0 0 (cr_us S0 f G) 5 ([(0, .ref (E.2.1 f 8)), (1, .int p1)]) ([.int r2_1]) _
  refine cr_iconst X (-1 : Int32) (by decide) dX4_countWithout_5 ?_
  refine cr_icmp_ne X 16 dX4_countWithout_6 rfl ?_ ?_
  · refine cr_aload_n X 0 rfl dX4_countWithout_16 ?_
    refine cr_get X ((cr_a8 E hf).at (cr_row S0 f G 8) rfl) rfl i_X4_countWithout_X4 1 (by decide) k_X4_countWithout_1 rfl dX4_countWithout_17 ?_
    refine cr_iconst X (1 : Int32) (by decide) dX4_countWithout_20 ?_
    refine cr_isub X dX4_countWithout_21 ?_
    exact cr_iret X rfl rfl dX4_countWithout_22
  · refine cr_aload_n X 0 rfl dX4_countWithout_9 ?_
    refine cr_get X ((cr_a8 E hf).at (cr_row S0 f G 8) rfl) rfl i_X4_countWithout_X4 1 (by decide) k_X4_countWithout_1 rfl dX4_countWithout_10 ?_
    refine cr_goto X 22 dX4_countWithout_13 rfl ?_
    exact cr_iret X rfl rfl dX4_countWithout_22
theorem c_X4_countWithout_S (l : Launch) (E : cr_E) (hEK : cr_EK E) (S : cr_S) {f : Nat} (hf : f < 8) (p1 : Int32) : cr_M l E yX4_countWithout wsX4_countWithout rm_X4_countWithout [.ref (E.2.1 f 8), .int p1] S (cr_vI S) (s_X4_countWithout (S.1 f) p1) := by
  have h := c_X4_countWithout l E hEK S hf (S.1 f) p1
  rw [cr_us_self] at h
  exact h

theorem k_X4_first_1 : (Cond.fieldLink RX4 15 "CraneCampaign$Plan" "count" "I") ∈ wsX4_first := List.mem_of_getElem? (i := 1) (by rfl)
theorem k_X4_first_2 : (Cond.fieldLink RX4 9 "CraneCampaign$Plan" "row" "[I") ∈ wsX4_first := List.mem_of_getElem? (i := 2) (by rfl)
theorem i_X4_first_X4 : ∀ w ∈ wsX40, w ∈ wsX4_first := by decide +kernel
abbrev rm_X4_first : Room := { frames := 0, cells := 0, slots := 0, locals := 0 }
def s_X4_first (G : cr_G) : Option Int32 := (if ((G 8) 1) ≤ 0 then (some ((-1 : Int32))) else (some (((G 9) 0))))
set_option maxHeartbeats 4000000 in
set_option maxRecDepth 100000 in
theorem c_X4_first (l : Launch) (E : cr_E) (hEK : cr_EK E) (S0 : cr_S) {f : Nat} (hf : f < 8) (G : cr_G) : cr_M l E yX4_first wsX4_first rm_X4_first [.ref (E.2.1 f 8)] (cr_us S0 f G) (cr_vI (cr_us S0 f G)) (s_X4_first G) := by
  refine cr_enter (cc := cX4_first) (nL := 1) (rt := (some .int)) hEK (by decide) rfl (Nat.le_of_ble_eq_true rfl) (fun Γ hΓ X => ?_)
  subst hΓ
  have X : cr_X Γ E cX4_first 1 RX4 wsX4_first rm_X4_first (some .int) := X
  unfold s_X4_first
  show cr_P Γ E 1 _ 0 0 (cr_us S0 f G) 0 ([(0, .ref (E.2.1 f 8))]) [] _
  refine cr_aload_n X 0 rfl dX4_first_0 ?_
  refine cr_get X ((cr_a8 E hf).at (cr_row S0 f G 8) rfl) rfl i_X4_first_X4 1 (by decide) k_X4_first_1 rfl dX4_first_1 ?_
  refine cr_if_le X 16 dX4_first_4 rfl ?_ ?_
  · refine cr_iconst X (-1 : Int32) (by decide) dX4_first_16 ?_
    exact cr_iret X rfl rfl dX4_first_17
  · refine cr_aload_n X 0 rfl dX4_first_7 ?_
    refine cr_get X ((cr_a8 E hf).at (cr_row S0 f G 8) rfl) rfl i_X4_first_X4 0 (by decide) k_X4_first_2 rfl dX4_first_8 ?_
    refine cr_iconst X (0 : Int32) (by decide) dX4_first_11 ?_
    refine cr_ialdk X 0 (by decide) (by decide) ((cr_a9 E hf).at (cr_row S0 f G 9) rfl) dX4_first_12 ?_
    refine cr_goto X 17 dX4_first_13 rfl ?_
    exact cr_iret X rfl rfl dX4_first_17
theorem c_X4_first_S (l : Launch) (E : cr_E) (hEK : cr_EK E) (S : cr_S) {f : Nat} (hf : f < 8) : cr_M l E yX4_first wsX4_first rm_X4_first [.ref (E.2.1 f 8)] S (cr_vI S) (s_X4_first (S.1 f)) := by
  have h := c_X4_first l E hEK S hf (S.1 f)
  rw [cr_us_self] at h
  exact h

theorem k_X4_removeAt_1 : (Cond.fieldLink RX4 15 "CraneCampaign$Plan" "count" "I") ∈ wsX4_removeAt := List.mem_of_getElem? (i := 1) (by rfl)
theorem k_X4_removeAt_2 : (Cond.fieldLink RX4 9 "CraneCampaign$Plan" "row" "[I") ∈ wsX4_removeAt := List.mem_of_getElem? (i := 2) (by rfl)
theorem i_X4_removeAt_X4 : ∀ w ∈ wsX40, w ∈ wsX4_removeAt := by decide +kernel
abbrev rm_X4_removeAt : Room := { frames := 0, cells := 0, slots := 0, locals := 0 }
def s_X4_removeAt_25 : Nat → Int32 → cr_G → Option cr_G
  | 0, _, _ => none
  | n + 1, x2, G => (if ((G 8) 1) ≤ x2 then (some G) else (cr_gd (cr_in ((x2 + (1 : Int32))) 10) (cr_gd (cr_in x2 10) (cr_bd (cr_pt G 9 (x2).toNatClampNeg (((G 9) ((x2 + (1 : Int32))).toNatClampNeg))) (fun G46_2 => (cr_bd (x2 + 1) (fun v47_3 => (s_X4_removeAt_25 n v47_3 G46_2))))))))
set_option maxHeartbeats 4000000 in
set_option maxRecDepth 100000 in
theorem b_X4_removeAt_25 {Γ : cr_C} {E : cr_E} (X : cr_X Γ E cX4_removeAt 3 RX4 wsX4_removeAt rm_X4_removeAt none) (S0 : cr_S) {f : Nat} (hf : f < 8) : ∀ (n : Nat) (x2 : Int32) (G : cr_G), cr_P Γ E 3 (cr_F Γ E (cr_vVG S0 f)) 0 0 (cr_us S0 f G) 25 ([(0, .ref (E.2.1 f 8)), (2, .int x2)]) ([]) (s_X4_removeAt_25 n x2 G) := by
  have hEK := X.2.2.2.2.2.2.1
  intro n
  induction n with
  | zero => intro x2 G; exact cr_none
  | succ n ih =>
    intro x2 G
    rw [s_X4_removeAt_25]
    refine cr_iload_n X 1 rfl dX4_removeAt_25 ?_
    refine cr_aload_n X 0 rfl dX4_removeAt_26 ?_
    refine cr_get X ((cr_a8 E hf).at (cr_row S0 f G 8) rfl) rfl i_X4_removeAt_X4 1 (by decide) k_X4_removeAt_1 rfl dX4_removeAt_27 ?_
    refine cr_icmp_ge X 53 dX4_removeAt_30 rfl ?_ ?_
    · exact cr_vret X rfl rfl dX4_removeAt_53
    · refine cr_aload_n X 0 rfl dX4_removeAt_33 ?_
      refine cr_get X ((cr_a8 E hf).at (cr_row S0 f G 8) rfl) rfl i_X4_removeAt_X4 0 (by decide) k_X4_removeAt_2 rfl dX4_removeAt_34 ?_
      refine cr_iload_n X 1 rfl dX4_removeAt_37 ?_
      refine cr_aload_n X 0 rfl dX4_removeAt_38 ?_
      refine cr_get X ((cr_a8 E hf).at (cr_row S0 f G 8) rfl) rfl i_X4_removeAt_X4 0 (by decide) k_X4_removeAt_2 rfl dX4_removeAt_39 ?_
      refine cr_iload_n X 1 rfl dX4_removeAt_42 ?_
      refine cr_iconst X (1 : Int32) (by decide) dX4_removeAt_43 ?_
      refine cr_iadd X dX4_removeAt_44 ?_
      refine cr_iald X ((cr_a9 E hf).at (cr_row S0 f G 9) rfl) dX4_removeAt_45 ?_
      refine cr_iastG X (cr_a9 E hf) (fun _ _ => rfl) dX4_removeAt_46 (fun G46_2 => ?_)
      refine cr_iinc X (x2 + 1) (fun v47_3 => [(2, .int v47_3), (0, .ref (E.2.1 f 8))]) 1 rfl rfl (fun _ => rfl) (by decide) dX4_removeAt_47 (fun v47_3 => ?_)
      refine cr_goto X 25 dX4_removeAt_50 rfl ?_
      refine cr_sub (lv' := [(0, .ref (E.2.1 f 8)), (2, .int v47_3)]) [1, 0] rfl ?_
      exact ih v47_3 G46_2
def s_X4_removeAt (p1 : Int32) (G : cr_G) : Option cr_G := (if p1 < 0 then (some G) else (if p1 < ((G 8) 1) then (cr_bd (cr_pt G 8 1 ((((G 8) 1) - (1 : Int32)))) (fun G20_1 => (s_X4_removeAt_25 1200 p1 G20_1))) else (some G)))
set_option maxHeartbeats 4000000 in
set_option maxRecDepth 100000 in
theorem c_X4_removeAt (l : Launch) (E : cr_E) (hEK : cr_EK E) (S0 : cr_S) {f : Nat} (hf : f < 8) (G : cr_G) (p1 : Int32) : cr_M l E yX4_removeAt wsX4_removeAt rm_X4_removeAt [.ref (E.2.1 f 8), .int p1] (cr_us S0 f G) (cr_vVG S0 f) (s_X4_removeAt p1 G) := by
  refine cr_enter (cc := cX4_removeAt) (nL := 3) (rt := none) hEK (by decide) rfl (Nat.le_of_ble_eq_true rfl) (fun Γ hΓ X => ?_)
  subst hΓ
  have X : cr_X Γ E cX4_removeAt 3 RX4 wsX4_removeAt rm_X4_removeAt none := X
  unfold s_X4_removeAt
  show cr_P Γ E 3 _ 0 0 (cr_us S0 f G) 0 ([(0, .ref (E.2.1 f 8)), (1, .int p1)]) [] _
  refine cr_iload_n X 1 rfl dX4_removeAt_0 ?_
  refine cr_if_lt X 12 dX4_removeAt_1 rfl ?_ ?_
  · exact cr_vret X rfl rfl dX4_removeAt_12
  · refine cr_iload_n X 1 rfl dX4_removeAt_4 ?_
    refine cr_aload_n X 0 rfl dX4_removeAt_5 ?_
    refine cr_get X ((cr_a8 E hf).at (cr_row S0 f G 8) rfl) rfl i_X4_removeAt_X4 1 (by decide) k_X4_removeAt_1 rfl dX4_removeAt_6 ?_
    refine cr_icmp_lt X 13 dX4_removeAt_9 rfl ?_ ?_
    · refine cr_aload_n X 0 rfl dX4_removeAt_13 ?_
      refine cr_dup X rfl dX4_removeAt_14 ?_
      refine cr_get X ((cr_a8 E hf).at (cr_row S0 f G 8) rfl) rfl i_X4_removeAt_X4 1 (by decide) k_X4_removeAt_1 rfl dX4_removeAt_15 ?_
      refine cr_iconst X (1 : Int32) (by decide) dX4_removeAt_18 ?_
      refine cr_isub X dX4_removeAt_19 ?_
      refine cr_putG X (cr_a8 E hf) 1 rfl rfl rfl i_X4_removeAt_X4 tyX4 tyX4_ok nmX4 (by decide) k_X4_removeAt_1 rfl rfl rfl (Nat.le_of_ble_eq_true rfl) dX4_removeAt_20 (fun G20_1 => ?_)
      refine cr_iload_n X 1 rfl dX4_removeAt_23 ?_
      refine cr_istore_n X ([(2, .int p1), (0, .ref (E.2.1 f 8)), (1, .int p1)]) rfl (by decide) dX4_removeAt_24 ?_
      refine cr_sub (lv' := [(0, .ref (E.2.1 f 8)), (2, .int p1)]) [1, 0] rfl ?_
      exact b_X4_removeAt_25 X S0 hf 1200 p1 G20_1
    · exact cr_vret X rfl rfl dX4_removeAt_12
theorem c_X4_removeAt_S (l : Launch) (E : cr_E) (hEK : cr_EK E) (S : cr_S) {f : Nat} (hf : f < 8) (p1 : Int32) : cr_M l E yX4_removeAt wsX4_removeAt rm_X4_removeAt [.ref (E.2.1 f 8), .int p1] S (cr_vVG S f) (s_X4_removeAt  p1 (S.1 f)) := by
  have h := c_X4_removeAt l E hEK S hf (S.1 f) p1
  rw [cr_us_self] at h
  exact h

theorem k_X4_moveTo_1 : (Cond.fieldLink RX4 15 "CraneCampaign$Plan" "count" "I") ∈ wsX4_moveTo := List.mem_of_getElem? (i := 1) (by rfl)
theorem k_X4_moveTo_2 : (Cond.fieldLink RX4 9 "CraneCampaign$Plan" "row" "[I") ∈ wsX4_moveTo := List.mem_of_getElem? (i := 2) (by rfl)
theorem i_X4_moveTo_X4 : ∀ w ∈ wsX40, w ∈ wsX4_moveTo := by decide +kernel
abbrev rm_X4_moveTo : Room := { frames := 1, cells := 0, slots := 0, locals := 22 }
def s_X4_moveTo_36 : Nat → Int32 → Int32 → Int32 → cr_G → Option cr_G
  | 0, _, _, _, _ => none
  | n + 1, x1, x2, x3, G => (if x3 ≤ x2 then (cr_gd (cr_in x2 10) (cr_bd (cr_pt G 9 (x2).toNatClampNeg x1) (fun G67_4 => (cr_bd (cr_pt G67_4 8 1 ((((G67_4 8) 1) + (1 : Int32)))) (fun G75_5 => (some G75_5)))))) else (cr_gd (cr_in ((x3 - (1 : Int32))) 10) (cr_gd (cr_in x3 10) (cr_bd (cr_pt G 9 (x3).toNatClampNeg (((G 9) ((x3 - (1 : Int32))).toNatClampNeg))) (fun G54_6 => (cr_bd (x3 + (-1)) (fun v55_7 => (s_X4_moveTo_36 n x1 x2 v55_7 G54_6))))))))
set_option maxHeartbeats 4000000 in
set_option maxRecDepth 100000 in
theorem b_X4_moveTo_36 {Γ : cr_C} {E : cr_E} (X : cr_X Γ E cX4_moveTo 4 RX4 wsX4_moveTo rm_X4_moveTo none) (S0 : cr_S) {f : Nat} (hf : f < 8) : ∀ (n : Nat) (x1 : Int32) (x2 : Int32) (x3 : Int32) (G : cr_G), cr_P Γ E 4 (cr_F Γ E (cr_vVG S0 f)) 0 0 (cr_us S0 f G) 36 ([(0, .ref (E.2.1 f 8)), (1, .int x1), (2, .int x2), (3, .int x3)]) ([]) (s_X4_moveTo_36 n x1 x2 x3 G) := by
  have hEK := X.2.2.2.2.2.2.1
  intro n
  induction n with
  | zero => intro x1 x2 x3 G; exact cr_none
  | succ n ih =>
    intro x1 x2 x3 G
    rw [s_X4_moveTo_36]
    refine cr_iload_n X 3 rfl dX4_moveTo_36 ?_
    refine cr_iload_n X 2 rfl dX4_moveTo_37 ?_
    refine cr_icmp_le X 61 dX4_moveTo_38 rfl ?_ ?_
    · refine cr_aload_n X 0 rfl dX4_moveTo_61 ?_
      refine cr_get X ((cr_a8 E hf).at (cr_row S0 f G 8) rfl) rfl i_X4_moveTo_X4 0 (by decide) k_X4_moveTo_2 rfl dX4_moveTo_62 ?_
      refine cr_iload_n X 2 rfl dX4_moveTo_65 ?_
      refine cr_iload_n X 1 rfl dX4_moveTo_66 ?_
      refine cr_iastG X (cr_a9 E hf) (fun _ _ => rfl) dX4_moveTo_67 (fun G67_4 => ?_)
      refine cr_aload_n X 0 rfl dX4_moveTo_68 ?_
      refine cr_dup X rfl dX4_moveTo_69 ?_
      refine cr_get X ((cr_a8 E hf).at (cr_row S0 f G67_4 8) rfl) rfl i_X4_moveTo_X4 1 (by decide) k_X4_moveTo_1 rfl dX4_moveTo_70 ?_
      refine cr_iconst X (1 : Int32) (by decide) dX4_moveTo_73 ?_
      refine cr_iadd X dX4_moveTo_74 ?_
      refine cr_putG X (cr_a8 E hf) 1 rfl rfl rfl i_X4_moveTo_X4 tyX4 tyX4_ok nmX4 (by decide) k_X4_moveTo_1 rfl rfl rfl (Nat.le_of_ble_eq_true rfl) dX4_moveTo_75 (fun G75_5 => ?_)
      exact cr_vret X rfl rfl dX4_moveTo_78
    · refine cr_aload_n X 0 rfl dX4_moveTo_41 ?_
      refine cr_get X ((cr_a8 E hf).at (cr_row S0 f G 8) rfl) rfl i_X4_moveTo_X4 0 (by decide) k_X4_moveTo_2 rfl dX4_moveTo_42 ?_
      refine cr_iload_n X 3 rfl dX4_moveTo_45 ?_
      refine cr_aload_n X 0 rfl dX4_moveTo_46 ?_
      refine cr_get X ((cr_a8 E hf).at (cr_row S0 f G 8) rfl) rfl i_X4_moveTo_X4 0 (by decide) k_X4_moveTo_2 rfl dX4_moveTo_47 ?_
      refine cr_iload_n X 3 rfl dX4_moveTo_50 ?_
      refine cr_iconst X (1 : Int32) (by decide) dX4_moveTo_51 ?_
      refine cr_isub X dX4_moveTo_52 ?_
      refine cr_iald X ((cr_a9 E hf).at (cr_row S0 f G 9) rfl) dX4_moveTo_53 ?_
      refine cr_iastG X (cr_a9 E hf) (fun _ _ => rfl) dX4_moveTo_54 (fun G54_6 => ?_)
      refine cr_iinc X (x3 + (-1)) (fun v55_7 => [(3, .int v55_7), (0, .ref (E.2.1 f 8)), (1, .int x1), (2, .int x2)]) 3 rfl (congrArg (fun z => x3 + z) (show Int32.ofInt (-1) = (-1 : Int32) by decide)) (fun _ => rfl) (by decide) dX4_moveTo_55 (fun v55_7 => ?_)
      refine cr_goto X 36 dX4_moveTo_58 rfl ?_
      refine cr_sub (lv' := [(0, .ref (E.2.1 f 8)), (1, .int x1), (2, .int x2), (3, .int v55_7)]) [1, 2, 3, 0] rfl ?_
      exact ih x1 x2 v55_7 G54_6
def s_X4_moveTo (p1 : Int32) (p2 : Int32) (G : cr_G) : Option cr_G := (cr_cl (s_X4_placeOf G p1) (fun r3_1 => (cr_cl (s_X4_removeAt r3_1 G) (fun r6_2 => (if p2 < 0 then (some r6_2) else (if ((r6_2 8) 1) < p2 then (some r6_2) else (if ((r6_2 8) 1) < (10 : Int32) then (cr_bd ((r6_2 8) 1) (fun v35_3 => (s_X4_moveTo_36 1200 p1 p2 v35_3 r6_2))) else (some r6_2))))))))
set_option maxHeartbeats 4000000 in
set_option maxRecDepth 100000 in
theorem c_X4_moveTo (l : Launch) (E : cr_E) (hEK : cr_EK E) (S0 : cr_S) {f : Nat} (hf : f < 8) (G : cr_G) (p1 : Int32) (p2 : Int32) : cr_M l E yX4_moveTo wsX4_moveTo rm_X4_moveTo [.ref (E.2.1 f 8), .int p1, .int p2] (cr_us S0 f G) (cr_vVG S0 f) (s_X4_moveTo p1 p2 G) := by
  refine cr_enter (cc := cX4_moveTo) (nL := 4) (rt := none) hEK (by decide) rfl (Nat.le_of_ble_eq_true rfl) (fun Γ hΓ X => ?_)
  subst hΓ
  have X : cr_X Γ E cX4_moveTo 4 RX4 wsX4_moveTo rm_X4_moveTo none := X
  unfold s_X4_moveTo
  show cr_P Γ E 4 _ 0 0 (cr_us S0 f G) 0 ([(0, .ref (E.2.1 f 8)), (1, .int p1), (2, .int p2)]) [] _
  refine cr_aload_n X 0 rfl dX4_moveTo_0 ?_
  refine cr_aload_n X 0 rfl dX4_moveTo_1 ?_
  refine cr_iload_n X 1 rfl dX4_moveTo_2 ?_
  refine cr_callV X (As := [.int p1]) (rest := [.ref (E.2.1 f 8)]) (c_X4_placeOf Γ.2.1 E hEK S0 hf G p1) ((cr_a8 E hf).at (cr_row S0 f G 8) rfl) rfl 1 gX4_moveTo_X4_placeOf rfl rfl rfl (by decide +kernel) ⟨Nat.le_of_ble_eq_true rfl, Nat.le_of_ble_eq_true rfl⟩ (by decide) rfl rfl (Nat.le_of_ble_eq_true rfl) dX4_moveTo_3 (fun r3_1 => ?_)
  show cr_P Γ E 4 _ 0 0 (cr_us S0 f G) 6 ([(0, .ref (E.2.1 f 8)), (1, .int p1), (2, .int p2)]) ([.int r3_1, .ref (E.2.1 f 8)]) _
  refine cr_callV X (As := [.int r3_1]) (rest := []) (c_X4_removeAt Γ.2.1 E hEK S0 hf G r3_1) ((cr_a8 E hf).at (cr_row S0 f G 8) rfl) rfl 1 gX4_moveTo_X4_removeAt rfl rfl rfl (by decide +kernel) ⟨Nat.le_of_ble_eq_true rfl, Nat.le_of_ble_eq_true rfl⟩ (by decide) rfl rfl (Nat.le_of_ble_eq_true rfl) dX4_moveTo_6 (fun r6_2 => ?_)
  show cr_P Γ E 4 _ 0 0 (cr_us S0 f r6_2) 9 ([(0, .ref (E.2.1 f 8)), (1, .int p1), (2, .int p2)]) ([]) _
  refine cr_iload_n X 2 rfl dX4_moveTo_9 ?_
  refine cr_if_lt X 30 dX4_moveTo_10 rfl ?_ ?_
  · exact cr_vret X rfl rfl dX4_moveTo_30
  · refine cr_iload_n X 2 rfl dX4_moveTo_13 ?_
    refine cr_aload_n X 0 rfl dX4_moveTo_14 ?_
    refine cr_get X ((cr_a8 E hf).at (cr_row S0 f r6_2 8) rfl) rfl i_X4_moveTo_X4 1 (by decide) k_X4_moveTo_1 rfl dX4_moveTo_15 ?_
    refine cr_icmp_gt X 30 dX4_moveTo_18 rfl ?_ ?_
    · exact cr_vret X rfl rfl dX4_moveTo_30
    · refine cr_aload_n X 0 rfl dX4_moveTo_21 ?_
      refine cr_get X ((cr_a8 E hf).at (cr_row S0 f r6_2 8) rfl) rfl i_X4_moveTo_X4 1 (by decide) k_X4_moveTo_1 rfl dX4_moveTo_22 ?_
      refine cr_bipush X (10 : Int32) (by decide) dX4_moveTo_25 ?_
      refine cr_icmp_lt X 31 dX4_moveTo_27 rfl ?_ ?_
      · refine cr_aload_n X 0 rfl dX4_moveTo_31 ?_
        refine cr_get X ((cr_a8 E hf).at (cr_row S0 f r6_2 8) rfl) rfl i_X4_moveTo_X4 1 (by decide) k_X4_moveTo_1 rfl dX4_moveTo_32 ?_
        refine cr_istore_nb X (fun v35_3 => [(3, .int v35_3), (0, .ref (E.2.1 f 8)), (1, .int p1), (2, .int p2)]) (fun _ => rfl) (by decide) dX4_moveTo_35 (fun v35_3 => ?_)
        refine cr_sub (lv' := [(0, .ref (E.2.1 f 8)), (1, .int p1), (2, .int p2), (3, .int v35_3)]) [1, 2, 3, 0] rfl ?_
        exact b_X4_moveTo_36 X S0 hf 1200 p1 p2 v35_3 r6_2
      · exact cr_vret X rfl rfl dX4_moveTo_30
theorem c_X4_moveTo_S (l : Launch) (E : cr_E) (hEK : cr_EK E) (S : cr_S) {f : Nat} (hf : f < 8) (p1 : Int32) (p2 : Int32) : cr_M l E yX4_moveTo wsX4_moveTo rm_X4_moveTo [.ref (E.2.1 f 8), .int p1, .int p2] S (cr_vVG S f) (s_X4_moveTo  p1 p2 (S.1 f)) := by
  have h := c_X4_moveTo l E hEK S hf (S.1 f) p1 p2
  rw [cr_us_self] at h
  exact h

theorem k_X5_begin_1 : (Cond.fieldLink RX5 9 "CraneCampaign$Turbine" "place" "I") ∈ wsX5_begin := List.mem_of_getElem? (i := 1) (by rfl)
theorem k_X5_begin_2 : (Cond.fieldLink RX5 15 "CraneCampaign$Turbine" "height" "I") ∈ wsX5_begin := List.mem_of_getElem? (i := 2) (by rfl)
theorem k_X5_begin_3 : (Cond.fieldLink RX5 18 "CraneCampaign$Turbine" "rate" "I") ∈ wsX5_begin := List.mem_of_getElem? (i := 3) (by rfl)
theorem k_X5_begin_4 : (Cond.fieldLink RX5 21 "CraneCampaign$Turbine" "fault" "I") ∈ wsX5_begin := List.mem_of_getElem? (i := 4) (by rfl)
theorem k_X5_begin_5 : (Cond.fieldLink RX5 24 "CraneCampaign$Turbine" "age" "I") ∈ wsX5_begin := List.mem_of_getElem? (i := 5) (by rfl)
theorem k_X5_begin_6 : (Cond.fieldLink RX5 27 "CraneCampaign$Turbine" "lost" "I") ∈ wsX5_begin := List.mem_of_getElem? (i := 6) (by rfl)
theorem k_X5_begin_7 : (Cond.fieldLink RX5 30 "CraneCampaign$Turbine" "won" "I") ∈ wsX5_begin := List.mem_of_getElem? (i := 7) (by rfl)
theorem i_X5_begin_X5 : ∀ w ∈ wsX50, w ∈ wsX5_begin := by decide +kernel
abbrev rm_X5_begin : Room := { frames := 0, cells := 0, slots := 0, locals := 0 }
def s_X5_begin (t : Nat) (p1 : Int32) (p2 : Int32) (p3 : Int32) (G : cr_G) : Option cr_G := (cr_bd (cr_pt G (t + 15) 0 p1) (fun G2_1 => (cr_bd (cr_pt G2_1 (t + 15) 1 p2) (fun G7_2 => (cr_bd (cr_pt G7_2 (t + 15) 2 p3) (fun G12_3 => (cr_bd (cr_pt G12_3 (t + 15) 3 ((0 : Int32))) (fun G17_4 => (cr_bd (cr_pt G17_4 (t + 15) 4 ((0 : Int32))) (fun G22_5 => (cr_bd (cr_pt G22_5 (t + 15) 5 ((0 : Int32))) (fun G27_6 => (cr_bd (cr_pt G27_6 (t + 15) 6 ((0 : Int32))) (fun G32_7 => (some G32_7)))))))))))))))
set_option maxHeartbeats 4000000 in
set_option maxRecDepth 100000 in
theorem c_X5_begin (l : Launch) (E : cr_E) (hEK : cr_EK E) (S0 : cr_S) {f : Nat} (hf : f < 8) {t : Nat} (ht : t < 10) (G : cr_G) (p1 : Int32) (p2 : Int32) (p3 : Int32) : cr_M l E yX5_begin wsX5_begin rm_X5_begin [.ref (E.2.1 f (t + 15)), .int p1, .int p2, .int p3] (cr_us S0 f G) (cr_vVG S0 f) (s_X5_begin t p1 p2 p3 G) := by
  refine cr_enter (cc := cX5_begin) (nL := 4) (rt := none) hEK (by decide) rfl (Nat.le_of_ble_eq_true rfl) (fun Γ hΓ X => ?_)
  subst hΓ
  have X : cr_X Γ E cX5_begin 4 RX5 wsX5_begin rm_X5_begin none := X
  unfold s_X5_begin
  show cr_P Γ E 4 _ 0 0 (cr_us S0 f G) 0 ([(0, .ref (E.2.1 f (t + 15))), (1, .int p1), (2, .int p2), (3, .int p3)]) [] _
  refine cr_aload_n X 0 rfl dX5_begin_0 ?_
  refine cr_iload_n X 1 rfl dX5_begin_1 ?_
  refine cr_putG X (cr_aT E hf ht) 0 rfl rfl rfl i_X5_begin_X5 tyX5 tyX5_ok nmX5 (by decide) k_X5_begin_1 rfl rfl rfl (Nat.le_of_ble_eq_true rfl) dX5_begin_2 (fun G2_1 => ?_)
  refine cr_aload_n X 0 rfl dX5_begin_5 ?_
  refine cr_iload_n X 2 rfl dX5_begin_6 ?_
  refine cr_putG X (cr_aT E hf ht) 1 rfl rfl rfl i_X5_begin_X5 tyX5 tyX5_ok nmX5 (by decide) k_X5_begin_2 rfl rfl rfl (Nat.le_of_ble_eq_true rfl) dX5_begin_7 (fun G7_2 => ?_)
  refine cr_aload_n X 0 rfl dX5_begin_10 ?_
  refine cr_iload_n X 3 rfl dX5_begin_11 ?_
  refine cr_putG X (cr_aT E hf ht) 2 rfl rfl rfl i_X5_begin_X5 tyX5 tyX5_ok nmX5 (by decide) k_X5_begin_3 rfl rfl rfl (Nat.le_of_ble_eq_true rfl) dX5_begin_12 (fun G12_3 => ?_)
  refine cr_aload_n X 0 rfl dX5_begin_15 ?_
  refine cr_iconst X (0 : Int32) (by decide) dX5_begin_16 ?_
  refine cr_putG X (cr_aT E hf ht) 3 rfl rfl rfl i_X5_begin_X5 tyX5 tyX5_ok nmX5 (by decide) k_X5_begin_4 rfl rfl rfl (Nat.le_of_ble_eq_true rfl) dX5_begin_17 (fun G17_4 => ?_)
  refine cr_aload_n X 0 rfl dX5_begin_20 ?_
  refine cr_iconst X (0 : Int32) (by decide) dX5_begin_21 ?_
  refine cr_putG X (cr_aT E hf ht) 4 rfl rfl rfl i_X5_begin_X5 tyX5 tyX5_ok nmX5 (by decide) k_X5_begin_5 rfl rfl rfl (Nat.le_of_ble_eq_true rfl) dX5_begin_22 (fun G22_5 => ?_)
  refine cr_aload_n X 0 rfl dX5_begin_25 ?_
  refine cr_iconst X (0 : Int32) (by decide) dX5_begin_26 ?_
  refine cr_putG X (cr_aT E hf ht) 5 rfl rfl rfl i_X5_begin_X5 tyX5 tyX5_ok nmX5 (by decide) k_X5_begin_6 rfl rfl rfl (Nat.le_of_ble_eq_true rfl) dX5_begin_27 (fun G27_6 => ?_)
  refine cr_aload_n X 0 rfl dX5_begin_30 ?_
  refine cr_iconst X (0 : Int32) (by decide) dX5_begin_31 ?_
  refine cr_putG X (cr_aT E hf ht) 6 rfl rfl rfl i_X5_begin_X5 tyX5 tyX5_ok nmX5 (by decide) k_X5_begin_7 rfl rfl rfl (Nat.le_of_ble_eq_true rfl) dX5_begin_32 (fun G32_7 => ?_)
  exact cr_vret X rfl rfl dX5_begin_35
theorem c_X5_begin_S (l : Launch) (E : cr_E) (hEK : cr_EK E) (S : cr_S) {f : Nat} (hf : f < 8) {t : Nat} (ht : t < 10) (p1 : Int32) (p2 : Int32) (p3 : Int32) : cr_M l E yX5_begin wsX5_begin rm_X5_begin [.ref (E.2.1 f (t + 15)), .int p1, .int p2, .int p3] S (cr_vVG S f) (s_X5_begin t p1 p2 p3 (S.1 f)) := by
  have h := c_X5_begin l E hEK S hf ht (S.1 f) p1 p2 p3
  rw [cr_us_self] at h
  exact h

theorem k_X5_bladeWeight_1 : (Cond.fieldLink RX5 15 "CraneCampaign$Turbine" "height" "I") ∈ wsX5_bladeWeight := List.mem_of_getElem? (i := 1) (by rfl)
theorem i_X5_bladeWeight_X5 : ∀ w ∈ wsX50, w ∈ wsX5_bladeWeight := by decide +kernel
abbrev rm_X5_bladeWeight : Room := { frames := 0, cells := 0, slots := 0, locals := 0 }
def s_X5_bladeWeight (t : Nat) (G : cr_G) : Option Int32 := (some ((((G (t + 15)) 1) / (10 : Int32))))
set_option maxHeartbeats 4000000 in
set_option maxRecDepth 100000 in
theorem c_X5_bladeWeight (l : Launch) (E : cr_E) (hEK : cr_EK E) (S0 : cr_S) {f : Nat} (hf : f < 8) {t : Nat} (ht : t < 10) (G : cr_G) : cr_M l E yX5_bladeWeight wsX5_bladeWeight rm_X5_bladeWeight [.ref (E.2.1 f (t + 15))] (cr_us S0 f G) (cr_vI (cr_us S0 f G)) (s_X5_bladeWeight t G) := by
  refine cr_enter (cc := cX5_bladeWeight) (nL := 1) (rt := (some .int)) hEK (by decide) rfl (Nat.le_of_ble_eq_true rfl) (fun Γ hΓ X => ?_)
  subst hΓ
  have X : cr_X Γ E cX5_bladeWeight 1 RX5 wsX5_bladeWeight rm_X5_bladeWeight (some .int) := X
  unfold s_X5_bladeWeight
  show cr_P Γ E 1 _ 0 0 (cr_us S0 f G) 0 ([(0, .ref (E.2.1 f (t + 15)))]) [] _
  refine cr_aload_n X 0 rfl dX5_bladeWeight_0 ?_
  refine cr_get X ((cr_aT E hf ht).at (cr_row S0 f G (t + 15)) rfl) rfl i_X5_bladeWeight_X5 1 (by decide) k_X5_bladeWeight_1 rfl dX5_bladeWeight_1 ?_
  refine cr_bipush X (10 : Int32) (by decide) dX5_bladeWeight_4 ?_
  refine cr_idivk X (by decide) dX5_bladeWeight_6 ?_
  exact cr_iret X rfl rfl dX5_bladeWeight_7
theorem c_X5_bladeWeight_S (l : Launch) (E : cr_E) (hEK : cr_EK E) (S : cr_S) {f : Nat} (hf : f < 8) {t : Nat} (ht : t < 10) : cr_M l E yX5_bladeWeight wsX5_bladeWeight rm_X5_bladeWeight [.ref (E.2.1 f (t + 15))] S (cr_vI S) (s_X5_bladeWeight t (S.1 f)) := by
  have h := c_X5_bladeWeight l E hEK S hf ht (S.1 f)
  rw [cr_us_self] at h
  exact h

theorem k_X5_copyFrom_1 : (Cond.fieldLink RX5 9 "CraneCampaign$Turbine" "place" "I") ∈ wsX5_copyFrom := List.mem_of_getElem? (i := 1) (by rfl)
theorem k_X5_copyFrom_2 : (Cond.fieldLink RX5 15 "CraneCampaign$Turbine" "height" "I") ∈ wsX5_copyFrom := List.mem_of_getElem? (i := 2) (by rfl)
theorem k_X5_copyFrom_3 : (Cond.fieldLink RX5 18 "CraneCampaign$Turbine" "rate" "I") ∈ wsX5_copyFrom := List.mem_of_getElem? (i := 3) (by rfl)
theorem k_X5_copyFrom_4 : (Cond.fieldLink RX5 21 "CraneCampaign$Turbine" "fault" "I") ∈ wsX5_copyFrom := List.mem_of_getElem? (i := 4) (by rfl)
theorem k_X5_copyFrom_5 : (Cond.fieldLink RX5 24 "CraneCampaign$Turbine" "age" "I") ∈ wsX5_copyFrom := List.mem_of_getElem? (i := 5) (by rfl)
theorem k_X5_copyFrom_6 : (Cond.fieldLink RX5 27 "CraneCampaign$Turbine" "lost" "I") ∈ wsX5_copyFrom := List.mem_of_getElem? (i := 6) (by rfl)
theorem k_X5_copyFrom_7 : (Cond.fieldLink RX5 30 "CraneCampaign$Turbine" "won" "I") ∈ wsX5_copyFrom := List.mem_of_getElem? (i := 7) (by rfl)
theorem i_X5_copyFrom_X5 : ∀ w ∈ wsX50, w ∈ wsX5_copyFrom := by decide +kernel
abbrev rm_X5_copyFrom : Room := { frames := 0, cells := 0, slots := 0, locals := 0 }
def s_X5_copyFrom (t : Nat) (Go : cr_G) (G : cr_G) : Option cr_G := (cr_bd (cr_pt G (t + 15) 0 (((Go (t + 15)) 0))) (fun G5_1 => (cr_bd (cr_pt G5_1 (t + 15) 1 (((Go (t + 15)) 1))) (fun G13_2 => (cr_bd (cr_pt G13_2 (t + 15) 2 (((Go (t + 15)) 2))) (fun G21_3 => (cr_bd (cr_pt G21_3 (t + 15) 3 (((Go (t + 15)) 3))) (fun G29_4 => (cr_bd (cr_pt G29_4 (t + 15) 4 (((Go (t + 15)) 4))) (fun G37_5 => (cr_bd (cr_pt G37_5 (t + 15) 5 (((Go (t + 15)) 5))) (fun G45_6 => (cr_bd (cr_pt G45_6 (t + 15) 6 (((Go (t + 15)) 6))) (fun G53_7 => (some G53_7)))))))))))))))
set_option maxHeartbeats 4000000 in
set_option maxRecDepth 100000 in
theorem c_X5_copyFrom (l : Launch) (E : cr_E) (hEK : cr_EK E) (S0 : cr_S) {f : Nat} (hf : f < 8) {t : Nat} (ht : t < 10) {g : Nat} (hg : g < 8) (hne : g ≠ f) (G : cr_G) : cr_M l E yX5_copyFrom wsX5_copyFrom rm_X5_copyFrom [.ref (E.2.1 f (t + 15)), .ref (E.2.1 g (t + 15))] (cr_us S0 f G) (cr_vVG S0 f) (s_X5_copyFrom t (S0.1 g) G) := by
  refine cr_enter (cc := cX5_copyFrom) (nL := 2) (rt := none) hEK (by decide) rfl (Nat.le_of_ble_eq_true rfl) (fun Γ hΓ X => ?_)
  subst hΓ
  have X : cr_X Γ E cX5_copyFrom 2 RX5 wsX5_copyFrom rm_X5_copyFrom none := X
  unfold s_X5_copyFrom
  show cr_P Γ E 2 _ 0 0 (cr_us S0 f G) 0 ([(0, .ref (E.2.1 f (t + 15))), (1, .ref (E.2.1 g (t + 15)))]) [] _
  refine cr_aload_n X 0 rfl dX5_copyFrom_0 ?_
  refine cr_aload_n X 1 rfl dX5_copyFrom_1 ?_
  refine cr_get X ((cr_aT E hg ht).at (cr_rowo S0 G hne (t + 15)) rfl) rfl i_X5_copyFrom_X5 0 (by decide) k_X5_copyFrom_1 rfl dX5_copyFrom_2 ?_
  refine cr_putG X (cr_aT E hf ht) 0 rfl rfl rfl i_X5_copyFrom_X5 tyX5 tyX5_ok nmX5 (by decide) k_X5_copyFrom_1 rfl rfl rfl (Nat.le_of_ble_eq_true rfl) dX5_copyFrom_5 (fun G5_1 => ?_)
  refine cr_aload_n X 0 rfl dX5_copyFrom_8 ?_
  refine cr_aload_n X 1 rfl dX5_copyFrom_9 ?_
  refine cr_get X ((cr_aT E hg ht).at (cr_rowo S0 G5_1 hne (t + 15)) rfl) rfl i_X5_copyFrom_X5 1 (by decide) k_X5_copyFrom_2 rfl dX5_copyFrom_10 ?_
  refine cr_putG X (cr_aT E hf ht) 1 rfl rfl rfl i_X5_copyFrom_X5 tyX5 tyX5_ok nmX5 (by decide) k_X5_copyFrom_2 rfl rfl rfl (Nat.le_of_ble_eq_true rfl) dX5_copyFrom_13 (fun G13_2 => ?_)
  refine cr_aload_n X 0 rfl dX5_copyFrom_16 ?_
  refine cr_aload_n X 1 rfl dX5_copyFrom_17 ?_
  refine cr_get X ((cr_aT E hg ht).at (cr_rowo S0 G13_2 hne (t + 15)) rfl) rfl i_X5_copyFrom_X5 2 (by decide) k_X5_copyFrom_3 rfl dX5_copyFrom_18 ?_
  refine cr_putG X (cr_aT E hf ht) 2 rfl rfl rfl i_X5_copyFrom_X5 tyX5 tyX5_ok nmX5 (by decide) k_X5_copyFrom_3 rfl rfl rfl (Nat.le_of_ble_eq_true rfl) dX5_copyFrom_21 (fun G21_3 => ?_)
  refine cr_aload_n X 0 rfl dX5_copyFrom_24 ?_
  refine cr_aload_n X 1 rfl dX5_copyFrom_25 ?_
  refine cr_get X ((cr_aT E hg ht).at (cr_rowo S0 G21_3 hne (t + 15)) rfl) rfl i_X5_copyFrom_X5 3 (by decide) k_X5_copyFrom_4 rfl dX5_copyFrom_26 ?_
  refine cr_putG X (cr_aT E hf ht) 3 rfl rfl rfl i_X5_copyFrom_X5 tyX5 tyX5_ok nmX5 (by decide) k_X5_copyFrom_4 rfl rfl rfl (Nat.le_of_ble_eq_true rfl) dX5_copyFrom_29 (fun G29_4 => ?_)
  refine cr_aload_n X 0 rfl dX5_copyFrom_32 ?_
  refine cr_aload_n X 1 rfl dX5_copyFrom_33 ?_
  refine cr_get X ((cr_aT E hg ht).at (cr_rowo S0 G29_4 hne (t + 15)) rfl) rfl i_X5_copyFrom_X5 4 (by decide) k_X5_copyFrom_5 rfl dX5_copyFrom_34 ?_
  refine cr_putG X (cr_aT E hf ht) 4 rfl rfl rfl i_X5_copyFrom_X5 tyX5 tyX5_ok nmX5 (by decide) k_X5_copyFrom_5 rfl rfl rfl (Nat.le_of_ble_eq_true rfl) dX5_copyFrom_37 (fun G37_5 => ?_)
  refine cr_aload_n X 0 rfl dX5_copyFrom_40 ?_
  refine cr_aload_n X 1 rfl dX5_copyFrom_41 ?_
  refine cr_get X ((cr_aT E hg ht).at (cr_rowo S0 G37_5 hne (t + 15)) rfl) rfl i_X5_copyFrom_X5 5 (by decide) k_X5_copyFrom_6 rfl dX5_copyFrom_42 ?_
  refine cr_putG X (cr_aT E hf ht) 5 rfl rfl rfl i_X5_copyFrom_X5 tyX5 tyX5_ok nmX5 (by decide) k_X5_copyFrom_6 rfl rfl rfl (Nat.le_of_ble_eq_true rfl) dX5_copyFrom_45 (fun G45_6 => ?_)
  refine cr_aload_n X 0 rfl dX5_copyFrom_48 ?_
  refine cr_aload_n X 1 rfl dX5_copyFrom_49 ?_
  refine cr_get X ((cr_aT E hg ht).at (cr_rowo S0 G45_6 hne (t + 15)) rfl) rfl i_X5_copyFrom_X5 6 (by decide) k_X5_copyFrom_7 rfl dX5_copyFrom_50 ?_
  refine cr_putG X (cr_aT E hf ht) 6 rfl rfl rfl i_X5_copyFrom_X5 tyX5 tyX5_ok nmX5 (by decide) k_X5_copyFrom_7 rfl rfl rfl (Nat.le_of_ble_eq_true rfl) dX5_copyFrom_53 (fun G53_7 => ?_)
  exact cr_vret X rfl rfl dX5_copyFrom_56
theorem c_X5_copyFrom_S (l : Launch) (E : cr_E) (hEK : cr_EK E) (S : cr_S) {f : Nat} (hf : f < 8) {t : Nat} (ht : t < 10) {g : Nat} (hg : g < 8) (hne : g ≠ f) : cr_M l E yX5_copyFrom wsX5_copyFrom rm_X5_copyFrom [.ref (E.2.1 f (t + 15)), .ref (E.2.1 g (t + 15))] S (cr_vVG S f) (s_X5_copyFrom t (S.1 g)  (S.1 f)) := by
  have h := c_X5_copyFrom l E hEK S hf ht hg hne (S.1 f)
  rw [cr_us_self] at h
  exact h

theorem k_X5_fullPower_1 : (Cond.fieldLink RX5 18 "CraneCampaign$Turbine" "rate" "I") ∈ wsX5_fullPower := List.mem_of_getElem? (i := 1) (by rfl)
theorem k_X5_fullPower_2 : (Cond.methodLink RX5 33 Lib.Math.min.name) ∈ wsX5_fullPower := List.mem_of_getElem? (i := 2) (by rfl)
theorem k_X5_fullPower_3 : (Cond.static Lib.Math.min.name) ∈ wsX5_fullPower := List.mem_of_getElem? (i := 3) (by rfl)
theorem k_X5_fullPower_4 : (Cond.initialized "java/lang/Math") ∈ wsX5_fullPower := List.mem_of_getElem? (i := 4) (by rfl)
theorem k_X5_fullPower_5 : (Cond.code Lib.Math.min.name Lib.Math.min.code 2 (some .int)) ∈ wsX5_fullPower := List.mem_of_getElem? (i := 5) (by rfl)
theorem i_X5_fullPower_X5 : ∀ w ∈ wsX50, w ∈ wsX5_fullPower := by decide +kernel
abbrev rm_X5_fullPower : Room := { frames := 1, cells := 0, slots := 0, locals := 24 }
def s_X5_fullPower (t : Nat) (G : cr_G) (p1 : Int32) : Option Int32 := (if p1 < (3 : Int32) then (some ((0 : Int32))) else (if p1 ≤ (25 : Int32) then (some (((((G (t + 15)) 2) * (cr_min p1 ((12 : Int32)))) / (12 : Int32)))) else (some ((0 : Int32)))))
set_option maxHeartbeats 4000000 in
set_option maxRecDepth 100000 in
theorem c_X5_fullPower (l : Launch) (E : cr_E) (hEK : cr_EK E) (S0 : cr_S) {f : Nat} (hf : f < 8) {t : Nat} (ht : t < 10) (G : cr_G) (p1 : Int32) : cr_M l E yX5_fullPower wsX5_fullPower rm_X5_fullPower [.ref (E.2.1 f (t + 15)), .int p1] (cr_us S0 f G) (cr_vI (cr_us S0 f G)) (s_X5_fullPower t G p1) := by
  refine cr_enter (cc := cX5_fullPower) (nL := 2) (rt := (some .int)) hEK (by decide) rfl (Nat.le_of_ble_eq_true rfl) (fun Γ hΓ X => ?_)
  subst hΓ
  have X : cr_X Γ E cX5_fullPower 2 RX5 wsX5_fullPower rm_X5_fullPower (some .int) := X
  unfold s_X5_fullPower
  show cr_P Γ E 2 _ 0 0 (cr_us S0 f G) 0 ([(0, .ref (E.2.1 f (t + 15))), (1, .int p1)]) [] _
  refine cr_iload_n X 1 rfl dX5_fullPower_0 ?_
  refine cr_iconst X (3 : Int32) (by decide) dX5_fullPower_1 ?_
  refine cr_icmp_lt X 11 dX5_fullPower_2 rfl ?_ ?_
  · refine cr_iconst X (0 : Int32) (by decide) dX5_fullPower_11 ?_
    refine cr_goto X 29 dX5_fullPower_12 rfl ?_
    exact cr_iret X rfl rfl dX5_fullPower_29
  · refine cr_iload_n X 1 rfl dX5_fullPower_5 ?_
    refine cr_bipush X (25 : Int32) (by decide) dX5_fullPower_6 ?_
    refine cr_icmp_le X 15 dX5_fullPower_8 rfl ?_ ?_
    · refine cr_aload_n X 0 rfl dX5_fullPower_15 ?_
      refine cr_get X ((cr_aT E hf ht).at (cr_row S0 f G (t + 15)) rfl) rfl i_X5_fullPower_X5 2 (by decide) k_X5_fullPower_1 rfl dX5_fullPower_16 ?_
      refine cr_iload_n X 1 rfl dX5_fullPower_19 ?_
      refine cr_bipush X (12 : Int32) (by decide) dX5_fullPower_20 ?_
      refine cr_mmin X k_X5_fullPower_2 k_X5_fullPower_3 k_X5_fullPower_4 k_X5_fullPower_5 (by decide) (Nat.le_of_ble_eq_true rfl) (by decide) dX5_fullPower_22 ?_
      refine cr_imul X dX5_fullPower_25 ?_
      refine cr_bipush X (12 : Int32) (by decide) dX5_fullPower_26 ?_
      refine cr_idivk X (by decide) dX5_fullPower_28 ?_
      exact cr_iret X rfl rfl dX5_fullPower_29
    · refine cr_iconst X (0 : Int32) (by decide) dX5_fullPower_11 ?_
      refine cr_goto X 29 dX5_fullPower_12 rfl ?_
      exact cr_iret X rfl rfl dX5_fullPower_29
theorem c_X5_fullPower_S (l : Launch) (E : cr_E) (hEK : cr_EK E) (S : cr_S) {f : Nat} (hf : f < 8) {t : Nat} (ht : t < 10) (p1 : Int32) : cr_M l E yX5_fullPower wsX5_fullPower rm_X5_fullPower [.ref (E.2.1 f (t + 15)), .int p1] S (cr_vI S) (s_X5_fullPower t (S.1 f) p1) := by
  have h := c_X5_fullPower l E hEK S hf ht (S.1 f) p1
  rw [cr_us_self] at h
  exact h

theorem k_X5_growOlder_1 : (Cond.fieldLink RX5 21 "CraneCampaign$Turbine" "fault" "I") ∈ wsX5_growOlder := List.mem_of_getElem? (i := 1) (by rfl)
theorem k_X5_growOlder_2 : (Cond.fieldLink RX5 24 "CraneCampaign$Turbine" "age" "I") ∈ wsX5_growOlder := List.mem_of_getElem? (i := 2) (by rfl)
theorem i_X5_growOlder_X5 : ∀ w ∈ wsX50, w ∈ wsX5_growOlder := by decide +kernel
abbrev rm_X5_growOlder : Room := { frames := 0, cells := 0, slots := 0, locals := 0 }
def s_X5_growOlder (t : Nat) (p1 : Int32) (G : cr_G) : Option cr_G := (if ((G (t + 15)) 3) = 0 then (some G) else (if ((G (t + 15)) 3) = (4 : Int32) then (some G) else (cr_bd (cr_pt G (t + 15) 4 ((((G (t + 15)) 4) + (1 : Int32)))) (fun G23_1 => (if ((G23_1 (t + 15)) 4) < p1 then (some G23_1) else (cr_bd (cr_pt G23_1 (t + 15) 3 ((((G23_1 (t + 15)) 3) + (1 : Int32)))) (fun G41_2 => (cr_bd (cr_pt G41_2 (t + 15) 4 ((0 : Int32))) (fun G46_3 => (some G46_3))))))))))
set_option maxHeartbeats 4000000 in
set_option maxRecDepth 100000 in
theorem c_X5_growOlder (l : Launch) (E : cr_E) (hEK : cr_EK E) (S0 : cr_S) {f : Nat} (hf : f < 8) {t : Nat} (ht : t < 10) (G : cr_G) (p1 : Int32) : cr_M l E yX5_growOlder wsX5_growOlder rm_X5_growOlder [.ref (E.2.1 f (t + 15)), .int p1] (cr_us S0 f G) (cr_vVG S0 f) (s_X5_growOlder t p1 G) := by
  refine cr_enter (cc := cX5_growOlder) (nL := 2) (rt := none) hEK (by decide) rfl (Nat.le_of_ble_eq_true rfl) (fun Γ hΓ X => ?_)
  subst hΓ
  have X : cr_X Γ E cX5_growOlder 2 RX5 wsX5_growOlder rm_X5_growOlder none := X
  unfold s_X5_growOlder
  show cr_P Γ E 2 _ 0 0 (cr_us S0 f G) 0 ([(0, .ref (E.2.1 f (t + 15))), (1, .int p1)]) [] _
  refine cr_aload_n X 0 rfl dX5_growOlder_0 ?_
  refine cr_get X ((cr_aT E hf ht).at (cr_row S0 f G (t + 15)) rfl) rfl i_X5_growOlder_X5 3 (by decide) k_X5_growOlder_1 rfl dX5_growOlder_1 ?_
  refine cr_if_eq X 15 dX5_growOlder_4 rfl ?_ ?_
  · exact cr_vret X rfl rfl dX5_growOlder_15
  · refine cr_aload_n X 0 rfl dX5_growOlder_7 ?_
    refine cr_get X ((cr_aT E hf ht).at (cr_row S0 f G (t + 15)) rfl) rfl i_X5_growOlder_X5 3 (by decide) k_X5_growOlder_1 rfl dX5_growOlder_8 ?_
    refine cr_iconst X (4 : Int32) (by decide) dX5_growOlder_11 ?_
    refine cr_icmp_ne X 16 dX5_growOlder_12 rfl ?_ ?_
    · refine cr_aload_n X 0 rfl dX5_growOlder_16 ?_
      refine cr_dup X rfl dX5_growOlder_17 ?_
      refine cr_get X ((cr_aT E hf ht).at (cr_row S0 f G (t + 15)) rfl) rfl i_X5_growOlder_X5 4 (by decide) k_X5_growOlder_2 rfl dX5_growOlder_18 ?_
      refine cr_iconst X (1 : Int32) (by decide) dX5_growOlder_21 ?_
      refine cr_iadd X dX5_growOlder_22 ?_
      refine cr_putG X (cr_aT E hf ht) 4 rfl rfl rfl i_X5_growOlder_X5 tyX5 tyX5_ok nmX5 (by decide) k_X5_growOlder_2 rfl rfl rfl (Nat.le_of_ble_eq_true rfl) dX5_growOlder_23 (fun G23_1 => ?_)
      refine cr_aload_n X 0 rfl dX5_growOlder_26 ?_
      refine cr_get X ((cr_aT E hf ht).at (cr_row S0 f G23_1 (t + 15)) rfl) rfl i_X5_growOlder_X5 4 (by decide) k_X5_growOlder_2 rfl dX5_growOlder_27 ?_
      refine cr_iload_n X 1 rfl dX5_growOlder_30 ?_
      refine cr_icmp_lt X 49 dX5_growOlder_31 rfl ?_ ?_
      · exact cr_vret X rfl rfl dX5_growOlder_49
      · refine cr_aload_n X 0 rfl dX5_growOlder_34 ?_
        refine cr_dup X rfl dX5_growOlder_35 ?_
        refine cr_get X ((cr_aT E hf ht).at (cr_row S0 f G23_1 (t + 15)) rfl) rfl i_X5_growOlder_X5 3 (by decide) k_X5_growOlder_1 rfl dX5_growOlder_36 ?_
        refine cr_iconst X (1 : Int32) (by decide) dX5_growOlder_39 ?_
        refine cr_iadd X dX5_growOlder_40 ?_
        refine cr_putG X (cr_aT E hf ht) 3 rfl rfl rfl i_X5_growOlder_X5 tyX5 tyX5_ok nmX5 (by decide) k_X5_growOlder_1 rfl rfl rfl (Nat.le_of_ble_eq_true rfl) dX5_growOlder_41 (fun G41_2 => ?_)
        refine cr_aload_n X 0 rfl dX5_growOlder_44 ?_
        refine cr_iconst X (0 : Int32) (by decide) dX5_growOlder_45 ?_
        refine cr_putG X (cr_aT E hf ht) 4 rfl rfl rfl i_X5_growOlder_X5 tyX5 tyX5_ok nmX5 (by decide) k_X5_growOlder_2 rfl rfl rfl (Nat.le_of_ble_eq_true rfl) dX5_growOlder_46 (fun G46_3 => ?_)
        exact cr_vret X rfl rfl dX5_growOlder_49
    · exact cr_vret X rfl rfl dX5_growOlder_15
theorem c_X5_growOlder_S (l : Launch) (E : cr_E) (hEK : cr_EK E) (S : cr_S) {f : Nat} (hf : f < 8) {t : Nat} (ht : t < 10) (p1 : Int32) : cr_M l E yX5_growOlder wsX5_growOlder rm_X5_growOlder [.ref (E.2.1 f (t + 15)), .int p1] S (cr_vVG S f) (s_X5_growOlder t p1 (S.1 f)) := by
  have h := c_X5_growOlder l E hEK S hf ht (S.1 f) p1
  rw [cr_us_self] at h
  exact h

theorem k_X5_limit_1 : (Cond.fieldLink RX5 15 "CraneCampaign$Turbine" "height" "I") ∈ wsX5_limit := List.mem_of_getElem? (i := 1) (by rfl)
theorem i_X5_limit_X5 : ∀ w ∈ wsX50, w ∈ wsX5_limit := by decide +kernel
abbrev rm_X5_limit : Room := { frames := 0, cells := 0, slots := 0, locals := 0 }
def s_X5_limit (t : Nat) (G : cr_G) (p1 : Int32) : Option Int32 := (some ((p1 - (((G (t + 15)) 1) / (25 : Int32)))))
set_option maxHeartbeats 4000000 in
set_option maxRecDepth 100000 in
theorem c_X5_limit (l : Launch) (E : cr_E) (hEK : cr_EK E) (S0 : cr_S) {f : Nat} (hf : f < 8) {t : Nat} (ht : t < 10) (G : cr_G) (p1 : Int32) : cr_M l E yX5_limit wsX5_limit rm_X5_limit [.ref (E.2.1 f (t + 15)), .int p1] (cr_us S0 f G) (cr_vI (cr_us S0 f G)) (s_X5_limit t G p1) := by
  refine cr_enter (cc := cX5_limit) (nL := 2) (rt := (some .int)) hEK (by decide) rfl (Nat.le_of_ble_eq_true rfl) (fun Γ hΓ X => ?_)
  subst hΓ
  have X : cr_X Γ E cX5_limit 2 RX5 wsX5_limit rm_X5_limit (some .int) := X
  unfold s_X5_limit
  show cr_P Γ E 2 _ 0 0 (cr_us S0 f G) 0 ([(0, .ref (E.2.1 f (t + 15))), (1, .int p1)]) [] _
  refine cr_iload_n X 1 rfl dX5_limit_0 ?_
  refine cr_aload_n X 0 rfl dX5_limit_1 ?_
  refine cr_get X ((cr_aT E hf ht).at (cr_row S0 f G (t + 15)) rfl) rfl i_X5_limit_X5 1 (by decide) k_X5_limit_1 rfl dX5_limit_2 ?_
  refine cr_bipush X (25 : Int32) (by decide) dX5_limit_5 ?_
  refine cr_idivk X (by decide) dX5_limit_7 ?_
  refine cr_isub X dX5_limit_8 ?_
  exact cr_iret X rfl rfl dX5_limit_9
theorem c_X5_limit_S (l : Launch) (E : cr_E) (hEK : cr_EK E) (S : cr_S) {f : Nat} (hf : f < 8) {t : Nat} (ht : t < 10) (p1 : Int32) : cr_M l E yX5_limit wsX5_limit rm_X5_limit [.ref (E.2.1 f (t + 15)), .int p1] S (cr_vI S) (s_X5_limit t (S.1 f) p1) := by
  have h := c_X5_limit l E hEK S hf ht (S.1 f) p1
  rw [cr_us_self] at h
  exact h

theorem k_X7_add_1 : (Cond.fieldLink RX7 15 "CraneCampaign$Winds" "count" "I") ∈ wsX7_add := List.mem_of_getElem? (i := 1) (by rfl)
theorem k_X7_add_2 : (Cond.fieldLink RX7 9 "CraneCampaign$Winds" "row" "[I") ∈ wsX7_add := List.mem_of_getElem? (i := 2) (by rfl)
theorem i_X7_add_X7 : ∀ w ∈ wsX70, w ∈ wsX7_add := by decide +kernel
abbrev rm_X7_add : Room := { frames := 0, cells := 0, slots := 0, locals := 0 }
def s_X7_add (p1 : Int32) (G : cr_G) : Option cr_G := (if (48 : Int32) ≤ ((G 11) 1) then (some G) else (cr_gd (cr_in (((G 11) 1)) 48) (cr_bd (cr_pt G 12 (((G 11) 1)).toNatClampNeg p1) (fun G18_1 => (cr_bd (cr_pt G18_1 11 1 ((((G18_1 11) 1) + (1 : Int32)))) (fun G26_2 => (some G26_2)))))))
set_option maxHeartbeats 4000000 in
set_option maxRecDepth 100000 in
theorem c_X7_add (l : Launch) (E : cr_E) (hEK : cr_EK E) (S0 : cr_S) {f : Nat} (hf : f < 8) (G : cr_G) (p1 : Int32) : cr_M l E yX7_add wsX7_add rm_X7_add [.ref (E.2.1 f 11), .int p1] (cr_us S0 f G) (cr_vVG S0 f) (s_X7_add p1 G) := by
  refine cr_enter (cc := cX7_add) (nL := 2) (rt := none) hEK (by decide) rfl (Nat.le_of_ble_eq_true rfl) (fun Γ hΓ X => ?_)
  subst hΓ
  have X : cr_X Γ E cX7_add 2 RX7 wsX7_add rm_X7_add none := X
  unfold s_X7_add
  show cr_P Γ E 2 _ 0 0 (cr_us S0 f G) 0 ([(0, .ref (E.2.1 f 11)), (1, .int p1)]) [] _
  refine cr_aload_n X 0 rfl dX7_add_0 ?_
  refine cr_get X ((cr_a11 E hf).at (cr_row S0 f G 11) rfl) rfl i_X7_add_X7 1 (by decide) k_X7_add_1 rfl dX7_add_1 ?_
  refine cr_bipush X (48 : Int32) (by decide) dX7_add_4 ?_
  refine cr_icmp_ge X 29 dX7_add_6 rfl ?_ ?_
  · exact cr_vret X rfl rfl dX7_add_29
  · refine cr_aload_n X 0 rfl dX7_add_9 ?_
    refine cr_get X ((cr_a11 E hf).at (cr_row S0 f G 11) rfl) rfl i_X7_add_X7 0 (by decide) k_X7_add_2 rfl dX7_add_10 ?_
    refine cr_aload_n X 0 rfl dX7_add_13 ?_
    refine cr_get X ((cr_a11 E hf).at (cr_row S0 f G 11) rfl) rfl i_X7_add_X7 1 (by decide) k_X7_add_1 rfl dX7_add_14 ?_
    refine cr_iload_n X 1 rfl dX7_add_17 ?_
    refine cr_iastG X (cr_a12 E hf) (fun _ _ => rfl) dX7_add_18 (fun G18_1 => ?_)
    refine cr_aload_n X 0 rfl dX7_add_19 ?_
    refine cr_dup X rfl dX7_add_20 ?_
    refine cr_get X ((cr_a11 E hf).at (cr_row S0 f G18_1 11) rfl) rfl i_X7_add_X7 1 (by decide) k_X7_add_1 rfl dX7_add_21 ?_
    refine cr_iconst X (1 : Int32) (by decide) dX7_add_24 ?_
    refine cr_iadd X dX7_add_25 ?_
    refine cr_putG X (cr_a11 E hf) 1 rfl rfl rfl i_X7_add_X7 tyX7 tyX7_ok nmX7 (by decide) k_X7_add_1 rfl rfl rfl (Nat.le_of_ble_eq_true rfl) dX7_add_26 (fun G26_2 => ?_)
    exact cr_vret X rfl rfl dX7_add_29
theorem c_X7_add_S (l : Launch) (E : cr_E) (hEK : cr_EK E) (S : cr_S) {f : Nat} (hf : f < 8) (p1 : Int32) : cr_M l E yX7_add wsX7_add rm_X7_add [.ref (E.2.1 f 11), .int p1] S (cr_vVG S f) (s_X7_add  p1 (S.1 f)) := by
  have h := c_X7_add l E hEK S hf (S.1 f) p1
  rw [cr_us_self] at h
  exact h

theorem k_X7_at_1 : (Cond.fieldLink RX7 15 "CraneCampaign$Winds" "count" "I") ∈ wsX7_at := List.mem_of_getElem? (i := 1) (by rfl)
theorem k_X7_at_2 : (Cond.fieldLink RX7 9 "CraneCampaign$Winds" "row" "[I") ∈ wsX7_at := List.mem_of_getElem? (i := 2) (by rfl)
theorem i_X7_at_X7 : ∀ w ∈ wsX70, w ∈ wsX7_at := by decide +kernel
abbrev rm_X7_at : Room := { frames := 0, cells := 0, slots := 0, locals := 0 }
def s_X7_at (G : cr_G) (p1 : Int32) : Option Int32 := (if ((G 11) 1) ≤ 0 then (some ((8 : Int32))) else (if p1 < 0 then (some ((8 : Int32))) else (cr_gd (cr_nz (((G 11) 1))) (cr_gd (cr_in ((p1 - p1 / ((G 11) 1) * ((G 11) 1))) 48) (some (((G 12) ((p1 - p1 / ((G 11) 1) * ((G 11) 1))).toNatClampNeg)))))))
set_option maxHeartbeats 4000000 in
set_option maxRecDepth 100000 in
theorem c_X7_at (l : Launch) (E : cr_E) (hEK : cr_EK E) (S0 : cr_S) {f : Nat} (hf : f < 8) (G : cr_G) (p1 : Int32) : cr_M l E yX7_at wsX7_at rm_X7_at [.ref (E.2.1 f 11), .int p1] (cr_us S0 f G) (cr_vI (cr_us S0 f G)) (s_X7_at G p1) := by
  refine cr_enter (cc := cX7_at) (nL := 2) (rt := (some .int)) hEK (by decide) rfl (Nat.le_of_ble_eq_true rfl) (fun Γ hΓ X => ?_)
  subst hΓ
  have X : cr_X Γ E cX7_at 2 RX7 wsX7_at rm_X7_at (some .int) := X
  unfold s_X7_at
  show cr_P Γ E 2 _ 0 0 (cr_us S0 f G) 0 ([(0, .ref (E.2.1 f 11)), (1, .int p1)]) [] _
  refine cr_aload_n X 0 rfl dX7_at_0 ?_
  refine cr_get X ((cr_a11 E hf).at (cr_row S0 f G 11) rfl) rfl i_X7_at_X7 1 (by decide) k_X7_at_1 rfl dX7_at_1 ?_
  refine cr_if_le X 25 dX7_at_4 rfl ?_ ?_
  · refine cr_bipush X (8 : Int32) (by decide) dX7_at_25 ?_
    exact cr_iret X rfl rfl dX7_at_27
  · refine cr_iload_n X 1 rfl dX7_at_7 ?_
    refine cr_if_lt X 25 dX7_at_8 rfl ?_ ?_
    · refine cr_bipush X (8 : Int32) (by decide) dX7_at_25 ?_
      exact cr_iret X rfl rfl dX7_at_27
    · refine cr_aload_n X 0 rfl dX7_at_11 ?_
      refine cr_get X ((cr_a11 E hf).at (cr_row S0 f G 11) rfl) rfl i_X7_at_X7 0 (by decide) k_X7_at_2 rfl dX7_at_12 ?_
      refine cr_iload_n X 1 rfl dX7_at_15 ?_
      refine cr_aload_n X 0 rfl dX7_at_16 ?_
      refine cr_get X ((cr_a11 E hf).at (cr_row S0 f G 11) rfl) rfl i_X7_at_X7 1 (by decide) k_X7_at_1 rfl dX7_at_17 ?_
      refine cr_irem X dX7_at_20 ?_
      refine cr_iald X ((cr_a12 E hf).at (cr_row S0 f G 12) rfl) dX7_at_21 ?_
      refine cr_goto X 27 dX7_at_22 rfl ?_
      exact cr_iret X rfl rfl dX7_at_27
theorem c_X7_at_S (l : Launch) (E : cr_E) (hEK : cr_EK E) (S : cr_S) {f : Nat} (hf : f < 8) (p1 : Int32) : cr_M l E yX7_at wsX7_at rm_X7_at [.ref (E.2.1 f 11), .int p1] S (cr_vI S) (s_X7_at (S.1 f) p1) := by
  have h := c_X7_at l E hEK S hf (S.1 f) p1
  rw [cr_us_self] at h
  exact h

theorem k_X7_copyFrom_1 : (Cond.fieldLink RX7 9 "CraneCampaign$Winds" "row" "[I") ∈ wsX7_copyFrom := List.mem_of_getElem? (i := 1) (by rfl)
theorem k_X7_copyFrom_2 : (Cond.methodLink RX7 19 arraycopyName) ∈ wsX7_copyFrom := List.mem_of_getElem? (i := 2) (by rfl)
theorem k_X7_copyFrom_3 : (Cond.native arraycopyName) ∈ wsX7_copyFrom := List.mem_of_getElem? (i := 3) (by rfl)
theorem k_X7_copyFrom_4 : (Cond.static arraycopyName) ∈ wsX7_copyFrom := List.mem_of_getElem? (i := 4) (by rfl)
theorem k_X7_copyFrom_5 : (Cond.initialized "java/lang/System") ∈ wsX7_copyFrom := List.mem_of_getElem? (i := 5) (by rfl)
theorem k_X7_copyFrom_6 : (Cond.fieldLink RX7 15 "CraneCampaign$Winds" "count" "I") ∈ wsX7_copyFrom := List.mem_of_getElem? (i := 6) (by rfl)
theorem i_X7_copyFrom_X7 : ∀ w ∈ wsX70, w ∈ wsX7_copyFrom := by decide +kernel
abbrev rm_X7_copyFrom : Room := { frames := 1, cells := 0, slots := 0, locals := 40 }
def s_X7_copyFrom (Go : cr_G) (G : cr_G) : Option cr_G := (cr_bd (cr_pa G 12 (va_cpy (Go 12) (G 12) 0 0 48)) (fun G12_1 => (cr_bd (cr_pt G12_1 11 1 (((Go 11) 1))) (fun G20_2 => (some G20_2)))))
set_option maxHeartbeats 4000000 in
set_option maxRecDepth 100000 in
theorem c_X7_copyFrom (l : Launch) (E : cr_E) (hEK : cr_EK E) (S0 : cr_S) {f : Nat} (hf : f < 8) {g : Nat} (hg : g < 8) (hne : g ≠ f) (G : cr_G) : cr_M l E yX7_copyFrom wsX7_copyFrom rm_X7_copyFrom [.ref (E.2.1 f 11), .ref (E.2.1 g 11)] (cr_us S0 f G) (cr_vVG S0 f) (s_X7_copyFrom (S0.1 g) G) := by
  refine cr_enter (cc := cX7_copyFrom) (nL := 2) (rt := none) hEK (by decide) rfl (Nat.le_of_ble_eq_true rfl) (fun Γ hΓ X => ?_)
  subst hΓ
  have X : cr_X Γ E cX7_copyFrom 2 RX7 wsX7_copyFrom rm_X7_copyFrom none := X
  unfold s_X7_copyFrom
  show cr_P Γ E 2 _ 0 0 (cr_us S0 f G) 0 ([(0, .ref (E.2.1 f 11)), (1, .ref (E.2.1 g 11))]) [] _
  refine cr_aload_n X 1 rfl dX7_copyFrom_0 ?_
  refine cr_get X ((cr_a11 E hg).at (cr_rowo S0 G hne 11) rfl) rfl i_X7_copyFrom_X7 0 (by decide) k_X7_copyFrom_1 rfl dX7_copyFrom_1 ?_
  refine cr_iconst X (0 : Int32) (by decide) dX7_copyFrom_4 ?_
  refine cr_aload_n X 0 rfl dX7_copyFrom_5 ?_
  refine cr_get X ((cr_a11 E hf).at (cr_row S0 f G 11) rfl) rfl i_X7_copyFrom_X7 0 (by decide) k_X7_copyFrom_1 rfl dX7_copyFrom_6 ?_
  refine cr_iconst X (0 : Int32) (by decide) dX7_copyFrom_9 ?_
  refine cr_bipush X (48 : Int32) (by decide) dX7_copyFrom_10 ?_
  refine cr_acopyG X ((S0.1 g) 12) ((cr_a12 E hg).at (cr_rowo S0 G hne 12) rfl) (cr_a12 E hf) (fun _ _ => rfl) 0 0 48 (by decide) (by decide) k_X7_copyFrom_2 k_X7_copyFrom_3 k_X7_copyFrom_4 k_X7_copyFrom_5 (by decide) (by decide +kernel) dX7_copyFrom_12 (fun G12_1 => ?_)
  refine cr_aload_n X 0 rfl dX7_copyFrom_15 ?_
  refine cr_aload_n X 1 rfl dX7_copyFrom_16 ?_
  refine cr_get X ((cr_a11 E hg).at (cr_rowo S0 G12_1 hne 11) rfl) rfl i_X7_copyFrom_X7 1 (by decide) k_X7_copyFrom_6 rfl dX7_copyFrom_17 ?_
  refine cr_putG X (cr_a11 E hf) 1 rfl rfl rfl i_X7_copyFrom_X7 tyX7 tyX7_ok nmX7 (by decide) k_X7_copyFrom_6 rfl rfl rfl (Nat.le_of_ble_eq_true rfl) dX7_copyFrom_20 (fun G20_2 => ?_)
  exact cr_vret X rfl rfl dX7_copyFrom_23
theorem c_X7_copyFrom_S (l : Launch) (E : cr_E) (hEK : cr_EK E) (S : cr_S) {f : Nat} (hf : f < 8) {g : Nat} (hg : g < 8) (hne : g ≠ f) : cr_M l E yX7_copyFrom wsX7_copyFrom rm_X7_copyFrom [.ref (E.2.1 f 11), .ref (E.2.1 g 11)] S (cr_vVG S f) (s_X7_copyFrom (S.1 g)  (S.1 f)) := by
  have h := c_X7_copyFrom l E hEK S hf hg hne (S.1 f)
  rw [cr_us_self] at h
  exact h

theorem k_X7_sum_1 : (Cond.fieldLink RX7 15 "CraneCampaign$Winds" "count" "I") ∈ wsX7_sum := List.mem_of_getElem? (i := 1) (by rfl)
theorem k_X7_sum_2 : (Cond.fieldLink RX7 9 "CraneCampaign$Winds" "row" "[I") ∈ wsX7_sum := List.mem_of_getElem? (i := 2) (by rfl)
theorem i_X7_sum_X7 : ∀ w ∈ wsX70, w ∈ wsX7_sum := by decide +kernel
abbrev rm_X7_sum : Room := { frames := 0, cells := 0, slots := 0, locals := 0 }
def s_X7_sum_4 (G : cr_G) : Nat → Int32 → Int32 → Option Int32
  | 0, _, _ => none
  | n + 1, x1, x2 => (if ((G 11) 1) ≤ x2 then (some x1) else (cr_gd (cr_in x2 48) (cr_bd (x1 + ((G 12) (x2).toNatClampNeg)) (fun v20_1 => (cr_bd (x2 + 1) (fun v21_2 => (s_X7_sum_4 G n v20_1 v21_2)))))))
set_option maxHeartbeats 4000000 in
set_option maxRecDepth 100000 in
theorem b_X7_sum_4 {Γ : cr_C} {E : cr_E} (X : cr_X Γ E cX7_sum 3 RX7 wsX7_sum rm_X7_sum (some .int)) (S0 : cr_S) {f : Nat} (hf : f < 8) (G : cr_G) : ∀ (n : Nat) (x1 : Int32) (x2 : Int32), cr_P Γ E 3 (cr_F Γ E (cr_vI (cr_us S0 f G))) 0 0 (cr_us S0 f G) 4 ([(0, .ref (E.2.1 f 11)), (1, .int x1), (2, .int x2)]) ([]) (s_X7_sum_4 G n x1 x2) := by
  have hEK := X.2.2.2.2.2.2.1
  intro n
  induction n with
  | zero => intro x1 x2; exact cr_none
  | succ n ih =>
    intro x1 x2
    rw [s_X7_sum_4]
    refine cr_iload_n X 2 rfl dX7_sum_4 ?_
    refine cr_aload_n X 0 rfl dX7_sum_5 ?_
    refine cr_get X ((cr_a11 E hf).at (cr_row S0 f G 11) rfl) rfl i_X7_sum_X7 1 (by decide) k_X7_sum_1 rfl dX7_sum_6 ?_
    refine cr_icmp_ge X 27 dX7_sum_9 rfl ?_ ?_
    · refine cr_iload_n X 1 rfl dX7_sum_27 ?_
      exact cr_iret X rfl rfl dX7_sum_28
    · refine cr_iload_n X 1 rfl dX7_sum_12 ?_
      refine cr_aload_n X 0 rfl dX7_sum_13 ?_
      refine cr_get X ((cr_a11 E hf).at (cr_row S0 f G 11) rfl) rfl i_X7_sum_X7 0 (by decide) k_X7_sum_2 rfl dX7_sum_14 ?_
      refine cr_iload_n X 2 rfl dX7_sum_17 ?_
      refine cr_iald X ((cr_a12 E hf).at (cr_row S0 f G 12) rfl) dX7_sum_18 ?_
      refine cr_iadd X dX7_sum_19 ?_
      refine cr_istore_nb X (fun v20_1 => [(1, .int v20_1), (0, .ref (E.2.1 f 11)), (2, .int x2)]) (fun _ => rfl) (by decide) dX7_sum_20 (fun v20_1 => ?_)
      refine cr_iinc X (x2 + 1) (fun v21_2 => [(2, .int v21_2), (1, .int v20_1), (0, .ref (E.2.1 f 11))]) 2 rfl rfl (fun _ => rfl) (by decide) dX7_sum_21 (fun v21_2 => ?_)
      refine cr_goto X 4 dX7_sum_24 rfl ?_
      refine cr_sub (lv' := [(0, .ref (E.2.1 f 11)), (1, .int v20_1), (2, .int v21_2)]) [2, 1, 0] rfl ?_
      exact ih v20_1 v21_2
def s_X7_sum (G : cr_G) : Option Int32 := (s_X7_sum_4 G 1200 ((0 : Int32)) ((0 : Int32)))
set_option maxHeartbeats 4000000 in
set_option maxRecDepth 100000 in
theorem c_X7_sum (l : Launch) (E : cr_E) (hEK : cr_EK E) (S0 : cr_S) {f : Nat} (hf : f < 8) (G : cr_G) : cr_M l E yX7_sum wsX7_sum rm_X7_sum [.ref (E.2.1 f 11)] (cr_us S0 f G) (cr_vI (cr_us S0 f G)) (s_X7_sum G) := by
  refine cr_enter (cc := cX7_sum) (nL := 3) (rt := (some .int)) hEK (by decide) rfl (Nat.le_of_ble_eq_true rfl) (fun Γ hΓ X => ?_)
  subst hΓ
  have X : cr_X Γ E cX7_sum 3 RX7 wsX7_sum rm_X7_sum (some .int) := X
  unfold s_X7_sum
  show cr_P Γ E 3 _ 0 0 (cr_us S0 f G) 0 ([(0, .ref (E.2.1 f 11))]) [] _
  refine cr_iconst X (0 : Int32) (by decide) dX7_sum_0 ?_
  refine cr_istore_n X ([(1, .int ((0 : Int32))), (0, .ref (E.2.1 f 11))]) rfl (by decide) dX7_sum_1 ?_
  refine cr_iconst X (0 : Int32) (by decide) dX7_sum_2 ?_
  refine cr_istore_n X ([(2, .int ((0 : Int32))), (1, .int ((0 : Int32))), (0, .ref (E.2.1 f 11))]) rfl (by decide) dX7_sum_3 ?_
  refine cr_sub (lv' := [(0, .ref (E.2.1 f 11)), (1, .int ((0 : Int32))), (2, .int ((0 : Int32)))]) [2, 1, 0] rfl ?_
  exact b_X7_sum_4 X S0 hf G 1200 ((0 : Int32)) ((0 : Int32))
theorem c_X7_sum_S (l : Launch) (E : cr_E) (hEK : cr_EK E) (S : cr_S) {f : Nat} (hf : f < 8) : cr_M l E yX7_sum wsX7_sum rm_X7_sum [.ref (E.2.1 f 11)] S (cr_vI S) (s_X7_sum (S.1 f)) := by
  have h := c_X7_sum l E hEK S hf (S.1 f)
  rw [cr_us_self] at h
  exact h
end
