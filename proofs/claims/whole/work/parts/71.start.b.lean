/-! ### the start: what the tables and the given words say -/
theorem st_L {a b : Cond} {A : Array Value} {s : State} (h : (Cond.and a b).before A s = true) : a.before A s = true := by
  rw [Cond.before_and, Bool.and_eq_true] at h
  exact h.1
theorem st_R {a b : Cond} {A : Array Value} {s : State} (h : (Cond.and a b).before A s = true) : b.before A s = true := by
  rw [Cond.before_and, Bool.and_eq_true] at h
  exact h.2
abbrev st_row7 (n : String) (f : Nat → Int32) (A : Array Value) (s : State) : Prop := (Cond.arrayOf (.static "CraneCampaign" n "[I") .int).before A s = true ∧ (Cond.eq (.length (.static "CraneCampaign" n "[I")) (.int 7)).before A s = true ∧ ∀ j, j < 7 → (Cond.eq (.elem (.static "CraneCampaign" n "[I") (.int (Int32.ofNat j))) (.int (f j))).before A s = true
theorem st_n0 {A : Array Value} {s : State} (N : narrow_1.before A s = true) : st_row7 "SETTING_AT_FIRST" cr_c0 A s := by
  have NL := st_L N
  have NLL := st_L NL
  have NLLL := st_L NLL
  have NLLLL := st_L NLLL
  have NLLLLL := st_L NLLLL
  have NLLLLLL := st_L NLLLLL
  have NLLLLLLL := st_L NLLLLLL
  have NLLLLLLR := st_R NLLLLLL
  have NLLLLLLLR := st_R NLLLLLLL
  have NLLLLLLRL := st_L NLLLLLLR
  have NLLLLLLRR := st_R NLLLLLLR
  have NLLLLLLLRL := st_L NLLLLLLLR
  have NLLLLLLLRR := st_R NLLLLLLLR
  have NLLLLLLRLL := st_L NLLLLLLRL
  have NLLLLLLRLR := st_R NLLLLLLRL
  have NLLLLLLRRL := st_L NLLLLLLRR
  have NLLLLLLLRLL := st_L NLLLLLLLRL
  have NLLLLLLLRLR := st_R NLLLLLLLRL
  have NLLLLLLLRRL := st_L NLLLLLLLRR
  have NLLLLLLLRRR := st_R NLLLLLLLRR
  have NLLLLLLRLRL := st_L NLLLLLLRLR
  have NLLLLLLRLRR := st_R NLLLLLLRLR
  have NLLLLLLRRLL := st_L NLLLLLLRRL
  have NLLLLLLRRLR := st_R NLLLLLLRRL
  refine ⟨NLLLLLLLRLL, NLLLLLLLRLR, fun j hj => ?_⟩
  rcases (show j = 0 ∨ j = 1 ∨ j = 2 ∨ j = 3 ∨ j = 4 ∨ j = 5 ∨ j = 6 by omega) with rfl | rfl | rfl | rfl | rfl | rfl | rfl
  · exact NLLLLLLLRRL
  · exact NLLLLLLLRRR
  · exact NLLLLLLRLL
  · exact NLLLLLLRLRL
  · exact NLLLLLLRLRR
  · exact NLLLLLLRRLL
  · exact NLLLLLLRRLR
theorem st_n1 {A : Array Value} {s : State} (N : narrow_1.before A s = true) : st_row7 "SETTING_LOWEST" cr_c1 A s := by
  have NL := st_L N
  have NLL := st_L NL
  have NLLL := st_L NLL
  have NLLLL := st_L NLLL
  have NLLLLL := st_L NLLLL
  have NLLLLLR := st_R NLLLLL
  have NLLLLLRL := st_L NLLLLLR
  have NLLLLLRR := st_R NLLLLLR
  have NLLLLLRLL := st_L NLLLLLRL
  have NLLLLLRLR := st_R NLLLLLRL
  have NLLLLLRRL := st_L NLLLLLRR
  have NLLLLLRLLR := st_R NLLLLLRLL
  have NLLLLLRLRL := st_L NLLLLLRLR
  have NLLLLLRLRR := st_R NLLLLLRLR
  have NLLLLLRRLL := st_L NLLLLLRRL
  have NLLLLLRRLR := st_R NLLLLLRRL
  have NLLLLLRLLRL := st_L NLLLLLRLLR
  have NLLLLLRLLRR := st_R NLLLLLRLLR
  have NLLLLLRLRLL := st_L NLLLLLRLRL
  have NLLLLLRLRLR := st_R NLLLLLRLRL
  have NLLLLLRLRRL := st_L NLLLLLRLRR
  have NLLLLLRLRRR := st_R NLLLLLRLRR
  have NLLLLLRRLLL := st_L NLLLLLRRLL
  have NLLLLLRRLLR := st_R NLLLLLRRLL
  have NLLLLLRRLRL := st_L NLLLLLRRLR
  refine ⟨NLLLLLRLLRL, NLLLLLRLLRR, fun j hj => ?_⟩
  rcases (show j = 0 ∨ j = 1 ∨ j = 2 ∨ j = 3 ∨ j = 4 ∨ j = 5 ∨ j = 6 by omega) with rfl | rfl | rfl | rfl | rfl | rfl | rfl
  · exact NLLLLLRLRLL
  · exact NLLLLLRLRLR
  · exact NLLLLLRLRRL
  · exact NLLLLLRLRRR
  · exact NLLLLLRRLLL
  · exact NLLLLLRRLLR
  · exact NLLLLLRRLRL
theorem st_n2 {A : Array Value} {s : State} (N : narrow_1.before A s = true) : st_row7 "SETTING_HIGHEST" cr_c2 A s := by
  have NL := st_L N
  have NLL := st_L NL
  have NLLL := st_L NLL
  have NLLLL := st_L NLLL
  have NLLLLL := st_L NLLLL
  have NLLLLR := st_R NLLLL
  have NLLLLLR := st_R NLLLLL
  have NLLLLRL := st_L NLLLLR
  have NLLLLLRR := st_R NLLLLLR
  have NLLLLRLL := st_L NLLLLRL
  have NLLLLLRRR := st_R NLLLLLRR
  have NLLLLRLLL := st_L NLLLLRLL
  have NLLLLRLLR := st_R NLLLLRLL
  have NLLLLLRRRL := st_L NLLLLLRRR
  have NLLLLLRRRR := st_R NLLLLLRRR
  have NLLLLRLLLL := st_L NLLLLRLLL
  have NLLLLRLLLR := st_R NLLLLRLLL
  have NLLLLRLLRL := st_L NLLLLRLLR
  have NLLLLLRRRLL := st_L NLLLLLRRRL
  have NLLLLLRRRLR := st_R NLLLLLRRRL
  have NLLLLLRRRRL := st_L NLLLLLRRRR
  have NLLLLLRRRRR := st_R NLLLLLRRRR
  have NLLLLRLLLRL := st_L NLLLLRLLLR
  have NLLLLRLLLRR := st_R NLLLLRLLLR
  have NLLLLRLLRLL := st_L NLLLLRLLRL
  have NLLLLRLLRLR := st_R NLLLLRLLRL
  refine ⟨NLLLLLRRRLL, NLLLLLRRRLR, fun j hj => ?_⟩
  rcases (show j = 0 ∨ j = 1 ∨ j = 2 ∨ j = 3 ∨ j = 4 ∨ j = 5 ∨ j = 6 by omega) with rfl | rfl | rfl | rfl | rfl | rfl | rfl
  · exact NLLLLLRRRRL
  · exact NLLLLLRRRRR
  · exact NLLLLRLLLL
  · exact NLLLLRLLLRL
  · exact NLLLLRLLLRR
  · exact NLLLLRLLRLL
  · exact NLLLLRLLRLR
theorem st_nz {A : Array Value} {s : State} (N : narrow_1.before A s = true) : (Cond.isRef (.static Bundle.tN "UNASSIGNED_STACK" Bundle.steD)).before A s = true ∧ (Cond.isRef (.static Bundle.tN "SUPPRESSED_SENTINEL" Bundle.listD)).before A s = true := by
  have NL := st_L N
  have NLL := st_L NL
  have NLLL := st_L NLL
  have NLLLL := st_L NLLL
  have NLLLLL := st_L NLLLL
  have NLLLLLL := st_L NLLLLL
  have NLLLLLLR := st_R NLLLLLL
  have NLLLLLLRR := st_R NLLLLLLR
  have NLLLLLLRRR := st_R NLLLLLLRR
  have NLLLLLLRRRL := st_L NLLLLLLRRR
  have NLLLLLLRRRR := st_R NLLLLLLRRR
  exact ⟨NLLLLLLRRRL, NLLLLLLRRRR⟩
theorem st_NC {A : Array Value} {s : State} (N : narrow_1.before A s = true) : cr_NC s := by
  have NL := st_L N
  have NLL := st_L NL
  have NLLL := st_L NLL
  have NLLLL := st_L NLLL
  have NLLLR := st_R NLLL
  have NLLLLR := st_R NLLLL
  have NLLLRL := st_L NLLLR
  have NLLLLRR := st_R NLLLLR
  have NLLLRLL := st_L NLLLRL
  have NLLLLRRL := st_L NLLLLRR
  have NLLLRLLR := st_R NLLLRLL
  have NLLLLRRLL := st_L NLLLLRRL
  have NLLLRLLRR := st_R NLLLRLLR
  have NLLLLRRLLR := st_R NLLLLRRLL
  have NLLLRLLRRL := st_L NLLLRLLRR
  have NLLLLRRLLRL := st_L NLLLLRRLLR
  have NLLLRLLRRLL := st_L NLLLRLLRRL
  have NLLLRLLRRLR := st_R NLLLRLLRRL
  exact List.forall_mem_cons.mpr ⟨va_Nc.of NLLLLRRLLRL, List.forall_mem_cons.mpr ⟨va_Nc.of NLLLRLLRRLL, List.forall_mem_cons.mpr ⟨va_Nc.of NLLLRLLRRLR, fun _ h => absurd h List.not_mem_nil⟩⟩⟩
theorem st_SA {s : State} {args : Array Value} {n : String} {f : Nat → Int32} (hl : (Cond.laysStatic "CraneCampaign" n "[I").before args s = true) (hini : (Cond.initialized "CraneCampaign").before args s = true) (h : st_row7 n f args s) (E : cr_E) (hA : ∀ a : Nat, a < s.heap.size → ¬ E.2.2.1 a) : cr_SA n "[I" 7 f E s := by
  obtain ⟨t, ht, hT⟩ := va_Tof (N := 7) (f := fun j => .int (f j)) (A := E.2.2.1) (by decide) h.1 (va_eqt h.2.1) (fun j hj => va_eqt (h.2.2 j hj)) hA
  exact ⟨t, va_Zref hl hini ht hA, hT⟩
theorem st_t1 : Cond.initialized "CraneCampaign" ∈ lw_tbl := List.mem_append_right _ (List.mem_of_getElem? (i := 1) (by decide +kernel))
theorem st_t12 : Cond.initialized "java/lang/Throwable" ∈ lw_tbl := List.mem_append_right _ (List.mem_of_getElem? (i := 12) (by decide +kernel))
theorem st_t36 : Cond.arrayOver (.object "CraneCampaign$Turbine") ∈ lw_tbl := List.mem_append_right _ (List.mem_of_getElem? (i := 36) (by decide +kernel))
theorem st_t217 : Cond.arrayOver (.object "CraneCampaign$Farm") ∈ lw_tbl := List.mem_append_right _ (List.mem_of_getElem? (i := 217) (by decide +kernel))
theorem st_t172 : Cond.laysStatic "CraneCampaign" "SETTING_AT_FIRST" "[I" ∈ lw_tbl := List.mem_append_right _ (List.mem_of_getElem? (i := 172) (by decide +kernel))
theorem st_t707 : Cond.laysStatic "CraneCampaign" "SETTING_LOWEST" "[I" ∈ lw_tbl := List.mem_append_right _ (List.mem_of_getElem? (i := 707) (by decide +kernel))
theorem st_t709 : Cond.laysStatic "CraneCampaign" "SETTING_HIGHEST" "[I" ∈ lw_tbl := List.mem_append_right _ (List.mem_of_getElem? (i := 709) (by decide +kernel))
theorem st_t561 : Cond.laysStatic Bundle.tN "UNASSIGNED_STACK" Bundle.steD ∈ lw_tbl := List.mem_append_right _ (List.mem_of_getElem? (i := 561) (by decide +kernel))
theorem st_t563 : Cond.laysStatic Bundle.tN "SUPPRESSED_SENTINEL" Bundle.listD ∈ lw_tbl := List.mem_append_right _ (List.mem_of_getElem? (i := 563) (by decide +kernel))
theorem st_t171 : Cond.fieldLinkNest RX2 67 "CraneCampaign" "SETTING_AT_FIRST" "[I" "CraneCampaign" ∈ lw_tbl := List.mem_append_right _ (List.mem_of_getElem? (i := 171) (by decide +kernel))
theorem st_t220 : Cond.methodLinkNest RX8 32 yX6_init "CraneCampaign" ∈ lw_tbl := List.mem_append_right _ (List.mem_of_getElem? (i := 220) (by decide +kernel))
theorem st_t39 : Cond.methodLinkNest RX2 23 yX0_init "CraneCampaign" ∈ lw_tbl := List.mem_append_right _ (List.mem_of_getElem? (i := 39) (by decide +kernel))
theorem st_t59 : Cond.methodLinkNest RX2 30 yX3_init "CraneCampaign" ∈ lw_tbl := List.mem_append_right _ (List.mem_of_getElem? (i := 59) (by decide +kernel))
theorem st_t78 : Cond.methodLinkNest RX2 37 yX4_init "CraneCampaign" ∈ lw_tbl := List.mem_append_right _ (List.mem_of_getElem? (i := 78) (by decide +kernel))
theorem st_t94 : Cond.methodLinkNest RX2 44 yX1_init "CraneCampaign" ∈ lw_tbl := List.mem_append_right _ (List.mem_of_getElem? (i := 94) (by decide +kernel))
theorem st_t122 : Cond.methodLinkNest RX2 51 yX7_init "CraneCampaign" ∈ lw_tbl := List.mem_append_right _ (List.mem_of_getElem? (i := 122) (by decide +kernel))
theorem st_t136 : Cond.methodLinkNest RX2 66 yX5_init "CraneCampaign" ∈ lw_tbl := List.mem_append_right _ (List.mem_of_getElem? (i := 136) (by decide +kernel))
theorem st_t536 : Cond.castable "java/lang/IllegalArgumentException" "java/lang/IllegalArgumentException" ∈ lw_tbl := List.mem_append_right _ (List.mem_of_getElem? (i := 536) (by decide +kernel))
theorem st_t608 : Cond.castable "java/lang/IllegalStateException" "java/lang/IllegalStateException" ∈ lw_tbl := List.mem_append_right _ (List.mem_of_getElem? (i := 608) (by decide +kernel))
theorem st_t649 : Cond.castable "java/lang/IndexOutOfBoundsException" "java/lang/IndexOutOfBoundsException" ∈ lw_tbl := List.mem_append_right _ (List.mem_of_getElem? (i := 649) (by decide +kernel))
theorem st_t538 : Cond.declares (Bundle.initS "java/lang/RuntimeException") ∈ lw_tbl := List.mem_append_right _ (List.mem_of_getElem? (i := 538) (by decide +kernel))
theorem st_t540 : Cond.declares (Bundle.initS "java/lang/Exception") ∈ lw_tbl := List.mem_append_right _ (List.mem_of_getElem? (i := 540) (by decide +kernel))
theorem st_t542 : Cond.declares (Bundle.initS Bundle.tN) ∈ lw_tbl := List.mem_append_right _ (List.mem_of_getElem? (i := 542) (by decide +kernel))
theorem st_strs : ∀ q ∈ cr_strs, Cond.stringRef "CraneCampaign" q.1 q.2 ∈ lw_tbl := List.forall_mem_cons.mpr ⟨List.mem_append_right _ (List.mem_of_getElem? (i := 575) (by decide +kernel)), List.forall_mem_cons.mpr ⟨List.mem_append_right _ (List.mem_of_getElem? (i := 615) (by decide +kernel)), List.forall_mem_cons.mpr ⟨List.mem_append_right _ (List.mem_of_getElem? (i := 656) (by decide +kernel)), List.forall_mem_cons.mpr ⟨List.mem_append_right _ (List.mem_of_getElem? (i := 663) (by decide +kernel)), List.forall_mem_cons.mpr ⟨List.mem_append_right _ (List.mem_of_getElem? (i := 671) (by decide +kernel)), List.forall_mem_cons.mpr ⟨List.mem_append_right _ (List.mem_of_getElem? (i := 680) (by decide +kernel)), List.forall_mem_cons.mpr ⟨List.mem_append_right _ (List.mem_of_getElem? (i := 705) (by decide +kernel)), List.forall_mem_cons.mpr ⟨List.mem_append_right _ (List.mem_of_getElem? (i := 710) (by decide +kernel)), List.forall_mem_cons.mpr ⟨List.mem_append_right _ (List.mem_of_getElem? (i := 722) (by decide +kernel)), List.forall_mem_cons.mpr ⟨List.mem_append_right _ (List.mem_of_getElem? (i := 731) (by decide +kernel)), List.forall_mem_cons.mpr ⟨List.mem_append_right _ (List.mem_of_getElem? (i := 744) (by decide +kernel)), List.forall_mem_cons.mpr ⟨List.mem_append_right _ (List.mem_of_getElem? (i := 761) (by decide +kernel)), List.forall_mem_cons.mpr ⟨List.mem_append_right _ (List.mem_of_getElem? (i := 762) (by decide +kernel)), List.forall_mem_cons.mpr ⟨List.mem_append_right _ (List.mem_of_getElem? (i := 770) (by decide +kernel)), List.forall_mem_cons.mpr ⟨List.mem_append_right _ (List.mem_of_getElem? (i := 775) (by decide +kernel)), List.forall_mem_cons.mpr ⟨List.mem_append_right _ (List.mem_of_getElem? (i := 792) (by decide +kernel)), List.forall_mem_cons.mpr ⟨List.mem_append_right _ (List.mem_of_getElem? (i := 805) (by decide +kernel)), List.forall_mem_cons.mpr ⟨List.mem_append_right _ (List.mem_of_getElem? (i := 821) (by decide +kernel)), List.forall_mem_cons.mpr ⟨List.mem_append_right _ (List.mem_of_getElem? (i := 829) (by decide +kernel)), List.forall_mem_cons.mpr ⟨List.mem_append_right _ (List.mem_of_getElem? (i := 837) (by decide +kernel)), List.forall_mem_cons.mpr ⟨List.mem_append_right _ (List.mem_of_getElem? (i := 838) (by decide +kernel)), List.forall_mem_cons.mpr ⟨List.mem_append_right _ (List.mem_of_getElem? (i := 846) (by decide +kernel)), List.forall_mem_cons.mpr ⟨List.mem_append_right _ (List.mem_of_getElem? (i := 854) (by decide +kernel)), List.forall_mem_cons.mpr ⟨List.mem_append_right _ (List.mem_of_getElem? (i := 862) (by decide +kernel)), List.forall_mem_cons.mpr ⟨List.mem_append_right _ (List.mem_of_getElem? (i := 877) (by decide +kernel)), List.forall_mem_cons.mpr ⟨List.mem_append_right _ (List.mem_of_getElem? (i := 886) (by decide +kernel)), List.forall_mem_cons.mpr ⟨List.mem_append_right _ (List.mem_of_getElem? (i := 894) (by decide +kernel)), fun _ h => absurd h List.not_mem_nil⟩⟩⟩⟩⟩⟩⟩⟩⟩⟩⟩⟩⟩⟩⟩⟩⟩⟩⟩⟩⟩⟩⟩⟩⟩⟩⟩
theorem st_SF {s : State} {args : Array Value} (hts : ∀ w ∈ lw_tbl, w.before args s = true) (N : narrow_1.before args s = true) (E : cr_E) (hA : ∀ a : Nat, a < s.heap.size → ¬ E.2.2.1 a) : cr_SF E s := by
  have hini := hts _ st_t1
  have hth := hts _ st_t12
  obtain ⟨cc, _, _, _, _, _, hcc, _⟩ := Cond.laysStatic_spec (hts _ st_t172)
  refine ⟨st_SA (hts _ st_t172) hini (st_n0 N) E hA, st_SA (hts _ st_t707) hini (st_n1 N) E hA, st_SA (hts _ st_t709) hini (st_n2 N) E hA, vx_Zqof (hts _ st_t561) hth (st_nz N).1 hA, vx_Zqof (hts _ st_t563) hth (st_nz N).2 hA, fun q hq => ?_, ?_⟩
  · have h1 := hts _ (st_strs q hq)
    obtain ⟨_, _, _, a, _, _, _, _, _, h2⟩ := Cond.stringRef_spec hcc h1
    exact ⟨a, vk_R.of h1 h2⟩
  · exact List.forall_mem_cons.mpr ⟨va_Nw.of rfl (hts _ st_t536), List.forall_mem_cons.mpr ⟨va_Nw.of rfl (hts _ st_t608), List.forall_mem_cons.mpr ⟨va_Nw.of rfl (hts _ st_t649), List.forall_mem_cons.mpr ⟨va_Nw.of rfl (hts _ st_t538), List.forall_mem_cons.mpr ⟨va_Nw.of rfl (hts _ st_t540), List.forall_mem_cons.mpr ⟨va_Nw.of rfl (hts _ st_t542), fun _ h => absurd h List.not_mem_nil⟩⟩⟩⟩⟩⟩
theorem st_EX {s : State} {args : Array Value} (hts : ∀ w ∈ lw_tbl, w.before args s = true) (N : narrow_1.before args s = true) (A0 : Nat → Prop) (hA : ∀ a : Nat, a < s.heap.size → ¬ A0 a) : ct_EX A0 s := by
  refine ⟨?_, va_Nw.of rfl (hts _ st_t171), va_AO.of (hts _ st_t36), va_AO.of (hts _ st_t217), st_SA (hts _ st_t172) (hts _ st_t1) (st_n0 N) (ctE A0) hA⟩
  exact List.forall_mem_cons.mpr ⟨va_Nw.of rfl (hts _ st_t220), List.forall_mem_cons.mpr ⟨va_Nw.of rfl (hts _ st_t39), List.forall_mem_cons.mpr ⟨va_Nw.of rfl (hts _ st_t59), List.forall_mem_cons.mpr ⟨va_Nw.of rfl (hts _ st_t78), List.forall_mem_cons.mpr ⟨va_Nw.of rfl (hts _ st_t94), List.forall_mem_cons.mpr ⟨va_Nw.of rfl (hts _ st_t122), List.forall_mem_cons.mpr ⟨va_Nw.of rfl (hts _ st_t136), fun _ h => absurd h List.not_mem_nil⟩⟩⟩⟩⟩⟩⟩
theorem st_K {s : State} {args : Array Value} (hts : ∀ w ∈ wsL_law, w.before args s = true) (hF : (Cond.arrayOver (.object "CraneCampaign$Farm")).before args s = true) (hT : (Cond.arrayOver (.object "CraneCampaign$Turbine")).before args s = true) : ∃ (D : va_G) (c : Nat → ClassId), va_K D vwCl (tyL c) s := by
  obtain ⟨c0, i0, h0⟩ := u_known hts inlX0 (hts (.instantiable RX0 3) (List.mem_of_getElem? (i := 33) (by rfl)))
  obtain ⟨c1, i1, h1⟩ := u_known hts inlX1 (hts (.instantiable RX1 5) (List.mem_of_getElem? (i := 45) (by rfl)))
  obtain ⟨c2, i2, h2⟩ := u_known hts inlX2 (hts (.instantiable RX2 10) (List.mem_of_getElem? (i := 14) (by rfl)))
  obtain ⟨c3, i3, h3⟩ := u_known hts inlX3 (hts (.instantiable RX3 3) (List.mem_of_getElem? (i := 37) (by rfl)))
  obtain ⟨c4, i4, h4⟩ := u_known hts inlX4 (hts (.instantiable RX4 2) (List.mem_of_getElem? (i := 41) (by rfl)))
  obtain ⟨c5, i5, h5⟩ := u_known hts inlX5 (hts (.instantiable RX5 7) (List.mem_of_getElem? (i := 56) (by rfl)))
  obtain ⟨c6, i6, h6⟩ := u_known hts inlX6 (hts (.instantiable RX6 2) (List.mem_of_getElem? (i := 22) (by rfl)))
  obtain ⟨c7, i7, h7⟩ := u_known hts inlX7 (hts (.instantiable RX7 2) (List.mem_of_getElem? (i := 49) (by rfl)))
  obtain ⟨c8, i8, h8⟩ := u_known hts inlX8 (hts (.instantiable RX8 6) (List.mem_of_getElem? (i := 1) (by rfl)))
  obtain ⟨c9, i9, h9⟩ := u_known hts inlX9 (hts (.instantiable RX9 15) (List.mem_of_getElem? (i := 4) (by rfl)))
  obtain ⟨cI, kI, mI', hI1, hI2, hI3⟩ := Cond.arrayClass_spec (hts (.arrayClass .int) (List.mem_of_getElem? (i := 52) (by rfl)))
  obtain ⟨cL, kL, mL, hL1, hL2, hL3⟩ := Cond.arrayClass_spec (hts (.arrayClass .long) (List.mem_of_getElem? (i := 6) (by rfl)))
  obtain ⟨mF, cF, kF, hF1, -, hF3, hF4, hF5⟩ := Cond.arrayOver_spec hF
  obtain ⟨mT, cT, kT, hT1, -, hT3, hT4, hT5⟩ := Cond.arrayOver_spec hT
  have key : ∀ {cA : ClassId} {kA : Class} {comp : ClassId} {ty : FieldType}, s.vm.classes[cA]? = some kA → kA.kind = .array comp ty → ArrOfT s cA ty := fun a b n z => ⟨fun k h => (by cases h), _, a, _, b⟩
  refine ⟨((fun k => match k with | 0 => c0 | 1 => c1 | 2 => c2 | 3 => c3 | 4 => c4 | 5 => c5 | 6 => c6 | 7 => c7 | 8 => c8 | _ => c9), (fun k => match k with | 0 => i0 | 1 => i1 | 2 => i2 | 3 => i3 | 4 => i4 | 5 => i5 | 6 => i6 | 7 => i7 | 8 => i8 | _ => i9)), (fun k => match k with | 0 => cI | 1 => cL | 2 => cF | _ => cT), fun k q hq => ?_, fun k q hq => ?_⟩
  · match k, hq with
    | 0, hq => cases hq; exact h0
    | 1, hq => cases hq; exact h1
    | 2, hq => cases hq; exact h2
    | 3, hq => cases hq; exact h3
    | 4, hq => cases hq; exact h4
    | 5, hq => cases hq; exact h5
    | 6, hq => cases hq; exact h6
    | 7, hq => cases hq; exact h7
    | 8, hq => cases hq; exact h8
    | 9, hq => cases hq; exact h9
    | k + 10, hq => exact absurd (show (none : Option vw_C) = some q from hq) (by simp)
  · match k, hq with
    | 0, hq => cases hq; exact ⟨key hI2 hI3, hI1⟩
    | 1, hq => cases hq; exact ⟨key hL2 hL3, hL1⟩
    | 2, hq => cases hq; exact ⟨key hF3 hF4, kF, mF, hF3, hF4, hF1, hF5⟩
    | 3, hq => cases hq; exact ⟨key hT3 hT4, kT, mT, hT3, hT4, hT1, hT5⟩
    | k + 4, hq => exact absurd (show (none : Option (ClassId × FieldType)) = some q from hq) (by simp)
