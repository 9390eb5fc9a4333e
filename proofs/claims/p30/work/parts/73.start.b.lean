/-! ### the start: what the tables and the given words say -/
abbrev st_row7 (n : String) (f : Nat → Int32) (A : Array Value) (s : State) : Prop := (Cond.arrayOf (.static "CraneCampaign" n "[I") .int).before A s = true ∧ (Cond.eq (.length (.static "CraneCampaign" n "[I")) (.int 7)).before A s = true ∧ ∀ j, j < 7 → (Cond.eq (.elem (.static "CraneCampaign" n "[I") (.int (Int32.ofNat j))) (.int (f j))).before A s = true
theorem st_n0 {A : Array Value} {s : State} (N : narrow_1.before A s = true) : st_row7 "SETTING_AT_FIRST" cr_c0 A s := by
  have hs := flat_of_before _ N
  refine ⟨hs _ (by decide +kernel), hs _ (by decide +kernel), fun j hj => ?_⟩
  rcases (show j = 0 ∨ j = 1 ∨ j = 2 ∨ j = 3 ∨ j = 4 ∨ j = 5 ∨ j = 6 by omega) with rfl | rfl | rfl | rfl | rfl | rfl | rfl
  · exact hs _ (by decide +kernel)
  · exact hs _ (by decide +kernel)
  · exact hs _ (by decide +kernel)
  · exact hs _ (by decide +kernel)
  · exact hs _ (by decide +kernel)
  · exact hs _ (by decide +kernel)
  · exact hs _ (by decide +kernel)
theorem st_n1 {A : Array Value} {s : State} (N : narrow_1.before A s = true) : st_row7 "SETTING_LOWEST" cr_c1 A s := by
  have hs := flat_of_before _ N
  refine ⟨hs _ (by decide +kernel), hs _ (by decide +kernel), fun j hj => ?_⟩
  rcases (show j = 0 ∨ j = 1 ∨ j = 2 ∨ j = 3 ∨ j = 4 ∨ j = 5 ∨ j = 6 by omega) with rfl | rfl | rfl | rfl | rfl | rfl | rfl
  · exact hs _ (by decide +kernel)
  · exact hs _ (by decide +kernel)
  · exact hs _ (by decide +kernel)
  · exact hs _ (by decide +kernel)
  · exact hs _ (by decide +kernel)
  · exact hs _ (by decide +kernel)
  · exact hs _ (by decide +kernel)
theorem st_n2 {A : Array Value} {s : State} (N : narrow_1.before A s = true) : st_row7 "SETTING_HIGHEST" cr_c2 A s := by
  have hs := flat_of_before _ N
  refine ⟨hs _ (by decide +kernel), hs _ (by decide +kernel), fun j hj => ?_⟩
  rcases (show j = 0 ∨ j = 1 ∨ j = 2 ∨ j = 3 ∨ j = 4 ∨ j = 5 ∨ j = 6 by omega) with rfl | rfl | rfl | rfl | rfl | rfl | rfl
  · exact hs _ (by decide +kernel)
  · exact hs _ (by decide +kernel)
  · exact hs _ (by decide +kernel)
  · exact hs _ (by decide +kernel)
  · exact hs _ (by decide +kernel)
  · exact hs _ (by decide +kernel)
  · exact hs _ (by decide +kernel)
theorem st_SA {s : State} {args : Array Value} {n : String} {f : Nat → Int32} (hl : (Cond.laysStatic "CraneCampaign" n "[I").before args s = true) (hini : (Cond.initialized "CraneCampaign").before args s = true) (h : st_row7 n f args s) (E : cr_E) (hA : ∀ a : Nat, a < s.heap.size → ¬ E.2.2.1 a) : cr_SA n "[I" 7 f E s := by
  obtain ⟨t, ht, hT⟩ := va_Tof (N := 7) (f := fun j => .int (f j)) (A := E.2.2.1) (by decide) h.1 (va_eqt h.2.1) (fun j hj => va_eqt (h.2.2 j hj)) hA
  exact ⟨t, va_Zref hl hini ht hA, hT⟩
theorem st_t1 : Cond.initialized "CraneCampaign" ∈ lw_tbl := by decide +kernel
theorem st_t36 : Cond.arrayOver (.object "CraneCampaign$Turbine") ∈ lw_tbl := by decide +kernel
theorem st_t217 : Cond.arrayOver (.object "CraneCampaign$Farm") ∈ lw_tbl := by decide +kernel
theorem st_t172 : Cond.laysStatic "CraneCampaign" "SETTING_AT_FIRST" "[I" ∈ lw_tbl := by decide +kernel
theorem st_t707 : Cond.laysStatic "CraneCampaign" "SETTING_LOWEST" "[I" ∈ lw_tbl := by decide +kernel
theorem st_t709 : Cond.laysStatic "CraneCampaign" "SETTING_HIGHEST" "[I" ∈ lw_tbl := by decide +kernel
theorem st_t171 : Cond.fieldLinkNest RX2 67 "CraneCampaign" "SETTING_AT_FIRST" "[I" "CraneCampaign" ∈ lw_tbl := by decide +kernel
theorem st_t220 : Cond.methodLinkNest RX8 32 yX6_init "CraneCampaign" ∈ lw_tbl := by decide +kernel
theorem st_t39 : Cond.methodLinkNest RX2 23 yX0_init "CraneCampaign" ∈ lw_tbl := by decide +kernel
theorem st_t59 : Cond.methodLinkNest RX2 30 yX3_init "CraneCampaign" ∈ lw_tbl := by decide +kernel
theorem st_t78 : Cond.methodLinkNest RX2 37 yX4_init "CraneCampaign" ∈ lw_tbl := by decide +kernel
theorem st_t94 : Cond.methodLinkNest RX2 44 yX1_init "CraneCampaign" ∈ lw_tbl := by decide +kernel
theorem st_t122 : Cond.methodLinkNest RX2 51 yX7_init "CraneCampaign" ∈ lw_tbl := by decide +kernel
theorem st_t136 : Cond.methodLinkNest RX2 66 yX5_init "CraneCampaign" ∈ lw_tbl := by decide +kernel
theorem st_SF {s : State} {args : Array Value} (hts : ∀ w ∈ lw_tbl, w.before args s = true) (N : narrow_1.before args s = true) (E : cr_E) (hA : ∀ a : Nat, a < s.heap.size → ¬ E.2.2.1 a) : cr_SF E s := by
  have hini := hts _ st_t1
  exact ⟨st_SA (hts _ st_t172) hini (st_n0 N) E hA, st_SA (hts _ st_t707) hini (st_n1 N) E hA, st_SA (hts _ st_t709) hini (st_n2 N) E hA⟩
theorem st_EX {s : State} {args : Array Value} (hts : ∀ w ∈ lw_tbl, w.before args s = true) (N : narrow_1.before args s = true) (A0 : Nat → Prop) (hA : ∀ a : Nat, a < s.heap.size → ¬ A0 a) : ct_EX A0 s := by
  refine ⟨?_, va_Nw.of rfl (hts _ st_t171), va_AO.of (hts _ st_t36), va_AO.of (hts _ st_t217), st_SA (hts _ st_t172) (hts _ st_t1) (st_n0 N) (ctE A0) hA⟩
  exact List.forall_mem_cons.mpr ⟨va_Nw.of rfl (hts _ st_t220), List.forall_mem_cons.mpr ⟨va_Nw.of rfl (hts _ st_t39), List.forall_mem_cons.mpr ⟨va_Nw.of rfl (hts _ st_t59), List.forall_mem_cons.mpr ⟨va_Nw.of rfl (hts _ st_t78), List.forall_mem_cons.mpr ⟨va_Nw.of rfl (hts _ st_t94), List.forall_mem_cons.mpr ⟨va_Nw.of rfl (hts _ st_t122), List.forall_mem_cons.mpr ⟨va_Nw.of rfl (hts _ st_t136), fun _ h => absurd h List.not_mem_nil⟩⟩⟩⟩⟩⟩⟩
theorem st_i0 : Cond.instantiable RX0 3 ∈ wsL_law0 := List.mem_of_getElem? (i := 31) (by rfl)
theorem st_i1 : Cond.instantiable RX1 5 ∈ wsL_law0 := List.mem_of_getElem? (i := 43) (by rfl)
theorem st_i2 : Cond.instantiable RX2 10 ∈ wsL_law0 := List.mem_of_getElem? (i := 12) (by rfl)
theorem st_i3 : Cond.instantiable RX3 3 ∈ wsL_law0 := List.mem_of_getElem? (i := 35) (by rfl)
theorem st_i4 : Cond.instantiable RX4 2 ∈ wsL_law0 := List.mem_of_getElem? (i := 39) (by rfl)
theorem st_i5 : Cond.instantiable RX5 7 ∈ wsL_law0 := List.mem_of_getElem? (i := 53) (by rfl)
theorem st_i6 : Cond.instantiable RX6 2 ∈ wsL_law0 := List.mem_of_getElem? (i := 20) (by rfl)
theorem st_i7 : Cond.instantiable RX7 2 ∈ wsL_law0 := List.mem_of_getElem? (i := 47) (by rfl)
theorem st_i8 : Cond.instantiable RX8 6 ∈ wsL_law0 := List.mem_of_getElem? (i := 1) (by rfl)
theorem st_K {s : State} {args : Array Value} (hts : ∀ w ∈ wsL_law0, w.before args s = true) (hF : (Cond.arrayOver (.object "CraneCampaign$Farm")).before args s = true) (hT : (Cond.arrayOver (.object "CraneCampaign$Turbine")).before args s = true) : ∃ (D : va_G) (c : Nat → ClassId), va_K D vwCl (tyL c) s := by
  obtain ⟨c0, i0, h0⟩ := u_known hts in0X0 (hts (.instantiable RX0 3) st_i0)
  obtain ⟨c1, i1, h1⟩ := u_known hts in0X1 (hts (.instantiable RX1 5) st_i1)
  obtain ⟨c2, i2, h2⟩ := u_known hts in0X2 (hts (.instantiable RX2 10) st_i2)
  obtain ⟨c3, i3, h3⟩ := u_known hts in0X3 (hts (.instantiable RX3 3) st_i3)
  obtain ⟨c4, i4, h4⟩ := u_known hts in0X4 (hts (.instantiable RX4 2) st_i4)
  obtain ⟨c5, i5, h5⟩ := u_known hts in0X5 (hts (.instantiable RX5 7) st_i5)
  obtain ⟨c6, i6, h6⟩ := u_known hts in0X6 (hts (.instantiable RX6 2) st_i6)
  obtain ⟨c7, i7, h7⟩ := u_known hts in0X7 (hts (.instantiable RX7 2) st_i7)
  obtain ⟨c8, i8, h8⟩ := u_known hts in0X8 (hts (.instantiable RX8 6) st_i8)
  obtain ⟨cI, kI, mI', hI1, hI2, hI3⟩ := Cond.arrayClass_spec (hts (.arrayClass .int) k_arr_law0)
  obtain ⟨mF, cF, kF, hF1, -, hF3, hF4, hF5⟩ := Cond.arrayOver_spec hF
  obtain ⟨mT, cT, kT, hT1, -, hT3, hT4, hT5⟩ := Cond.arrayOver_spec hT
  have key : ∀ {cA : ClassId} {kA : Class} {comp : ClassId} {ty : FieldType}, s.vm.classes[cA]? = some kA → kA.kind = .array comp ty → ArrOfT s cA ty := fun a b n z => ⟨fun k h => (by cases h), _, a, _, b⟩
  refine ⟨((fun k => match k with | 0 => c0 | 1 => c1 | 2 => c2 | 3 => c3 | 4 => c4 | 5 => c5 | 6 => c6 | 7 => c7 | _ => c8), (fun k => match k with | 0 => i0 | 1 => i1 | 2 => i2 | 3 => i3 | 4 => i4 | 5 => i5 | 6 => i6 | 7 => i7 | _ => i8)), (fun k => match k with | 0 => cI | 1 => cI | 2 => cF | _ => cT), fun k q hq => ?_, fun k q hq => ?_⟩
  · match k, hq with
    | 0, hq => cases hq; exact h0
    | 1, hq => cases hq; exact h1
    | 2, hq => cases hq; exact h2
    | 3, hq => cases hq; exact h3
    | 4, hq => cases hq; exact h4
    | 5, hq => cases hq; exact h5
    | 6, hq => cases hq; exact h6
    | 7, hq => cases hq; exact h7
    | 8, hq => cases hq; exact h8
    | k + 9, hq => exact absurd (show (none : Option vw_C) = some q from hq) (by simp)
  · match k, hq with
    | 0, hq => cases hq; exact ⟨key hI2 hI3, hI1⟩
    | 1, hq => cases hq; exact ⟨key hI2 hI3, hI1⟩
    | 2, hq => cases hq; exact ⟨key hF3 hF4, kF, mF, hF3, hF4, hF1, hF5⟩
    | 3, hq => cases hq; exact ⟨key hT3 hT4, kT, mT, hT3, hT4, hT1, hT5⟩
    | k + 4, hq => exact absurd (show (none : Option (ClassId × FieldType)) = some q from hq) (by simp)
