/-! ### texts: one letter, of the model and of the class -/
def kp (P P' : cr_G) : Prop := (∀ j, j ≠ 0 → j ≠ 6 → P' j = P j) ∧ ∀ i, i < 9 → P' 0 i = P 0 i
theorem kp_rf (P : cr_G) : kp P P := ⟨fun _ _ _ => rfl, fun _ _ => rfl⟩
theorem kp_tr {P P' P'' : cr_G} (h : kp P P') (h' : kp P' P'') : kp P P'' := ⟨fun j a b => (h'.1 j a b).trans (h.1 j a b), fun i a => (h'.2 i a).trans (h.2 i a)⟩
theorem kp_pt {P P' : cr_G} (h : kp P P') {i : Nat} (v : Int32) (hi : 9 ≤ i) : kp P (cr_pt P' 0 i v) := ⟨fun j a b => (pm_ptne P' i v a).trans (h.1 j a b), fun k a => by
  rw [pm_pt, pm_un _ _ (by omega)]
  exact h.2 k a⟩
theorem kp_pa6 {P P' : cr_G} (h : kp P P') (r : Nat → Int32) : kp P (cr_pa P' 6 r) := ⟨fun j a b => (pm_pan P' r b).trans (h.1 j a b), fun k a => by
  rw [pm_pan _ _ (show (0 : Nat) ≠ 6 by omega)]
  exact h.2 k a⟩
theorem pt_i (P : cr_G) (i : Nat) (v : Int32) : cr_pt P 0 i v 0 i = v := by rw [pm_pt, pm_u]
theorem pt_o (P : cr_G) {i k : Nat} (v : Int32) (h : k ≠ i) : cr_pt P 0 i v 0 k = P 0 k := by rw [pm_pt, pm_un _ _ h]
theorem pa6_0 (P : cr_G) (r : Nat → Int32) : cr_pa P 6 r 0 = P 0 := pm_pan P r (by omega)
theorem pt_6 (P : cr_G) (i : Nat) (v : Int32) : cr_pt P 0 i v 6 = P 6 := pm_ptne P i v (by omega)
def edb (s : Nat) : Bool := decide (s = 2 ∨ s = 3 ∨ s = 4 ∨ s = 7 ∨ s = 8 ∨ s = 9)
theorem let4 (c : Nat) : c = 44 ∨ c = 42 ∨ (∃ d, d ≤ 9 ∧ c = 48 + d) ∨ (c ≠ 44 ∧ c ≠ 42 ∧ ¬ (48 ≤ c ∧ c ≤ 57)) := by
  by_cases h : 48 ≤ c ∧ c ≤ 57
  · exact Or.inr (Or.inr (Or.inl ⟨c - 48, by omega, by omega⟩))
  · by_cases h1 : c = 44
    · exact Or.inl h1
    · by_cases h2 : c = 42
      · exact Or.inr (Or.inl h2)
      · exact Or.inr (Or.inr (Or.inr ⟨h1, h2, h⟩))
theorem aft44 : ∀ s, s < 10 → aft s 44 = if edb s = true then 1 else 0 := by decide
theorem aft42 : ∀ s, s < 10 → aft s 42 = if s = 2 ∨ s = 3 ∨ s = 4 then 5 else 0 := by decide
theorem aftd : ∀ s, s < 10 → ∀ d, d < 10 → aft s (48 + d) = dig s d := by decide
theorem dig0 : ∀ d, d < 10 → dig 0 d = 0 := by decide
theorem dig1 : ∀ d, d < 10 → dig 1 d - 1 = if d = 0 then 3 else if d ≤ 3 then (if d = 3 then 2 else 1) else 3 := by decide
theorem dig1b : ∀ d, d < 10 → 2 ≤ dig 1 d ∧ dig 1 d ≤ 4 := by decide
theorem dig2 : ∀ d, d < 10 → dig 2 d = 4 := by decide
theorem dig3 : ∀ d, d < 10 → dig 3 d = if d = 0 then 4 else 0 := by decide
theorem dig4 : ∀ d, d < 10 → dig 4 d = 0 := by decide
theorem dig5 : ∀ d, d < 10 → dig 5 d = if d = 0 then 0 else if d = 1 then 6 else if 4 ≤ d then (if d = 4 then 8 else 9) else 7 := by decide
theorem dig5m : ∀ d, d < 10 → dig 5 d - 1 = if d = 0 then 0 else if d = 1 then 5 else if 4 ≤ d then (if d = 4 then 7 else 8) else 6 := by decide
theorem dig5b : ∀ d, d < 10 → 1 ≤ d → 6 ≤ dig 5 d ∧ dig 5 d ≤ 9 := by decide
theorem dig6 : ∀ d, d < 10 → dig 6 d = 9 := by decide
theorem dig7 : ∀ d, d < 10 → dig 7 d = 9 := by decide
theorem dig8 : ∀ d, d < 10 → dig 8 d = if d ≤ 8 then 9 else 0 := by decide
theorem dig9 : ∀ d, d < 10 → dig 9 d = 0 := by decide
theorem afto {s c : Nat} (h1 : c ≠ 44) (h2 : c ≠ 42) (h3 : ¬ (48 ≤ c ∧ c ≤ 57)) : aft s c = 0 := by
  unfold aft
  rw [if_neg h1, if_neg h2, if_neg h3]
theorem aft0 (c : Nat) : aft 0 c = 0 := by
  rcases let4 c with rfl | rfl | ⟨d, hd, rfl⟩ | ⟨h1, h2, h3⟩
  · exact aft44 0 (by omega)
  · exact aft42 0 (by omega)
  · exact (aftd 0 (by omega) d (by omega)).trans (dig0 d (by omega))
  · exact afto h1 h2 h3
theorem wi09 : ∀ c, c < 127 → ¬ (48 ≤ c ∧ c ≤ 57) → s_X9_within (nI c - nI 48) (nI 0) (nI 9) = some false := by decide +kernel
theorem wi08 : ∀ c, c < 127 → ¬ (48 ≤ c ∧ c ≤ 56) → s_X9_within (nI c - nI 48) (nI 0) (nI 8) = some false := by decide +kernel
theorem wi19 : ∀ c, c < 127 → ¬ (49 ≤ c ∧ c ≤ 57) → s_X9_within (nI c - nI 48) (nI 1) (nI 9) = some false := by decide +kernel
theorem v48 : ∀ c, c < 127 → c ≠ 48 → ¬ (nI c - nI 48 = nI 0) := by decide +kernel
theorem dg_sub (d : Nat) : nI (48 + d) - nI 48 = nI d := by
  rw [pk_sub (by omega)]
  exact congrArg nI (by omega)
theorem within_t {a lo hi : Nat} (h1 : lo ≤ a) (h2 : a ≤ hi) (hh : hi < 2 ^ 31) : s_X9_within (nI a) (nI lo) (nI hi) = some true := by
  rw [within_n (by omega) (by omega) hh, decide_eq_true (show lo ≤ a ∧ a ≤ hi from ⟨h1, h2⟩)]
theorem within_f {a lo hi : Nat} (h : ¬ (lo ≤ a ∧ a ≤ hi)) (ha : a < 2 ^ 31) (hl : lo < 2 ^ 31) (hh : hi < 2 ^ 31) : s_X9_within (nI a) (nI lo) (nI hi) = some false := by
  rw [within_n ha hl hh, decide_eq_false h]
theorem cl_eta {α β : Type} (o : Option (α × β)) : cr_cl o (fun r => some (r.1, r.2)) = o := by cases o <;> rfl
theorem cl_eta2 {β : Type} (o : Option (Bool × β)) : cr_cl o (fun r => if r.1 = true then some (true, r.2) else some (false, r.2)) = o := by rcases o with _ | ⟨_ | _, _⟩ <;> rfl
/-! the model's steps -/
theorem qm_first (P : cr_G) (x : Int32) : ∃ y : Int32, s_X9_first x P = cr_cl (s_X9_within x (nI 0) (nI 9)) (fun b => some (b, cr_pt (cr_pt (cr_pt P 0 10 x) 0 11 (nI 1)) 0 9 y)) := by
  by_cases e1 : x = nI 0
  · exact ⟨nI 3, by simp only [s_X9_first, s_X9_first_34, ↓pm_bd, pm_lit, e1, ↓reduceIte]⟩
  · by_cases e2 : x ≤ nI 3
    · by_cases e3 : x = nI 3
      · exact ⟨nI 2, by simp only [s_X9_first, s_X9_first_34, ↓pm_bd, pm_lit, e1, e2, ↓reduceIte]; rw [if_pos e3]⟩
      · exact ⟨nI 1, by simp only [s_X9_first, s_X9_first_34, ↓pm_bd, pm_lit, e1, e2, e3, ↓reduceIte]⟩
    · exact ⟨nI 3, by simp only [s_X9_first, s_X9_first_34, ↓pm_bd, pm_lit, e1, e2, ↓reduceIte]⟩
theorem qm_first_d (P : cr_G) {d : Nat} (hd : d ≤ 9) : s_X9_first (nI d) P = some (true, cr_pt (cr_pt (cr_pt P 0 10 (nI d)) 0 11 (nI 1)) 0 9 (nI (dig 1 d - 1))) := by
  have hw := within_t (a := d) (lo := 0) (hi := 9) (by omega) hd (by omega)
  rw [dig1 d (by omega)]
  by_cases e1 : d = 0
  · rw [if_pos e1]
    simp (disch := omega) only [s_X9_first, s_X9_first_34, ↓pm_bd, pm_lit, hw, pm_cl, pm_C, if_pos e1]
  · rw [if_neg e1]
    by_cases e2 : d ≤ 3
    · rw [if_pos e2]
      by_cases e3 : d = 3
      · rw [if_pos e3]
        simp (disch := omega) only [s_X9_first, s_X9_first_34, ↓pm_bd, pm_lit, hw, pm_cl, pm_C, if_neg e1, if_pos e2, if_pos e3]
      · rw [if_neg e3]
        simp (disch := omega) only [s_X9_first, s_X9_first_34, ↓pm_bd, pm_lit, hw, pm_cl, pm_C, if_neg e1, if_pos e2, if_neg e3]
    · rw [if_neg e2]
      simp (disch := omega) only [s_X9_first, s_X9_first_34, ↓pm_bd, pm_lit, hw, pm_cl, pm_C, if_neg e1, if_neg e2]
theorem qm_often (P : cr_G) (x : Int32) : ∃ y : Int32, s_X9_often x P = cr_cl (s_X9_within x (nI 1) (nI 9)) (fun b => some (b, cr_pt (cr_pt P 0 11 x) 0 9 y)) := by
  by_cases e1 : x = nI 1
  · exact ⟨nI 5, by simp only [s_X9_often, s_X9_often_37, ↓pm_bd, pm_lit, e1, ↓reduceIte]⟩
  · by_cases e2 : nI 4 ≤ x
    · by_cases e3 : x = nI 4
      · exact ⟨nI 7, by simp only [s_X9_often, s_X9_often_37, ↓pm_bd, pm_lit, e1, e2, ↓reduceIte]; rw [if_pos e3]⟩
      · exact ⟨nI 8, by simp only [s_X9_often, s_X9_often_37, ↓pm_bd, pm_lit, e1, e2, e3, ↓reduceIte]⟩
    · exact ⟨nI 6, by simp only [s_X9_often, s_X9_often_37, ↓pm_bd, pm_lit, e1, e2, ↓reduceIte]⟩
theorem qm_often_d (P : cr_G) {d : Nat} (h1 : 1 ≤ d) (hd : d ≤ 9) : s_X9_often (nI d) P = some (true, cr_pt (cr_pt P 0 11 (nI d)) 0 9 (nI (dig 5 d - 1))) := by
  have hw := within_t (a := d) (lo := 1) (hi := 9) h1 hd (by omega)
  rw [dig5m d (by omega), if_neg (show ¬ d = 0 by omega)]
  by_cases e1 : d = 1
  · rw [if_pos e1]
    simp (disch := omega) only [s_X9_often, s_X9_often_37, ↓pm_bd, pm_lit, hw, pm_cl, pm_C, if_pos e1]
  · rw [if_neg e1]
    by_cases e2 : 4 ≤ d
    · rw [if_pos e2]
      by_cases e3 : d = 4
      · rw [if_pos e3]
        simp (disch := omega) only [s_X9_often, s_X9_often_37, ↓pm_bd, pm_lit, hw, pm_cl, pm_C, if_neg e1, if_pos e2, if_pos e3]
      · rw [if_neg e3]
        simp (disch := omega) only [s_X9_often, s_X9_often_37, ↓pm_bd, pm_lit, hw, pm_cl, pm_C, if_neg e1, if_pos e2, if_neg e3]
    · rw [if_neg e2]
      simp (disch := omega) only [s_X9_often, s_X9_often_37, ↓pm_bd, pm_lit, hw, pm_cl, pm_C, if_neg e1, if_neg e2]
theorem qm_second (P : cr_G) (x : Int32) : s_X9_second x P = some (true, cr_pt (cr_pt P 0 10 (nI 10 * P 0 10 + x)) 0 9 (nI 3)) := by
  simp only [s_X9_second, ↓pm_bd, pm_lit]
theorem qm_more (P : cr_G) (x : Int32) : s_X9_more x P = some (true, cr_pt (cr_pt P 0 11 (nI 10 * P 0 11 + x)) 0 9 (nI 8)) := by
  simp only [s_X9_more, ↓pm_bd, pm_lit]
def clo (P : cr_G) (a T : Nat) : cr_G := cr_pt (cr_pa (cr_pt P 0 9 (nI 0)) 6 (fill (P 6) a T (P 0 10))) 0 12 (nI (a + T))
theorem qm_ends_c {P : cr_G} {T a : Nat} (hT : T ≤ 1000) (ha : a ≤ 90000) (h11 : P 0 11 = nI T) (h12 : P 0 12 = nI a) : s_X9_ends (nI 44) P = some (true, clo P a T) := by
  have hc := qm_close (P := cr_pt P 0 9 (nI 0)) hT ha ((pt_o _ _ (by omega)).trans h11) ((pt_o _ _ (by omega)).trans h12)
  rw [pt_6, pt_o _ _ (show (10 : Nat) ≠ 9 by omega)] at hc
  simp only [s_X9_ends, s_X9_ends_12, s_X9_ends_25, ↓pm_bd, pm_lit, hc, pm_cl, ↓reduceIte, clo]
theorem qm_ends_s (P : cr_G) : s_X9_ends (nI 42) P = some (true, cr_pt P 0 9 (nI 4)) := by
  have n1 : ¬ (42 : Nat) = 44 := by omega
  simp (disch := omega) only [s_X9_ends, s_X9_ends_12, s_X9_ends_25, ↓pm_bd, pm_lit, pm_C, n1, ↓reduceIte]
theorem qm_ends_o (P : cr_G) {c : Nat} (hc : c < 127) (h1 : ¬ c = 44) (h2 : ¬ c = 42) : s_X9_ends (nI c) P = some (false, cr_pt P 0 9 (nI 4)) := by
  simp (disch := omega) only [s_X9_ends, s_X9_ends_12, s_X9_ends_25, ↓pm_bd, pm_lit, pm_C, h1, h2, ↓reduceIte]
theorem clo_k {P : cr_G} (a T : Nat) : kp P (clo P a T) := kp_pt (kp_pa6 (kp_pt (kp_rf P) _ (by omega)) _) _ (by omega)
theorem clo_9 {P : cr_G} (a T : Nat) : clo P a T 0 9 = nI 0 := by
  simp (disch := omega) only [clo, pt_o, pa6_0, pt_i]
theorem clo_13 {P : cr_G} (a T : Nat) : clo P a T 0 13 = P 0 13 := by
  simp (disch := omega) only [clo, pt_o, pa6_0]
theorem clo_12 {P : cr_G} (a T : Nat) : clo P a T 0 12 = nI (a + T) := pt_i _ _ _
theorem clo_6 {P : cr_G} (a T : Nat) : clo P a T 6 = fill (P 6) a T (P 0 10) := by
  rw [clo, pt_6, pm_pa]

theorem goes_s0 {P : cr_G} {x : Int32} {b : Bool} (hw : s_X9_within (x - nI 48) (nI 0) (nI 9) = some b) (h9 : P 0 9 = nI 0) : s_X9_goes x P = (s_X9_first (x - nI 48) P) := by
  simp +decide (disch := omega) only [s_X9_goes, ↓pm_bd, pm_lit, hw, pm_cl, h9, pm_C, cl_eta, cl_eta2, ↓reduceIte]
theorem goes_s1 {P : cr_G} {x : Int32} {b : Bool} (hw : s_X9_within (x - nI 48) (nI 0) (nI 9) = some b) (h9 : P 0 9 = nI 1) : s_X9_goes x P = (if b = true then s_X9_second (x - nI 48) P else s_X9_ends x P) := by
  simp +decide (disch := omega) only [s_X9_goes, ↓pm_bd, pm_lit, hw, pm_cl, h9, pm_C, cl_eta, cl_eta2, ↓reduceIte]
theorem goes_s2 {P : cr_G} {x : Int32} {b : Bool} (hw : s_X9_within (x - nI 48) (nI 0) (nI 9) = some b) (h9 : P 0 9 = nI 2) : s_X9_goes x P = (if x - nI 48 = nI 0 then s_X9_second (x - nI 48) P else s_X9_ends x P) := by
  simp +decide (disch := omega) only [s_X9_goes, ↓pm_bd, pm_lit, hw, pm_cl, h9, pm_C, cl_eta, cl_eta2, ↓reduceIte]
theorem goes_s3 {P : cr_G} {x : Int32} {b : Bool} (hw : s_X9_within (x - nI 48) (nI 0) (nI 9) = some b) (h9 : P 0 9 = nI 3) : s_X9_goes x P = (s_X9_ends x P) := by
  simp +decide (disch := omega) only [s_X9_goes, ↓pm_bd, pm_lit, hw, pm_cl, h9, pm_C, cl_eta, cl_eta2, ↓reduceIte]
theorem goes_s4 {P : cr_G} {x : Int32} {b : Bool} (hw : s_X9_within (x - nI 48) (nI 0) (nI 9) = some b) (h9 : P 0 9 = nI 4) : s_X9_goes x P = (s_X9_often (x - nI 48) P) := by
  simp +decide (disch := omega) only [s_X9_goes, ↓pm_bd, pm_lit, hw, pm_cl, h9, pm_C, cl_eta, cl_eta2, ↓reduceIte]
theorem goes_s5 {P : cr_G} {x : Int32} {b : Bool} (hw : s_X9_within (x - nI 48) (nI 0) (nI 9) = some b) (h9 : P 0 9 = nI 5) : s_X9_goes x P = (if b = true then s_X9_more (x - nI 48) P else some (false, P)) := by
  simp +decide (disch := omega) only [s_X9_goes, ↓pm_bd, pm_lit, hw, pm_cl, h9, pm_C, cl_eta, cl_eta2, ↓reduceIte]
theorem goes_s6 {P : cr_G} {x : Int32} {b : Bool} (hw : s_X9_within (x - nI 48) (nI 0) (nI 9) = some b) (h9 : P 0 9 = nI 6) : s_X9_goes x P = (if b = true then s_X9_more (x - nI 48) P else if x = nI 44 then s_X9_ends x P else some (false, P)) := by
  simp +decide (disch := omega) only [s_X9_goes, ↓pm_bd, pm_lit, hw, pm_cl, h9, pm_C, cl_eta, cl_eta2, ↓reduceIte]
theorem goes_s7 {P : cr_G} {x : Int32} {b : Bool} (hw : s_X9_within (x - nI 48) (nI 0) (nI 9) = some b) {b8 : Bool} (hw8 : s_X9_within (x - nI 48) (nI 0) (nI 8) = some b8) (h9 : P 0 9 = nI 7) : s_X9_goes x P = (if b8 = true then s_X9_more (x - nI 48) P else if x = nI 44 then s_X9_ends x P else some (false, P)) := by
  simp +decide (disch := omega) only [s_X9_goes, ↓pm_bd, pm_lit, hw, hw8, pm_cl, h9, pm_C, cl_eta, cl_eta2, ↓reduceIte]
theorem goes_s8 {P : cr_G} {x : Int32} {b : Bool} (hw : s_X9_within (x - nI 48) (nI 0) (nI 9) = some b) (h9 : P 0 9 = nI 8) : s_X9_goes x P = (if x = nI 44 then s_X9_ends x P else some (false, P)) := by
  simp +decide (disch := omega) only [s_X9_goes, ↓pm_bd, pm_lit, hw, pm_cl, h9, pm_C, cl_eta, cl_eta2, ↓reduceIte]

/-! one letter: wrong on both sides, or right on both -/
def TB (s T : Nat) : Prop := T ≤ 99 ∧ (5 ≤ s → s ≤ 7 → T ≤ 9)
def gF (P : cr_G) (s c : Nat) : Prop := aft (s + 1) c = 0 ∧ ∃ P', s_X9_goes (nI c) P = some (false, P') ∧ kp P P' ∧ P' 0 13 = P 0 13
def gT (P : cr_G) (s c a : Nat) : Prop := ∃ (s' T' a' : Nat) (P' : cr_G), s' ≤ 8 ∧ aft (s + 1) c = s' + 1 ∧ s_X9_goes (nI c) P = some (true, P') ∧ kp P P' ∧ P' 0 13 = P 0 13 ∧ P' 0 9 = nI s' ∧ (s' ≠ 0 → P' 0 11 = nI T') ∧ (s' ≠ 0 → TB s' T') ∧ P' 0 12 = nI a' ∧ a' ≤ a + 100
theorem gF_P {P : cr_G} {s c : Nat} (ha : aft (s + 1) c = 0) (h : s_X9_goes (nI c) P = some (false, P)) : gF P s c := ⟨ha, P, h, kp_rf P, rfl⟩
theorem gF_4 {P : cr_G} {s c : Nat} (ha : aft (s + 1) c = 0) (h : s_X9_goes (nI c) P = some (false, cr_pt P 0 9 (nI 4))) : gF P s c := ⟨ha, _, h, kp_pt (kp_rf P) _ (by omega), pt_o _ _ (by omega)⟩
theorem gF_f {P : cr_G} {s c : Nat} (ha : aft (s + 1) c = 0) (h : s_X9_goes (nI c) P = s_X9_first (nI c - nI 48) P) (hw : s_X9_within (nI c - nI 48) (nI 0) (nI 9) = some false) : gF P s c := by
  obtain ⟨y, hy⟩ := qm_first P (nI c - nI 48)
  rw [hy, hw, pm_cl] at h
  exact ⟨ha, _, h, kp_pt (kp_pt (kp_pt (kp_rf P) _ (by omega)) _ (by omega)) _ (by omega), by simp (disch := omega) only [pt_o]⟩
theorem gF_n {P : cr_G} {s c : Nat} (ha : aft (s + 1) c = 0) (h : s_X9_goes (nI c) P = s_X9_often (nI c - nI 48) P) (hw : s_X9_within (nI c - nI 48) (nI 1) (nI 9) = some false) : gF P s c := by
  obtain ⟨y, hy⟩ := qm_often P (nI c - nI 48)
  rw [hy, hw, pm_cl] at h
  exact ⟨ha, _, h, kp_pt (kp_pt (kp_rf P) _ (by omega)) _ (by omega), by simp (disch := omega) only [pt_o]⟩
theorem gT_c {P : cr_G} {s T a : Nat} (hs : s < 9) (he : edb (s + 1) = true) (hT : T ≤ 99) (ha : a ≤ 90000) (h11 : P 0 11 = nI T) (h12 : P 0 12 = nI a) (h : s_X9_goes (nI 44) P = s_X9_ends (nI 44) P) : gT P s 44 a := by
  rw [qm_ends_c (by omega) ha h11 h12] at h
  exact ⟨0, 0, a + T, _, by omega, by rw [aft44 (s + 1) (by omega), if_pos he], h, clo_k a T, clo_13 a T, clo_9 a T, fun h => absurd rfl h, fun h => absurd rfl h, clo_12 a T, by omega⟩
theorem gT_s {P : cr_G} {s T a : Nat} (hs : 1 ≤ s ∧ s ≤ 3) (hT : T ≤ 99) (h11 : P 0 11 = nI T) (h12 : P 0 12 = nI a) (h : s_X9_goes (nI 42) P = s_X9_ends (nI 42) P) : gT P s 42 a := by
  rw [qm_ends_s] at h
  exact ⟨4, T, a, _, by omega, by rw [aft42 (s + 1) (by omega), if_pos (by omega)], h, kp_pt (kp_rf P) _ (by omega), pt_o _ _ (by omega), pt_i _ _ _, fun _ => (pt_o _ _ (by omega)).trans h11, fun _ => ⟨hT, by omega⟩, (pt_o _ _ (by omega)).trans h12, by omega⟩
theorem gT_2 {P : cr_G} {s c T a : Nat} {x : Int32} (ha : aft (s + 1) c = 4) (hT : T ≤ 99) (h11 : P 0 11 = nI T) (h12 : P 0 12 = nI a) (h : s_X9_goes (nI c) P = s_X9_second x P) : gT P s c a := by
  rw [qm_second] at h
  exact ⟨3, T, a, _, by omega, ha, h, kp_pt (kp_pt (kp_rf P) _ (by omega)) _ (by omega), by simp (disch := omega) only [pt_o], pt_i _ _ _, fun _ => by simp (disch := omega) only [pt_o, h11], fun _ => ⟨hT, by omega⟩, by simp (disch := omega) only [pt_o, h12], by omega⟩
theorem gT_m {P : cr_G} {s c T a d : Nat} (ha : aft (s + 1) c = 9) (hT : T ≤ 9) (hd : d ≤ 9) (h11 : P 0 11 = nI T) (h12 : P 0 12 = nI a) (h : s_X9_goes (nI c) P = s_X9_more (nI d) P) : gT P s c a := by
  rw [qm_more, h11, pk_mul, nI_add] at h
  exact ⟨8, 10 * T + d, a, _, by omega, ha, h, kp_pt (kp_pt (kp_rf P) _ (by omega)) _ (by omega), by simp (disch := omega) only [pt_o], pt_i _ _ _, fun _ => by simp (disch := omega) only [pt_o, pt_i], fun _ => ⟨by omega, by omega⟩, by simp (disch := omega) only [pt_o, h12], by omega⟩
theorem gT_1 {P : cr_G} {a d : Nat} (hd : d ≤ 9) (h12 : P 0 12 = nI a) (h : s_X9_goes (nI (48 + d)) P = s_X9_first (nI d) P) : gT P 0 (48 + d) a := by
  have hb := dig1b d (by omega)
  rw [qm_first_d P hd] at h
  exact ⟨dig 1 d - 1, 1, a, _, by omega, by rw [aftd (0 + 1) (by omega) d (by omega)]; show dig 1 d = _; omega, h, kp_pt (kp_pt (kp_pt (kp_rf P) _ (by omega)) _ (by omega)) _ (by omega), by simp (disch := omega) only [pt_o], pt_i _ _ _, fun _ => by simp (disch := omega) only [pt_o, pt_i], fun _ => ⟨by omega, by omega⟩, by simp (disch := omega) only [pt_o, h12], by omega⟩
theorem gT_n {P : cr_G} {a d : Nat} (h1 : 1 ≤ d) (hd : d ≤ 9) (h12 : P 0 12 = nI a) (h : s_X9_goes (nI (48 + d)) P = s_X9_often (nI d) P) : gT P 4 (48 + d) a := by
  have hb := dig5b d (by omega) h1
  rw [qm_often_d P h1 hd] at h
  exact ⟨dig 5 d - 1, d, a, _, by omega, by rw [aftd (4 + 1) (by omega) d (by omega)]; show dig 5 d = _; omega, h, kp_pt (kp_pt (kp_rf P) _ (by omega)) _ (by omega), by simp (disch := omega) only [pt_o], pt_i _ _ _, fun _ => by simp (disch := omega) only [pt_o, pt_i], fun _ => ⟨by omega, by omega⟩, by simp (disch := omega) only [pt_o, h12], by omega⟩
theorem goes_any {P : cr_G} {s c T a : Nat} (hs : s ≤ 8) (hc : c < 127) (h9 : P 0 9 = nI s) (h11 : s ≠ 0 → P 0 11 = nI T) (hT : s ≠ 0 → TB s T) (h12 : P 0 12 = nI a) (ha : a ≤ 90000) : gF P s c ∨ gT P s c a := by
  rcases let4 c with rfl | rfl | ⟨d, hd, rfl⟩ | ⟨h1, h2, h3⟩
  · have hw := wi09 44 (by omega) (by omega)
    have hw8 := wi08 44 (by omega) (by omega)
    have hv := v48 44 (by omega) (by omega)
    obtain rfl | rfl | rfl | rfl | rfl | rfl | rfl | rfl | rfl : s = 0 ∨ s = 1 ∨ s = 2 ∨ s = 3 ∨ s = 4 ∨ s = 5 ∨ s = 6 ∨ s = 7 ∨ s = 8 := by omega
    · exact Or.inl (gF_f (by decide) (goes_s0 hw h9) hw)
    · exact Or.inr (gT_c (by omega) (by decide) (hT (by omega)).1 ha (h11 (by omega)) h12 ((goes_s1 hw h9).trans (if_neg (by decide))))
    · exact Or.inr (gT_c (by omega) (by decide) (hT (by omega)).1 ha (h11 (by omega)) h12 ((goes_s2 hw h9).trans (if_neg hv)))
    · exact Or.inr (gT_c (by omega) (by decide) (hT (by omega)).1 ha (h11 (by omega)) h12 (goes_s3 hw h9))
    · exact Or.inl (gF_n (by decide) (goes_s4 hw h9) (wi19 44 (by omega) (by omega)))
    · exact Or.inl (gF_P (by decide) ((goes_s5 hw h9).trans (if_neg (by decide))))
    · exact Or.inr (gT_c (by omega) (by decide) (hT (by omega)).1 ha (h11 (by omega)) h12 ((goes_s6 hw h9).trans ((if_neg (by decide)).trans (if_pos rfl))))
    · exact Or.inr (gT_c (by omega) (by decide) (hT (by omega)).1 ha (h11 (by omega)) h12 ((goes_s7 hw hw8 h9).trans ((if_neg (by decide)).trans (if_pos rfl))))
    · exact Or.inr (gT_c (by omega) (by decide) (hT (by omega)).1 ha (h11 (by omega)) h12 ((goes_s8 hw h9).trans (if_pos rfl)))
  · have hw := wi09 42 (by omega) (by omega)
    have hw8 := wi08 42 (by omega) (by omega)
    have hv := v48 42 (by omega) (by omega)
    have hn : ¬ nI 42 = nI 44 := by decide
    obtain rfl | rfl | rfl | rfl | rfl | rfl | rfl | rfl | rfl : s = 0 ∨ s = 1 ∨ s = 2 ∨ s = 3 ∨ s = 4 ∨ s = 5 ∨ s = 6 ∨ s = 7 ∨ s = 8 := by omega
    · exact Or.inl (gF_f (by decide) (goes_s0 hw h9) hw)
    · exact Or.inr (gT_s (by omega) (hT (by omega)).1 (h11 (by omega)) h12 ((goes_s1 hw h9).trans (if_neg (by decide))))
    · exact Or.inr (gT_s (by omega) (hT (by omega)).1 (h11 (by omega)) h12 ((goes_s2 hw h9).trans (if_neg hv)))
    · exact Or.inr (gT_s (by omega) (hT (by omega)).1 (h11 (by omega)) h12 (goes_s3 hw h9))
    · exact Or.inl (gF_n (by decide) (goes_s4 hw h9) (wi19 42 (by omega) (by omega)))
    · exact Or.inl (gF_P (by decide) ((goes_s5 hw h9).trans (if_neg (by decide))))
    · exact Or.inl (gF_P (by decide) ((goes_s6 hw h9).trans ((if_neg (by decide)).trans (if_neg hn))))
    · exact Or.inl (gF_P (by decide) ((goes_s7 hw hw8 h9).trans ((if_neg (by decide)).trans (if_neg hn))))
    · exact Or.inl (gF_P (by decide) ((goes_s8 hw h9).trans (if_neg hn)))
  · have hv := dg_sub d
    have hw : s_X9_within (nI (48 + d) - nI 48) (nI 0) (nI 9) = some true := by rw [hv]; exact within_t (by omega) hd (by omega)
    have hn : ¬ nI (48 + d) = nI 44 := by rw [nI_eq (by omega) (by omega)]; omega
    have hz : nI (48 + d) - nI 48 = nI 0 ↔ d = 0 := by rw [hv]; exact nI_eq (by omega) (by omega)
    have ad : ∀ t, t < 10 → aft t (48 + d) = dig t d := fun t ht => aftd t ht d (by omega)
    obtain rfl | rfl | rfl | rfl | rfl | rfl | rfl | rfl | rfl : s = 0 ∨ s = 1 ∨ s = 2 ∨ s = 3 ∨ s = 4 ∨ s = 5 ∨ s = 6 ∨ s = 7 ∨ s = 8 := by omega
    · exact Or.inr (gT_1 hd h12 ((goes_s0 hw h9).trans (by rw [hv])))
    · exact Or.inr (gT_2 ((ad 2 (by omega)).trans (dig2 d (by omega))) (hT (by omega)).1 (h11 (by omega)) h12 ((goes_s1 hw h9).trans (if_pos rfl)))
    · by_cases e : d = 0
      · exact Or.inr (gT_2 ((ad 3 (by omega)).trans ((dig3 d (by omega)).trans (if_pos e))) (hT (by omega)).1 (h11 (by omega)) h12 ((goes_s2 hw h9).trans (if_pos (hz.mpr e))))
      · exact Or.inl (gF_4 ((ad 3 (by omega)).trans ((dig3 d (by omega)).trans (if_neg e))) ((goes_s2 hw h9).trans ((if_neg (fun h => e (hz.mp h))).trans (qm_ends_o P hc (by omega) (by omega)))))
    · exact Or.inl (gF_4 ((ad 4 (by omega)).trans (dig4 d (by omega))) ((goes_s3 hw h9).trans (qm_ends_o P hc (by omega) (by omega))))
    · by_cases e : d = 0
      · exact Or.inl (gF_n ((ad 5 (by omega)).trans ((dig5 d (by omega)).trans (if_pos e))) (goes_s4 hw h9) (wi19 _ hc (by omega)))
      · exact Or.inr (gT_n (by omega) hd h12 ((goes_s4 hw h9).trans (by rw [hv])))
    · exact Or.inr (gT_m (d := d) ((ad 6 (by omega)).trans (dig6 d (by omega))) ((hT (by omega)).2 (by omega) (by omega)) hd (h11 (by omega)) h12 ((goes_s5 hw h9).trans ((if_pos rfl).trans (by rw [hv]))))
    · exact Or.inr (gT_m (d := d) ((ad 7 (by omega)).trans (dig7 d (by omega))) ((hT (by omega)).2 (by omega) (by omega)) hd (h11 (by omega)) h12 ((goes_s6 hw h9).trans ((if_pos rfl).trans (by rw [hv]))))
    · by_cases e : d ≤ 8
      · have hw8 : s_X9_within (nI (48 + d) - nI 48) (nI 0) (nI 8) = some true := by rw [hv]; exact within_t (by omega) e (by omega)
        exact Or.inr (gT_m (d := d) ((ad 8 (by omega)).trans ((dig8 d (by omega)).trans (if_pos e))) ((hT (by omega)).2 (by omega) (by omega)) hd (h11 (by omega)) h12 ((goes_s7 hw hw8 h9).trans ((if_pos rfl).trans (by rw [hv]))))
      · exact Or.inl (gF_P ((ad 8 (by omega)).trans ((dig8 d (by omega)).trans (if_neg e))) ((goes_s7 hw (wi08 _ hc (by omega)) h9).trans ((if_neg (by decide)).trans (if_neg hn))))
    · exact Or.inl (gF_P ((ad 9 (by omega)).trans (dig9 d (by omega))) ((goes_s8 hw h9).trans (if_neg hn)))
  · have hw := wi09 c hc h3
    have hw8 := wi08 c hc (by omega)
    have hv := v48 c hc (by omega)
    have hn : ¬ nI c = nI 44 := by rw [nI_eq (by omega) (by omega)]; exact h1
    have hz : aft (s + 1) c = 0 := afto h1 h2 h3
    obtain rfl | rfl | rfl | rfl | rfl | rfl | rfl | rfl | rfl : s = 0 ∨ s = 1 ∨ s = 2 ∨ s = 3 ∨ s = 4 ∨ s = 5 ∨ s = 6 ∨ s = 7 ∨ s = 8 := by omega
    · exact Or.inl (gF_f hz (goes_s0 hw h9) hw)
    · exact Or.inl (gF_4 hz ((goes_s1 hw h9).trans ((if_neg (by decide)).trans (qm_ends_o P hc h1 h2))))
    · exact Or.inl (gF_4 hz ((goes_s2 hw h9).trans ((if_neg hv).trans (qm_ends_o P hc h1 h2))))
    · exact Or.inl (gF_4 hz ((goes_s3 hw h9).trans (qm_ends_o P hc h1 h2)))
    · exact Or.inl (gF_n hz (goes_s4 hw h9) (wi19 c hc (by omega)))
    · exact Or.inl (gF_P hz ((goes_s5 hw h9).trans (if_neg (by decide))))
    · exact Or.inl (gF_P hz ((goes_s6 hw h9).trans ((if_neg (by decide)).trans (if_neg hn))))
    · exact Or.inl (gF_P hz ((goes_s7 hw hw8 h9).trans ((if_neg (by decide)).trans (if_neg hn))))
    · exact Or.inl (gF_P hz ((goes_s8 hw h9).trans (if_neg hn)))
