/-! ### floats: quotients of whole numbers, powers of two, bits (by the library's laws of rounding) -/
def flW (f : FP.Core.Fmt) : Prop := FP.Core.Good f ∧ f.qmin ≤ -2 * (f.p : Int) - 64 ∧ 64 ≤ f.qmax
theorem flW_32 : flW FP.Core.b32 := ⟨FP.Core.good_b32, by decide, by decide⟩
theorem flW_64 : flW FP.Core.b64 := ⟨FP.Core.good_b64, by decide, by decide⟩
theorem fl_tl (f : FP.Core.Fmt) : f.tails = 2 ^ (f.p - 1) := rfl
theorem fl_2t {f : FP.Core.Fmt} (hf : flW f) : 2 ^ f.p = 2 * f.tails := FP.Core.two_tails hf.1
theorem fl_p {f : FP.Core.Fmt} (hf : flW f) : 2 ≤ f.p := hf.1.2
theorem fl_norm {f : FP.Core.Fmt} (hf : flW f) {t j : Nat} {q : Int} (h0 : 0 < t) (ht : t < 2 ^ f.p) (hj : j = f.p - 1 - t.log2) (h1 : f.qmin ≤ q - (j : Int)) (h2 : q - (j : Int) ≤ f.qmax) : FP.Core.round f (.fin false t q) = .fin false (t * 2 ^ j) (q - (j : Int)) ∧ f.tails ≤ t * 2 ^ j ∧ t * 2 ^ j < 2 ^ f.p := by
  have hl : t.log2 < f.p := (Nat.log2_lt (by omega)).mpr ht
  have a1 : 2 ^ t.log2 ≤ t := Nat.log2_self_le (by omega)
  have a2 : t < 2 ^ (t.log2 + 1) := Nat.lt_log2_self
  have b1 : f.tails ≤ t * 2 ^ j := by
    rw [fl_tl, show f.p - 1 = t.log2 + j by omega, Nat.pow_add]
    exact Nat.mul_le_mul_right _ a1
  have b2 : t * 2 ^ j < 2 ^ f.p := by
    rw [show f.p = t.log2 + 1 + j by omega, Nat.pow_add]
    exact Nat.mul_lt_mul_of_pos_right a2 (Nat.two_pow_pos j)
  refine ⟨?_, b1, b2⟩
  refine FP.Core.roundRatio_exact (f := f) hf.1 (s := false) (A := t) (B := 1) (c := t * 2 ^ j) (e := q) (q := q - (j : Int)) (by omega) ⟨b2, h1, h2, Or.inr b1⟩ ?_
  rw [show (q - (q - (j : Int))).toNat = j by omega, show (q - (j : Int) - q).toNat = 0 by omega, Nat.pow_zero, Nat.mul_one, Nat.mul_one]
/-- times a power of two -/
theorem fl_mulp {f : FP.Core.Fmt} (hf : flW f) {c : Nat} {q r q' : Int} (hc1 : f.tails ≤ c) (hc2 : c < 2 ^ f.p) (hq' : q' = q + r + ((f.p : Int) - 1)) (h1 : f.qmin ≤ q') (h2 : q' ≤ f.qmax) : FP.Core.round f (FP.Core.exactProduct (.fin false c q) (.fin false f.tails r)) = .fin false c q' := by
  have hp := fl_p hf
  refine FP.Core.roundRatio_exact (f := f) hf.1 (s := false) (A := c * f.tails) (B := 1) (c := c) (e := q + r) (q := q') (by omega) ⟨hc2, h1, h2, Or.inr hc1⟩ ?_
  rw [show (q + r - q').toNat = 0 by omega, show (q' - (q + r)).toNat = f.p - 1 by omega, Nat.pow_zero, Nat.mul_one, Nat.mul_one, fl_tl]
/-- over a power of two -/
theorem fl_divp {f : FP.Core.Fmt} (hf : flW f) {c : Nat} {q r q' : Int} (hc1 : f.tails ≤ c) (hc2 : c < 2 ^ f.p) (hq' : q' = q - r - ((f.p : Int) - 1)) (h1 : f.qmin ≤ q') (h2 : q' ≤ f.qmax) : FP.Core.quotient f (.fin false c q) (.fin false f.tails r) = .fin false c q' := by
  have hp := fl_p hf
  have ht := FP.Core.tails_pos f
  have hq : FP.Core.quotient f (.fin false c q) (.fin false f.tails r) = FP.Core.roundRatio f false c f.tails (q - r) := by
    show (if f.tails = 0 then _ else _) = _
    rw [if_neg (by omega)]
    rfl
  rw [hq]
  refine FP.Core.roundRatio_exact (f := f) hf.1 (s := false) (A := c) (B := f.tails) (c := c) (e := q - r) (q := q') ht ⟨hc2, h1, h2, Or.inr hc1⟩ ?_
  rw [show (q - r - q').toNat = f.p - 1 by omega, show (q' - (q - r)).toNat = 0 by omega, Nat.pow_zero, Nat.mul_one, fl_tl]
theorem fl_log {f : FP.Core.Fmt} (hf : flW f) {c : Nat} (hc1 : f.tails ≤ c) (hc2 : c < 2 ^ f.p) : c.log2 = f.p - 1 := by
  have ht := FP.Core.tails_pos f
  have hp := fl_p hf
  refine (Nat.log2_eq_iff (by omega)).mpr ⟨hc1, ?_⟩
  rw [show f.p - 1 + 1 = f.p by omega]
  exact hc2
theorem fl_settle {f : FP.Core.Fmt} (hf : flW f) {n : Nat} {q : Int} (h1 : f.tails ≤ n) (h2 : n ≤ 2 ^ f.p) (hq : q + 1 ≤ f.qmax) : ∃ (m : Nat) (q' : Int), FP.Core.settle f false n q = .fin false m q' ∧ f.tails ≤ m ∧ m < 2 ^ f.p ∧ ((q' = q ∧ m = n) ∨ (q' = q + 1 ∧ n = 2 ^ f.p)) := by
  have h3 := fl_2t hf
  have ht := FP.Core.tails_pos f
  by_cases e : n < 2 ^ f.p
  · refine ⟨n, q, ?_, h1, e, Or.inl ⟨rfl, rfl⟩⟩
    unfold FP.Core.settle FP.Core.bound
    rw [if_pos e, if_pos (by omega)]
  · refine ⟨f.tails, q + 1, ?_, Nat.le_refl _, by omega, Or.inr ⟨rfl, by omega⟩⟩
    unfold FP.Core.settle FP.Core.bound
    rw [if_neg e, if_pos hq]
/-- a quotient of two normal numbers -/
theorem fl_div {f : FP.Core.Fmt} (hf : flW f) {A B : Nat} {q1 q2 : Int} (hA1 : f.tails ≤ A) (hA2 : A < 2 ^ f.p) (hB1 : f.tails ≤ B) (hB2 : B < 2 ^ f.p) (he1 : -64 ≤ q1 - q2) (he2 : q1 - q2 ≤ 60) : ∃ (n : Nat) (q' : Int), FP.Core.quotient f (.fin false A q1) (.fin false B q2) = .fin false n q' ∧ f.tails ≤ n ∧ n < 2 ^ f.p ∧ q1 - q2 - (f.p : Int) ≤ q' ∧ q' ≤ q1 - q2 - (f.p : Int) + 2 ∧ (A ≤ B → q' ≤ q1 - q2 - (f.p : Int) + 1) := by
  obtain ⟨hg, hm1, hm2⟩ := hf
  have hf : flW f := ⟨hg, hm1, hm2⟩
  have ht := FP.Core.tails_pos f
  have h2t := fl_2t hf
  have hp := fl_p hf
  have hq : FP.Core.quotient f (.fin false A q1) (.fin false B q2) = FP.Core.roundAt f false A B (q1 - q2) (FP.Core.quantum f A B (q1 - q2)) := by
    show (if B = 0 then _ else FP.Core.roundRatio f (false != false) A B (q1 - q2)) = _
    rw [if_neg (by omega)]
    show (if A = 0 then _ else _) = _
    rw [if_neg (by omega)]
    rfl
  have hlead : FP.Core.leading A B = if B ≤ A then 0 else -1 := by
    unfold FP.Core.leading
    rw [fl_log hf hA1 hA2, fl_log hf hB1 hB2, Int.sub_self]
    show (if B * 1 ≤ A * 1 then (0 : Int) else 0 - 1) = _
    rw [Nat.mul_one, Nat.mul_one]
    rfl
  by_cases e : B ≤ A
  · rw [if_pos e] at hlead
    have hqm : FP.Core.quantum f A B (q1 - q2) = q1 - q2 - (f.p : Int) + 1 := by
      unfold FP.Core.quantum
      rw [hlead]
      omega
    have hn1 : f.tails ≤ FP.Core.nearest (A * 2 ^ (f.p - 1)) B := FP.Core.nearest_ge (by omega) (by rw [fl_tl, Nat.mul_comm]; exact Nat.mul_le_mul_right _ e)
    have hn2 : FP.Core.nearest (A * 2 ^ (f.p - 1)) B ≤ 2 ^ f.p := FP.Core.nearest_le (by omega) (by
      rw [h2t, ← fl_tl, Nat.mul_comm 2, Nat.mul_assoc, Nat.mul_comm A]
      exact Nat.mul_le_mul_left _ (by omega))
    obtain ⟨m, q', e1, e2, e3, e4⟩ := fl_settle hf hn1 hn2 (show q1 - q2 - (f.p : Int) + 1 + 1 ≤ f.qmax by omega)
    refine ⟨m, q', ?_, e2, e3, by omega, by omega, fun hab => ?_⟩
    · rw [hq, hqm]
      unfold FP.Core.roundAt FP.Core.unitsNum FP.Core.unitsDen
      rw [show (q1 - q2 - (q1 - q2 - (f.p : Int) + 1)).toNat = f.p - 1 by omega, show (q1 - q2 - (f.p : Int) + 1 - (q1 - q2)).toNat = 0 by omega, Nat.pow_zero, Nat.mul_one]
      exact e1
    · rcases e4 with ⟨x, -⟩ | ⟨x, y⟩
      · omega
      · exfalso
        obtain rfl : A = B := by omega
        rw [Nat.mul_comm, FP.Core.nearest_exact _ (by omega), ← fl_tl] at y
        omega
  · rw [if_neg e] at hlead
    have hqm : FP.Core.quantum f A B (q1 - q2) = q1 - q2 - (f.p : Int) := by
      unfold FP.Core.quantum
      rw [hlead]
      omega
    have hn1 : f.tails ≤ FP.Core.nearest (A * 2 ^ f.p) B := FP.Core.nearest_ge (by omega) (by
      rw [h2t, ← Nat.mul_assoc, Nat.mul_comm f.tails]
      exact Nat.mul_le_mul_right _ (by omega))
    have hn2 : FP.Core.nearest (A * 2 ^ f.p) B ≤ 2 ^ f.p := FP.Core.nearest_le (by omega) (by
      rw [Nat.mul_comm]
      exact Nat.mul_le_mul_left _ (by omega))
    obtain ⟨m, q', e1, e2, e3, e4⟩ := fl_settle hf hn1 hn2 (show q1 - q2 - (f.p : Int) + 1 ≤ f.qmax by omega)
    refine ⟨m, q', ?_, e2, e3, by omega, by omega, fun hab => by omega⟩
    rw [hq, hqm]
    unfold FP.Core.roundAt FP.Core.unitsNum FP.Core.unitsDen
    rw [show (q1 - q2 - (q1 - q2 - (f.p : Int))).toNat = f.p by omega, show (q1 - q2 - (f.p : Int) - (q1 - q2)).toNat = 0 by omega, Nat.pow_zero, Nat.mul_one]
    exact e1
/-- less one -/
theorem fl_sub1 {f : FP.Core.Fmt} {c : Nat} {q : Int} (hc : f.tails ≤ c) : FP.Core.exactSum (.fin false c q) (FP.Core.negate (.fin false f.tails q)) = .fin false (c - f.tails) q := by
  have hv : FP.Core.sumUnits false c q true f.tails q (min q q) = ((c - f.tails : Nat) : Int) := by
    unfold FP.Core.sumUnits FP.Core.inUnits
    rw [Int.min_self, Int.sub_self]
    show ((c * 1 : Nat) : Int) + -((f.tails * 1 : Nat) : Int) = _
    omega
  show FP.Core.Datum.fin (FP.Core.sumSign false true (FP.Core.sumUnits false c q true f.tails q (min q q))) (FP.Core.sumUnits false c q true f.tails q (min q q)).natAbs (min q q) = _
  rw [hv, Int.min_self, Int.natAbs_natCast]
  have hs : FP.Core.sumSign false true ((c - f.tails : Nat) : Int) = false := by
    unfold FP.Core.sumSign
    by_cases e : ((c - f.tails : Nat) : Int) = 0
    · rw [if_pos e]; rfl
    · rw [if_neg e]
      exact decide_eq_false (by omega)
  rw [hs]
/-- a fraction, times its unit, as a whole number -/
theorem fl_frac {f : FP.Core.Fmt} (hf : flW f) {t : Nat} {lo hi : Int} (ht : t < f.tails) (hlo : lo ≤ 0) (hhi : (t : Int) ≤ hi) : (∃ (c : Nat) (q : Int), FP.Core.round f (.fin false t (-((f.p : Int) - 1))) = .fin false c q) ∧ (∃ (c : Nat) (q : Int), FP.Core.round f (FP.Core.exactProduct (FP.Core.round f (.fin false t (-((f.p : Int) - 1)))) (.fin false f.tails 0)) = .fin false c q) ∧ FP.Core.toInt lo hi (FP.Core.round f (FP.Core.exactProduct (FP.Core.round f (.fin false t (-((f.p : Int) - 1)))) (.fin false f.tails 0))) = (t : Int) := by
  obtain ⟨hg, hm1, hm2⟩ := hf
  have hf : flW f := ⟨hg, hm1, hm2⟩
  have h2t := fl_2t hf
  have hp := fl_p hf
  by_cases e : t = 0
  · subst e
    have h1 : FP.Core.round f (.fin false 0 (-((f.p : Int) - 1))) = .fin false 0 f.qmin := by
      show FP.Core.roundRatio f false 0 1 (-((f.p : Int) - 1)) = _
      unfold FP.Core.roundRatio
      exact if_pos rfl
    have h2 : FP.Core.round f (FP.Core.exactProduct (.fin false 0 f.qmin) (.fin false f.tails 0)) = .fin false 0 f.qmin := by
      show FP.Core.roundRatio f (false != false) (0 * f.tails) 1 (f.qmin + 0) = _
      unfold FP.Core.roundRatio
      exact if_pos (Nat.zero_mul _)
    rw [h1, h2]
    refine ⟨⟨_, _, rfl⟩, ⟨_, _, rfl⟩, ?_⟩
    show max lo (min hi (FP.Core.signed false (0 * 2 ^ f.qmin.toNat / 2 ^ (-f.qmin).toNat))) = 0
    rw [Nat.zero_mul, Nat.zero_div]
    show max lo (min hi 0) = 0
    omega
  · obtain ⟨a1, a2, a3⟩ := fl_norm hf (t := t) (j := f.p - 1 - t.log2) (q := -((f.p : Int) - 1)) (by omega) (by omega) rfl (by omega) (by omega)
    generalize f.p - 1 - t.log2 = j at a1 a2 a3
    by_cases hj : j < f.p
    · have h2 := fl_mulp hf (q := -((f.p : Int) - 1) - (j : Int)) (r := 0) (q' := -(j : Int)) a2 a3 (by omega) (by omega) (by omega)
      rw [a1, h2]
      refine ⟨⟨_, _, rfl⟩, ⟨_, _, rfl⟩, ?_⟩
      show max lo (min hi (FP.Core.signed false (t * 2 ^ j * 2 ^ (-(j : Int)).toNat / 2 ^ (- -(j : Int)).toNat))) = (t : Int)
      rw [show (-(j : Int)).toNat = 0 by omega, show (- -(j : Int)).toNat = j by omega, Nat.pow_zero, Nat.mul_one, Nat.mul_div_cancel _ (Nat.two_pow_pos j)]
      show max lo (min hi (t : Int)) = (t : Int)
      omega
    · exfalso
      have h5 : 2 ^ f.p ≤ 2 ^ j := Nat.pow_le_pow_right (by omega) (by omega)
      have h6 : 1 * 2 ^ j ≤ t * 2 ^ j := Nat.mul_le_mul_right _ (by omega)
      omega
/-- comparisons -/
theorem fl_lt {f : FP.Core.Fmt} (hf : flW f) {c : Nat} {q r : Int} (hc2 : c < 2 ^ f.p) (h : q < r) : FP.Core.order (.fin false c q) (.fin false f.tails r) = some .lt := by
  have h2t := fl_2t hf
  show some (compare ((FP.Core.inUnits c q (min q r) : Nat) : Int) ((FP.Core.inUnits f.tails r (min q r) : Nat) : Int)) = some .lt
  unfold FP.Core.inUnits
  rw [Int.min_eq_left (Int.le_of_lt h), Int.sub_self]
  have h1 : 2 ^ 1 ≤ 2 ^ (r - q).toNat := Nat.pow_le_pow_right (by omega) (by omega)
  have h3 : f.tails * 2 ^ 1 ≤ f.tails * 2 ^ (r - q).toNat := Nat.mul_le_mul_left _ h1
  have h4 : ((c * 2 ^ (0 : Int).toNat : Nat) : Int) < ((f.tails * 2 ^ (r - q).toNat : Nat) : Int) := by
    show ((c * 1 : Nat) : Int) < _
    omega
  rw [show compare ((c * 2 ^ (0 : Int).toNat : Nat) : Int) ((f.tails * 2 ^ (r - q).toNat : Nat) : Int) = .lt from if_pos h4]
theorem fl_ge {f : FP.Core.Fmt} {c : Nat} {q r : Int} (hc1 : f.tails ≤ c) (h : r ≤ q) : FP.Core.order (.fin false c q) (.fin false f.tails r) = some .gt ∨ FP.Core.order (.fin false c q) (.fin false f.tails r) = some .eq := by
  show some (compare ((FP.Core.inUnits c q (min q r) : Nat) : Int) ((FP.Core.inUnits f.tails r (min q r) : Nat) : Int)) = some .gt ∨ some (compare ((FP.Core.inUnits c q (min q r) : Nat) : Int) ((FP.Core.inUnits f.tails r (min q r) : Nat) : Int)) = some .eq
  unfold FP.Core.inUnits
  rw [Int.min_eq_right h, Int.sub_self]
  have h1 : 1 ≤ 2 ^ (q - r).toNat := Nat.two_pow_pos _
  have h3 : f.tails * 1 ≤ c * 2 ^ (q - r).toNat := Nat.mul_le_mul hc1 h1
  have h4 : ¬ ((c * 2 ^ (q - r).toNat : Nat) : Int) < ((f.tails * 2 ^ (0 : Int).toNat : Nat) : Int) := by
    show ¬ _ < ((f.tails * 1 : Nat) : Int)
    omega
  by_cases e : ((c * 2 ^ (q - r).toNat : Nat) : Int) = ((f.tails * 2 ^ (0 : Int).toNat : Nat) : Int)
  · exact Or.inr (congrArg some ((if_neg h4).trans (if_pos e)))
  · exact Or.inl (congrArg some ((if_neg h4).trans (if_neg e)))
theorem fl_gt0 {c : Nat} {q r : Int} (hc : 0 < c) : FP.Core.order (.fin false c q) (.fin false 0 r) = some .gt := by
  show some (compare ((FP.Core.inUnits c q (min q r) : Nat) : Int) ((FP.Core.inUnits 0 r (min q r) : Nat) : Int)) = some .gt
  unfold FP.Core.inUnits
  rw [Nat.zero_mul]
  have h1 : 1 ≤ 2 ^ (q - min q r).toNat := Nat.two_pow_pos _
  have h3 : 1 * 1 ≤ c * 2 ^ (q - min q r).toNat := Nat.mul_le_mul hc h1
  have h4 : ¬ ((c * 2 ^ (q - min q r).toNat : Nat) : Int) < ((0 : Nat) : Int) := by omega
  have h5 : ¬ ((c * 2 ^ (q - min q r).toNat : Nat) : Int) = ((0 : Nat) : Int) := by omega
  rw [FP.Core.compare_ite, if_neg h4, if_neg h5]
/-- a whole number -/
theorem fl_int {f : FP.Core.Fmt} (hf : flW f) {a : Nat} (h0 : 0 < a) (ha : a < 2 ^ f.p) : FP.Core.round f (FP.Core.ofInt (a : Int)) = .fin false (a * 2 ^ (f.p - 1 - a.log2)) (-((f.p - 1 - a.log2 : Nat) : Int)) ∧ f.tails ≤ a * 2 ^ (f.p - 1 - a.log2) ∧ a * 2 ^ (f.p - 1 - a.log2) < 2 ^ f.p := by
  obtain ⟨hg, hm1, hm2⟩ := hf
  have hf : flW f := ⟨hg, hm1, hm2⟩
  have h1 := fl_norm hf (t := a) (j := f.p - 1 - a.log2) (q := 0) h0 ha rfl (by omega) (by omega)
  have h2 : FP.Core.ofInt (a : Int) = .fin false a 0 := by
    show FP.Core.Datum.fin (decide ((a : Int) < 0)) (a : Int).natAbs 0 = _
    rw [decide_eq_false (by omega), Int.natAbs_natCast]
  rw [h2]
  rw [Int.zero_sub] at h1
  exact h1
/-- a quotient of whole numbers -/
theorem fl_quo {f : FP.Core.Fmt} (hf : flW f) {a b : Nat} (ha0 : 0 < a) (ha : a < 2 ^ f.p) (hb0 : 0 < b) (hb : b < 2 ^ f.p) (ha9 : a < 2 ^ 31) (hb9 : b < 2 ^ 31) : ∃ (n : Nat) (q : Int), FP.Core.quotient f (FP.Core.round f (FP.Core.ofInt (a : Int))) (FP.Core.round f (FP.Core.ofInt (b : Int))) = .fin false n q ∧ f.tails ≤ n ∧ n < 2 ^ f.p ∧ -32 - (f.p : Int) ≤ q ∧ q ≤ 34 - (f.p : Int) ∧ (a ≤ b → q ≤ 1 - (f.p : Int)) := by
  obtain ⟨a1, a2, a3⟩ := fl_int hf ha0 ha
  obtain ⟨b1, b2, b3⟩ := fl_int hf hb0 hb
  have la : a.log2 < f.p := (Nat.log2_lt (by omega)).mpr ha
  have lb : b.log2 < f.p := (Nat.log2_lt (by omega)).mpr hb
  have la9 : a.log2 < 31 := (Nat.log2_lt (by omega)).mpr ha9
  have lb9 : b.log2 < 31 := (Nat.log2_lt (by omega)).mpr hb9
  rw [a1, b1]
  obtain ⟨n, q, e1, e2, e3, e4, e5, e6⟩ := fl_div hf (q1 := -((f.p - 1 - a.log2 : Nat) : Int)) (q2 := -((f.p - 1 - b.log2 : Nat) : Int)) a2 a3 b2 b3 (by omega) (by omega)
  refine ⟨n, q, e1, e2, e3, by omega, by omega, fun hab => ?_⟩
  have hll : a.log2 ≤ b.log2 := by
    refine (Nat.le_log2 (by omega)).mpr (Nat.le_trans (Nat.log2_self_le (by omega)) hab)
  by_cases e : a.log2 = b.log2
  · have h9 := e6 (by rw [e]; exact Nat.mul_le_mul_right _ hab)
    omega
  · omega
