/-! ### what always holds of a row of the model -/
def bd (x : Int32) (B : Nat) : Prop := ∃ v : Nat, v ≤ B ∧ x = nI v
def jC (nT nB nL nP nW h : Nat) (Z : Nat → Int32) : Prop := okn nT nB nL nP nW ∧ Z 70 = nI nT ∧ Z 127 = nI nB ∧ Z 156 = nI nL ∧ Z 145 = nI nP ∧ Z 78 = nI nW ∧ Z 182 = nI h
def jS (Z : Nat → Int32) : Prop := (∃ s : Nat, 1 ≤ s ∧ s ≤ 20 ∧ Z 72 = nI s) ∧ bd (Z 75) 10
def jT (nT : Nat) (Z : Nat → Int32) : Prop := ∀ t, t < nT → bd (Z t) 99 ∧ bd (Z (20 + t)) 50 ∧ bd (Z (30 + t)) 4
def jG (nT g : Nat) (Z : Nat → Int32) : Prop := ∀ t, t < nT → ∃ a b : Nat, Z (50 + t) = nI a ∧ Z (60 + t) = nI b ∧ a + b ≤ 50 * g
def jQ (nT : Nat) (Z : Nat → Int32) : Prop := sI (fun k => Z (177 + k)) 5 = sI (fun t => Z (50 + t)) nT
def jP (nT nP : Nat) (Z : Nat → Int32) : Prop := (∀ k, k < nP → ∃ t, t < nT ∧ Z (146 + k) = nI t) ∧ ∀ k k', k < nP → k' < nP → Z (146 + k) = Z (146 + k') → k = k'
def jK (Z : Nat → Int32) : Prop := bd (Z 140) 99 ∧ ((Z 141 = mI ∧ Z 142 = nI 0) ∨ (Z 141 ≠ mI ∧ ∃ l : Nat, 1 ≤ l ∧ l ≤ 1000 ∧ Z 142 = nI l)) ∧ (Z 144 = mI → Z 143 = nI 0)
def jB (nB : Nat) (Z : Nat → Int32) : Prop := ∃ p : Nat → Nat, (∀ k, k < nB → p k ≤ 99 ∧ Z (128 + k) = nI (p k)) ∧ ∀ k k', k < k' → k' < nB → p k < p k'
def jW (nW : Nat) (Z : Nat → Int32) : Prop := ∀ k, k < nW → bd (Z (79 + k)) 99
def jD (nT : Nat) (Z : Nat → Int32) : Prop := ∀ t, nT ≤ t → t < 10 → Z (30 + t) = nI 0 ∧ Z (40 + t) = nI 0 ∧ Z (50 + t) = nI 0 ∧ Z (60 + t) = nI 0
def J (nT nB nL nP nW h g : Nat) (Z : Nat → Int32) : Prop := jC nT nB nL nP nW h Z ∧ jS Z ∧ jT nT Z ∧ jG nT g Z ∧ jQ nT Z ∧ jP nT nP Z ∧ jK Z ∧ jB nB Z ∧ jW nW Z ∧ jD nT Z
theorem jC_c {nT nB nL nP nW h : Nat} {Z Z' : Nat → Int32} (hC : jC nT nB nL nP nW h Z) (h1 : Z' 70 = Z 70) (h2 : Z' 127 = Z 127) (h3 : Z' 156 = Z 156) (h4 : Z' 145 = Z 145) (h5 : Z' 78 = Z 78) (h6 : Z' 182 = Z 182) : jC nT nB nL nP nW h Z' := by
  obtain ⟨a0, a1, a2, a3, a4, a5, a6⟩ := hC
  exact ⟨a0, h1.trans a1, h2.trans a2, h3.trans a3, h4.trans a4, h5.trans a5, h6.trans a6⟩
theorem jS_c {Z Z' : Nat → Int32} (h : jS Z) (h1 : Z' 72 = Z 72) (h2 : Z' 75 = Z 75) : jS Z' := by
  unfold jS
  rw [h1, h2]
  exact h
theorem jT_c {nT : Nat} {Z Z' : Nat → Int32} (h : jT nT Z) (hn : nT ≤ 10) (hz : ∀ k, (k < 10 ∨ (20 ≤ k ∧ k < 40)) → Z' k = Z k) : jT nT Z' := by
  intro t ht
  rw [hz t (by omega), hz (20 + t) (by omega), hz (30 + t) (by omega)]
  exact h t ht
theorem jG_c {nT g : Nat} {Z Z' : Nat → Int32} (h : jG nT g Z) (hn : nT ≤ 10) (hz : ∀ k, 50 ≤ k ∧ k < 70 → Z' k = Z k) : jG nT g Z' := by
  intro t ht
  rw [hz (50 + t) (by omega), hz (60 + t) (by omega)]
  exact h t ht
theorem jQ_c {nT : Nat} {Z Z' : Nat → Int32} (h : jQ nT Z) (hn : nT ≤ 10) (hz : ∀ k, (50 ≤ k ∧ k < 60) ∨ (177 ≤ k ∧ k < 182) → Z' k = Z k) : jQ nT Z' := by
  unfold jQ at h ⊢
  rw [sI_congr (c := 5) (g := fun k => Z (177 + k)) (fun k hk => hz (177 + k) (by omega)), sI_congr (c := nT) (g := fun t => Z (50 + t)) (fun k hk => hz (50 + k) (by omega))]
  exact h
theorem jP_c {nT nP : Nat} {Z Z' : Nat → Int32} (h : jP nT nP Z) (hn : nP ≤ 10) (hz : ∀ k, 146 ≤ k ∧ k < 156 → Z' k = Z k) : jP nT nP Z' := by
  refine ⟨fun k hk => ?_, fun k k' hk hk' => ?_⟩
  · rw [hz (146 + k) (by omega)]
    exact h.1 k hk
  · rw [hz (146 + k) (by omega), hz (146 + k') (by omega)]
    exact h.2 k k' hk hk'
theorem jK_c {Z Z' : Nat → Int32} (h : jK Z) (hz : ∀ k, 140 ≤ k ∧ k < 145 → Z' k = Z k) : jK Z' := by
  unfold jK
  rw [hz 140 (by omega), hz 141 (by omega), hz 142 (by omega), hz 143 (by omega), hz 144 (by omega)]
  exact h
theorem jB_c {nB : Nat} {Z Z' : Nat → Int32} (h : jB nB Z) (hn : nB ≤ 6) (hz : ∀ k, 128 ≤ k ∧ k < 134 → Z' k = Z k) : jB nB Z' := by
  obtain ⟨p, h1, h2⟩ := h
  refine ⟨p, fun k hk => ?_, h2⟩
  rw [hz (128 + k) (by omega)]
  exact h1 k hk
theorem jW_c {nW : Nat} {Z Z' : Nat → Int32} (h : jW nW Z) (hn : nW ≤ 48) (hz : ∀ k, 79 ≤ k ∧ k < 127 → Z' k = Z k) : jW nW Z' := by
  intro k hk
  rw [hz (79 + k) (by omega)]
  exact h k hk
theorem jD_c {nT : Nat} {Z Z' : Nat → Int32} (h : jD nT Z) (hz : ∀ k, 30 ≤ k ∧ k < 70 → Z' k = Z k) : jD nT Z' := by
  intro t h1 h2
  rw [hz (30 + t) (by omega), hz (40 + t) (by omega), hz (50 + t) (by omega), hz (60 + t) (by omega)]
  exact h t h1 h2
theorem J_c {nT nB nL nP nW h g : Nat} {Z Z' : Nat → Int32} (hJ : J nT nB nL nP nW h g Z) (hz : ∀ k, (k < 10 ∨ (20 ≤ k ∧ k < 40) ∨ (50 ≤ k ∧ k < 73) ∨ (75 ≤ k ∧ k < 76) ∨ (78 ≤ k ∧ k < 134) ∨ (140 ≤ k ∧ k < 157) ∨ (177 ≤ k ∧ k < 183) ∨ (40 ≤ k ∧ k < 50)) → Z' k = Z k) : J nT nB nL nP nW h g Z' := by
  obtain ⟨a1, a2, a3, a4, a5, a6, a7, a8, a9, a10⟩ := hJ
  have hn := a1.1
  exact ⟨jC_c a1 (hz _ (by omega)) (hz _ (by omega)) (hz _ (by omega)) (hz _ (by omega)) (hz _ (by omega)) (hz _ (by omega)), jS_c a2 (hz _ (by omega)) (hz _ (by omega)), jT_c a3 hn.1 (fun k hk => hz k (by omega)), jG_c a4 hn.1 (fun k hk => hz k (by omega)), jQ_c a5 hn.1 (fun k hk => hz k (by omega)), jP_c a6 hn.2.2.2.1 (fun k hk => hz k (by omega)), jK_c a7 (fun k hk => hz k (by omega)), jB_c a8 hn.2.1 (fun k hk => hz k (by omega)), jW_c a9 hn.2.2.2.2 (fun k hk => hz k (by omega)), jD_c a10 (fun k hk => hz k (by omega))⟩
/-! ### winds, power, limits -/
def wv (Z : Nat → Int32) (nW a : Nat) : Int32 := if nW = 0 then nI 8 else Z (79 + a % nW)
theorem wv_bd {nW a : Nat} {Z : Nat → Int32} (h : jW nW Z) : bd (wv Z nW a) 99 := by
  unfold wv
  by_cases e : nW = 0
  · rw [if_pos e]
    exact ⟨8, by omega, rfl⟩
  · rw [if_neg e]
    exact h _ (Nat.mod_lt _ (by omega))
theorem qc_at {nT nB nL nP nW a : Nat} {G : cr_G} {Z : Nat → Int32} (hf : fr nT nB nL nP nW G Z) (hw : Z 78 = nI nW) (hn : nW ≤ 48) (ha : a < 2 ^ 31) : s_X7_at G (nI a) = some (wv Z nW a) := by
  have h1 : G 11 1 = nI nW := (fr_w hf).trans hw
  unfold wv
  by_cases e : nW = 0
  · subst e
    simp (disch := omega) only [s_X7_at, pm_lit, pm_C, h1, Nat.le_refl, ↓reduceIte]
  · have h2 : ¬ nW ≤ 0 := by omega
    have h3 : ¬ a < 0 := by omega
    have h4 : a % nW < nW := Nat.mod_lt _ (by omega)
    simp (disch := omega) only [s_X7_at, pm_lit, pm_C, h1, h2, h3, e, pm_nz, pk_rem, pm_S, pm_gd, ↓reduceIte, fr_wr hf h4]
theorem qm_windAt {nW a : Nat} {M : cr_G} {Z : Nat → Int32} (hw : Z 78 = nI nW) (hn : nW ≤ 48) (ha : a < 2 ^ 31) : s_X9_windAt (cr_pa M 1 Z) (nI a) = some (wv Z nW a) := by
  unfold wv
  by_cases e : nW = 0
  · subst e
    simp (disch := omega) only [s_X9_windAt, pm_pa, pm_lit, pm_C, hw, ↓reduceIte]
  · have h4 : a % nW < nW := Nat.mod_lt _ (by omega)
    simp (disch := omega) only [s_X9_windAt, pm_lit, pm_C, pm_pa, hw, e, pm_nz, pk_rem, pm_S, pm_gd, ↓reduceIte]
theorem cr_min_n {a b : Nat} (ha : a < 2 ^ 31) (hb : b < 2 ^ 31) : cr_min (nI a) (nI b) = nI (min a b) := by
  unfold cr_min
  simp only [nI_ltI hb ha]
  by_cases e : b < a
  · rw [if_pos e, Nat.min_eq_right (by omega)]
  · rw [if_neg e, Nat.min_eq_left (by omega)]
theorem cr_max_n {a b : Nat} (ha : a < 2 ^ 31) (hb : b < 2 ^ 31) : cr_max (nI a) (nI b) = nI (max a b) := by
  unfold cr_max
  simp only [nI_ltI ha hb]
  by_cases e : a < b
  · rw [if_pos e, Nat.max_eq_right (by omega)]
  · rw [if_neg e, Nat.max_eq_left (by omega)]
def fw (r x : Nat) : Nat := if x < 3 ∨ 25 < x then 0 else r * min x 12 / 12
theorem fw_le {r x : Nat} (hr : r ≤ 50) : fw r x ≤ 50 := by
  unfold fw
  split
  · omega
  · have h1 : min x 12 ≤ 12 := Nat.min_le_right _ _
    have h2 : r * min x 12 ≤ 50 * 12 := Nat.mul_le_mul hr h1
    omega
theorem qc_full {t x r : Nat} {G : cr_G} (hr : r ≤ 50) (hx : x ≤ 99) (hG : G (t + 15) 2 = nI r) : s_X5_fullPower t G (nI x) = some (nI (fw r x)) := by
  unfold fw
  by_cases h1 : x < 3
  · simp (disch := omega) only [s_X5_fullPower, pm_lit, pm_C, h1, true_or, ↓reduceIte]
  · by_cases h2 : x ≤ 25
    · have h3 : ¬ 25 < x := by omega
      have h4 : min x 12 ≤ 12 := Nat.min_le_right _ _
      have h5 : r * min x 12 ≤ 50 * 12 := Nat.mul_le_mul hr h4
      simp (disch := omega) only [s_X5_fullPower, pm_lit, pm_C, h1, h2, h3, or_self, hG, cr_min_n, pk_mul, pk_div, ↓reduceIte]
    · have h3 : 25 < x := by omega
      simp (disch := omega) only [s_X5_fullPower, pm_lit, pm_C, h1, h2, h3, or_true, ↓reduceIte]
theorem qm_full {t x r : Nat} {M : cr_G} {Z : Nat → Int32} (ht : t < 10) (hr : r ≤ 50) (hx : x ≤ 99) (hG : Z (20 + t) = nI r) : s_X9_full (cr_pa M 1 Z) (nI t) (nI x) = some (nI (fw r x)) := by
  unfold fw
  by_cases h1 : x < 3
  · simp (disch := omega) only [s_X9_full, pm_lit, pm_C, h1, true_or, ↓reduceIte]
  · by_cases h2 : x ≤ 25
    · have h3 : ¬ 25 < x := by omega
      by_cases h6 : 12 ≤ x
      · have h7 : min x 12 = 12 := by omega
        simp (disch := omega) only [s_X9_full, pm_lit, pm_C, h1, h2, h3, h6, h7, or_self, hG, pm_S, pm_gd, pk_mul, pk_div, ↓reduceIte]
      · have h7 : min x 12 = x := by omega
        have h5 : r * x ≤ 50 * 12 := Nat.mul_le_mul hr (by omega)
        simp (disch := omega) only [s_X9_full, pm_lit, pm_C, h1, h2, h3, h6, h7, or_self, hG, pm_S, pm_gd, pk_mul, pk_div, ↓reduceIte]
    · have h3 : 25 < x := by omega
      simp (disch := omega) only [s_X9_full, pm_lit, pm_C, h1, h2, h3, or_true, ↓reduceIte]
theorem qc_limit {nT nB nL nP nW t : Nat} {G : cr_G} {Z : Nat → Int32} (hf : fr nT nB nL nP nW G Z) (ht : t < nT) : s_X5_limit t G (G 13 0) = some (Z 71 - Z (10 + t) / nI 25) := by
  simp only [s_X5_limit, pm_lit, fr_t1 hf ht, fr_s hf (show 0 < 7 by omega)]
theorem qm_limitOf {t : Nat} {M : cr_G} {Z : Nat → Int32} (ht : t < 10) : s_X9_limitOf (cr_pa M 1 Z) (nI t) = some (Z 71 - Z (10 + t) / nI 25) := by
  simp (disch := omega) only [s_X9_limitOf, pm_lit, pm_S, pm_gd]
/-! ### the way -/
def btw (lo hi : Nat) (m : Int32) (p : Nat → Nat) (nd : Nat → Int32) (k : Nat) : Bool := decide (lo < p k ∧ p k < hi ∧ ¬ nd k ≤ m)
theorem qc_countBetween_6 (G : cr_G) (nB lo hi : Nat) (m : Int32) (p : Nat → Nat) (hn : nB ≤ 6) (hlo : lo ≤ 99) (hhi : hi ≤ 99) (h2 : G 2 2 = nI nB) (h3 : ∀ k, k < nB → p k ≤ 99 ∧ G 3 k = nI (p k)) : ∀ d k n, nB - k = d → d < n → k ≤ nB → s_X0_countBetween_6 G n (nI lo) (nI hi) m (nI (cnt (btw lo hi m p (G 4)) k)) (nI k) = some (nI (cnt (btw lo hi m p (G 4)) nB)) := by
  intro d
  induction d with
  | zero =>
    intro k n hd hn hk
    obtain ⟨n, rfl⟩ : ∃ m, n = m + 1 := ⟨n - 1, by omega⟩
    obtain rfl : k = nB := by omega
    simp (disch := omega) only [s_X0_countBetween_6, pm_S, h2, pm_C, Nat.le_refl, ↓reduceIte]
  | succ d ih =>
    intro k n hd hn hk
    obtain ⟨n, rfl⟩ : ∃ m, n = m + 1 := ⟨n - 1, by omega⟩
    have hck : ¬ nB ≤ k := by omega
    obtain ⟨hp, h3k⟩ := h3 k (by omega)
    have hi9 := ih (k + 1) n (by omega) (by omega) (by omega)
    by_cases e1 : p k ≤ lo
    · rw [cnt_f (by simp only [btw, decide_eq_false_iff_not]; omega)] at hi9
      simp (disch := omega) only [s_X0_countBetween_6, ↓pm_bd, pm_gd, pm_lit, pm_S, pm_C, h2, hck, h3k, e1, ↓reduceIte]
      exact hi9
    · by_cases e2 : hi ≤ p k
      · rw [cnt_f (by simp only [btw, decide_eq_false_iff_not]; omega)] at hi9
        simp (disch := omega) only [s_X0_countBetween_6, ↓pm_bd, pm_gd, pm_lit, pm_S, pm_C, h2, hck, h3k, e1, e2, ↓reduceIte]
        exact hi9
      · by_cases e3 : G 4 k ≤ m
        · rw [cnt_f (by simp [btw, e3])] at hi9
          simp (disch := omega) only [s_X0_countBetween_6, ↓pm_bd, pm_gd, pm_lit, pm_S, pm_C, h2, hck, h3k, e1, e2, e3, ↓reduceIte]
          exact hi9
        · rw [cnt_t (by simp only [btw, decide_eq_true_eq]; exact ⟨by omega, by omega, e3⟩)] at hi9
          simp (disch := omega) only [s_X0_countBetween_6, ↓pm_bd, pm_gd, pm_lit, pm_S, pm_C, h2, hck, h3k, e1, e2, e3, ↓reduceIte]
          exact hi9
theorem qm_hoursOf_39 (M : cr_G) (Z : Nat → Int32) (nB a b bt : Nat) (X : Int32) (p : Nat → Nat) (hn : nB ≤ 6) (ha : a ≤ 99) (hb : b ≤ 99) (hbt : Z 75 = nI bt) (h2 : Z 127 = nI nB) (h3 : ∀ k, k < nB → p k ≤ 99 ∧ Z (128 + k) = nI (p k)) : ∀ d k n, nB - k = d → d < n → k ≤ nB → s_X9_hoursOf_39 (cr_pa M 1 Z) n (nI a) (nI b) (X + nI (cnt (btw (min a b) (max a b) (Z 77) p (fun k => Z (134 + k))) k * bt)) (nI k) = some (X + nI (cnt (btw (min a b) (max a b) (Z 77) p (fun k => Z (134 + k))) nB * bt)) := by
  intro d
  induction d with
  | zero =>
    intro k n hd hn hk
    obtain ⟨n, rfl⟩ : ∃ m, n = m + 1 := ⟨n - 1, by omega⟩
    obtain rfl : k = nB := by omega
    simp (disch := omega) only [s_X9_hoursOf_39, pm_S, h2, pm_C, Nat.le_refl, ↓reduceIte]
  | succ d ih =>
    intro k n hd hn hk
    obtain ⟨n, rfl⟩ : ∃ m, n = m + 1 := ⟨n - 1, by omega⟩
    have hck : ¬ nB ≤ k := by omega
    obtain ⟨hp, h3k⟩ := h3 k (by omega)
    have hi9 := ih (k + 1) n (by omega) (by omega) (by omega)
    have hz : ¬ (1 : Nat) = 0 := by omega
    by_cases e1 : (min a b < p k ∧ p k < max a b)
    · have key : s_X9_hoursOf_39 (cr_pa M 1 Z) (n + 1) (nI a) (nI b) (X + nI (cnt (btw (min a b) (max a b) (Z 77) p (fun k => Z (134 + k))) k * bt)) (nI k) = s_X9_hoursOf_93 (cr_pa M 1 Z) (fun x1a x2a x4a x5a => s_X9_hoursOf_39 (cr_pa M 1 Z) n x1a x2a x4a x5a) (nI a) (nI b) (X + nI (cnt (btw (min a b) (max a b) (Z 77) p (fun k => Z (134 + k))) k * bt)) (nI k) (nI 1) := by
        by_cases e2 : p k ≤ a
        · have e3 : ¬ p k ≤ b := by omega
          have e4 : ¬ a ≤ p k := by omega
          simp (disch := omega) only [s_X9_hoursOf_39, s_X9_hoursOf_76, ↓pm_bd, pm_gd, pm_lit, pm_S, pm_C, h2, hck, h3k, e2, e3, e4, ↓reduceIte]
        · have e3 : p k < b := by omega
          simp (disch := omega) only [s_X9_hoursOf_39, s_X9_hoursOf_76, ↓pm_bd, pm_gd, pm_lit, pm_S, pm_C, h2, hck, h3k, e2, e3, ↓reduceIte]
      rw [key]
      by_cases e5 : Z (134 + k) ≤ Z 77
      · rw [cnt_f (by simp [btw, e5])] at hi9
        simp (disch := omega) only [s_X9_hoursOf_93, ↓pm_bd, pm_gd, pm_lit, pm_S, pm_C, hz, e5, pm_add0, ↓reduceIte]
        exact hi9
      · rw [cnt_t (by simp only [btw, decide_eq_true_eq]; exact ⟨e1.1, e1.2, e5⟩), Nat.succ_mul, ← pm_add, ← Int32.add_assoc] at hi9
        simp (disch := omega) only [s_X9_hoursOf_93, ↓pm_bd, pm_gd, pm_lit, pm_S, pm_C, hz, e5, hbt, ↓reduceIte]
        exact hi9
    · have key : s_X9_hoursOf_39 (cr_pa M 1 Z) (n + 1) (nI a) (nI b) (X + nI (cnt (btw (min a b) (max a b) (Z 77) p (fun k => Z (134 + k))) k * bt)) (nI k) = s_X9_hoursOf_93 (cr_pa M 1 Z) (fun x1a x2a x4a x5a => s_X9_hoursOf_39 (cr_pa M 1 Z) n x1a x2a x4a x5a) (nI a) (nI b) (X + nI (cnt (btw (min a b) (max a b) (Z 77) p (fun k => Z (134 + k))) k * bt)) (nI k) (nI 0) := by
        by_cases e2 : p k ≤ a
        · by_cases e3 : p k ≤ b
          · simp (disch := omega) only [s_X9_hoursOf_39, s_X9_hoursOf_76, ↓pm_bd, pm_gd, pm_lit, pm_S, pm_C, h2, hck, h3k, e2, e3, ↓reduceIte]
          · have e4 : a ≤ p k := by omega
            simp (disch := omega) only [s_X9_hoursOf_39, s_X9_hoursOf_76, ↓pm_bd, pm_gd, pm_lit, pm_S, pm_C, h2, hck, h3k, e2, e3, e4, ↓reduceIte]
        · have e3 : ¬ p k < b := by omega
          by_cases e6 : p k ≤ b
          · simp (disch := omega) only [s_X9_hoursOf_39, s_X9_hoursOf_76, ↓pm_bd, pm_gd, pm_lit, pm_S, pm_C, h2, hck, h3k, e2, e3, e6, ↓reduceIte]
          · have e4 : a ≤ p k := by omega
            simp (disch := omega) only [s_X9_hoursOf_39, s_X9_hoursOf_76, ↓pm_bd, pm_gd, pm_lit, pm_S, pm_C, h2, hck, h3k, e2, e3, e4, e6, ↓reduceIte]
      rw [key]
      rw [cnt_f (by simp only [btw, decide_eq_false_iff_not]; exact fun hh => e1 ⟨hh.1, hh.2.1⟩)] at hi9
      simp (disch := omega) only [s_X9_hoursOf_93, ↓pm_bd, pm_gd, pm_lit, pm_S, pm_C, pm_add0, ↓reduceIte]
      exact hi9
theorem cr_abs_sub {a b : Nat} (ha : a ≤ 99) (hb : b ≤ 99) : cr_abs (nI a - nI b) = nI (max a b - min a b) := by
  unfold cr_abs
  by_cases e : b ≤ a
  · rw [pk_sub e, if_pos (nI_pos' (by omega)), Nat.max_eq_left e, Nat.min_eq_right e]
  · have h1 := pk_sneg (a := a) (b := b) (by omega) (by omega)
    rw [if_neg (Int32.not_le.mpr h1), Nat.max_eq_right (by omega), Nat.min_eq_left (by omega), ← pk_sub (by omega)]
    rw [Int32.zero_sub, Int32.neg_sub]
def wayN (a b s bt c : Nat) : Nat := (max a b - min a b + s - 1) / s + c * bt
theorem q_way {nT nB nL nP nW a b : Nat} {G M : cr_G} {Z : Nat → Int32} (hf : fr nT nB nL nP nW G Z) (hn : nB ≤ 6) (h2 : Z 127 = nI nB) (hS : jS Z) (hB : jB nB Z) (ha : a ≤ 99) (hb : b ≤ 99) : ∃ w : Nat, w ≤ 300 ∧ s_X2_hoursBetween G (nI a) (nI b) = some (nI w) ∧ s_X9_hoursOf (cr_pa M 1 Z) (nI a) (nI b) = some (nI w) := by
  obtain ⟨⟨s, hs1, hs2, hs⟩, bt, hbt1, hbt⟩ := hS
  obtain ⟨p, hp, -⟩ := hB
  have hmn : min a b ≤ 99 := by omega
  have hmx : max a b ≤ 99 := by omega
  have hc4 : cnt (btw (min a b) (max a b) (Z 77) p (fun k => Z (134 + k))) nB = cnt (btw (min a b) (max a b) (Z 77) p (G 4)) nB := cnt_congr (fun k hk => by simp only [btw, fr_bn hf hk])
  have hcl := cnt_le (btw (min a b) (max a b) (Z 77) p (G 4)) nB
  have hcb : cnt (btw (min a b) (max a b) (Z 77) p (G 4)) nB * bt ≤ 6 * 10 := Nat.mul_le_mul (by omega) hbt1
  have hdv : (max a b - min a b + s - 1) / s ≤ max a b - min a b + s - 1 := Nat.div_le_self _ _
  have e3 := qc_countBetween_6 G nB (min a b) (max a b) (Z 77) p hn hmn hmx ((fr_b hf).trans h2) (fun k hk => ⟨(hp k hk).1, (fr_bp hf hk).trans (hp k hk).2⟩) nB 0 1200 rfl (by omega) (by omega)
  have e4 := qm_hoursOf_39 M Z nB a b bt (nI ((max a b - min a b + s - 1) / s)) p hn ha hb hbt h2 hp nB 0 1200 rfl (by omega) (by omega)
  simp only [cnt, Nat.zero_mul, Nat.add_zero, pm_add, hc4] at e3 e4
  refine ⟨(max a b - min a b + s - 1) / s + cnt (btw (min a b) (max a b) (Z 77) p (G 4)) nB * bt, by omega, ?_, ?_⟩
  · have h1 : max 1 s = s := by omega
    simp (disch := omega) only [s_X2_hoursBetween, s_X0_countBetween, ↓pm_bd, pm_lit, fr_s hf (show 1 < 7 by omega), fr_s hf (show 6 < 7 by omega), fr_s hf (show 4 < 7 by omega), Nat.reduceAdd, hs, hbt, cr_max_n, cr_min_n, cr_abs_sub, h1, e3, pm_cl, pm_nz, pm_gd, pm_S, pk_div, pk_mul]
  · by_cases e : b ≤ a
    · have h1 : max a b = a := by omega
      have h5 : min a b = b := by omega
      rw [h1, h5] at e4 ⊢
      simp (disch := omega) only [s_X9_hoursOf, s_X9_hoursOf_14, ↓pm_bd, pm_lit, pm_C, e, hs, pm_nz, pm_gd, pm_S, pk_div, e4, ↓reduceIte]
    · have h1 : max a b = b := by omega
      have h5 : min a b = a := by omega
      rw [h1, h5] at e4 ⊢
      simp (disch := omega) only [s_X9_hoursOf, s_X9_hoursOf_14, ↓pm_bd, pm_lit, pm_C, e, hs, pm_nz, pm_gd, pm_S, pk_div, e4, ↓reduceIte]
