/-! ### wind and way -/
theorem l_wind {nW a : Nat} {K G : cr_G} {Z : Nat → Int32} (hA : aW nW (K 0) Z) (hw : Z 78 = nI nW) (hn : nW ≤ 48) (ha : a < 2 ^ 31) : s_L_wind K G (nI a) = some (wv Z nW a) := by
  have h0 : K 0 0 = nI nW := (hA 0 (by omega)).trans hw
  unfold wv
  by_cases e : nW = 0
  · subst e
    simp (disch := omega) only [s_L_wind, pm_lit, h0, ↓reduceIte]
  · have hm : a % nW < nW := Nat.mod_lt _ (by omega)
    have hr : K 0 (1 + a % nW) = Z (79 + a % nW) := by rw [hA _ (by omega), show 78 + (1 + a % nW) = 79 + a % nW by omega]
    simp (disch := omega) only [s_L_wind, pm_lit, h0, pm_C, e, pm_nz, pm_gd, pk_rem, pm_S, hr, ↓reduceIte]
theorem l_abs {a b : Nat} (ha : a ≤ 99) (hb : b ≤ 99) : s_L_abs (nI a - nI b) = some (nI (max a b - min a b)) := by
  unfold s_L_abs
  by_cases e : b ≤ a
  · rw [pk_sub e, if_pos (nI_pos' (by omega)), Nat.max_eq_left e, Nat.min_eq_right e]
  · have h1 := pk_sneg (a := a) (b := b) (by omega) (by omega)
    rw [if_neg (Int32.not_le.mpr h1), Nat.max_eq_right (by omega), Nat.min_eq_left (by omega), Int32.neg_sub, pk_sub (by omega)]
theorem l_neg {m : Nat} (h0 : 0 < m) (hm : m < 2 ^ 30) : ¬ (0 : Int32) ≤ -(nI m) := by
  have h := pk_sneg (a := 0) (b := m) hm h0
  rw [show nI 0 = (0 : Int32) from rfl, Int32.zero_sub] at h
  exact Int32.not_le.mpr h
theorem l_dn {a p : Nat} (h : p < a) : nI p - nI a = -(nI (a - p)) := by
  rw [← pk_sub (by omega), Int32.neg_sub]
theorem l_sgn_n {a b p : Nat} (ha : a ≤ 99) (hb : b ≤ 99) (hp : p ≤ 99) (h : min a b < p ∧ p < max a b) : ¬ (0 : Int32) ≤ (nI p - nI a) * (nI p - nI b) := by
  by_cases e : a < p
  · have e2 : p < b := by omega
    rw [pk_sub (by omega), l_dn e2, Int32.mul_neg, pk_mul]
    have h1 : (p - a) * (b - p) ≤ 99 * 99 := Nat.mul_le_mul (by omega) (by omega)
    have h2 : 0 < (p - a) * (b - p) := Nat.mul_pos (by omega) (by omega)
    exact l_neg h2 (by omega)
  · have e2 : p < a := by omega
    rw [l_dn e2, pk_sub (by omega), Int32.neg_mul, pk_mul]
    have h1 : (a - p) * (p - b) ≤ 99 * 99 := Nat.mul_le_mul (by omega) (by omega)
    have h2 : 0 < (a - p) * (p - b) := Nat.mul_pos (by omega) (by omega)
    exact l_neg h2 (by omega)
theorem l_sgn_p {a b p : Nat} (ha : a ≤ 99) (hb : b ≤ 99) (hp : p ≤ 99) (h : ¬ (min a b < p ∧ p < max a b)) : (0 : Int32) ≤ (nI p - nI a) * (nI p - nI b) := by
  by_cases e : a ≤ p
  · by_cases e2 : b ≤ p
    · rw [pk_sub e, pk_sub e2, pk_mul]
      have h1 : (p - a) * (p - b) ≤ 99 * 99 := Nat.mul_le_mul (by omega) (by omega)
      exact nI_pos' (by omega)
    · have e3 : p = a := by omega
      subst e3
      rw [pk_sub (by omega), Nat.sub_self, show nI 0 = (0 : Int32) from rfl, Int32.zero_mul]
      exact Int32.le_refl _
  · by_cases e2 : b ≤ p
    · have e3 : p = b := by omega
      subst e3
      rw [pk_sub (a := p) (b := p) (by omega), Nat.sub_self, show nI 0 = (0 : Int32) from rfl, Int32.mul_zero]
      exact Int32.le_refl _
    · rw [l_dn (show p < a by omega), l_dn (show p < b by omega), Int32.neg_mul, Int32.mul_neg, Int32.neg_neg, pk_mul]
      have h1 : (a - p) * (b - p) ≤ 99 * 99 := Nat.mul_le_mul (by omega) (by omega)
      exact nI_pos' (by omega)
theorem l_way_33 (K G : cr_G) (nB a b bt : Nat) (p : Nat → Nat) (hn : nB ≤ 6) (ha : a ≤ 99) (hb : b ≤ 99) (hbt : K 1 4 = nI bt) (h8 : G 3 8 = nI nB) (hp : ∀ k, k < nB → p k ≤ 99 ∧ K 2 (2 * k) = nI (p k)) (X : Int32) : ∀ d k n, nB - k = d → d < n → k ≤ nB → s_L_way_33 K G n (nI a) (nI b) (X + nI (cnt (btw (min a b) (max a b) (K 1 6) p (fun k => K 2 (2 * k + 1))) k * bt)) (nI k) = some (X + nI (cnt (btw (min a b) (max a b) (K 1 6) p (fun k => K 2 (2 * k + 1))) nB * bt)) := by
  intro d
  induction d with
  | zero =>
    intro k n hd hn1 hk
    obtain ⟨n, rfl⟩ : ∃ m, n = m + 1 := ⟨n - 1, by omega⟩
    obtain rfl : k = nB := by omega
    simp (disch := omega) only [s_L_way_33, pm_S, h8, pm_C, Nat.le_refl, ↓reduceIte]
  | succ d ih =>
    intro k n hd hn1 hk
    obtain ⟨n, rfl⟩ : ∃ m, n = m + 1 := ⟨n - 1, by omega⟩
    have hck : ¬ nB ≤ k := by omega
    obtain ⟨hp9, h3k⟩ := hp k (by omega)
    have hi9 := ih (k + 1) n (by omega) (by omega) (by omega)
    by_cases e1 : (min a b < p k ∧ p k < max a b)
    · have hs := l_sgn_n ha hb hp9 e1
      rw [show (0 : Int32) = nI 0 from rfl] at hs
      by_cases e5 : K 2 (2 * k + 1) ≤ K 1 6
      · rw [cnt_f (by simp [btw, e5])] at hi9
        simp (disch := omega) only [s_L_way_33, ↓pm_bd, pm_gd, pm_lit, pk_mul, pm_S, pm_C, h8, hck, h3k, hs, e5, ↓reduceIte]
        exact hi9
      · rw [cnt_t (by simp only [btw, decide_eq_true_eq]; exact ⟨e1.1, e1.2, e5⟩), Nat.succ_mul, ← pm_add, ← Int32.add_assoc] at hi9
        simp (disch := omega) only [s_L_way_33, ↓pm_bd, pm_gd, pm_lit, pk_mul, pm_S, pm_C, h8, hck, h3k, hs, e5, hbt, ↓reduceIte]
        exact hi9
    · have hs := l_sgn_p ha hb hp9 e1
      rw [show (0 : Int32) = nI 0 from rfl] at hs
      rw [cnt_f (by simp only [btw, decide_eq_false_iff_not]; exact fun hh => e1 ⟨hh.1, hh.2.1⟩)] at hi9
      simp (disch := omega) only [s_L_way_33, ↓pm_bd, pm_gd, pm_lit, pk_mul, pm_S, pm_C, h8, hck, h3k, hs, ↓reduceIte]
      exact hi9
theorem l_ceil {d s : Nat} (hs : 0 < s) : (d + s - 1) / s = if d ≤ d / s * s then d / s else d / s + 1 := by
  have h1 := Nat.div_add_mod d s
  have h2 := Nat.mod_lt d hs
  rw [Nat.mul_comm] at h1
  by_cases e : d ≤ d / s * s
  · rw [if_pos e]
    have e2 : d % s = 0 := by omega
    have e3 : d + s - 1 = d / s * s + (s - 1) := by omega
    rw [e3, Nat.add_comm, Nat.add_mul_div_right _ _ hs, Nat.div_eq_of_lt (by omega), Nat.zero_add]
  · rw [if_neg e]
    have e3 : d + s - 1 = (d % s - 1) + (d / s + 1) * s := by
      rw [Nat.succ_mul]
      omega
    rw [e3, Nat.add_mul_div_right _ _ hs, Nat.div_eq_of_lt (by omega), Nat.zero_add]
/-- the way: the law's and the model's -/
theorem l_way {nB nW a b : Nat} {K G M : cr_G} {Z : Nat → Int32} (hK : aK nB nW K Z) (hC : aC (G 3) Z) (hn : nB ≤ 6) (h2 : Z 127 = nI nB) (hS : jS Z) (hB : jB nB Z) (ha : a ≤ 99) (hb : b ≤ 99) : ∃ w : Nat, w ≤ 300 ∧ s_L_way K G (nI a) (nI b) = some (nI w) ∧ s_X9_hoursOf (cr_pa M 1 Z) (nI a) (nI b) = some (nI w) := by
  obtain ⟨⟨s, hs1, hs2, hs⟩, bt, hbt1, hbt⟩ := hS
  obtain ⟨p, hp, -⟩ := hB
  have k1 : K 1 1 = nI s := (hK.2.1 1 (by omega)).trans hs
  have k4 : K 1 4 = nI bt := (hK.2.1 4 (by omega)).trans hbt
  have k6 : K 1 6 = Z 77 := hK.2.1 6 (by omega)
  have hc4 : cnt (btw (min a b) (max a b) (K 1 6) p (fun k => K 2 (2 * k + 1))) nB = cnt (btw (min a b) (max a b) (Z 77) p (fun k => Z (134 + k))) nB := cnt_congr (fun k hk => by simp only [btw, (hK.2.2 k hk).2, k6])
  have hcl := cnt_le (btw (min a b) (max a b) (Z 77) p (fun k => Z (134 + k))) nB
  have hcb : cnt (btw (min a b) (max a b) (Z 77) p (fun k => Z (134 + k))) nB * bt ≤ 6 * 10 := Nat.mul_le_mul (by omega) hbt1
  have hdv : (max a b - min a b + s - 1) / s ≤ max a b - min a b + s - 1 := Nat.div_le_self _ _
  have e3 := l_way_33 K G nB a b bt p hn ha hb k4 ((aC8 hC).trans h2) (fun k hk => ⟨(hp k hk).1, ((hK.2.2 k hk).1).trans (hp k hk).2⟩) (nI ((max a b - min a b + s - 1) / s)) nB 0 1200 rfl (by omega) (by omega)
  have e4 := qm_hoursOf_39 M Z nB a b bt (nI ((max a b - min a b + s - 1) / s)) p hn ha hb hbt h2 hp nB 0 1200 rfl (by omega) (by omega)
  simp only [cnt, Nat.zero_mul, Nat.add_zero, pm_add, hc4] at e3 e4
  refine ⟨(max a b - min a b + s - 1) / s + cnt (btw (min a b) (max a b) (Z 77) p (fun k => Z (134 + k))) nB * bt, by omega, ?_, ?_⟩
  · have hd9 : (max a b - min a b) / s * s ≤ max a b - min a b := Nat.div_mul_le_self _ _
    rw [l_ceil (by omega)] at e3 ⊢
    by_cases e : max a b - min a b ≤ (max a b - min a b) / s * s
    · rw [if_pos e] at e3 ⊢
      simp (disch := omega) only [s_L_way, ↓pm_bd, l_abs ha hb, pm_cl, pm_lit, k1, pm_nz, pm_gd, pk_div, pk_mul, pm_C, e, ↓reduceIte]
      exact e3
    · rw [if_neg e] at e3 ⊢
      simp (disch := omega) only [s_L_way, ↓pm_bd, l_abs ha hb, pm_cl, pm_lit, k1, pm_nz, pm_gd, pk_div, pk_mul, pm_C, pm_S, e, ↓reduceIte]
      exact e3
  · by_cases e : b ≤ a
    · have h1 : max a b = a := by omega
      have h5 : min a b = b := by omega
      rw [h1, h5] at e4 ⊢
      simp (disch := omega) only [s_X9_hoursOf, s_X9_hoursOf_14, ↓pm_bd, pm_lit, pm_C, e, hs, pm_nz, pm_gd, pm_S, pk_div, e4, ↓reduceIte]
    · have h1 : max a b = b := by omega
      have h5 : min a b = a := by omega
      rw [h1, h5] at e4 ⊢
      simp (disch := omega) only [s_X9_hoursOf, s_X9_hoursOf_14, ↓pm_bd, pm_lit, pm_C, e, hs, pm_nz, pm_gd, pm_S, pk_div, e4, ↓reduceIte]
/-! ### the plan -/
/-- a plan has no more turbines than there are -/
theorem l_pig : ∀ (m n : Nat) (p : Nat → Nat), (∀ k, k < n → p k < m) → (∀ k k', k < n → k' < n → p k = p k' → k = k') → n ≤ m := by
  intro m
  induction m with
  | zero =>
    intro n p h1 _
    by_cases e : n = 0
    · omega
    · exact absurd (h1 0 (by omega)) (by omega)
  | succ m ih =>
    intro n p h1 h2
    by_cases e : ∃ k, k < n ∧ p k = m
    · obtain ⟨k0, hk0, hpk⟩ := e
      have h3 := ih (n - 1) (fun k => if k = k0 then p (n - 1) else p k) (fun k hk => by
        show (if k = k0 then p (n - 1) else p k) < m
        by_cases e2 : k = k0
        · rw [if_pos e2]
          have h4 := h1 (n - 1) (by omega)
          have h5 : p (n - 1) ≠ m := fun h => by
            have := h2 (n - 1) k0 (by omega) hk0 (by rw [h, hpk])
            omega
          omega
        · rw [if_neg e2]
          have h4 := h1 k (by omega)
          have h5 : p k ≠ m := fun h => e2 (h2 k k0 (by omega) hk0 (by rw [h, hpk]))
          omega) (fun k k' hk hk' h => by
        have h : (if k = k0 then p (n - 1) else p k) = (if k' = k0 then p (n - 1) else p k') := h
        by_cases e2 : k = k0
        · by_cases e3 : k' = k0
          · omega
          · rw [if_pos e2, if_neg e3] at h
            have := h2 _ _ (by omega) (by omega) h
            omega
        · by_cases e3 : k' = k0
          · rw [if_neg e2, if_pos e3] at h
            have := h2 _ _ (by omega) (by omega) h
            omega
          · rw [if_neg e2, if_neg e3] at h
            exact h2 _ _ (by omega) (by omega) h)
      omega
    · have h3 := ih n p (fun k hk => by
        have h4 := h1 k hk
        have h5 : p k ≠ m := fun h => e ⟨k, hk, h⟩
        omega) h2
      omega
theorem jP_le {nT nP : Nat} {Z : Nat → Int32} (hT : nT ≤ 10) (h : jP nT nP Z) : nP ≤ nT := by
  refine l_pig nT nP (fun k => (Z (146 + k)).toNatClampNeg) (fun k hk => ?_) (fun k k' hk hk' e => ?_)
  · obtain ⟨t, ht, e⟩ := h.1 k hk
    show (Z (146 + k)).toNatClampNeg < nT
    rw [e, nI_clamp (by omega)]
    exact ht
  · have e : (Z (146 + k)).toNatClampNeg = (Z (146 + k')).toNatClampNeg := e
    obtain ⟨t, ht, e1⟩ := h.1 k hk
    obtain ⟨t', ht', e2⟩ := h.1 k' hk'
    rw [e1, e2, nI_clamp (by omega), nI_clamp (by omega)] at e
    exact h.2 k k' hk hk' (by rw [e1, e2, e])
/-- what the crane's goal and its work may be -/
def jE (Z : Nat → Int32) : Prop := (Z 144 = mI ∨ ∃ t : Nat, t < 10 ∧ Z 144 = nI t) ∧ (Z 141 = mI ∨ ∃ t : Nat, t < 10 ∧ Z 141 = nI t)
theorem jE_c {Z Z' : Nat → Int32} (h : jE Z) (h1 : Z' 144 = Z 144) (h2 : Z' 141 = Z 141) : jE Z' := by
  unfold jE
  rw [h1, h2]
  exact h
def aCw (f Z : Nat → Int32) : Prop := (∀ k, k < 14 → k ≠ 3 → f k = Z (mcs k)) ∧ (Z 144 ≠ mI → f 3 = Z 143)
theorem aCw_of {f Z : Nat → Int32} (h : aC f Z) : aCw f Z := ⟨fun k hk _ => h k hk, fun _ => h 3 (by omega)⟩
theorem l_drop_end {K G : cr_G} {Z : Nat → Int32} (hC : aCw (G 3) Z) (hE : jE Z) (h3 : Z 144 = mI → Z 143 = nI 0) : ∃ h' : Nat → Int32, (if 0 ≤ (G 3) 4 then s_L_hour_148 K G else cr_bd (cr_pt G 3 3 (0 : Int32)) (fun G147_4 => s_L_hour_148 K G147_4)) = s_L_hour_148 K (cr_pa G 3 h') ∧ aC h' Z := by
  have h4 : G 3 4 = Z 144 := hC.1 4 (by omega) (by omega)
  rcases hE.1 with e | ⟨t, ht, e⟩
  · refine ⟨upd (G 3) 3 (nI 0), ?_, fun k hk => ?_⟩
    · have hn : ¬ (0 : Int32) ≤ mI := by decide
      rw [h4, e, if_neg hn]
      rfl
    · by_cases ek : k = 3
      · subst ek
        rw [pm_u]
        exact (h3 e).symm
      · rw [pm_un _ _ ek]
        exact hC.1 k hk ek
  · refine ⟨G 3, ?_, fun k hk => ?_⟩
    · rw [h4, e, if_pos (nI_pos' (by omega)), pm_self]
    · by_cases ek : k = 3
      · subst ek
        exact hC.2 (by rw [e, Ne, pm_ne (by omega)]; exact fun h => h)
      · exact hC.1 k hk ek
theorem aCw_fg {f Z : Nat → Int32} (c : Nat) (hc : c ≤ 10) (h : aCw f Z) : aCw (upd f 4 mI) (fg (tk Z 0 c)) := by
  have hne : ∀ k, k < 14 → k ≠ 3 → k ≠ 4 → mcs k ≠ 143 ∧ mcs k ≠ 144 ∧ (mcs k < 145 ∨ 156 ≤ mcs k) := by decide
  refine ⟨fun k hk h3 => ?_, fun hn => absurd fg_144 hn⟩
  by_cases e : k = 4
  · subst e
    rw [pm_u]
    exact fg_144.symm
  · obtain ⟨q1, q2, q3⟩ := hne k hk h3 e
    rw [pm_un _ _ e, fg_o ⟨q1, q2⟩, tk_o hc q3]
    exact h.1 k hk h3
theorem l_drop_loop {nT nB nL nW h g : Nat} (K M : cr_G) (hT6 : nT ≤ 6) : ∀ (c n n' : Nat) (G : cr_G) (Z : Nat → Int32), c < n → c < n' → aT nT (G 0) Z → aP c (G 2) Z → aCw (G 3) Z → J nT nB nL c nW h g Z → jE Z → (Z 144 = mI ∨ (0 < c ∧ Z 144 = Z 146) ∨ c = 0) → ∃ (c' : Nat) (p' h' Z' : Nat → Int32), s_L_hour_94 K n G = s_L_hour_148 K (cr_pa (cr_pa G 2 p') 3 h') ∧ s_X9_goHour_38 n' (cr_pa M 1 Z) = s_X9_goHour_99 (cr_pa M 1 Z') ∧ aP c' p' Z' ∧ aC h' Z' ∧ J nT nB nL c' nW h g Z' ∧ jE Z' ∧ ∀ k, (k < 143 ∨ 156 ≤ k) → Z' k = Z k := by
  intro c
  induction c with
  | zero =>
    intro n n' G Z hn1 hn2 hA hP hC hJ hE _
    obtain ⟨n, rfl⟩ : ∃ m, n = m + 1 := ⟨n - 1, by omega⟩
    obtain ⟨n', rfl⟩ : ∃ m, n' = m + 1 := ⟨n' - 1, by omega⟩
    have h145 : Z 145 = nI 0 := hJ.1.2.2.2.2.1
    have h20 : G 2 0 = nI 0 := (hP 0 (by omega)).trans h145
    obtain ⟨h', a1, a2⟩ := l_drop_end (K := K) hC hE hJ.2.2.2.2.2.2.1.2.2
    refine ⟨0, G 2, h', Z, ?_, ?_, hP, a2, hJ, hE, fun _ _ => rfl⟩
    · have e : s_L_hour_94 K (n + 1) G = (if 0 ≤ (G 3) 4 then s_L_hour_148 K G else cr_bd (cr_pt G 3 3 (0 : Int32)) (fun G147_4 => s_L_hour_148 K G147_4)) := by
        rw [s_L_hour_94, h20, if_pos (show nI 0 ≤ 0 from Int32.le_refl _)]
      rw [e, a1, pm_self]
    · simp (disch := omega) only [s_X9_goHour_38, pm_lit, pm_pa, h145, pm_C, Nat.le_refl, ↓reduceIte]
  | succ c ih =>
    intro n n' G Z hn1 hn2 hA hP hC hJ hE hW
    obtain ⟨n, rfl⟩ : ∃ m, n = m + 1 := ⟨n - 1, by omega⟩
    obtain ⟨n', rfl⟩ : ∃ m, n' = m + 1 := ⟨n' - 1, by omega⟩
    have hn := hJ.1.1
    have h145 : Z 145 = nI (c + 1) := hJ.1.2.2.2.2.1
    have hcT := jP_le hn.1 hJ.2.2.2.2.2.1
    have h20 : G 2 0 = nI (c + 1) := (hP 0 (by omega)).trans h145
    obtain ⟨t, ht, hz⟩ := hJ.2.2.2.2.2.1.1 0 (by omega)
    have hz : Z 146 = nI t := hz
    have h21 : G 2 1 = nI t := (hP 1 (by omega)).trans hz
    have hc1 : ¬ c + 1 ≤ 0 := by omega
    obtain ⟨f, hf4, hff⟩ := (hJ.2.2.1 t ht).2.2
    have hG3 : G 0 (7 * t + 3) = nI f := (aT3 hA ht).trans hff
    have h34 : G 3 4 = Z 144 := hC.1 4 (by omega) (by omega)
    by_cases e : f = 0
    · subst e
      have hJ1 := J_fg (J_tk hJ (show 0 < c + 1 by omega))
      have hP1 : aP (c + 1 - 1) (upd (sl (G 2) 0 (0 + 1) (c + 1)) 0 (nI (c + 1 - 1))) (fg (tk Z 0 (c + 1))) := aP_c (aP_off (by omega) (by omega) hP) (by omega) (fun k hk => fg_o (by omega))
      have hE1 : jE (fg (tk Z 0 (c + 1))) := ⟨Or.inl fg_144, by rw [fg_o (by omega), tk_o (by omega) (by omega)]; exact hE.2⟩
      have hA1 : aT nT (G 0) (fg (tk Z 0 (c + 1))) := aT_c hA hn.1 (fun k hk => by rw [fg_o (by omega), tk_o (by omega) (by omega)])
      have hC1 := aCw_fg (c + 1) (by omega) hC
      obtain ⟨c', p', h', Z', b1, b2, b3, b4, b5, b6, b7⟩ := ih n n' (cr_pa (cr_pa G 3 (upd (G 3) 4 mI)) 2 (upd (sl (G 2) 0 (0 + 1) (c + 1)) 0 (nI (c + 1 - 1)))) (fg (tk Z 0 (c + 1))) (by omega) (by omega) (by rw [pm_pan _ _ (by omega), pm_pan _ _ (by omega)]; exact hA1) (by rw [pm_pa]; exact hP1) (by rw [pm_pan _ _ (by omega), pm_pa]; exact hC1) hJ1 hE1 (Or.inl fg_144)
      refine ⟨c', p', h', Z', ?_, ?_, b3, b4, b5, b6, fun k hk => by rw [b7 k hk, fg_o (by omega), tk_o (by omega) (by omega)]⟩
      · have hfin : cr_pa (cr_pa (cr_pa (cr_pa G 3 (upd (G 3) 4 mI)) 2 (upd (sl (G 2) 0 (0 + 1) (c + 1)) 0 (nI (c + 1 - 1)))) 2 p') 3 h' = cr_pa (cr_pa G 2 p') 3 h' := by
          funext j
          simp only [cr_pa]
          by_cases q1 : j = 3 <;> by_cases q2 : j = 2 <;> simp [q1, q2]
        rw [hfin] at b1
        rw [← b1]
        have hoff : ∀ G1 : cr_G, G1 2 = G 2 → s_L_hour_128 K (fun Ga => s_L_hour_94 K n Ga) G1 = s_L_hour_94 K n (cr_pa G1 2 (upd (sl (G 2) 0 (0 + 1) (c + 1)) 0 (nI (c + 1 - 1)))) := fun G1 h1 => by
          have h9 := l_off (K := K) (G := G1) (c := c + 1) (p := 0) (by omega) (by omega) (by omega) (by rw [h1]; exact h20)
          rw [h1] at h9
          simp only [s_L_hour_128, pm_lit, h9, pm_cl]
        by_cases ew : Z 146 = Z 144
        · have e1 : G 2 1 = G 3 4 := by rw [h21, h34, ← ew, hz]
          rw [← hoff (cr_pa G 3 (upd (G 3) 4 mI)) (pm_pan _ _ (by omega))]
          simp (disch := omega) only [s_L_hour_94, ↓pm_m1, ↓pm_bd, pm_lit, h20, pm_C, hc1, h21, pk_mul, pm_S, pm_gd, hG3, ↓reduceIte]
          rw [if_pos (show nI t = G 3 4 by rw [← e1, h21])]
          rfl
        · have h4m : Z 144 = mI := by
            rcases hW with h | ⟨-, h⟩ | h
            · exact h
            · exact absurd h.symm ew
            · omega
          have e1 : ¬ nI t = G 3 4 := by rw [h34, ← hz]; exact ew
          have hsame : cr_pa G 3 (upd (G 3) 4 mI) = G := by
            rw [upd_same (h34.trans h4m), pm_self]
          rw [hsame, ← hoff G rfl]
          simp (disch := omega) only [s_L_hour_94, ↓pm_m1, ↓pm_bd, pm_lit, h20, pm_C, hc1, h21, pk_mul, pm_S, pm_gd, hG3, e1, ↓reduceIte]
      · have hwf : s_X9_goHour_38 (n' + 1) (cr_pa M 1 Z) = s_X9_goHour_38 n' (cr_pa M 1 (fg (tk Z 0 (c + 1)))) := by
          have hm : ∀ hW9 : Z 144 = mI, s_X9_goHour_38 (n' + 1) (cr_pa M 1 Z) = s_X9_goHour_38 n' (cr_pa M 1 (fg (tk Z 0 (c + 1)))) := by
            intro hW9
            have hne : ¬ nI t = mI := by rw [pm_ne (by omega)]; exact fun h => h
            have e2 : fg (tk Z 0 (c + 1)) = tk Z 0 (c + 1) := fg_id (by rw [tk_o (by omega) (by omega)]; exact hW9) (by rw [tk_o (by omega) (by omega)]; exact hJ.2.2.2.2.2.2.1.2.2 hW9)
            rw [e2]
            simp (disch := omega) only [s_X9_goHour_38, s_X9_goHour_91, ↓pm_bd, pm_lit, pm_pa, h145, pm_C, hc1, hz, pm_S, pm_gd, hff, hW9, qm_takeOff (show c + 1 ≤ 10 by omega) (show 0 < c + 1 by omega) (show 0 ≤ 10 by omega) h145, pm_cl, ↓reduceIte]
            rfl
          rcases hW with hW | ⟨-, hW⟩ | hW
          · exact hm hW
          · have h145' : fg Z 145 = nI (c + 1) := by rw [fg_o (by omega)]; exact h145
            simp (disch := omega) only [s_X9_goHour_38, s_X9_goHour_91, ↓pm_bd, pm_lit, pm_pa, h145, pm_C, hc1, hz, pm_S, pm_gd, hff, hW, qm_forget, qm_takeOff (show c + 1 ≤ 10 by omega) (show 0 < c + 1 by omega) (show 0 ≤ 10 by omega) h145', pm_cl, ↓reduceIte]
            rw [← fg_tk (by omega)]
            rfl
          · omega
        rw [hwf]
        exact b2
    · obtain ⟨h', a1, a2⟩ := l_drop_end (K := K) hC hE hJ.2.2.2.2.2.2.1.2.2
      refine ⟨c + 1, G 2, h', Z, ?_, ?_, hP, a2, hJ, hE, fun _ _ => rfl⟩
      · have e9 : s_L_hour_94 K (n + 1) G = (if 0 ≤ (G 3) 4 then s_L_hour_148 K G else cr_bd (cr_pt G 3 3 (0 : Int32)) (fun G147_4 => s_L_hour_148 K G147_4)) := by
          simp (disch := omega) only [s_L_hour_94, pm_lit, h20, pm_C, hc1, h21, pk_mul, pm_S, pm_gd, hG3, e, ↓reduceIte]
        rw [e9, a1, pm_self]
      · simp (disch := omega) only [s_X9_goHour_38, ↓pm_bd, pm_lit, pm_pa, h145, pm_C, hc1, hz, pm_S, pm_gd, hff, e, ↓reduceIte]
