/-! ### what the law asks: told -/
theorem l_spot_n (K G : cr_G) (c : Nat) (x : Int32) (hc : c ≤ 8) (h0 : G 2 0 = nI c) : ∀ d k n, c - k = d → d < n → k ≤ c → (∀ i, k ≤ i → i < c → G 2 (i + 1) ≠ x) → s_L_spot_2 K G n x (nI k) = some mI := by
  intro d
  induction d with
  | zero =>
    intro k n hd hn hk hno
    obtain ⟨n, rfl⟩ : ∃ m, n = m + 1 := ⟨n - 1, by omega⟩
    have hck : c ≤ k := by omega
    simp (disch := omega) only [s_L_spot_2, ↓pm_m1, h0, pm_C, hck, ↓reduceIte]
  | succ d ih =>
    intro k n hd hn hk hno
    obtain ⟨n, rfl⟩ : ∃ m, n = m + 1 := ⟨n - 1, by omega⟩
    have hck : ¬ c ≤ k := by omega
    have hi := ih (k + 1) n (by omega) (by omega) (by omega) (fun i h1 h2 => hno i (by omega) h2)
    have hne := hno k (Nat.le_refl _) (by omega)
    simp (disch := omega) only [s_L_spot_2, ↓pm_bd, pm_lit, pm_S, pm_gd, pm_C, h0, hck, hne, ↓reduceIte]
    exact hi
theorem l_spot_s (K G : cr_G) (c p : Nat) (x : Int32) (hc : c ≤ 8) (h0 : G 2 0 = nI c) (hp : p < c) (hpx : G 2 (p + 1) = x) : ∀ d k n, p - k = d → d < n → k ≤ p → (∀ i, k ≤ i → i < p → G 2 (i + 1) ≠ x) → s_L_spot_2 K G n x (nI k) = some (nI p) := by
  intro d
  induction d with
  | zero =>
    intro k n hd hn hk hno
    obtain ⟨n, rfl⟩ : ∃ m, n = m + 1 := ⟨n - 1, by omega⟩
    obtain rfl : k = p := by omega
    have hck : ¬ c ≤ k := by omega
    simp (disch := omega) only [s_L_spot_2, ↓pm_bd, pm_lit, pm_S, pm_gd, pm_C, h0, hck, hpx, ↓reduceIte]
  | succ d ih =>
    intro k n hd hn hk hno
    obtain ⟨n, rfl⟩ : ∃ m, n = m + 1 := ⟨n - 1, by omega⟩
    have hck : ¬ c ≤ k := by omega
    have hi := ih (k + 1) n (by omega) (by omega) (by omega) (fun i h1 h2 => hno i (by omega) h2)
    have hne := hno k (Nat.le_refl _) (by omega)
    simp (disch := omega) only [s_L_spot_2, ↓pm_bd, pm_lit, pm_S, pm_gd, pm_C, h0, hck, hne, ↓reduceIte]
    exact hi
/-- the place in the plan: nowhere, or the one place -/
theorem l_spot {nT nB nL nP nW : Nat} {K G Gc : cr_G} {Z : Nat → Int32} (hf : fr nT nB nL nP nW Gc Z) (hP9 : aP nP (G 2) Z) (hP8 : nP ≤ 8) (h145 : Z 145 = nI nP) (hjP : jP nT nP Z) (x : Int32) : (s_X4_placeOf Gc x = some mI ∧ s_L_spot K G x = some mI ∧ ∀ i, i < nP → Z (146 + i) ≠ x) ∨ ∃ p, p < nP ∧ Z (146 + p) = x ∧ s_X4_placeOf Gc x = some (nI p) ∧ s_L_spot K G x = some (nI p) := by
  have h0 : G 2 0 = nI nP := (hP9 0 (by omega)).trans h145
  have hr : ∀ i, i < nP → G 2 (i + 1) = Z (146 + i) := fun i hi => by rw [hP9 _ (by omega), show 145 + (i + 1) = 146 + i by omega]
  rcases q_placeOf (M := fun _ _ => 0) hf (show nP ≤ 10 by omega) h145 hjP x with ⟨a, -, b⟩ | ⟨p, hp, hpx, a, -⟩
  · refine Or.inl ⟨a, ?_, b⟩
    have h9 := l_spot_n K G nP x hP8 h0 nP 0 1200 rfl (by omega) (by omega) (fun i _ hi => by rw [hr i hi]; exact b i hi)
    simp only [s_L_spot, pm_lit]
    exact h9
  · refine Or.inr ⟨p, hp, hpx, a, ?_⟩
    have h9 := l_spot_s K G nP p x hP8 h0 hp (by rw [hr p hp]; exact hpx) p 0 1200 rfl (by omega) (by omega) (fun i _ hi => by
      rw [hr i (by omega)]
      intro e
      have := hjP.2 i p (by omega) hp (by rw [e, hpx])
      omega)
    simp only [s_L_spot, pm_lit]
    exact h9
theorem l_sumk_5 (K G : cr_G) {nT : Nat} (Z : Nat → Int32) (k : Nat) (hk : k < 7) (hk3 : k ≠ 3) (hT6 : nT ≤ 6) (hA : aT nT (G 0) Z) (h6 : G 3 6 = nI nT) : ∀ d j n, nT - j = d → d < n → j ≤ nT → s_L_sum_5 K G n (nI k) (sI (fun t => Z (10 * k + t)) j) (nI j) = some (sI (fun t => Z (10 * k + t)) nT) := by
  intro d
  induction d with
  | zero =>
    intro j n hd hn hj
    obtain ⟨n, rfl⟩ : ∃ m, n = m + 1 := ⟨n - 1, by omega⟩
    obtain rfl : j = nT := by omega
    simp (disch := omega) only [s_L_sum_5, h6, pm_C, Nat.le_refl, ↓reduceIte]
  | succ d ih =>
    intro j n hd hn hj
    obtain ⟨n, rfl⟩ : ∃ m, n = m + 1 := ⟨n - 1, by omega⟩
    have hcj : ¬ nT ≤ j := by omega
    have hi := ih (j + 1) n (by omega) (by omega) (by omega)
    rw [sI] at hi
    have hv := hA j k (by omega) hk
    simp (disch := omega) only [s_L_sum_5, ↓pm_bd, pm_lit, pk_mul, pm_S, pm_gd, pm_C, h6, hcj, hk3, hv, ↓reduceIte]
    exact hi
theorem l_sumk {K G : cr_G} {nT k : Nat} {Z : Nat → Int32} (hk : k < 7) (hk3 : k ≠ 3) (hT6 : nT ≤ 6) (hA : aT nT (G 0) Z) (h6 : G 3 6 = nI nT) : s_L_sum K G (nI k) = some (sI (fun t => Z (10 * k + t)) nT) := by
  have h9 := l_sumk_5 K G Z k hk hk3 hT6 hA h6 nT 0 1200 rfl (by omega) (by omega)
  simp only [s_L_sum, pm_lit]
  exact h9
theorem l_sum3_5 (K G : cr_G) {nT : Nat} (Z : Nat → Int32) (hT6 : nT ≤ 6) (hA : aT nT (G 0) Z) (h6 : G 3 6 = nI nT) (hF : ∀ t, t < nT → bd (Z (30 + t)) 4) : ∀ d j n, nT - j = d → d < n → j ≤ nT → s_L_sum_5 K G n (nI 3) (nI (cnt (fun t => decide (¬ Z (30 + t) = nI 0)) j)) (nI j) = some (nI (cnt (fun t => decide (¬ Z (30 + t) = nI 0)) nT)) := by
  intro d
  induction d with
  | zero =>
    intro j n hd hn hj
    obtain ⟨n, rfl⟩ : ∃ m, n = m + 1 := ⟨n - 1, by omega⟩
    obtain rfl : j = nT := by omega
    simp (disch := omega) only [s_L_sum_5, h6, pm_C, Nat.le_refl, ↓reduceIte]
  | succ d ih =>
    intro j n hd hn hj
    obtain ⟨n, rfl⟩ : ∃ m, n = m + 1 := ⟨n - 1, by omega⟩
    have hcj : ¬ nT ≤ j := by omega
    have hi := ih (j + 1) n (by omega) (by omega) (by omega)
    have hv := aT3 hA (show j < nT by omega)
    obtain ⟨f, hf4, hff⟩ := hF j (by omega)
    by_cases e : f = 0
    · rw [cnt_f (by rw [hff, e]; simp)] at hi
      have hl : f ≤ 0 := by omega
      simp (disch := omega) only [s_L_sum_5, ↓pm_bd, pm_lit, pk_mul, pm_S, pm_gd, pm_C, h6, hcj, hv, hff, hl, Nat.add_zero, ↓reduceIte]
      exact hi
    · rw [cnt_t (show decide (¬ Z (30 + j) = nI 0) = true from decide_eq_true (by rw [hff, nI_eq (by omega) (by omega)]; exact e))] at hi
      have hl : ¬ f ≤ 0 := by omega
      simp (disch := omega) only [s_L_sum_5, ↓pm_bd, pm_lit, pk_mul, pm_S, pm_gd, pm_C, h6, hcj, hv, hff, hl, ↓reduceIte]
      exact hi
theorem l_sum3 {K G : cr_G} {nT : Nat} {Z : Nat → Int32} (hT6 : nT ≤ 6) (hA : aT nT (G 0) Z) (h6 : G 3 6 = nI nT) (hF : ∀ t, t < nT → bd (Z (30 + t)) 4) : s_L_sum K G (nI 3) = some (nI (cnt (fun t => decide (¬ Z (30 + t) = nI 0)) nT)) := by
  have h9 := l_sum3_5 K G Z hT6 hA h6 hF nT 0 1200 rfl (by omega) (by omega)
  simp only [s_L_sum, pm_lit]
  exact h9
/-! the bundle of what holds between the class, the row Z and the law's rows -/
def RZ (S : cr_S) (Z : Nat → Int32) (nT nB nL nP nW h : Nat) : Prop := fr nT nB nL nP nW (S.1 0) Z ∧ J nT nB nL nP nW h h Z ∧ jE Z ∧ aG nT nL nP (S.1 9) Z ∧ aK nB nW (S.1 11) Z ∧ nT ≤ 6 ∧ h ≤ 2000
theorem RZ.P8 {S : cr_S} {Z : Nat → Int32} {nT nB nL nP nW h : Nat} (H : RZ S Z nT nB nL nP nW h) : nP ≤ 8 := by
  have h1 := jP_le H.2.1.1.1.1 H.2.1.2.2.2.2.2.1
  have h2 := H.2.2.2.2.2.1
  omega
theorem t_blades {S : cr_S} {Z : Nat → Int32} {nT nB nL nP nW h : Nat} (H : RZ S Z nT nB nL nP nW h) : ∀ d k n, nL - k = d → d < n → k ≤ nL → s_L_turbines_240 S n (nI k) = some true := by
  obtain ⟨hf, hJ, hE, ⟨hA, hL9, hP9, hC⟩, hK, hT6, hh⟩ := H
  have hL := hJ.1.1.2.2.1
  have h156 := hJ.1.2.2.2.1
  have h7 : S.1 9 3 7 = nI nL := (aC7 hC).trans h156
  have h5 : S.1 0 5 2 = nI nL := (fr_l hf).trans h156
  intro d
  induction d with
  | zero =>
    intro k n hd hn hk
    obtain ⟨n, rfl⟩ : ∃ m, n = m + 1 := ⟨n - 1, by omega⟩
    have hck : nL ≤ k := by omega
    simp (disch := omega) only [s_L_turbines_240, h7, pm_C, hck, ↓reduceIte]
  | succ d ih =>
    intro k n hd hn hk
    obtain ⟨n, rfl⟩ : ∃ m, n = m + 1 := ⟨n - 1, by omega⟩
    have hck : ¬ nL ≤ k := by omega
    have hkl : k < nL := by omega
    have hi := ih (k + 1) n (by omega) (by omega) (by omega)
    obtain ⟨b1, b2⟩ := c_blade h5 hL hkl
    have e1 : S.1 0 6 k = S.1 9 1 (2 * k) := (fr_lw hf hkl).trans (hL9 k hkl).1.symm
    have e2 : S.1 0 7 k = S.1 9 1 (2 * k + 1) := (fr_lg hf hkl).trans (hL9 k hkl).2.symm
    simp (disch := omega) only [s_L_turbines_240, ↓pm_bd, pm_lit, pk_mul, pm_S, pm_gd, pm_C, h7, hck, b1, b2, pm_cl, e1, e2, ↓reduceIte]
    exact hi
theorem t_ready {S : cr_S} {Z : Nat → Int32} {nT nB nL nP nW h t : Nat} (H : RZ S Z nT nB nL nP nW h) (k3 : Int32 → Option Bool) : ∀ d k n, nL - k = d → d < n → k ≤ nL → s_L_turbines_19 S k3 n (nI t) (nI (cnt (mzb Z (nI t)) k)) (nI k) = s_L_turbines_70 S k3 1200 (nI t) (nI (cnt (mzb Z (nI t)) nL)) (nI 0) := by
  obtain ⟨hf, hJ, hE, ⟨hA, hL9, hP9, hC⟩, hK, hT6, hh⟩ := H
  have hL := hJ.1.1.2.2.1
  have h156 := hJ.1.2.2.2.1
  have h7 : S.1 9 3 7 = nI nL := (aC7 hC).trans h156
  intro d
  induction d with
  | zero =>
    intro k n hd hn hk
    obtain ⟨n, rfl⟩ : ∃ m, n = m + 1 := ⟨n - 1, by omega⟩
    obtain rfl : k = nL := by omega
    simp (disch := omega) only [s_L_turbines_19, pm_lit, h7, pm_C, Nat.le_refl, ↓reduceIte]
  | succ d ih =>
    intro k n hd hn hk
    obtain ⟨n, rfl⟩ : ∃ m, n = m + 1 := ⟨n - 1, by omega⟩
    have hck : ¬ nL ≤ k := by omega
    have hkl : k < nL := by omega
    have hi := ih (k + 1) n (by omega) (by omega) (by omega)
    obtain ⟨e1, e2⟩ := hL9 k hkl
    by_cases q1 : Z (157 + k) = nI t
    · by_cases q2 : Z (167 + k) = nI 0
      · rw [cnt_t (mzb_t q1 q2)] at hi
        rw [q1] at e1
        rw [q2] at e2
        simp (disch := omega) only [s_L_turbines_19, ↓pm_bd, pm_lit, pk_mul, pm_S, pm_gd, pm_C, h7, hck, e1, e2, ↓reduceIte]
        exact hi
      · rw [cnt_f (mzb_f2 q2)] at hi
        rw [q1] at e1
        simp (disch := omega) only [s_L_turbines_19, ↓pm_bd, pm_lit, pk_mul, pm_S, pm_gd, pm_C, h7, hck, e1, e2, q2, Nat.add_zero, ↓reduceIte]
        exact hi
    · rw [cnt_f (mzb_f1 q1)] at hi
      simp (disch := omega) only [s_L_turbines_19, ↓pm_bd, pm_lit, pk_mul, pm_S, pm_gd, pm_C, h7, hck, e1, q1, Nat.add_zero, ↓reduceIte]
      exact hi
theorem t_one {S : cr_S} {Z : Nat → Int32} {nT nB nL nP nW h t : Nat} (H : RZ S Z nT nB nL nP nW h) (ht : t < nT) (k3 : Int32 → Option Bool) : s_L_turbines_70 S k3 1200 (nI t) (nI (cnt (mzb Z (nI t)) nL)) (nI 0) = k3 (nI (t + 1)) := by
  have hP8 := H.P8
  obtain ⟨hf, hJ, hE, ⟨hA, hL9, hP9, hC⟩, hK, hT6, hh⟩ := H
  obtain ⟨p0, p1, p2, p3, p4, p5, p7, p8, p9, p6, p10⟩ := c_props hf hJ (show h < 1000000 by omega) ht
  obtain ⟨x, hx, hwx⟩ := wv_bd (a := h) hJ.2.2.2.2.2.2.2.2.1
  obtain ⟨-, ⟨r, hr, hzr⟩, -⟩ := hJ.2.2.1 t ht
  have q10 := p10 r x hr hx hzr hwx
  have hw := l_wind (G := S.1 9) hK.1 hJ.1.2.2.2.2.2.1 hJ.1.1.2.2.2.2 (show h < 2 ^ 31 by omega)
  rw [hwx] at hw
  have hpw := l_power (K := S.1 11) (G := S.1 9) (t := t) (x := x) (r := r) (by omega) hr hx ((aT2 hA ht).trans hzr)
  have c5 : S.1 9 3 5 = nI h := (aC5 hC).trans hJ.1.2.2.2.2.2.2
  have k0 : S.1 11 1 0 = Z 71 := hK.2.1 0 (by omega)
  obtain ⟨v, s1, s2⟩ : ∃ v, t_X8_turbine S (nI t) (nI 6) = some v ∧ s_L_spot (S.1 11) (S.1 9) (nI t) = some v := by
    rcases l_spot (K := S.1 11) hf hP9 hP8 hJ.1.2.2.2.2.1 hJ.2.2.2.2.2.1 (nI t) with ⟨a, b, -⟩ | ⟨p, -, -, a, b⟩
    · exact ⟨_, p6 _ a, b⟩
    · exact ⟨_, p6 _ a, b⟩
  have q0 := aT0 hA ht
  have q1 := aT1 hA ht
  have q2 := aT2 hA ht
  have q3 := aT3 hA ht
  have q4 := aT4 hA ht
  have q5 := aT5 hA ht
  have q6 := aT6 hA ht
  have st : ∀ (k n : Nat) (v : Int32), k < 5 → t_X8_turbine S (nI t) (nI k) = some v → S.1 9 0 (7 * t + k) = v → s_L_turbines_70 S k3 (n + 1) (nI t) (nI (cnt (mzb Z (nI t)) nL)) (nI k) = s_L_turbines_70 S k3 n (nI t) (nI (cnt (mzb Z (nI t)) nL)) (nI (k + 1)) := fun k n v hk e1 e2 => by
    have hck : ¬ 5 ≤ k := by omega
    simp (disch := omega) only [s_L_turbines_70, ↓pm_bd, pm_lit, pk_mul, pm_S, pm_gd, pm_C, hck, e1, pm_cl, e2, ↓reduceIte]
  rw [st 0 1199 _ (by omega) p0 q0, st 1 1198 _ (by omega) p1 q1, st 2 1197 _ (by omega) p2 q2, st 3 1196 _ (by omega) p3 q3, st 4 1195 _ (by omega) p4 q4]
  simp (disch := omega) only [s_L_turbines_70, ↓pm_bd, pm_lit, pk_mul, pm_S, pm_gd, pm_C, Nat.le_refl, p5, p7, p8, p9, q10, s1, s2, pm_cl, q1, q5, q6, k0, c5, hw, hpw, ↓reduceIte]
theorem t_turbines_3 {S : cr_S} {Z : Nat → Int32} {nT nB nL nP nW h : Nat} (H : RZ S Z nT nB nL nP nW h) : ∀ d k n, nT - k = d → d < n → k ≤ nT → s_L_turbines_3 S n (nI k) = some true := by
  have hC := H.2.2.2.1.2.2.2
  have h6 : S.1 9 3 6 = nI nT := (aC6 hC).trans H.2.1.1.2.1
  have hT6 := H.2.2.2.2.2.1
  have hL := H.2.1.1.1.2.2.1
  intro d
  induction d with
  | zero =>
    intro k n hd hn hk
    obtain ⟨n, rfl⟩ : ∃ m, n = m + 1 := ⟨n - 1, by omega⟩
    have hck : nT ≤ k := by omega
    have hb := t_blades H nL 0 1200 rfl (by omega) (by omega)
    simp (disch := omega) only [s_L_turbines_3, pm_lit, h6, pm_C, hck, hb, ↓reduceIte]
  | succ d ih =>
    intro k n hd hn hk
    obtain ⟨n, rfl⟩ : ∃ m, n = m + 1 := ⟨n - 1, by omega⟩
    have hck : ¬ nT ≤ k := by omega
    have hi := ih (k + 1) n (by omega) (by omega) (by omega)
    have h1 := t_ready (t := k) H (fun x7a => s_L_turbines_3 S n x7a) nL 0 1200 rfl (by omega) (by omega)
    rw [cnt] at h1
    have h2 := t_one (t := k) H (by omega) (fun x7a => s_L_turbines_3 S n x7a)
    simp (disch := omega) only [s_L_turbines_3, pm_lit, h6, pm_C, hck, ↓reduceIte]
    rw [h1, h2]
    exact hi
theorem t_turbines {S : cr_S} {Z : Nat → Int32} {nT nB nL nP nW h : Nat} (H : RZ S Z nT nB nL nP nW h) : s_L_turbines S = some true := by
  have h1 := t_turbines_3 H nT 0 1200 rfl (by have := H.2.2.2.2.2.1; omega) (by omega)
  simp only [s_L_turbines, pm_lit]
  exact h1
theorem t_bogs {S : cr_S} {Z : Nat → Int32} {nT nB nL nP nW h : Nat} (H : RZ S Z nT nB nL nP nW h) (x1 : Int32) : ∀ d k n, nB - k = d → d < n → k ≤ nB → s_L_told_22 S n x1 (nI k) = s_L_told_79 S 1200 x1 (nI 0) := by
  obtain ⟨hf, hJ, hE, ⟨hA, hL9, hP9, hC⟩, hK, hT6, hh⟩ := H
  have hB := hJ.1.1.2.1
  have h127 := hJ.1.2.2.1
  have h8 : S.1 9 3 8 = nI nB := (aC8 hC).trans h127
  have h5 : S.1 0 2 2 = nI nB := (fr_b hf).trans h127
  intro d
  induction d with
  | zero =>
    intro k n hd hn hk
    obtain ⟨n, rfl⟩ : ∃ m, n = m + 1 := ⟨n - 1, by omega⟩
    have hck : nB ≤ k := by omega
    simp (disch := omega) only [s_L_told_22, pm_lit, h8, pm_C, hck, ↓reduceIte]
  | succ d ih =>
    intro k n hd hn hk
    obtain ⟨n, rfl⟩ : ∃ m, n = m + 1 := ⟨n - 1, by omega⟩
    have hck : ¬ nB ≤ k := by omega
    have hkl : k < nB := by omega
    have hi := ih (k + 1) n (by omega) (by omega) (by omega)
    obtain ⟨b1, b2⟩ := c_bog h5 hB hkl
    have e1 : S.1 0 3 k = S.1 11 2 (2 * k) := (fr_bp hf hkl).trans (hK.2.2 k hkl).1.symm
    have e2 : S.1 0 4 k = S.1 11 2 (2 * k + 1) := (fr_bn hf hkl).trans (hK.2.2 k hkl).2.symm
    simp (disch := omega) only [s_L_told_22, ↓pm_bd, pm_lit, pk_mul, pm_S, pm_gd, pm_C, h8, hck, b1, b2, pm_cl, e1, e2, ↓reduceIte]
    exact hi
theorem t_claims {S : cr_S} {Z : Nat → Int32} {nT nB nL nP nW h : Nat} (H : RZ S Z nT nB nL nP nW h) (x1 : Int32) : ∀ d k n, 5 - k = d → d < n → k ≤ 5 → s_L_told_79 S n x1 (nI k) = s_L_told_113 S 1200 x1 (nI 0) := by
  obtain ⟨hf, hJ, hE, ⟨hA, hL9, hP9, hC⟩, hK, hT6, hh⟩ := H
  intro d
  induction d with
  | zero =>
    intro k n hd hn hk
    obtain ⟨n, rfl⟩ : ∃ m, n = m + 1 := ⟨n - 1, by omega⟩
    have hck : 5 ≤ k := by omega
    simp (disch := omega) only [s_L_told_79, pm_lit, pm_C, hck, ↓reduceIte]
  | succ d ih =>
    intro k n hd hn hk
    obtain ⟨n, rfl⟩ : ∃ m, n = m + 1 := ⟨n - 1, by omega⟩
    have hck : ¬ 5 ≤ k := by omega
    have hi := ih (k + 1) n (by omega) (by omega) (by omega)
    have b1 := c_claims (S := S) (show k < 5 by omega)
    have e1 : S.1 0 14 k = S.1 9 3 (9 + k) := (fr_q hf (show k < 5 by omega)).trans (aCq hC (show k < 5 by omega)).symm
    simp (disch := omega) only [s_L_told_79, ↓pm_bd, pm_lit, pm_S, pm_gd, pm_C, hck, b1, pm_cl, e1, ↓reduceIte]
    exact hi
/-- the mean of the wind and the share of the power, as the law reckons them -/
theorem t_floats {S : cr_S} {Z : Nat → Int32} {nT nB nL nP nW h : Nat} (H : RZ S Z nT nB nL nP nW h) (x1 : Int32) : ∀ d k n, nW - k = d → d < n → k ≤ nW → s_L_told_378 S n x1 (sI (fun i => Z (79 + i)) k) (nI (k + 1)) = some true := by
  have hP8 := H.P8
  obtain ⟨hf, hJ, hE, ⟨hA, hL9, hP9, hC⟩, hK, hT6, hh⟩ := H
  have hW := hJ.1.1.2.2.2.2
  have hB := hJ.1.1.2.1
  have h78 := hJ.1.2.2.2.2.2.1
  have h127 := hJ.1.2.2.1
  have k0 : S.1 11 0 0 = nI nW := (hK.1 0 (by omega)).trans h78
  have h6 : S.1 9 3 6 = nI nT := (aC6 hC).trans hJ.1.2.1
  intro d
  induction d with
  | zero =>
    intro k n hd hn hk
    obtain ⟨n, rfl⟩ : ∃ m, n = m + 1 := ⟨n - 1, by omega⟩
    obtain rfl : k = nW := by omega
    have hck : k < k + 1 := by omega
    have s5 := l_sumk (K := S.1 11) (G := S.1 9) (k := 5) (by omega) (by omega) hT6 hA h6
    have s6 := l_sumk (K := S.1 11) (G := S.1 9) (k := 6) (by omega) (by omega) hT6 hA h6
    have s5 : s_L_sum (S.1 11) (S.1 9) (nI 5) = some (sI (fun t => Z (50 + t)) nT) := s5
    have s6 : s_L_sum (S.1 11) (S.1 9) (nI 6) = some (sI (fun t => Z (60 + t)) nT) := s6
    obtain ⟨a, b, ha, hb, ea, eb, hsh, hok⟩ := c_share hf hJ (by omega)
    rw [ea] at s5
    rw [eb] at s6
    obtain ⟨w, hw, ew, hme, hokF⟩ := c_mean hf hJ
    obtain ⟨A, hA9, eA⟩ := l_at x1 (m := 100) (by omega) (by omega)
    obtain ⟨B, hB9, eB⟩ := l_at (x1 >>> (nI 7 &&& 31)) (m := 100) (by omega) (by omega)
    -- the way
    obtain ⟨v1, -, v2, v3⟩ := q_way (M := fun _ _ => 0) hf hB h127 hJ.2.1 hJ.2.2.2.2.2.2.2.1 (show A ≤ 99 by omega) (show B ≤ 99 by omega)
    obtain ⟨u1, -, u2, u3⟩ := l_way (M := fun _ _ => 0) hK hC hB h127 hJ.2.1 hJ.2.2.2.2.2.2.2.1 (show A ≤ 99 by omega) (show B ≤ 99 by omega)
    have vu : nI v1 = nI u1 := Option.some.inj (v3.symm.trans u3)
    have wA := c_wi (n := A) (lo := 0) (hi := 99) (by omega) (by omega) (by omega)
    have wB := c_wi (n := B) (lo := 0) (hi := 99) (by omega) (by omega) (by omega)
    have hway : t_X8_way S (nI A) (nI B) = some (nI u1) := by
      rw [← vu]
      simp only [t_X8_way, pm_lit, wA, wB, pm_cl, v2, ↓reduceIte]
    -- the share
    have share : ∀ y : UInt32, Op.cmpValue (FP.fcmp y y) .l = nI 0 → s_L_told_491 S (nI (a + b)) y y = some true := by
      intro y hy
      by_cases e : a + b = 0
      · rw [if_pos e] at hsh hok
        have hcmp := okD_c hok
        simp (disch := omega) only [s_L_told_491, pm_lit, hy, hsh, pm_cl, pm_C, e, hcmp, ↓reduceIte]
      · rw [if_neg e] at hsh hok
        have hcmp := okD_c hok
        obtain ⟨o1, o2⟩ := one_D (n := a) (by omega)
        have hg : cr_nddiv (FP.i2d (nI a)) (FP.i2d (nI (a + b))) = true := gd_D hok.1
        simp (disch := omega) only [s_L_told_491, pm_lit, hy, hsh, pm_cl, pm_C, e, s5, o1, o2, hg, pm_gd, hcmp, ↓reduceIte]
    rw [ew]
    by_cases e : k = 0
    · rw [if_pos e] at hme hokF
      have hs := share _ (okF_c hokF)
      simp (disch := omega) only [s_L_told_378, ↓pm_bd, pm_lit, k0, pm_C, hck, s5, s6, pm_cl, pm_add, eA, eB, hway, u2, hme, eq_true e, hs, ↓reduceIte]
    · rw [if_neg e] at hme hokF
      have hs := share _ (okF_c hokF)
      obtain ⟨o1, o2⟩ := one_F (n := w) (by omega)
      have hg : cr_nfdiv (FP.i2f (nI w)) (FP.i2f (nI k)) = true := gd_F hokF.1
      simp (disch := omega) only [s_L_told_378, ↓pm_bd, pm_lit, k0, pm_C, hck, s5, s6, pm_cl, pm_add, eA, eB, hway, u2, hme, e, o1, o2, hg, pm_gd, hs, ↓reduceIte]
  | succ d ih =>
    intro k n hd hn hk
    obtain ⟨n, rfl⟩ : ∃ m, n = m + 1 := ⟨n - 1, by omega⟩
    have hck : ¬ nW < k + 1 := by omega
    have hi := ih (k + 1) n (by omega) (by omega) (by omega)
    rw [sI] at hi
    have e1 : S.1 11 0 (k + 1) = Z (79 + k) := by rw [hK.1 _ (by omega), show 78 + (k + 1) = 79 + k by omega]
    simp (disch := omega) only [s_L_told_378, ↓pm_bd, pm_lit, k0, pm_C, hck, pm_S, pm_gd, e1, ↓reduceIte]
    exact hi
theorem t_told {S : cr_S} {Z : Nat → Int32} {nT nB nL nP nW h : Nat} (H : RZ S Z nT nB nL nP nW h) (x1 : Int32) : s_L_told S x1 = some true := by
  have hP8 := H.P8
  have t1 := t_turbines H
  have t2 := t_bogs H x1 nB 0 1200 rfl (by have := H.2.1.1.1.2.1; omega) (by omega)
  have t3 := t_claims H x1 5 0 1200 rfl (by omega) (by omega)
  have t4 := t_floats H x1 nW 0 1200 rfl (by have := H.2.1.1.1.2.2.2.2; omega) (by omega)
  rw [sI] at t4
  obtain ⟨hf, hJ, hE, ⟨hA, hL9, hP9, hC⟩, hK, hT6, hh⟩ := H
  obtain ⟨c0, c1, c2, c3, c4, c5, c6, c7, c8, c9, c10, c11, c12, c13, -⟩ := c_counts hf hJ (show h < 1000000 by omega)
  have h6 : S.1 9 3 6 = nI nT := (aC6 hC).trans hJ.1.2.1
  have h182 := hJ.1.2.2.2.2.2.2
  have r5 : S.1 9 3 5 = nI h := (aC5 hC).trans h182
  have hw := l_wind (G := S.1 9) hK.1 hJ.1.2.2.2.2.2.1 hJ.1.1.2.2.2.2 (show h < 2 ^ 31 by omega)
  have s3 := l_sum3 (K := S.1 11) (G := S.1 9) hT6 hA h6 (fun t ht => (hJ.2.2.1 t ht).2.2)
  have s5 : s_L_sum (S.1 11) (S.1 9) (nI 5) = some (sI (fun t => Z (50 + t)) nT) := l_sumk (k := 5) (by omega) (by omega) hT6 hA h6
  have s6 : s_L_sum (S.1 11) (S.1 9) (nI 6) = some (sI (fun t => Z (60 + t)) nT) := l_sumk (k := 6) (by omega) (by omega) hT6 hA h6
  have k0 : S.1 11 0 0 = Z 78 := hK.1 0 (by omega)
  have p0 : S.1 9 2 0 = Z 145 := hP9 0 (by omega)
  have h145 := hJ.1.2.2.2.2.1
  -- settings
  have set : ∀ k n, k < 7 → s_L_told_113 S (n + 1) x1 (nI k) = s_L_told_113 S n x1 (nI (k + 1)) := fun k n hk => by
    have hck : ¬ 7 ≤ k := by omega
    have b1 := c_setting (S := S) hk
    have e1 : S.1 0 13 k = S.1 11 1 k := (fr_s hf hk).trans (hK.2.1 k hk).symm
    simp (disch := omega) only [s_L_told_113, ↓pm_bd, pm_lit, pm_S, pm_gd, pm_C, hck, b1, pm_cl, e1, ↓reduceIte]
  have t5 : s_L_told_113 S 1200 x1 (nI 0) = s_L_told_113 S 1193 x1 (nI 7) := by
    rw [set 0 1199 (by omega), set 1 1198 (by omega), set 2 1197 (by omega), set 3 1196 (by omega), set 4 1195 (by omega), set 5 1194 (by omega), set 6 1193 (by omega)]
  -- the counts
  have tail : s_L_told_378 S 1200 x1 (nI 0) (nI 1) = some true := t4
  have t320 : s_L_told_320 S x1 (if nP = 0 then nI 0 else if Z 146 = Z 144 then Z 143 else nI 0) (if nP = 0 then nI 0 else if Z 146 = Z 144 then Z 143 else nI 0) = some true := by
    simp (disch := omega) only [s_L_told_320, pm_lit, c11, c12, c13, s5, s6, pm_cl, aC7 hC, tail, ↓reduceIte]
  have t244 : ∀ y : Int32, s_L_told_244 S x1 y y = some true := by
    intro y
    have d7 := aC0 hC
    have d8 := aC2 hC
    have d9 := aC1 hC
    have d4 := aC4 hC
    have d3 := aC3 hC
    by_cases e0 : nP = 0
    · rw [if_pos e0] at t320 c10
      have e1 : nP ≤ 0 := by omega
      simp (disch := omega) only [s_L_told_244, pm_lit, c7, c8, c9, c10, pm_cl, d7, d8, d9, p0, h145, pm_C, e1, t320, ↓reduceIte]
    · rw [if_neg e0] at t320 c10
      have e1 : ¬ nP ≤ 0 := by omega
      have p1 : S.1 9 2 1 = Z 146 := hP9 1 (by omega)
      by_cases e2 : Z 146 = Z 144
      · rw [if_pos e2] at t320 c10
        have e3 : S.1 9 2 1 = S.1 9 3 4 := by rw [p1, d4, e2]
        simp (disch := omega) only [s_L_told_244, pm_lit, c7, c8, c9, c10, pm_cl, d7, d8, d9, p0, h145, pm_C, e1, e3, d3, t320, ↓reduceIte]
      · rw [if_neg e2] at t320 c10
        have e3 : ¬ S.1 9 2 1 = S.1 9 3 4 := by rw [p1, d4]; exact e2
        simp (disch := omega) only [s_L_told_244, pm_lit, c7, c8, c9, c10, pm_cl, d7, d8, d9, p0, h145, pm_C, e1, e3, t320, ↓reduceIte]
  have t6 : s_L_told_113 S 1193 x1 (nI 7) = some true := by
    by_cases e0 : nP = 0
    · rw [if_pos e0] at c6
      have e1 : nP ≤ 0 := by omega
      simp (disch := omega) only [s_L_told_113, ↓pm_m1, pm_lit, pm_C, Nat.le_refl, c0, c1, c2, c3, c4, c5, c6, pm_cl, aC6 hC, s3, aC5 hC, h182, hw, k0, p0, h145, e1, t244, ↓reduceIte]
    · rw [if_neg e0] at c6
      have e1 : ¬ nP ≤ 0 := by omega
      have p1 : S.1 9 2 1 = Z 146 := hP9 1 (by omega)
      simp (disch := omega) only [s_L_told_113, ↓pm_m1, pm_lit, pm_C, Nat.le_refl, c0, c1, c2, c3, c4, c5, c6, pm_cl, aC6 hC, s3, aC5 hC, h182, hw, k0, p0, p1, h145, e1, t244, ↓reduceIte]
  simp only [s_L_told, pm_lit, t1, pm_cl, t2, t3, t5, t6, ↓reduceIte]
