/-! ### the end of an hour of work -/
def fin9 (t p nL nP : Nat) (Z : Nat → Int32) : Nat → Int32 := tk (fg (us (upd (upd Z (30 + t) (nI 0)) (40 + t) (nI 0)) p nL)) 0 nP
theorem fin9_o {t p nL nP i : Nat} {Z : Nat → Int32} (hL : nL ≤ 10) (hP : nP ≤ 10) (h : i < 143 ∨ 177 ≤ i) (h1 : i ≠ 30 + t) (h2 : i ≠ 40 + t) : fin9 t p nL nP Z i = Z i := by
  unfold fin9
  rw [tk_o hP (by omega), fg_o (by omega), us_o hL (by omega), pm_un _ _ h2, pm_un _ _ h1]
theorem us_upd {Z : Nat → Int32} {p c i : Nat} {v : Int32} (h : i < 156) : us (upd Z i v) p c = upd (us Z p c) i v := by
  unfold us
  rw [upd_comm (show i ≠ 156 by omega), sl_upd_o (Or.inl (by omega)), sl_upd_o (Or.inl (by omega))]
theorem fg_upd {Z : Nat → Int32} {i : Nat} {v : Int32} (h : i < 143) : fg (upd Z i v) = upd (fg Z) i v := by
  unfold fg
  rw [upd_comm (show i ≠ 143 by omega), upd_comm (show i ≠ 144 by omega)]
theorem tk_upd {Z : Nat → Int32} {p c i : Nat} {v : Int32} (h : i < 145) : tk (upd Z i v) p c = upd (tk Z p c) i v := by
  unfold tk
  rw [upd_comm (show i ≠ 145 by omega), sl_upd_o (Or.inl (by omega))]
theorem fin9_u {t p nL nP i : Nat} {Z : Nat → Int32} {v : Int32} (h : i < 143) (h1 : i ≠ 30 + t) (h2 : i ≠ 40 + t) : fin9 t p nL nP (upd Z i v) = upd (fin9 t p nL nP Z) i v := by
  unfold fin9
  rw [upd_comm h1, upd_comm h2, us_upd (by omega), fg_upd h, tk_upd (by omega)]
theorem fin9_wz {nT t p nL nP c : Nat} (hT : nT ≤ 10) (hL : nL ≤ 10) (hP : nP ≤ 10) (ht : t < 10) (hc : c = 4) (Z : Nat → Int32) : fin9 t p nL nP (wz (nI t) c nT 0 Z) = wz (nI t) c nT 0 (fin9 t p nL nP Z) := by
  refine wz_comm (fin9 t p nL nP) nT 0 Z (fun j Y _ hj => ?_)
  by_cases e : j = t
  · subst e
    have h4 : cau (nI j) c j = 4 := by unfold cau; rw [if_pos rfl, hc]
    unfold wos
    rw [if_pos (Or.inl h4), if_pos (Or.inl h4)]
  · exact wos_comm (fin9 t p nL nP) (fun Y i hi => fin9_o hL hP (by omega) (by omega) (by omega)) (fun Y i v hi => fin9_u (by omega) (by omega) (by omega)) Y
/-- rows moved by two -/
def s2 (f : Nat → Int32) (p c : Nat) : Nat → Int32 := fun i => if p ≤ i ∧ i < c then f (i + 2) else f i
theorem s2_id {f : Nat → Int32} {p c : Nat} (h : c ≤ p) : s2 f p c = f := by
  funext i
  simp only [s2]
  rw [if_neg (by omega)]
theorem s2_step {f : Nat → Int32} {p c : Nat} (h : p < c) : s2 (upd f p (f (p + 2))) (p + 1) c = s2 f p c := by
  funext i
  simp only [s2, upd]
  repeat' split
  all_goals first | omega | (congr 1; omega) | rfl
theorem aL_use {nL p : Nat} {f Z : Nat → Int32} (hL : nL ≤ 10) (hp : p < nL) (h : aL nL f Z) : aL (nL - 1) (s2 f (2 * p) (2 * (nL - 1))) (us Z p nL) := by
  intro b hb
  rw [us_w hL hb, us_g hL hb]
  simp only [s2]
  by_cases e : p ≤ b
  · obtain ⟨q1, q2⟩ := h (b + 1) (by omega)
    rw [if_pos (by omega), if_pos e, if_pos (by omega), if_pos e, show 2 * b + 2 = 2 * (b + 1) by omega, show 2 * b + 1 + 2 = 2 * (b + 1) + 1 by omega]
    exact ⟨q1, q2⟩
  · obtain ⟨q1, q2⟩ := h b (by omega)
    rw [if_neg (by omega), if_neg e, if_neg (by omega), if_neg e]
    exact ⟨q1, q2⟩
theorem l_shift (K G : cr_G) (x11 : Int32) (c : Nat) (hc : c < 10) (h7 : G 3 7 = nI c) : ∀ (d k n : Nat) (h : Nat → Int32), 2 * c - k = d → d < n → k ≤ 20 → ∃ m, s_L_hour_486 K n x11 (nI k) (cr_pa G 1 h) = s_L_hour_486 K (m + 1) x11 (nI (max k (2 * c))) (cr_pa G 1 (s2 h k (2 * c))) := by
  intro d
  induction d with
  | zero =>
    intro k n h hd hn hk
    obtain ⟨n, rfl⟩ : ∃ m, n = m + 1 := ⟨n - 1, by omega⟩
    exact ⟨n, by rw [s2_id (by omega), show max k (2 * c) = k by omega]⟩
  | succ d ih =>
    intro k n h hd hn hk
    obtain ⟨n, rfl⟩ : ∃ m, n = m + 1 := ⟨n - 1, by omega⟩
    have hck : ¬ 2 * c ≤ k := by omega
    obtain ⟨m, e⟩ := ih (k + 1) n (upd h k (h (k + 2))) (by omega) (by omega) (by omega)
    refine ⟨m, ?_⟩
    rw [s2_step (by omega), show max (k + 1) (2 * c) = max k (2 * c) by omega] at e
    rw [← e]
    simp (disch := omega) only [s_L_hour_486, ↓pm_bd, pm_gd, pm_lit, pk_mul, pm_S, pm_C, h7, hck, ↓reduceIte]
/-- behind the shares: the law's end of the hour and the model's -/
theorem l_finish {nT nL nP t p : Nat} (K G : cr_G) (s x : Int32) (m : Nat) {a b Z : Nat → Int32} (hT6 : nT ≤ 6) (hL : nL ≤ 10) (hP6 : nP ≤ 8) (hP0 : 0 < nP) (ht : t < nT) (hA : aT nT a Z) (hC : aC b Z) (hL9 : aL nL (G 1) Z) (hP9 : aP nP (G 2) Z) (h70 : Z 70 = nI nT) (h156 : Z 156 = nI nL) (h145 : Z 145 = nI nP) (hK : K 1 2 = Z 73) (hp : p < nL) (hpm : mzb Z (nI t) p = true) (hpl : ∀ i, i < p → mzb Z (nI t) i = false) : (Z 143 < Z 73 * Z (30 + t) ∧ s_L_hour_205 K (m + 1) x (nI t) (nI 4) s (nI nT) (cr_pa (cr_pa G 0 a) 3 b) = s_L_hour_529 K s (cr_pa (cr_pa G 0 a) 3 b)) ∨ (¬ Z 143 < Z 73 * Z (30 + t) ∧ ∃ a' l' p' b' : Nat → Int32, s_L_hour_205 K (m + 1) x (nI t) (nI 4) s (nI nT) (cr_pa (cr_pa G 0 a) 3 b) = s_L_hour_529 K s (cr_pa (cr_pa (cr_pa (cr_pa G 0 a') 1 l') 2 p') 3 b') ∧ aT nT a' (fin9 t p nL nP Z) ∧ aL (nL - 1) l' (fin9 t p nL nP Z) ∧ aP (nP - 1) p' (fin9 t p nL nP Z) ∧ aC b' (fin9 t p nL nP Z)) := by
  have h6 : b 6 = nI nT := (aC6 hC).trans h70
  have h7 : b 7 = nI nL := (aC7 hC).trans h156
  have t3 := aT3 hA ht
  have h3 := aC3 hC
  by_cases e : Z 143 < Z 73 * Z (30 + t)
  · refine Or.inl ⟨e, ?_⟩
    simp (disch := omega) only [s_L_hour_205, pm_lit, pk_mul, pm_S, pm_gd, pm_C, h6, Nat.le_refl, t3, h3, hK, e, ↓reduceIte]
  · refine Or.inr ⟨e, upd (upd a (7 * t + 3) (nI 0)) (7 * t + 4) (nI 0), s2 (G 1) (2 * p) (2 * (nL - 1)), upd (sl (G 2) 0 (0 + 1) nP) 0 (nI (nP - 1)), upd (upd (upd b 7 (nI (nL - 1))) 3 (nI 0)) 4 mI, ?_, ?_, ?_, ?_, ?_⟩
    · -- the ready blade
      have mz9 : ∀ i, i < 10 → mzb (upd (upd Z (30 + t) (nI 0)) (40 + t) (nI 0)) (nI t) i = mzb Z (nI t) i := fun i hi => by
        have e1 : upd (upd Z (30 + t) (nI 0)) (40 + t) (nI 0) (157 + i) = Z (157 + i) := by rw [pm_un _ _ (by omega), pm_un _ _ (by omega)]
        have e2 : upd (upd Z (30 + t) (nI 0)) (40 + t) (nI 0) (167 + i) = Z (167 + i) := by rw [pm_un _ _ (by omega), pm_un _ _ (by omega)]
        simp only [mzb, mtb, e1, e2]
      have hr := l_ready_s K (cr_pa (cr_pa G 0 (upd (upd a (7 * t + 3) (nI 0)) (7 * t + 4) (nI 0))) 3 b) Z (t := t) hL (by rw [pm_pan _ _ (by omega), pm_pan _ _ (by omega)]; exact hL9) (by rw [pm_pa]; exact h7) hp hpm p 0 1200 rfl (by omega) (by omega) (fun i _ hi => hpl i hi)
      have hsh := l_shift K (cr_pa (cr_pa G 0 (upd (upd a (7 * t + 3) (nI 0)) (7 * t + 4) (nI 0))) 3 (upd b 7 (nI (nL - 1)))) s (nL - 1) (by omega) (by rw [pm_pa, pm_u]) (2 * (nL - 1) - 2 * p) (2 * p) 1200 (G 1) rfl (by omega) (by omega)
      obtain ⟨m9, hsh⟩ := hsh
      have hself : cr_pa (cr_pa (cr_pa G 0 (upd (upd a (7 * t + 3) (nI 0)) (7 * t + 4) (nI 0))) 3 (upd b 7 (nI (nL - 1)))) 1 (G 1) = cr_pa (cr_pa G 0 (upd (upd a (7 * t + 3) (nI 0)) (7 * t + 4) (nI 0))) 3 (upd b 7 (nI (nL - 1))) := by
        funext j
        by_cases q1 : j = 1
        · subst q1
          simp [cr_pa]
        · simp [cr_pa, q1]
      rw [hself] at hsh
      have hfull : 2 * (nL - 1) ≤ max (2 * p) (2 * (nL - 1)) := by omega
      have hmx : max (2 * p) (2 * (nL - 1)) ≤ 20 := by omega
      have step1 : s_L_hour_205 K (m + 1) x (nI t) (nI 4) s (nI nT) (cr_pa (cr_pa G 0 a) 3 b) = s_L_hour_486 K 1200 s (nI (2 * p)) (cr_pa (cr_pa G 0 (upd (upd a (7 * t + 3) (nI 0)) (7 * t + 4) (nI 0))) 3 (upd b 7 (nI (nL - 1)))) := by
        simp (disch := omega) only [s_L_hour_205, s_L_ready, ↓pm_bd, pm_lit, pk_mul, pm_S, pm_gd, pm_ptn, pm_C, h6, Nat.le_refl, t3, h3, hK, e, hr, pm_cl, h7, ↓reduceIte]
      rw [step1, hsh]
      have h20 : G 2 0 = nI nP := (hP9 0 (by omega)).trans h145
      have hoff := l_off (K := K) (G := cr_pa (cr_pa (cr_pa G 0 (upd (upd a (7 * t + 3) (nI 0)) (7 * t + 4) (nI 0))) 3 (upd (upd (upd b 7 (nI (nL - 1))) 3 (nI 0)) 4 mI)) 1 (s2 (G 1) (2 * p) (2 * (nL - 1)))) (c := nP) (p := 0) hP6 hP0 hP0 (by rw [pm_pan _ _ (by omega), pm_pan _ _ (by omega), pm_pan _ _ (by omega)]; exact h20)
      rw [pm_pan _ _ (by omega), pm_pan _ _ (by omega), pm_pan _ _ (by omega)] at hoff
      have hfin : cr_pa (cr_pa (cr_pa (cr_pa G 0 (upd (upd a (7 * t + 3) (nI 0)) (7 * t + 4) (nI 0))) 3 (upd (upd (upd b 7 (nI (nL - 1))) 3 (nI 0)) 4 mI)) 1 (s2 (G 1) (2 * p) (2 * (nL - 1)))) 2 (upd (sl (G 2) 0 (0 + 1) nP) 0 (nI (nP - 1))) = cr_pa (cr_pa (cr_pa (cr_pa G 0 (upd (upd a (7 * t + 3) (nI 0)) (7 * t + 4) (nI 0))) 1 (s2 (G 1) (2 * p) (2 * (nL - 1)))) 2 (upd (sl (G 2) 0 (0 + 1) nP) 0 (nI (nP - 1)))) 3 (upd (upd (upd b 7 (nI (nL - 1))) 3 (nI 0)) 4 mI) := by
        funext j
        by_cases q1 : j = 0
        · subst q1; simp [cr_pa]
        · by_cases q2 : j = 1
          · subst q2; simp [cr_pa]
          · by_cases q3 : j = 2
            · subst q3; simp [cr_pa]
            · by_cases q4 : j = 3
              · subst q4; simp [cr_pa]
              · simp [cr_pa, q1, q2, q3, q4]
      rw [hfin] at hoff
      simp (disch := omega) only [s_L_hour_486, ↓pm_m1, ↓pm_bd, pm_lit, pk_mul, pm_S, pm_ptn, pm_C, hfull, hoff, pm_cl, ↓reduceIte]
    · have h1 := aT_u (i0 := 4) (nI 0) (aT_u (i0 := 3) (nI 0) hA (by omega) ht (by omega)) (by omega) ht (by omega)
      exact aT_c h1 (by omega) (fun i hi => by
        unfold fin9
        rw [tk_o (by omega) (by omega), fg_o (by omega), us_o hL (by omega)])
    · have h1 := aL_use hL hp (aL_c hL9 hL (Z' := upd (upd Z (30 + t) (nI 0)) (40 + t) (nI 0)) (fun i hi => by rw [pm_un _ _ (by omega), pm_un _ _ (by omega)]))
      exact aL_c h1 (by omega) (fun i hi => by
        unfold fin9
        rw [tk_o (by omega) (by omega), fg_o (by omega)])
    · have h1 := aP_off (p := 0) (by omega) hP0 (aP_c hP9 (by omega) (Z' := fg (us (upd (upd Z (30 + t) (nI 0)) (40 + t) (nI 0)) p nL)) (fun i hi => by rw [fg_o (by omega), us_o hL (by omega), pm_un _ _ (by omega), pm_un _ _ (by omega)]))
      exact h1
    · have hne0 : ∀ k, k < 14 → (k = 7 ∨ k = 3 ∨ k = 4 ∨ ((mcs k < 143 ∨ 177 ≤ mcs k) ∧ (mcs k < 30 ∨ 50 ≤ mcs k))) := by decide
      have hne : ∀ k, k < 14 → k ≠ 7 → k ≠ 3 → k ≠ 4 → (mcs k < 143 ∨ 177 ≤ mcs k) ∧ (mcs k < 30 ∨ 50 ≤ mcs k) := fun k hk h7 h3 h4 => by
        rcases hne0 k hk with h | h | h | h
        · exact absurd h h7
        · exact absurd h h3
        · exact absurd h h4
        · exact h
      intro k hk
      by_cases k4 : k = 4
      · subst k4
        rw [pm_u]
        show mI = fin9 t p nL nP Z 144
        unfold fin9
        rw [tk_o (by omega) (by omega), fg_144]
      · by_cases k3 : k = 3
        · subst k3
          rw [pm_un _ _ (by omega), pm_u]
          show nI 0 = fin9 t p nL nP Z 143
          unfold fin9
          rw [tk_o (by omega) (by omega), fg_143]
        · by_cases k7 : k = 7
          · subst k7
            rw [pm_un _ _ (by omega), pm_un _ _ (by omega), pm_u]
            show nI (nL - 1) = fin9 t p nL nP Z 156
            unfold fin9
            rw [tk_o (by omega) (by omega), fg_o (by omega), us_156]
          · obtain ⟨q1, q2⟩ := hne k hk k7 k3 k4
            rw [pm_un _ _ k4, pm_un _ _ k3, pm_un _ _ k7, fin9_o hL (by omega) q1 (by omega) (by omega)]
            exact hC k hk
theorem m_finish {nT nL nP t p : Nat} (M : cr_G) (s w : Int32) (n : Nat) {Z : Nat → Int32} (hT : nT ≤ 10) (hL : nL ≤ 10) (hP6 : nP ≤ 10) (hP0 : 0 < nP) (ht : t < nT) (h70 : Z 70 = nI nT) (h156 : Z 156 = nI nL) (h145 : Z 145 = nI nP) (hp : p < nL) (hpm : mzb Z (nI t) p = true) (hpl : ∀ i, i < p → mzb Z (nI t) i = false) : (Z 143 < Z 73 * Z (30 + t) → s_X9_goHour_158 (n + 1) (nI t) w (nI 4) s (nI nT) (cr_pa M 1 Z) = s_X9_goHour_356 1200 (nI t) (nI 4) s (nI 0) (cr_pa M 1 Z)) ∧ (¬ Z 143 < Z 73 * Z (30 + t) → s_X9_goHour_158 (n + 1) (nI t) w (nI 4) s (nI nT) (cr_pa M 1 Z) = s_X9_goHour_356 1200 (nI t) (nI 4) s (nI 0) (cr_pa M 1 (fin9 t p nL nP Z))) := by
  have t10 : t < 10 := by omega
  refine ⟨fun e => ?_, fun e => ?_⟩
  · simp (disch := omega) only [s_X9_goHour_158, ↓pm_bd, pm_lit, pm_S, pm_gd, pm_C, h70, Nat.le_refl, e, ↓reduceIte]
  · have o : ∀ i, i ≠ 30 + t → i ≠ 40 + t → upd (upd Z (30 + t) (nI 0)) (40 + t) (nI 0) i = Z i := fun i h1 h2 => by rw [pm_un _ _ h2, pm_un _ _ h1]
    have mz9 : ∀ i, i < 10 → mzb (upd (upd Z (30 + t) (nI 0)) (40 + t) (nI 0)) (nI t) i = mzb Z (nI t) i := fun i hi => by
      have e1 := o (157 + i) (by omega) (by omega)
      have e2 := o (167 + i) (by omega) (by omega)
      simp only [mzb, mtb, e1, e2]
    have h156' := (o 156 (by omega) (by omega)).trans h156
    have hb := qm_bladeFor_at (M := M) (Z := upd (upd Z (30 + t) (nI 0)) (40 + t) (nI 0)) (x := nI t) (p := p) hL h156' hp (by rw [mz9 p (by omega)]; exact hpm) (fun i hi => by rw [mz9 i (by omega)]; exact hpl i hi)
    have hu := qm_use (M := M) (p := p) hL (by omega) (by omega) h156'
    have h145' : fg (us (upd (upd Z (30 + t) (nI 0)) (40 + t) (nI 0)) p nL) 145 = nI nP := by rw [fg_o (by omega), us_o hL (by omega), o _ (by omega) (by omega)]; exact h145
    have ht9 : s_X9_takeOff (nI 0) (cr_pa M 1 (fg (us (upd (upd Z (30 + t) (nI 0)) (40 + t) (nI 0)) p nL))) = some (cr_pa M 1 (tk (fg (us (upd (upd Z (30 + t) (nI 0)) (40 + t) (nI 0)) p nL)) 0 nP)) := qm_takeOff (M := M) (p := 0) hP6 hP0 (by omega) h145'
    simp (disch := omega) only [s_X9_goHour_158, ↓pm_bd, pm_lit, pm_S, pm_gd, pm_C, h70, Nat.le_refl, e, ↓reduceIte]
    rw [hb]
    simp only [pm_cl]
    rw [hu]
    simp only [pm_cl, qm_forget]
    rw [ht9]
    simp only [pm_cl]
    rfl
