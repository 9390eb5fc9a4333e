/-! ### a blade is used -/
theorem sl_upd_o {f : Nat → Int32} {a p c i0 : Nat} {v : Int32} (h : i0 < a + p ∨ a + c < i0) : sl (upd f i0 v) a p c = upd (sl f a p c) i0 v := by
  funext i
  simp only [sl, upd]
  by_cases e : i = i0
  · subst e
    rw [if_pos rfl, if_neg (by omega), if_pos rfl]
  · rw [if_neg e]
    by_cases e2 : a + p ≤ i ∧ i < a + c
    · simp only [if_pos e2, if_neg e, if_neg (show ¬ i + 1 = i0 by omega)]
    · simp only [if_neg e2, if_neg e]
theorem sl_o {f : Nat → Int32} {a p c i : Nat} (h : i < a + p ∨ a + c ≤ i) : sl f a p c i = f i := by
  simp only [sl]
  rw [if_neg (by omega)]
theorem qm_use_14 (M : cr_G) (c : Nat) (hc : c < 10) : ∀ (d k n : Nat) (Z : Nat → Int32), c - k = d → d < n → k ≤ 10 → Z 156 = nI c → s_X9_use_14 n (nI k) (cr_pa M 1 Z) = some (cr_pa M 1 (sl (sl Z 157 k c) 167 k c)) := by
  intro d
  induction d with
  | zero =>
    intro k n Z hd hn hk h5
    obtain ⟨n, rfl⟩ : ∃ m, n = m + 1 := ⟨n - 1, by omega⟩
    have hck : c ≤ k := by omega
    simp (disch := omega) only [s_X9_use_14, pm_S, h5, pm_C, hck, ↓reduceIte, sl_id hck]
  | succ d ih =>
    intro k n Z hd hn hk h5
    obtain ⟨n, rfl⟩ : ∃ m, n = m + 1 := ⟨n - 1, by omega⟩
    have hck : ¬ c ≤ k := by omega
    simp (disch := omega) only [s_X9_use_14, ↓pm_bd, pm_gd, pm_lit, pm_S, pm_C, h5, hck, ↓reduceIte]
    rw [ih (k + 1) n _ (by omega) (by omega) (by omega) (by simp (disch := omega) only [pm_S, h5]), sl_upd_o (by omega), sl_step (by omega)]
    have e : Z (167 + k + 1) = sl Z 157 k c (167 + k + 1) := (sl_o (by omega)).symm
    rw [e, sl_step (by omega)]
def us (Z : Nat → Int32) (p c : Nat) : Nat → Int32 := sl (sl (upd Z 156 (nI (c - 1))) 157 p (c - 1)) 167 p (c - 1)
theorem qm_use {M : cr_G} {Z : Nat → Int32} {c p : Nat} (hc : c ≤ 10) (hc0 : 0 < c) (hp : p ≤ 10) (h5 : Z 156 = nI c) : s_X9_use (nI p) (cr_pa M 1 Z) = some (cr_pa M 1 (us Z p c)) := by
  simp (disch := omega) only [s_X9_use, ↓pm_bd, pm_lit, pm_S, h5]
  rw [qm_use_14 M (c - 1) (by omega) (c - 1 - p) p 1200 _ rfl (by omega) hp (pm_u _ _ _)]
  rfl
theorem us_o {Z : Nat → Int32} {p c k : Nat} (hc : c ≤ 10) (h : k < 156 ∨ 177 ≤ k) : us Z p c k = Z k := by
  unfold us
  rw [sl_o (by omega), sl_o (by omega), pm_un _ _ (by omega)]
theorem us_156 {Z : Nat → Int32} {p c : Nat} : us Z p c 156 = nI (c - 1) := by
  unfold us
  rw [sl_o (by omega), sl_o (by omega), pm_u]
theorem us_w {Z : Nat → Int32} {p c k : Nat} (hc : c ≤ 10) (hk : k < c - 1) : us Z p c (157 + k) = if p ≤ k then Z (157 + (k + 1)) else Z (157 + k) := by
  unfold us
  rw [sl_o (by omega)]
  simp only [sl, upd]
  by_cases e : p ≤ k
  · rw [if_pos (by omega), if_pos e, if_neg (by omega)]
    rfl
  · rw [if_neg (by omega), if_neg e, if_neg (by omega)]
theorem us_g {Z : Nat → Int32} {p c k : Nat} (hc : c ≤ 10) (hk : k < c - 1) : us Z p c (167 + k) = if p ≤ k then Z (167 + (k + 1)) else Z (167 + k) := by
  unfold us
  simp only [sl, upd]
  by_cases e : p ≤ k
  · rw [if_pos (by omega), if_neg (by omega), if_pos e, if_neg (by omega)]
    rfl
  · rw [if_neg (by omega), if_neg (by omega), if_neg e, if_neg (by omega)]
theorem qc_hrem_25 (G : cr_G) (c : Nat) (hc : c < 10) (h5 : G 5 2 = nI c) : ∀ (d k n : Nat) (a b : Nat → Int32), c - k = d → d < n → k ≤ 10 → s_X3_removeAt_25 n (nI k) (cr_pa (cr_pa G 6 a) 7 b) = some (cr_pa (cr_pa G 6 (sl a 0 k c)) 7 (sl b 0 k c)) := by
  intro d
  induction d with
  | zero =>
    intro k n a b hd hn hk
    obtain ⟨n, rfl⟩ : ∃ m, n = m + 1 := ⟨n - 1, by omega⟩
    have hck : c ≤ k := by omega
    simp (disch := omega) only [s_X3_removeAt_25, pm_S, h5, pm_C, hck, ↓reduceIte, sl_id hck]
  | succ d ih =>
    intro k n a b hd hn hk
    obtain ⟨n, rfl⟩ : ∃ m, n = m + 1 := ⟨n - 1, by omega⟩
    have hck : ¬ c ≤ k := by omega
    simp (disch := omega) only [s_X3_removeAt_25, ↓pm_bd, pm_gd, pm_lit, pm_S, pm_ptn, pm_C, h5, hck, ↓reduceIte]
    rw [ih (k + 1) n _ _ (by omega) (by omega) (by omega), sl_step0 (by omega), sl_step0 (by omega)]
theorem qc_hrem {G : cr_G} {c p : Nat} (hc : c ≤ 10) (h5 : G 5 2 = nI c) (hp : p < c) : s_X3_removeAt (nI p) G = some (cr_pa (cr_pa (cr_pt G 5 2 (nI (c - 1))) 6 (sl (G 6) 0 p (c - 1))) 7 (sl (G 7) 0 p (c - 1))) := by
  have h1 : ¬ p < 0 := by omega
  simp (disch := omega) only [s_X3_removeAt, ↓pm_bd, pm_lit, pm_S, pm_C, h5, hp, h1, ↓reduceIte]
  have h2 : cr_pa (cr_pa (cr_pt G 5 2 (nI (c - 1))) 6 (G 6)) 7 (G 7) = cr_pt G 5 2 (nI (c - 1)) := by
    have e6 : cr_pa (cr_pt G 5 2 (nI (c - 1))) 6 (G 6) = cr_pt G 5 2 (nI (c - 1)) := by
      have := pm_self (cr_pt G 5 2 (nI (c - 1))) 6
      rwa [pm_ptne G 2 _ (show (6 : Nat) ≠ 5 by omega)] at this
    have e7 : cr_pa (cr_pt G 5 2 (nI (c - 1))) 7 (G 7) = cr_pt G 5 2 (nI (c - 1)) := by
      have := pm_self (cr_pt G 5 2 (nI (c - 1))) 7
      rwa [pm_ptne G 2 _ (show (7 : Nat) ≠ 5 by omega)] at this
    rw [e6, e7]
  have h3 := qc_hrem_25 (cr_pt G 5 2 (nI (c - 1))) (c - 1) (by omega) (by rw [pm_pt, pm_u]) (c - 1 - p) p 1200 (G 6) (G 7) rfl (by omega) (by omega)
  rw [h2] at h3
  exact h3
theorem fr_us {nT nB nP nW c p : Nat} {G : cr_G} {Z : Nat → Int32} (hn : okn nT nB c nP nW) (hf : fr nT nB c nP nW G Z) (hp : p < c) : fr nT nB (c - 1) nP nW (cr_pa (cr_pa (cr_pt G 5 2 (nI (c - 1))) 6 (sl (G 6) 0 p (c - 1))) 7 (sl (G 7) 0 p (c - 1))) (us Z p c) := by
  have h1 : fr nT nB c nP nW (cr_pt G 5 2 (nI (c - 1))) (upd Z 156 (nI (c - 1))) := fr_pt (nI (c - 1)) hn hf (by simp [lvp])
  have hc := hn.2.2.1
  have hn' : okn nT nB (c - 1) nP nW := by unfold okn at hn ⊢; omega
  have h6 : fr nT nB (c - 1) nP nW (cr_pa (cr_pt G 5 2 (nI (c - 1))) 6 (sl (G 6) 0 p (c - 1))) (sl (upd Z 156 (nI (c - 1))) 157 p (c - 1)) := by
    refine fr_pa hn' h1 (fun j i hj hl => lvp_mono (Nat.le_refl _) (Nat.le_refl _) (Nat.sub_le _ _) (Nat.le_refl _) (Nat.le_refl _) hl) (fun k hk => ?_) (fun i hl => ?_)
    · have h9 := @rw_6 k
      exact sl_o (by
        by_cases hh : 157 ≤ k ∧ k < 167
        · exact absurd (h9 hh) hk
        · omega)
    · have hi : i < c - 1 := by simpa [lvp] using hl
      show sl (G 6) 0 p (c - 1) i = sl (upd Z 156 (nI (c - 1))) 157 p (c - 1) (157 + i)
      simp only [sl, upd]
      by_cases e : p ≤ i
      · rw [if_pos (by omega), if_pos (by omega), if_neg (by omega), fr_lw hf (by omega)]
        rfl
      · rw [if_neg (by omega), if_neg (by omega), if_neg (by omega), fr_lw hf (by omega)]
  refine fr_pa hn' h6 (fun j i hj hl => hl) (fun k hk => ?_) (fun i hl => ?_)
  · have h9 := @rw_7 k
    exact sl_o (by
      by_cases hh : 167 ≤ k ∧ k < 177
      · exact absurd (h9 hh) hk
      · omega)
  · have hi : i < c - 1 := by simpa [lvp] using hl
    show sl (G 7) 0 p (c - 1) i = us Z p c (167 + i)
    rw [us_g hc hi]
    simp only [sl]
    by_cases e : p ≤ i
    · rw [if_pos (by omega), if_pos e, fr_lg hf (by omega)]
    · rw [if_neg (by omega), if_neg e, fr_lg hf (by omega)]
theorem J_us {nT nB nP nW c p h g : Nat} {Z : Nat → Int32} (hJ : J nT nB c nP nW h g Z) : J nT nB (c - 1) nP nW h g (us Z p c) := by
  obtain ⟨a1, a2, a3, a4, a5, a6, a7, a8, a9, a10⟩ := hJ
  have hn := a1.1
  have hc := hn.2.2.1
  obtain ⟨b0, b1, b2, b3, b4, b5, b6⟩ := a1
  refine ⟨⟨by unfold okn at hn ⊢; omega, ?_, ?_, us_156, ?_, ?_, ?_⟩, jS_c a2 (us_o hc (by omega)) (us_o hc (by omega)), jT_c a3 hn.1 (fun k hk => us_o hc (by omega)), jG_c a4 hn.1 (fun k hk => us_o hc (by omega)), jQ_c a5 hn.1 (fun k hk => us_o hc (by omega)), jP_c a6 hn.2.2.2.1 (fun k hk => us_o hc (by omega)), jK_c a7 (fun k hk => us_o hc (by omega)), jB_c a8 hn.2.1 (fun k hk => us_o hc (by omega)), jW_c a9 hn.2.2.2.2 (fun k hk => us_o hc (by omega)), jD_c a10 (fun k hk => us_o hc (by omega))⟩
  · rw [us_o hc (by omega)]; exact b1
  · rw [us_o hc (by omega)]; exact b2
  · rw [us_o hc (by omega)]; exact b4
  · rw [us_o hc (by omega)]; exact b5
  · rw [us_o hc (by omega)]; exact b6
theorem qc_useBlade {G : cr_G} {c p : Nat} {x : Int32} (hc : c ≤ 10) (h5 : G 5 2 = nI c) (hp : p < c) (hpx : mtb (G 6) (G 7) x p = true) : ∀ d k n, p - k = d → d < n → k ≤ p → (∀ i, k ≤ i → i < p → mtb (G 6) (G 7) x i = false) → s_X3_useBladeFor_2 n x (nI k) G = s_X3_removeAt (nI p) G := by
  have hr := qc_hrem hc h5 hp
  intro d
  induction d with
  | zero =>
    intro k n hd hn hk hx
    obtain ⟨n, rfl⟩ : ∃ m, n = m + 1 := ⟨n - 1, by omega⟩
    obtain rfl : k = p := by omega
    have hck : ¬ c ≤ k := by omega
    have h9 : G 6 k = x ∧ G 7 k = nI 0 := by simpa [mtb] using hpx
    simp (disch := omega) only [s_X3_useBladeFor_2, ↓pm_bd, pm_gd, pm_lit, pm_S, pm_C, h5, hck, h9.1, h9.2, hr, pm_cl, ↓reduceIte]
  | succ d ih =>
    intro k n hd hn hk hx
    obtain ⟨n, rfl⟩ : ∃ m, n = m + 1 := ⟨n - 1, by omega⟩
    have hck : ¬ c ≤ k := by omega
    have hi := ih (k + 1) n (by omega) (by omega) (by omega) (fun i h1 h2 => hx i (by omega) h2)
    have hk9 := hx k (Nat.le_refl _) (by omega)
    by_cases h1 : G 6 k = x
    · by_cases h2 : G 7 k = nI 0
      · rw [mtb_t h1 h2] at hk9; cases hk9
      · simp (disch := omega) only [s_X3_useBladeFor_2, ↓pm_bd, pm_gd, pm_lit, pm_S, pm_C, h5, hck, h1, h2, ↓reduceIte]
        exact hi
    · simp (disch := omega) only [s_X3_useBladeFor_2, ↓pm_bd, pm_gd, pm_lit, pm_S, pm_C, h5, hck, h1, ↓reduceIte]
      exact hi
/-! ### the work is done -/
theorem q_finish {nT nB nL nP nW h g t p : Nat} {G M : cr_G} {Z : Nat → Int32} (hf : fr nT nB nL nP nW G Z) (hJ : J nT nB nL nP nW h g Z) (ht : t < nT) (hP : 0 < nP) (hz : Z 146 = nI t) (hp : p < nL) (hpm : mzb Z (nI t) p = true) (hpl : ∀ i, i < p → mzb Z (nI t) i = false) (w s : Int32) (n : Nat) : ∃ (nL' nP' : Nat) (G' : cr_G) (Z' : Nat → Int32), s_X2_finishIfDone (nI t) G = some G' ∧ s_X9_goHour_158 (n + 1) (nI t) w (nI 4) s (nI nT) (cr_pa M 1 Z) = s_X9_goHour_356 1200 (nI t) (nI 4) s (nI 0) (cr_pa M 1 Z') ∧ fr nT nB nL' nP' nW G' Z' ∧ J nT nB nL' nP' nW h g Z' := by
  have hJ0 := hJ
  obtain ⟨a1, a2, a3, a4, a5, a6, a7, a8, a9, a10⟩ := hJ
  have hn := a1.1
  have hT := hn.1
  have hL := hn.2.2.1
  have hPm := hn.2.2.2.1
  have h01 : G 0 1 = nI nT := (fr_n hf).trans a1.2.1
  have h70 : Z 70 = nI nT := a1.2.1
  have h156 : Z 156 = nI nL := a1.2.2.2.1
  have h145 : Z 145 = nI nP := a1.2.2.2.2.1
  have t10 : t < 10 := by omega
  have g3 : G (t + 15) 3 = Z (30 + t) := fr_t3 hf ht
  have g132 : G 13 2 = Z 73 := fr_s hf (show 2 < 7 by omega)
  have g103 : G 10 3 = Z 143 := fr_c3 hf
  by_cases e : Z 143 < Z 73 * Z (30 + t)
  · have e' : ¬ Z 73 * Z (30 + t) ≤ Z 143 := Int32.not_le.mpr e
    refine ⟨nL, nP, G, Z, ?_, ?_, hf, hJ0⟩
    · simp (disch := omega) only [s_X2_finishIfDone, ↓pm_bd, pm_lit, qc_has h01 hT ht, pm_cl, pm_S, pm_gd, g3, g132, g103, e', ↓reduceIte]
    · simp (disch := omega) only [s_X9_goHour_158, ↓pm_bd, pm_lit, pm_S, pm_gd, pm_C, h70, Nat.le_refl, e, ↓reduceIte]
  · have e' : Z 73 * Z (30 + t) ≤ Z 143 := Int32.not_lt.mp e
    have l3 : lvp nT nB nL nP nW (t + 15) 3 := by simp only [lvp]; omega
    have l4 : lvp nT nB nL nP nW (t + 15) 4 := by simp only [lvp]; omega
    have m3 : mp (t + 15) 3 = 30 + t := by rw [mp_t]
    have m4 : mp (t + 15) 4 = 40 + t := by rw [mp_t]
    have f1 := fr_pt (nI 0) hn hf l3
    rw [m3] at f1
    have f2 := fr_pt (nI 0) hn f1 l4
    rw [m4] at f2
    have o : ∀ i, i ≠ 30 + t → i ≠ 40 + t → upd (upd Z (30 + t) (nI 0)) (40 + t) (nI 0) i = Z i := fun i h1 h2 => by rw [pm_un _ _ h2, pm_un _ _ h1]
    have J1 : J nT nB nL nP nW h g (upd (upd Z (30 + t) (nI 0)) (40 + t) (nI 0)) := by
      refine ⟨jC_c a1 (o _ (by omega) (by omega)) (o _ (by omega) (by omega)) (o _ (by omega) (by omega)) (o _ (by omega) (by omega)) (o _ (by omega) (by omega)) (o _ (by omega) (by omega)), jS_c a2 (o _ (by omega) (by omega)) (o _ (by omega) (by omega)), fun t' ht' => ?_, jG_c a4 hT (fun k hk => o k (by omega) (by omega)), jQ_c a5 hT (fun k hk => o k (by omega) (by omega)), jP_c a6 hPm (fun k hk => o k (by omega) (by omega)), jK_c a7 (fun k hk => o k (by omega) (by omega)), jB_c a8 hn.2.1 (fun k hk => o k (by omega) (by omega)), jW_c a9 hn.2.2.2.2 (fun k hk => o k (by omega) (by omega)), fun t' h1 h2 => ?_⟩
      · refine ⟨?_, ?_, ?_⟩
        · rw [o _ (by omega) (by omega)]; exact (a3 t' ht').1
        · rw [o _ (by omega) (by omega)]; exact (a3 t' ht').2.1
        · by_cases e9 : t' = t
          · subst e9
            rw [pm_un _ _ (by omega), pm_u]
            exact ⟨0, by omega, rfl⟩
          · rw [o _ (by omega) (by omega)]; exact (a3 t' ht').2.2
      · rw [o _ (by omega) (by omega), o _ (by omega) (by omega), o _ (by omega) (by omega), o _ (by omega) (by omega)]
        exact a10 t' h1 h2
    have mz : ∀ i, i < 10 → mzb (upd (upd Z (30 + t) (nI 0)) (40 + t) (nI 0)) (nI t) i = mzb Z (nI t) i := fun i hi => by
      have e1 := o (157 + i) (by omega) (by omega)
      have e2 := o (167 + i) (by omega) (by omega)
      simp only [mzb, mtb, e1, e2]
    have h5' : (cr_pt (cr_pt G (t + 15) 3 (nI 0)) (t + 15) 4 (nI 0)) 5 2 = nI nL := by rw [fr_l f2, J1.1.2.2.2.1]
    have mc : ∀ i, i < nL → mtb ((cr_pt (cr_pt G (t + 15) 3 (nI 0)) (t + 15) 4 (nI 0)) 6) ((cr_pt (cr_pt G (t + 15) 3 (nI 0)) (t + 15) 4 (nI 0)) 7) (nI t) i = mzb Z (nI t) i := fun i hi => by
      rw [← mz i (by omega)]
      simp only [mzb, mtb]
      rw [fr_lw f2 hi, fr_lg f2 hi]
    have hub := qc_useBlade hL h5' hp (by rw [mc p hp]; exact hpm) p 0 1200 rfl (by omega) (by omega) (fun i _ hi => by rw [mc i (by omega)]; exact hpl i hi)
    rw [qc_hrem hL h5' hp] at hub
    have f3 := fr_us J1.1.1 f2 hp
    have J2 := J_us (p := p) J1
    have f4 := fr_fg J2.1.1 f3
    have J3 := J_fg J2
    have f5 := fr_tk J3.1.1 f4 hP
    have J4 := J_tk J3 hP
    have h8 := (fr_p f4).trans J3.1.2.2.2.2.1
    have h9 := fr_pr f4 hP
    have hz3 : fg (us (upd (upd Z (30 + t) (nI 0)) (40 + t) (nI 0)) p nL) 146 = nI t := by
      rw [fg_o (by omega), us_o hL (by omega), o _ (by omega) (by omega)]
      exact hz
    have hpl0 := qc_placeOf_at (p := 0) (x := nI t) hPm h8 hP (h9.trans hz3) (fun i hi => absurd hi (Nat.not_lt_zero i))
    have hrm := qc_removeAt hPm h8 hP
    refine ⟨nL - 1, nP - 1, _, _, ?_, ?_, f5, J4⟩
    · simp (disch := omega) only [s_X2_finishIfDone, s_X3_useBladeFor, ↓pm_bd, pm_lit, qc_has h01 hT ht, pm_cl, pm_S, pm_gd, g3, g132, g103, e', ↓reduceIte]
      rw [hub]
      simp only [pm_cl, qc_forget]
      rw [hpl0]
      simp only [pm_cl]
      rw [hrm]
      simp only [pm_cl]
    · have hb := qm_bladeFor_at (M := M) (Z := upd (upd Z (30 + t) (nI 0)) (40 + t) (nI 0)) (x := nI t) (p := p) hL J1.1.2.2.2.1 hp (by rw [mz p (by omega)]; exact hpm) (fun i hi => by rw [mz i (by omega)]; exact hpl i hi)
      have hu := qm_use (M := M) (p := p) hL (by omega) (by omega) J1.1.2.2.2.1
      have ht9 : s_X9_takeOff (nI 0) (cr_pa M 1 (fg (us (upd (upd Z (30 + t) (nI 0)) (40 + t) (nI 0)) p nL))) = some (cr_pa M 1 (tk (fg (us (upd (upd Z (30 + t) (nI 0)) (40 + t) (nI 0)) p nL)) 0 nP)) := qm_takeOff (M := M) (p := 0) hPm hP (by omega) J3.1.2.2.2.2.1
      simp (disch := omega) only [s_X9_goHour_158, ↓pm_bd, pm_lit, pm_S, pm_gd, pm_C, h70, Nat.le_refl, e, ↓reduceIte]
      rw [hb]
      simp only [pm_cl]
      rw [hu]
      simp only [pm_cl, qm_forget]
      rw [ht9]
      simp only [pm_cl]
/-! ### an hour -/
theorem wv_c {Z Z' : Nat → Int32} {nW a : Nat} (hn : nW ≤ 48) (hz : ∀ k, 79 ≤ k ∧ k < 127 → Z' k = Z k) : wv Z' nW a = wv Z nW a := by
  unfold wv
  by_cases e : nW = 0
  · rw [if_pos e, if_pos e]
  · have := Nat.mod_lt a (show 0 < nW by omega)
    rw [if_neg e, if_neg e, hz _ (by omega)]
def hourly (nT nB nW h g : Nat) (M G : cr_G) (Z : Nat → Int32) : Prop := ∃ (nL nP : Nat) (v : Int32) (G' : cr_G) (Z' : Nat → Int32), s_X2_runHour G = some (v, G') ∧ s_X9_goHour (cr_pa M 1 Z) = some (v, cr_pa M 1 Z') ∧ fr nT nB nL nP nW G' Z' ∧ J nT nB nL nP nW (h + 1) (g + 1) Z'
theorem q_end {nT nB nL nP nW h g : Nat} {G M : cr_G} {Z : Nat → Int32} (hf : fr nT nB nL nP nW G Z) (hJ : J nT nB nL nP nW h (g + 1) Z) (hh : h < 2 ^ 31) (x1 y0 : Int32) (c : Nat) (hc : c ≤ 4) (hsk : ∀ t, t < nT → (nI t = y0 ↔ (nI t = x1 ∧ c = 4))) (s : Int32) : ∃ (G' : cr_G) (Z' : Nat → Int32), s_X2_runHour_59 s y0 G = some (s, G') ∧ s_X9_goHour_356 1200 x1 (nI c) s (nI 0) (cr_pa M 1 Z) = some (s, cr_pa M 1 Z') ∧ fr nT nB nL nP nW G' Z' ∧ J nT nB nL nP nW (h + 1) (g + 1) Z' := by
  obtain ⟨a1, a2, a3, a4, a5, a6, a7, a8, a9, a10⟩ := hJ
  have hn := a1.1
  have hT := hn.1
  obtain ⟨G', Z', b1, b2, b3, b4, b5⟩ := q_worsen_loop M hn x1 y0 c hc hsk s nT 0 1200 1200 G Z rfl (by omega) (by omega) (by omega) hf a1.2.1 a3
  have b6 : ∀ i, (i < 30 ∨ 50 ≤ i) → Z' i = Z i := fun i hi => b5 i (fun t ht => by omega)
  have h182 : Z' 182 = nI h := (b6 182 (by omega)).trans a1.2.2.2.2.2.2
  have o : ∀ i, i ≠ 182 → upd Z' 182 (Z' 182 + nI 1) i = Z' i := fun i hi => pm_un _ _ hi
  have f1 : fr nT nB nL nP nW _ (upd Z' 182 (Z' 182 + nI 1)) := fr_pt (Z' 182 + nI 1) hn b3 (by simp [lvp] : lvp nT nB nL nP nW 0 9)
  have o2 : ∀ i, i ≠ 182 → (i < 30 ∨ 50 ≤ i) → upd Z' 182 (Z' 182 + nI 1) i = Z i := fun i hi hi' => (o i hi).trans (b6 i hi')
  refine ⟨_, _, ?_, b2, f1, ⟨⟨hn, ?_, ?_, ?_, ?_, ?_, ?_⟩, jS_c a2 (o2 _ (by omega) (by omega)) (o2 _ (by omega) (by omega)), jT_c b4 hT (fun k hk => o k (by omega)), jG_c a4 hT (fun k hk => o2 k (by omega) (by omega)), jQ_c a5 hT (fun k hk => o2 k (by omega) (by omega)), jP_c a6 hn.2.2.2.1 (fun k hk => o2 k (by omega) (by omega)), jK_c a7 (fun k hk => o2 k (by omega) (by omega)), jB_c a8 hn.2.1 (fun k hk => o2 k (by omega) (by omega)), jW_c a9 hn.2.2.2.2 (fun k hk => o2 k (by omega) (by omega)), fun t h1 h2 => ?_⟩⟩
  · have g9 : G' 0 9 = Z' 182 := fr_h b3
    simp only [s_X2_runHour_59, s_X2_worsen, ↓pm_bd, pm_lit]
    rw [b1]
    simp only [pm_cl, ↓pm_bd, g9]
  · rw [o2 _ (by omega) (by omega)]; exact a1.2.1
  · rw [o2 _ (by omega) (by omega)]; exact a1.2.2.1
  · rw [o2 _ (by omega) (by omega)]; exact a1.2.2.2.1
  · rw [o2 _ (by omega) (by omega)]; exact a1.2.2.2.2.1
  · rw [o2 _ (by omega) (by omega)]; exact a1.2.2.2.2.2.1
  · rw [pm_u, h182, pm_add]
  · rw [o _ (by omega), o _ (by omega), o _ (by omega), o _ (by omega), b5 _ (fun t' ht' => by omega), b5 _ (fun t' ht' => by omega), b5 _ (fun t' ht' => by omega), b5 _ (fun t' ht' => by omega)]
    exact a10 t h1 h2
theorem q_hour_m {M : cr_G} {Z Z1 : Nat → Int32} (b2 : s_X9_unload (cr_pa M 1 Z) = some (cr_pa M 1 Z1)) : s_X9_goHour (cr_pa M 1 Z) = (if Z1 145 ≤ 0 then s_X9_goHour_38 1200 (cr_pa M 1 Z1) else if Z1 146 = Z1 144 then s_X9_goHour_38 1200 (cr_pa M 1 Z1) else s_X9_goHour_38 1200 (cr_pa M 1 (fg Z1))) := by
  simp only [s_X9_goHour]
  rw [b2]
  simp only [pm_cl, pm_pa, qm_forget]
theorem q_hour_c {G G1 G2 : cr_G} (b1 : s_X3_unload (G 13 5) G = some G1) (d1 : s_X2_dropFaultless G1 = some G2) : s_X2_runHour G = cr_cl (s_X4_first G2) (fun r21_3 => (cr_cl (s_X2_serve r21_3 G2) (fun r27_4 => (cr_cl (s_X2_sharePower r21_3 r27_4.1 r27_4.2) (fun r34_5 => (if r27_4.1 = (4 : Int32) then (cr_cl (s_X2_finishIfDone r21_3 r34_5.2) (fun r45_6 => (if r27_4.1 = (4 : Int32) then (s_X2_runHour_59 r34_5.1 r21_3 r45_6) else (s_X2_runHour_59 r34_5.1 ((-1 : Int32)) r45_6)))) else (if r27_4.1 = (4 : Int32) then (s_X2_runHour_59 r34_5.1 r21_3 r34_5.2) else (s_X2_runHour_59 r34_5.1 ((-1 : Int32)) r34_5.2)))))))) := by
  simp only [s_X2_runHour]
  rw [b1]
  simp only [pm_cl]
  rw [d1]
  simp only [pm_cl]
theorem q_hour {nT nB nL nP nW h g : Nat} {G M : cr_G} {Z : Nat → Int32} (hf : fr nT nB nL nP nW G Z) (hJ : J nT nB nL nP nW h g Z) (hh : h < 100000) : hourly nT nB nW h g M G Z := by
  obtain ⟨G1, Z1, b1, b2, b3, b4⟩ := q_unload (M := M) hJ.1.1 hf hJ.1.2.2.2.1
  have J1 : J nT nB nL nP nW h g Z1 := J_c hJ (fun k hk => b4 k (by omega))
  obtain ⟨c2, G2, Z2, d0, d1, d2, d3, J2, -⟩ := q_drop (M := M) b3 J1
  have hn := J2.1.1
  have hT := hn.1
  have hPn := hn.2.2.2.1
  obtain ⟨x, hx, hwx⟩ := wv_bd (a := h) J2.2.2.2.2.2.2.2.2.1
  have h182 : Z2 182 = nI h := J2.1.2.2.2.2.2.2
  have h78 : Z2 78 = nI nW := J2.1.2.2.2.2.2.1
  have h145 : Z2 145 = nI c2 := J2.1.2.2.2.2.1
  have h8 : G2 8 1 = nI c2 := (fr_p d3).trans h145
  have hm0 : s_X9_goHour (cr_pa M 1 Z) = s_X9_goHour_99 (cr_pa M 1 Z2) := (q_hour_m b2).trans d2
  have hc0 : s_X2_runHour G = cr_cl (s_X4_first G2) (fun r21_3 => (cr_cl (s_X2_serve r21_3 G2) (fun r27_4 => (cr_cl (s_X2_sharePower r21_3 r27_4.1 r27_4.2) (fun r34_5 => (if r27_4.1 = (4 : Int32) then (cr_cl (s_X2_finishIfDone r21_3 r34_5.2) (fun r45_6 => (if r27_4.1 = (4 : Int32) then (s_X2_runHour_59 r34_5.1 r21_3 r45_6) else (s_X2_runHour_59 r34_5.1 ((-1 : Int32)) r45_6)))) else (if r27_4.1 = (4 : Int32) then (s_X2_runHour_59 r34_5.1 r21_3 r34_5.2) else (s_X2_runHour_59 r34_5.1 ((-1 : Int32)) r34_5.2)))))))) := q_hour_c b1 d1
  have hwm := qm_windAt (M := M) (a := h) h78 hn.2.2.2.2 (by omega)
  rw [hwx] at hwm
  by_cases e0 : c2 = 0
  · -- nothing is planned
    subst e0
    obtain ⟨n2, s, G4, Z4, s0, s1, s2, s3, s4, s5, s6, s7⟩ := q_share_loop M hn mI 0 x g (by omega) hx nT 0 1200 1200 (nI 0) G2 Z2 rfl (by omega) (by omega) (by omega) d3 J2.1.2.1 J2.2.2.1 J2.2.2.2.2.1 (fun t ht => absurd ht (Nat.not_lt_zero t)) (fun t _ ht => J2.2.2.2.1 t ht)
    have J4 : J nT nB nL 0 nW h (g + 1) Z4 := by
      obtain ⟨a1, a2, a3, a4, a5, a6, a7, a8, a9, a10⟩ := J2
      refine ⟨jC_c a1 (s6 _ (by omega)) (s6 _ (by omega)) (s6 _ (by omega)) (s6 _ (by omega)) (s6 _ (by omega)) (s6 _ (by omega)), jS_c a2 (s6 _ (by omega)) (s6 _ (by omega)), jT_c a3 hT (fun k hk => s6 k (by omega)), s5, s4, jP_c a6 hn.2.2.2.1 (fun k hk => s6 k (by omega)), jK_c a7 (fun k hk => s6 k (by omega)), jB_c a8 hn.2.1 (fun k hk => s6 k (by omega)), jW_c a9 hn.2.2.2.2 (fun k hk => s6 k (by omega)), fun t h1 h2 => ?_⟩
      rw [(s7 t h1 h2).1, (s7 t h1 h2).2, s6 _ (by omega), s6 _ (by omega)]
      exact a10 t h1 h2
    obtain ⟨G5, Z5, e1, e2, e3, e4⟩ := q_end (M := M) s3 J4 (by omega) mI mI 0 (by omega) (fun t ht => ⟨fun h9 => by rw [pm_ne (by omega)] at h9; exact h9.elim, fun h9 => by omega⟩) s
    refine ⟨nL, 0, s, G5, Z5, ?_, ?_, e3, e4⟩
    · have hw2 : s_X7_at G2 (nI h) = some (nI x) := by rw [← hwx]; exact qc_at d3 h78 hn.2.2.2.2 (by omega)
      have g09 : G2 0 9 = nI h := (fr_h d3).trans h182
      have n04 : ¬ (nI 0 : Int32) = nI 4 := by decide
      rw [hc0, qc_first (show 0 ≤ 10 by omega) h8]
      simp only [pm_cl, ↓reduceIte, s_X2_serve, qc_has_m, Bool.false_eq_true, s_X2_sharePower, s_X2_windNow, g09, hw2, pm_lit, ↓pm_m1]
      rw [s1]
      simp only [pm_cl, n04, ↓reduceIte]
      exact e1
    · have n04 : ¬ (0 : Nat) = 4 := by decide
      obtain ⟨n2, rfl⟩ : ∃ m, n2 = m + 1 := ⟨n2 - 1, by omega⟩
      rw [hm0]
      simp (disch := omega) only [s_X9_goHour_99, s_X9_goHour_122, pm_pa, h145, h182, hwm, pm_cl, pm_lit, ↓pm_m1, ↓reduceIte]
      rw [s2]
      have h70 : Z4 70 = nI nT := J4.1.2.1
      simp (disch := omega) only [s_X9_goHour_158, pm_pa, h70, pm_C, Nat.le_refl, pm_lit, n04, ↓reduceIte]
      exact e2
  · have hc2 : 0 < c2 := by omega
    obtain ⟨t, ht, hz⟩ := J2.2.2.2.2.2.1.1 0 hc2
    have hz : Z2 146 = nI t := hz
    have g9 : G2 9 0 = nI t := (fr_pr d3 hc2).trans hz
    obtain ⟨c, G3, Z3, v0, v1, v2, v3, J3, v5, v6⟩ := q_serve (M := M) d3 J2 ht hx (by omega) hwx
    have w3 : wv Z3 nW h = nI x := by rw [wv_c hn.2.2.2.2 (fun k hk => v5 k (by omega))]; exact hwx
    obtain ⟨n2, s, G4, Z4, s0, s1, s2, s3, s4, s5, s6, s7⟩ := q_share_loop M hn (nI t) c x g v0 hx nT 0 1200 1200 (nI 0) G3 Z3 rfl (by omega) (by omega) (by omega) v3 J3.1.2.1 J3.2.2.1 J3.2.2.2.2.1 (fun t ht => absurd ht (Nat.not_lt_zero t)) (fun t _ ht => J3.2.2.2.1 t ht)
    have J4 : J nT nB nL c2 nW h (g + 1) Z4 := by
      obtain ⟨a1, a2, a3, a4, a5, a6, a7, a8, a9, a10⟩ := J3
      refine ⟨jC_c a1 (s6 _ (by omega)) (s6 _ (by omega)) (s6 _ (by omega)) (s6 _ (by omega)) (s6 _ (by omega)) (s6 _ (by omega)), jS_c a2 (s6 _ (by omega)) (s6 _ (by omega)), jT_c a3 hT (fun k hk => s6 k (by omega)), s5, s4, jP_c a6 hn.2.2.2.1 (fun k hk => s6 k (by omega)), jK_c a7 (fun k hk => s6 k (by omega)), jB_c a8 hn.2.1 (fun k hk => s6 k (by omega)), jW_c a9 hn.2.2.2.2 (fun k hk => s6 k (by omega)), fun t h1 h2 => ?_⟩
      rw [(s7 t h1 h2).1, (s7 t h1 h2).2, s6 _ (by omega), s6 _ (by omega)]
      exact a10 t h1 h2
    have hw3 : s_X7_at G3 (nI h) = some (nI x) := by rw [← w3]; exact qc_at v3 J3.1.2.2.2.2.2.1 hn.2.2.2.2 (by omega)
    have g09 : G3 0 9 = nI h := (fr_h v3).trans J3.1.2.2.2.2.2.2
    have h70 : Z4 70 = nI nT := J4.1.2.1
    have htm : ¬ nI t = mI := by rw [pm_ne (by omega)]; exact fun h => h
    obtain ⟨n2, rfl⟩ : ∃ m, n2 = m + 1 := ⟨n2 - 1, by omega⟩
    have hm1 : s_X9_goHour (cr_pa M 1 Z) = s_X9_goHour_158 (n2 + 1) (nI t) (nI x) (nI c) s (nI nT) (cr_pa M 1 Z4) := by
      rw [hm0]
      simp (disch := omega) only [s_X9_goHour_99, s_X9_goHour_122, pm_pa, h145, hz, h182, hwm, pm_cl, pm_lit, pm_C, ↓pm_m1, e0, htm, v2, ↓reduceIte]
      exact s2
    have hc1 : s_X2_runHour G = (if nI c = nI 4 then (cr_cl (s_X2_finishIfDone (nI t) G4) (fun r45_6 => (if nI c = nI 4 then (s_X2_runHour_59 s (nI t) r45_6) else (s_X2_runHour_59 s mI r45_6)))) else (if nI c = nI 4 then (s_X2_runHour_59 s (nI t) G4) else (s_X2_runHour_59 s mI G4))) := by
      rw [hc0, qc_first hn.2.2.2.1 h8]
      simp only [pm_cl, e0, ↓reduceIte, g9, v1, s_X2_sharePower, s_X2_windNow, g09, hw3, pm_lit, ↓pm_m1]
      rw [s1]
      simp only [pm_cl]
    by_cases e4 : c = 4
    · subst e4
      obtain ⟨p, p1, p2, p3⟩ := v6 rfl
      have mz : ∀ i, i < 10 → mzb Z4 (nI t) i = mzb Z2 (nI t) i := fun i hi => by
        have e1 : Z4 (157 + i) = Z2 (157 + i) := by rw [s6 _ (by omega), v5 _ (by omega)]
        have e2 : Z4 (167 + i) = Z2 (167 + i) := by rw [s6 _ (by omega), v5 _ (by omega)]
        simp only [mzb, mtb, e1, e2]
      have hL := hn.2.2.1
      have hz4 : Z4 146 = nI t := by rw [s6 _ (by omega), v5 _ (by omega)]; exact hz
      obtain ⟨nL', nP', G5, Z5, k1, k2, k3, k4⟩ := q_finish (M := M) s3 J4 ht hc2 hz4 p1 (by rw [mz p (by omega)]; exact p2) (fun i hi => by rw [mz i (by omega)]; exact p3 i hi) (nI x) s n2
      obtain ⟨G6, Z6, m1, m2, m3, m4⟩ := q_end (M := M) k3 k4 (by omega) (nI t) (nI t) 4 (by omega) (fun t' ht' => ⟨fun h9 => ⟨h9, rfl⟩, fun h9 => h9.1⟩) s
      refine ⟨nL', nP', s, G6, Z6, ?_, ?_, m3, m4⟩
      · rw [hc1, k1]
        simp only [pm_cl, ↓reduceIte]
        exact m1
      · rw [hm1, k2]
        exact m2
    · obtain ⟨G6, Z6, m1, m2, m3, m4⟩ := q_end (M := M) s3 J4 (by omega) (nI t) mI c v0 (fun t' ht' => ⟨fun h9 => by rw [pm_ne (by omega)] at h9; exact h9.elim, fun h9 => absurd h9.2 e4⟩) s
      refine ⟨nL, c2, s, G6, Z6, ?_, ?_, m3, m4⟩
      · rw [hc1]
        simp (disch := omega) only [pm_C, e4, ↓reduceIte]
        exact m1
      · rw [hm1]
        simp (disch := omega) only [s_X9_goHour_158, pm_pa, h70, pm_C, Nat.le_refl, pm_lit, e4, ↓reduceIte]
        exact m2
theorem q_hours {nT nB nW : Nat} {M : cr_G} : ∀ (d k n n' K : Nat) (s : Int32) (nL nP h g : Nat) (G : cr_G) (Z : Nat → Int32), K - k = d → d < n → d < n' → k ≤ K → K ≤ 1000 → h + d < 100000 → fr nT nB nL nP nW G Z → J nT nB nL nP nW h g Z → ∃ (nL' nP' : Nat) (v : Int32) (G' : cr_G) (Z' : Nat → Int32), s_X2_runHours_4 n (nI K) s (nI k) G = some (v, G') ∧ s_X9_goHours_4 n' (nI K) s (nI k) (cr_pa M 1 Z) = some (v, cr_pa M 1 Z') ∧ fr nT nB nL' nP' nW G' Z' ∧ J nT nB nL' nP' nW (h + d) (g + d) Z' := by
  intro d
  induction d with
  | zero =>
    intro k n n' K s nL nP h g G Z hd hn1 hn2 hk hK hh hf hJ
    obtain ⟨n, rfl⟩ : ∃ m, n = m + 1 := ⟨n - 1, by omega⟩
    obtain ⟨n', rfl⟩ : ∃ m, n' = m + 1 := ⟨n' - 1, by omega⟩
    obtain rfl : k = K := by omega
    refine ⟨nL, nP, s, G, Z, ?_, ?_, hf, hJ⟩
    · simp (disch := omega) only [s_X2_runHours_4, pm_C, Nat.le_refl, ↓reduceIte]
    · simp (disch := omega) only [s_X9_goHours_4, pm_C, Nat.le_refl, ↓reduceIte]
  | succ d ih =>
    intro k n n' K s nL nP h g G Z hd hn1 hn2 hk hK hh hf hJ
    obtain ⟨n, rfl⟩ : ∃ m, n = m + 1 := ⟨n - 1, by omega⟩
    obtain ⟨n', rfl⟩ : ∃ m, n' = m + 1 := ⟨n' - 1, by omega⟩
    have hck : ¬ K ≤ k := by omega
    obtain ⟨nL1, nP1, v1, G1, Z1, b1, b2, b3, b4⟩ := q_hour (M := M) hf hJ (by omega)
    obtain ⟨nL', nP', v, G', Z', c1, c2, c3, c4⟩ := ih (k + 1) n n' K (s + v1) nL1 nP1 (h + 1) (g + 1) G1 Z1 (by omega) (by omega) (by omega) (by omega) hK (by omega) b3 b4
    refine ⟨nL', nP', v, G', Z', ?_, ?_, c3, ?_⟩
    · simp (disch := omega) only [s_X2_runHours_4, ↓pm_bd, pm_lit, pm_C, hck, b1, pm_cl, pm_add, ↓reduceIte]
      exact c1
    · simp (disch := omega) only [s_X9_goHours_4, ↓pm_bd, pm_lit, pm_C, hck, b2, pm_cl, pm_add, ↓reduceIte]
      exact c2
    · rw [show h + (d + 1) = h + 1 + d by omega, show g + (d + 1) = g + 1 + d by omega]
      exact c4
theorem q_runHours {nT nB nL nP nW h g K : Nat} {G M : cr_G} {Z : Nat → Int32} (hf : fr nT nB nL nP nW G Z) (hJ : J nT nB nL nP nW h g Z) (hK : K ≤ 1000) (hh : h + K < 100000) : ∃ (nL' nP' : Nat) (v : Int32) (G' : cr_G) (Z' : Nat → Int32), s_X2_runHours (nI K) G = some (v, G') ∧ s_X9_goHours (nI K) (cr_pa M 1 Z) = some (v, cr_pa M 1 Z') ∧ fr nT nB nL' nP' nW G' Z' ∧ J nT nB nL' nP' nW (h + K) (g + K) Z' := by
  obtain ⟨nL', nP', v, G', Z', c1, c2, c3, c4⟩ := q_hours (M := M) K 0 1200 1200 K (nI 0) nL nP h g G Z rfl (by omega) (by omega) (by omega) hK hh hf hJ
  exact ⟨nL', nP', v, G', Z', by simp only [s_X2_runHours, pm_lit]; exact c1, by simp only [s_X9_goHours, pm_lit]; exact c2, c3, c4⟩
