/-! ### the saved states -/
def BLK (G : cr_G) (Z : Nat → Int32) : Prop := ∃ nT nB nL nP nW h : Nat, fr nT nB nL nP nW G Z ∧ J nT nB nL nP nW h h Z ∧ h ≤ 10000
theorem BLK_c {G : cr_G} {Z Z' : Nat → Int32} (h : BLK G Z) (hz : ∀ k, k < 184 → Z' k = Z k) : BLK G Z' := by
  obtain ⟨nT, nB, nL, nP, nW, hh, h1, h2, h3⟩ := h
  exact ⟨nT, nB, nL, nP, nW, hh, fr_c h2.1.1 h1 hz, J_c184 h2 hz, h3⟩
theorem BLK_copy {G : cr_G} {Z : Nat → Int32} (h : BLK G Z) (Gt : cr_G) : ∃ G', s_X2_copyFrom G Gt = some G' ∧ BLK G' Z := by
  obtain ⟨nT, nB, nL, nP, nW, hh, h1, h2, h3⟩ := h
  obtain ⟨G', e1, e2⟩ := q_copy h2.1.1 h1 h2.1.2.1 Gt
  exact ⟨G', e1, nT, nB, nL, nP, nW, hh, e2, h2, h3⟩
def SVs (A : Nat → cr_G) (P : cr_G) (o c : Nat) : Prop := o < 6 ∧ c ≤ 6 ∧ A 8 0 3 = nI o ∧ A 8 0 4 = nI c ∧ P 0 5 = nI c ∧ ∀ i, i < c → BLK (A ((o + i) % 6 + 2)) (fun q => P 3 (184 * i + q))
def blk (r : Nat → Int32) (c : Nat) (f : Nat → Int32) (k : Nat) : Nat → Int32 := fun q => if 184 * c + k ≤ q ∧ q < 184 * c + 184 then f (q - 184 * c) else r q
theorem blk_step {r f : Nat → Int32} {c k : Nat} (h : k < 184) : blk (upd r (184 * c + k) (f k)) c f (k + 1) = blk r c f k := by
  funext q
  simp only [blk, upd]
  by_cases e : q = 184 * c + k
  · subst e
    rw [if_neg (by omega), if_pos rfl, if_pos (by omega)]
    congr 1
    omega
  · by_cases e2 : 184 * c + k ≤ q ∧ q < 184 * c + 184
    · rw [if_pos (by omega), if_pos e2]
    · rw [if_neg (by omega), if_neg e, if_neg e2]
theorem blk_end {r f : Nat → Int32} {c : Nat} : blk r c f 184 = r := by
  funext q
  simp only [blk]
  rw [if_neg (by omega)]
theorem blk_in {r f : Nat → Int32} {c q : Nat} (h : q < 184) : blk r c f 0 (184 * c + q) = f q := by
  simp only [blk]
  rw [if_pos (by omega)]
  congr 1
  omega
theorem blk_out {r f : Nat → Int32} {c q : Nat} (h : q < 184 * c ∨ 184 * c + 184 ≤ q) : blk r c f 0 q = r q := by
  simp only [blk]
  rw [if_neg (by omega)]
theorem qm_save_52 (G : cr_G) (c : Nat) (hc : c ≤ 5) (h5 : G 0 5 = nI c) : ∀ (d k n : Nat) (r : Nat → Int32), 184 - k = d → d < n → k ≤ 184 → s_X9_save_52 n (nI k) (cr_pa G 3 r) = some (cr_pt (cr_pa G 3 (blk r c (G 1) k)) 0 5 (nI (c + 1))) := by
  intro d
  induction d with
  | zero =>
    intro k n r hd hn hk
    obtain ⟨n, rfl⟩ : ∃ m, n = m + 1 := ⟨n - 1, by omega⟩
    obtain rfl : k = 184 := by omega
    simp (disch := omega) only [s_X9_save_52, ↓pm_bd, pm_lit, pm_S, h5, Int32.le_refl, blk_end, ↓reduceIte]
  | succ d ih =>
    intro k n r hd hn hk
    obtain ⟨n, rfl⟩ : ∃ m, n = m + 1 := ⟨n - 1, by omega⟩
    have hck : ¬ 184 ≤ k := by omega
    simp (disch := omega) only [s_X9_save_52, ↓pm_bd, pm_gd, pm_lit, pm_S, pm_C, pk_mul, h5, hck, ↓reduceIte]
    rw [ih (k + 1) n _ (by omega) (by omega) (by omega), blk_step (by omega)]
def shb (r : Nat → Int32) (k : Nat) : Nat → Int32 := fun q => if k ≤ q ∧ q < 920 then r (184 + q) else r q
theorem shb_step {r : Nat → Int32} {k : Nat} (h : k < 920) : shb (upd r k (r (184 + k))) (k + 1) = shb r k := by
  funext q
  simp only [shb, upd]
  by_cases e : q = k
  · subst e
    rw [if_neg (by omega), if_pos rfl, if_pos (by omega)]
  · by_cases e2 : k ≤ q ∧ q < 920
    · rw [if_pos (by omega), if_pos e2, if_neg (by omega)]
    · rw [if_neg (by omega), if_neg e, if_neg e2]
theorem shb_end {r : Nat → Int32} : shb r 920 = r := by
  funext q
  simp only [shb]
  rw [if_neg (by omega)]
theorem qm_save_11 (G : cr_G) (h5 : G 0 5 = nI 6) : ∀ (d k n : Nat) (r : Nat → Int32), 920 - k = d → d < n → k ≤ 920 → s_X9_save_11 n (nI k) (cr_pa G 3 r) = s_X9_save_52 1200 (nI 0) (cr_pt (cr_pa G 3 (shb r k)) 0 5 (nI 5)) := by
  intro d
  induction d with
  | zero =>
    intro k n r hd hn hk
    obtain ⟨n, rfl⟩ : ∃ m, n = m + 1 := ⟨n - 1, by omega⟩
    obtain rfl : k = 920 := by omega
    have e6 : nI 6 - nI 1 = nI 5 := rfl
    simp (disch := omega) only [s_X9_save_11, ↓pm_bd, pm_lit, pm_pa, pm_pan, h5, Int32.le_refl, shb_end, e6, ↓reduceIte]
  | succ d ih =>
    intro k n r hd hn hk
    obtain ⟨n, rfl⟩ : ∃ m, n = m + 1 := ⟨n - 1, by omega⟩
    have hck : ¬ 920 ≤ k := by omega
    simp (disch := omega) only [s_X9_save_11, ↓pm_bd, pm_gd, pm_lit, pm_S, pm_C, hck, ↓reduceIte]
    rw [ih (k + 1) n _ (by omega) (by omega) (by omega), shb_step (by omega)]
theorem qm_save_lt {P : cr_G} {c : Nat} (hc : c ≤ 5) (h5 : P 0 5 = nI c) : s_X9_save P = some (cr_pt (cr_pa P 3 (blk (P 3) c (P 1) 0)) 0 5 (nI (c + 1))) := by
  have hc6 : ¬ c = 6 := by omega
  have h := qm_save_52 P c hc h5 184 0 1200 (P 3) rfl (by omega) (by omega)
  rw [pm_self] at h
  simp (disch := omega) only [s_X9_save, pm_lit, pm_C, h5, hc6, ↓reduceIte]
  exact h
theorem qm_save_6 {P : cr_G} (h5 : P 0 5 = nI 6) : s_X9_save P = some (cr_pt (cr_pt (cr_pa P 3 (blk (shb (P 3) 0) 5 (P 1) 0)) 0 5 (nI 5)) 0 5 (nI 6)) := by
  have h := qm_save_11 P h5 920 0 1200 (P 3) rfl (by omega) (by omega)
  rw [pm_self] at h
  have h2 := qm_save_52 (cr_pt P 0 5 (nI 5)) 5 (by omega) (by rw [pm_pt, pm_u]) 184 0 1200 (shb (P 3) 0) rfl (by omega) (by omega)
  simp only [s_X9_save, pm_lit, h5, ↓reduceIte]
  rw [h, pm_ptn _ _ _ _ (show (0 : Nat) ≠ 3 by omega), h2, pm_ptne _ _ _ (show (1 : Nat) ≠ 0 by omega), pm_ptn _ _ _ _ (show (0 : Nat) ≠ 3 by omega), pm_ptn _ _ _ _ (show (0 : Nat) ≠ 3 by omega), pm_ptn _ _ _ _ (show (0 : Nat) ≠ 3 by omega)]
theorem q_save {S : cr_S} {P : cr_G} {o c : Nat} (hS : SVs S.1 P o c) (hB : BLK (S.1 0) (P 1)) : ∃ (S1 : cr_S) (P1 : cr_G) (o1 c1 : Nat), s_X8_saveState S = some S1 ∧ s_X9_save P = some P1 ∧ SVs S1.1 P1 o1 c1 ∧ (∀ f, (f < 2 ∨ 9 ≤ f) → S1.1 f = S.1 f) ∧ (∀ j, j ≠ 0 → S1.1 8 j = S.1 8 j) ∧ S1.2 = S.2 ∧ (∀ j, j ≠ 0 → j ≠ 3 → P1 j = P j) ∧ (∀ i, i ≠ 5 → P1 0 i = P 0 i) := by
  obtain ⟨ho, hc, h3, h4, h5, hb⟩ := hS
  obtain ⟨G1, e1, hB1⟩ := BLK_copy hB (S.1 ((o + c) % 6 + 2))
  have hm : (o + c) % 6 < 6 := Nat.mod_lt _ (by omega)
  have g8 : ∀ X, (cr_us S ((o + c) % 6 + 2) X).1 8 = S.1 8 := fun X => cr_us_ne S X (by omega)
  have gk : ∀ X, (cr_us S ((o + c) % 6 + 2) X).1 ((o + c) % 6 + 2) = X := fun X => cr_us_eq S _ X
  by_cases e6 : c = 6
  · subst e6
    have hc1 : (6 : Nat) ≤ 6 := Nat.le_refl _
    refine ⟨cr_sp (cr_us S ((o + 6) % 6 + 2) G1) 8 0 3 (nI ((o + 1) % 6)), _, (o + 1) % 6, 6, ?_, qm_save_6 h5, ⟨Nat.mod_lt _ (by omega), by omega, ?_, ?_, ?_, fun i hi => ?_⟩, fun f hf => ?_, fun j hj => ?_, rfl, fun j h1 h2 => ?_, fun i hi => ?_⟩
    · simp (disch := omega) only [s_X8_saveState, ↓pm_bd, pm_lit, h3, h4, pm_add, pk_rem, pm_in, nI_clamp, pm_gd, e1, pm_cl, g8, pm_C, Nat.le_refl, ↓reduceIte]
    · simp only [cr_sp, cr_us_eq, pm_pt, pm_u]
    · simp (disch := omega) only [cr_sp, cr_us_eq, pm_pt, pm_un, g8]
      exact h4
    · rw [pm_pt, pm_u]
    · have hgi : (cr_sp (cr_us S ((o + 6) % 6 + 2) G1) 8 0 3 (nI ((o + 1) % 6))).1 (((o + 1) % 6 + i) % 6 + 2) = if i = 5 then G1 else S.1 ((o + (i + 1)) % 6 + 2) := by
        have hlt : ((o + 1) % 6 + i) % 6 < 6 := Nat.mod_lt _ (by omega)
        rw [show cr_sp (cr_us S ((o + 6) % 6 + 2) G1) 8 0 3 (nI ((o + 1) % 6)) = cr_us (cr_us S ((o + 6) % 6 + 2) G1) 8 (cr_pt ((cr_us S ((o + 6) % 6 + 2) G1).1 8) 0 3 (nI ((o + 1) % 6))) from rfl, cr_us_ne _ _ (by omega)]
        by_cases e : i = 5
        · subst e
          rw [if_pos rfl, show ((o + 1) % 6 + 5) % 6 = (o + 6) % 6 by omega]
          exact cr_us_eq _ _ _
        · rw [if_neg e, cr_us_ne _ _ (by omega), show ((o + 1) % 6 + i) % 6 = (o + (i + 1)) % 6 by omega]
      rw [hgi]
      by_cases e : i = 5
      · subst e
        rw [if_pos rfl]
        refine BLK_c hB1 (fun q hq => ?_)
        rw [pm_ptne _ _ _ (by omega), pm_ptne _ _ _ (by omega), pm_pa, blk_in hq]
      · rw [if_neg e]
        refine BLK_c (hb (i + 1) (by omega)) (fun q hq => ?_)
        rw [pm_ptne _ _ _ (by omega), pm_ptne _ _ _ (by omega), pm_pa, blk_out (by omega)]
        simp only [shb]
        rw [if_pos (by omega)]
        congr 1
        omega
    · rw [show cr_sp (cr_us S ((o + 6) % 6 + 2) G1) 8 0 3 (nI ((o + 1) % 6)) = cr_us (cr_us S ((o + 6) % 6 + 2) G1) 8 (cr_pt ((cr_us S ((o + 6) % 6 + 2) G1).1 8) 0 3 (nI ((o + 1) % 6))) from rfl, cr_us_ne _ _ (by omega), cr_us_ne _ _ (by omega)]
    · simp (disch := omega) only [cr_sp, cr_us_eq, pm_ptne, g8]
    · rw [pm_ptne _ _ _ h1, pm_ptne _ _ _ h1, pm_pan _ _ h2]
    · rw [pm_pt, pm_un _ _ hi, pm_pt, pm_un _ _ hi, pm_pan _ _ (by omega)]
  · have hc1 : ¬ 6 ≤ c := by omega
    refine ⟨cr_sp (cr_us S ((o + c) % 6 + 2) G1) 8 0 4 (nI (c + 1)), _, o, c + 1, ?_, qm_save_lt (show c ≤ 5 by omega) h5, ⟨ho, by omega, ?_, ?_, ?_, fun i hi => ?_⟩, fun f hf => ?_, fun j hj => ?_, rfl, fun j h1 h2 => ?_, fun i hi => ?_⟩
    · simp (disch := omega) only [s_X8_saveState, ↓pm_bd, pm_lit, h3, h4, pm_add, pk_rem, pm_in, nI_clamp, pm_gd, e1, pm_cl, g8, pm_C, hc1, ↓reduceIte]
    · simp (disch := omega) only [cr_sp, cr_us_eq, pm_pt, pm_un, g8]
      exact h3
    · simp only [cr_sp, cr_us_eq, pm_pt, pm_u]
    · rw [pm_pt, pm_u]
    · have hlt : (o + i) % 6 < 6 := Nat.mod_lt _ (by omega)
      rw [show cr_sp (cr_us S ((o + c) % 6 + 2) G1) 8 0 4 (nI (c + 1)) = cr_us (cr_us S ((o + c) % 6 + 2) G1) 8 (cr_pt ((cr_us S ((o + c) % 6 + 2) G1).1 8) 0 4 (nI (c + 1))) from rfl, cr_us_ne _ _ (by omega)]
      by_cases e : i = c
      · subst e
        rw [cr_us_eq]
        refine BLK_c hB1 (fun q hq => ?_)
        rw [pm_ptne _ _ _ (by omega), pm_pa, blk_in hq]
      · rw [cr_us_ne _ _ (by omega)]
        refine BLK_c (hb i (by omega)) (fun q hq => ?_)
        rw [pm_ptne _ _ _ (by omega), pm_pa, blk_out (by omega)]
    · rw [show cr_sp (cr_us S ((o + c) % 6 + 2) G1) 8 0 4 (nI (c + 1)) = cr_us (cr_us S ((o + c) % 6 + 2) G1) 8 (cr_pt ((cr_us S ((o + c) % 6 + 2) G1).1 8) 0 4 (nI (c + 1))) from rfl, cr_us_ne _ _ (by omega), cr_us_ne _ _ (by omega)]
    · simp (disch := omega) only [cr_sp, cr_us_eq, pm_ptne, g8]
    · rw [pm_ptne _ _ _ h1, pm_pan _ _ h2]
    · rw [pm_pt, pm_un _ _ hi, pm_pan _ _ (by omega)]
theorem qm_undo_30 (G : cr_G) (c : Nat) (hc : c ≤ 5) (h5 : G 0 5 = nI c) : ∀ (d k n : Nat) (Z : Nat → Int32), 184 - k = d → d < n → k ≤ 184 → s_X9_undo_30 n (nI k) (cr_pa G 1 Z) = some (nI c, cr_pa G 1 (c184 (fun q => G 3 (184 * c + q)) Z k)) := by
  intro d
  induction d with
  | zero =>
    intro k n Z hd hn hk
    obtain ⟨n, rfl⟩ : ∃ m, n = m + 1 := ⟨n - 1, by omega⟩
    obtain rfl : k = 184 := by omega
    simp (disch := omega) only [s_X9_undo_30, ↓pm_bd, pm_lit, pm_S, h5, Int32.le_refl, c184_end, ↓reduceIte]
  | succ d ih =>
    intro k n Z hd hn hk
    obtain ⟨n, rfl⟩ : ∃ m, n = m + 1 := ⟨n - 1, by omega⟩
    have hck : ¬ 184 ≤ k := by omega
    simp (disch := omega) only [s_X9_undo_30, ↓pm_bd, pm_gd, pm_lit, pm_S, pm_C, pk_mul, h5, hck, ↓reduceIte]
    rw [ih (k + 1) n _ (by omega) (by omega) (by omega)]
    have e9 := c184_step (f := fun q => G 3 (184 * c + q)) (g := Z) (k := k) (by omega)
    rw [← e9]
