/-! ### firstError, load -/
theorem lvp_W {nT nB nL nP nW mW j i : Nat} (hl : lvp nT nB nL nP mW j i) (h12 : j ≠ 12) : lvp nT nB nL nP nW j i := by
  rcases hl with h | h | h | h | h | h | h | h | h | h | h | h | h | h | h
  · exact Or.inl h
  · exact Or.inr (Or.inl h)
  · exact Or.inr (Or.inr (Or.inl h))
  · exact Or.inr (Or.inr (Or.inr (Or.inl h)))
  · exact Or.inr (Or.inr (Or.inr (Or.inr (Or.inl h))))
  · exact Or.inr (Or.inr (Or.inr (Or.inr (Or.inr (Or.inl h)))))
  · exact Or.inr (Or.inr (Or.inr (Or.inr (Or.inr (Or.inr (Or.inl h))))))
  · exact Or.inr (Or.inr (Or.inr (Or.inr (Or.inr (Or.inr (Or.inr (Or.inl h)))))))
  · exact Or.inr (Or.inr (Or.inr (Or.inr (Or.inr (Or.inr (Or.inr (Or.inr (Or.inl h))))))))
  · exact Or.inr (Or.inr (Or.inr (Or.inr (Or.inr (Or.inr (Or.inr (Or.inr (Or.inr (Or.inl h)))))))))
  · exact Or.inr (Or.inr (Or.inr (Or.inr (Or.inr (Or.inr (Or.inr (Or.inr (Or.inr (Or.inr (Or.inl h))))))))))
  · exact absurd h.1 (by omega)
  · exact Or.inr (Or.inr (Or.inr (Or.inr (Or.inr (Or.inr (Or.inr (Or.inr (Or.inr (Or.inr (Or.inr (Or.inr (Or.inl h))))))))))))
  · exact Or.inr (Or.inr (Or.inr (Or.inr (Or.inr (Or.inr (Or.inr (Or.inr (Or.inr (Or.inr (Or.inr (Or.inr (Or.inr (Or.inl h)))))))))))))
  · exact Or.inr (Or.inr (Or.inr (Or.inr (Or.inr (Or.inr (Or.inr (Or.inr (Or.inr (Or.inr (Or.inr (Or.inr (Or.inr (Or.inr (h))))))))))))))
theorem fr_winds {nT nB nL nP nW mW : Nat} {G G' : cr_G} {Z Z' : Nat → Int32} (hn : okn nT nB nL nP mW) (hf : fr nT nB nL nP nW G Z) (hG : ∀ j, j ≠ 11 → j ≠ 12 → G' j = G j) (hZ : ∀ k, (k < 78 ∨ 127 ≤ k) → Z' k = Z k) (h2 : G' 11 1 = Z' 78) (h3 : ∀ i, i < mW → G' 12 i = Z' (79 + i)) : fr nT nB nL nP mW G' Z' := by
  refine fr_ext (fun j => j = 11 ∨ j = 12) hn hf (fun j i hl hr => ?_) (fun j i hl hr => ⟨lvp_W hl (fun e => hr (Or.inr e)), hG j (fun e => hr (Or.inl e)) (fun e => hr (Or.inr e))⟩) (fun k hk => ?_)
  · rcases hr with rfl | rfl
    · have hi : i = 1 := by simpa [lvp] using hl
      subst hi
      exact h2
    · exact h3 i (by simpa [lvp] using hl)
  · have k5 : ¬ (78 ≤ k ∧ k < 79) := fun hh => hk (Or.inl (rw_11 hh))
    have k6 : ¬ (79 ≤ k ∧ k < 127) := fun hh => hk (Or.inr (rw_12 hh))
    exact hZ k (by omega)
theorem J_winds {nT nB nL nP nW mW h g : Nat} {Z Z' : Nat → Int32} (hJ : J nT nB nL nP nW h g Z) (hm : mW ≤ 48) (hZ : ∀ k, (k < 78 ∨ 127 ≤ k) → Z' k = Z k) (h2 : Z' 78 = nI mW) (hW : jW mW Z') : J nT nB nL nP mW h g Z' := by
  obtain ⟨⟨b0, b1, b2, b3, b4, b5, b6⟩, a2, a3, a4, a5, a6, a7, a8, a9, a10⟩ := hJ
  exact ⟨⟨by unfold okn at b0 ⊢; omega, (hZ _ (by omega)).trans b1, (hZ _ (by omega)).trans b2, (hZ _ (by omega)).trans b3, (hZ _ (by omega)).trans b4, h2, (hZ _ (by omega)).trans b6⟩, jS_c a2 (hZ _ (by omega)) (hZ _ (by omega)), jT_c a3 b0.1 (fun k hk => hZ k (by omega)), jG_c a4 b0.1 (fun k hk => hZ k (by omega)), jQ_c a5 b0.1 (fun k hk => hZ k (by omega)), jP_c a6 b0.2.2.2.1 (fun k hk => hZ k (by omega)), jK_c a7 (fun k hk => hZ k (by omega)), jB_c a8 b0.2.1 (fun k hk => hZ k (by omega)), hW, jD_c a10 (fun k hk => hZ k (by omega))⟩
def wrow (f : Nat → Int32) (a : Nat) (Z : Nat → Int32) (k : Nat) : Nat → Int32 := fun q => if 79 + k ≤ q ∧ q < 127 then (if q - 79 < a then f (q - 79) else nI 0) else Z q
theorem wrow_step {f Z : Nat → Int32} {a k : Nat} (hk : k < 48) : wrow f a (upd Z (79 + k) (if k < a then f k else nI 0)) (k + 1) = wrow f a Z k := by
  funext q
  simp only [wrow, upd]
  by_cases e : q = 79 + k
  · subst e
    rw [if_neg (show ¬ (79 + (k + 1) ≤ 79 + k ∧ 79 + k < 127) by omega), if_pos rfl, if_pos (show 79 + k ≤ 79 + k ∧ 79 + k < 127 by omega), show 79 + k - 79 = k by omega]
  · by_cases e2 : 79 + k ≤ q ∧ q < 127
    · rw [if_pos (by omega), if_pos e2]
    · rw [if_neg (by omega), if_neg e, if_neg e2]
theorem wrow_end {f Z : Nat → Int32} {a : Nat} : wrow f a Z 48 = Z := by
  funext q
  simp only [wrow]
  rw [if_neg (by omega)]
theorem qm_load_60 (G : cr_G) (a : Nat) (ha : a ≤ 48) (h12 : G 0 12 = nI a) : ∀ (d k n : Nat) (Z : Nat → Int32), 48 - k = d → d < n → k ≤ 48 → s_X9_load_60 n (nI k) (cr_pa G 1 Z) = some (nI a, cr_pa G 1 (wrow (G 6) a Z k)) := by
  intro d
  induction d with
  | zero =>
    intro k n Z hd hn hk
    obtain ⟨n, rfl⟩ : ∃ m, n = m + 1 := ⟨n - 1, by omega⟩
    obtain rfl : k = 48 := by omega
    simp (disch := omega) only [s_X9_load_60, pm_lit, pm_C, Nat.le_refl, wrow_end, pm_pan, h12, ↓reduceIte]
  | succ d ih =>
    intro k n Z hd hn hk
    obtain ⟨n, rfl⟩ : ∃ m, n = m + 1 := ⟨n - 1, by omega⟩
    have hck : ¬ 48 ≤ k := by omega
    by_cases e : k < a
    · have e' : ¬ a ≤ k := by omega
      have hi := ih (k + 1) n (upd Z (79 + k) (if k < a then G 6 k else nI 0)) (by omega) (by omega) (by omega)
      rw [wrow_step (by omega), if_pos e] at hi
      simp (disch := omega) only [s_X9_load_60, ↓pm_bd, pm_gd, pm_lit, pm_S, h12, pm_C, hck, e', ↓reduceIte]
      exact hi
    · have e' : a ≤ k := by omega
      have hi := ih (k + 1) n (upd Z (79 + k) (if k < a then G 6 k else nI 0)) (by omega) (by omega) (by omega)
      rw [wrow_step (by omega), if_neg e] at hi
      simp (disch := omega) only [s_X9_load_60, ↓pm_bd, pm_gd, pm_lit, pm_S, h12, pm_C, hck, e', ↓reduceIte]
      exact hi
theorem R_kp {S : cr_S} {P P' : cr_G} (h : R S P) (hk : kp P P') : R S P' :=
  R_c h (fun f _ _ => rfl) (fun k _ => by rw [hk.1 1 (by omega) (by omega)]) (hk.1 3 (by omega) (by omega)) (hk.1 4 (by omega) (by omega)) (hk.2 5 (by omega)) (hk.2 6 (by omega))
/-- the letters of the buffer -/
theorem tx_cd {A P : cr_G} {len : Nat} (h : TXs A P len) : ∃ cd : Nat → Nat, ax A cd len ∧ mx P cd len := by
  obtain ⟨t1, t2, t3, t4⟩ := h
  have hq : ∀ k, k < len → P 4 k = nI (P 4 k).toNatClampNeg ∧ (P 4 k).toNatClampNeg < 127 := fun k hk => by
    obtain ⟨-, n, h1, h2, h3⟩ := t4 k hk
    rw [h3, nI_clamp (by omega)]
    exact ⟨rfl, by omega⟩
  exact ⟨fun k => (P 4 k).toNatClampNeg, ⟨t1, t2, fun k hk => ⟨(t4 k hk).1.trans (hq k hk).1, (hq k hk).2⟩⟩, ⟨t1, t3, hq⟩⟩
/-- the model's reading begins -/
def rd0 (P : cr_G) : cr_G := cr_pt (cr_pt (cr_pt P 0 9 (nI 0)) 0 12 (nI 0)) 0 13 (nI 0)
theorem rd0_k (P : cr_G) : kp P (rd0 P) := kp_pt (kp_pt (kp_pt (kp_rf P) _ (by omega)) _ (by omega)) _ (by omega)
theorem rd0_9 (P : cr_G) : rd0 P 0 9 = nI 0 := by simp (disch := omega) only [rd0, pt_o, pt_i]
theorem rd0_12 (P : cr_G) : rd0 P 0 12 = nI 0 := by simp (disch := omega) only [rd0, pt_o, pt_i]
theorem rd0_13 (P : cr_G) : rd0 P 0 13 = nI 0 := pt_i _ _ _
theorem qm_read (P : cr_G) : s_X9_readText P = s_X9_readText_17 1200 (nI 0) (rd0 P) := by
  simp only [s_X9_readText, ↓pm_bd, pm_lit, rd0]
theorem q_reads {S : cr_S} {P : cr_G} {cd : Nat → Nat} {len : Nat} (hA : ax (S.1 8) cd len) (hP : mx P cd len) : ∃ (v : Int32) (P' : cr_G), s_X6_errorIndex (S.1 8) = some v ∧ s_X9_readText P = some (v, P') ∧ kp P P' ∧ (edb (stt cd len) = false → P' 0 13 = nI 0) := by
  have hl := hA.1
  obtain ⟨v, P', e1, e2, e3, e4⟩ := q_err hA len 0 1200 1200 0 0 0 (rd0 P) rfl (by omega) (by omega) (by omega) (mx_k hP (rd0_k P)) rfl (rd0_9 P) (fun h => absurd rfl h) (fun h => absurd rfl h) (rd0_12 P) (by omega) (rd0_13 P)
  refine ⟨v, P', ?_, ?_, kp_tr (rd0_k P) e3, e4⟩
  · simp only [s_X6_errorIndex, pm_lit]
    exact e1
  · rw [qm_read]
    exact e2
theorem q_first {S : cr_S} {P : cr_G} (hR : R S P) : ∃ (v : Int32) (P1 : cr_G), s_X8_firstError S = some v ∧ s_X9_firstError P = some (v, P1) ∧ R S P1 := by
  obtain ⟨P0, hP0, h1, hpa, hR0, h7⟩ := q_start hR
  have hR9 := hR0
  obtain ⟨r1, r2, len, ht⟩ := hR9
  obtain ⟨cd, hA, hP⟩ := tx_cd ht
  obtain ⟨v, P', e1, e2, e3, e4⟩ := q_reads hA hP
  refine ⟨v, P', ?_, ?_, R_kp hR0 e3⟩
  · simp only [s_X8_firstError, e1, pm_cl]
  · simp only [s_X9_firstError, ↓pm_bd, pm_lit, ← hP0, e2, pm_cl]
theorem q_load {S : cr_S} {P : cr_G} (hR : R S P) : AG S (s_X8_load S) (s_X9_load P) cAS := by
  obtain ⟨P0, hP0, h1, hpa, hR0, h7⟩ := q_start hR
  have hR9 := hR0
  obtain ⟨hB, ⟨o, c, hS⟩, len, ht⟩ := hR9
  obtain ⟨cd, hA, hP⟩ := tx_cd ht
  have hl := hA.1
  obtain ⟨v, P', e1, e2, e3, e4⟩ := q_reads hA hP
  have hcmp : s_X6_isComplete (S.1 8) = some (edb (stt cd len)) := by
    simp only [s_X6_isComplete, pm_lit]
    exact qc_complete hA len 0 1200 rfl (by omega) (by omega)
  have h7' : P' 0 7 = nI 0 := (e3.2 7 (by omega)).trans h7
  by_cases H : edb (stt cd len) = true
  · have hrd := fun (A' : cr_G) (hA' : ax A' cd len) => q_parts hA' H len 0 0 (rd0 P0) (by omega) (by omega) rfl (Or.inl rfl) (mx_k hP (rd0_k P0)) (rd0_9 P0) (rd0_12 P0) (by omega)
    obtain ⟨a, P2, c1, c2, c3, c4, c5, c6, c7, c8, c9, -⟩ := hrd _ hA
    have hP2 : P2 = P' := by
      have h := c3 1200 (by omega)
      rw [← qm_read, e2] at h
      exact (Prod.mk.inj (Option.some.inj h)).2.symm
    subst hP2
    have hnc : s_X6_numberCount (S.1 8) = some (nI a) := by
      simp only [s_X6_numberCount, pm_lit]
      exact c7 1200 (by omega)
    by_cases h48 : a ≤ 48
    · have hR' := R_kp hR0 e3
      obtain ⟨hB', ⟨o', c', hS'⟩, -⟩ := hR'
      obtain ⟨S1, P1, o1, k1, s1, s2, s3, s4, s5, s6, s7, s8⟩ := q_save hS' hB'
      have hA1 : ax ((cr_sp S1 0 11 1 (nI 0)).1 8) cd len := by
        have h8 : (cr_sp S1 0 11 1 (nI 0)).1 8 = S1.1 8 := cr_us_ne _ _ (by omega)
        obtain ⟨x1, x2, x3⟩ := hA
        rw [h8]
        exact ⟨x1, by rw [s5 2 (by omega)]; exact x2, fun k hk => by rw [s5 3 (by omega)]; exact x3 k hk⟩
      obtain ⟨a2, P3, d1, d2, d3, d4, d5, d6, d7, d8, d9, d10⟩ := hrd _ hA1
      have hP3 : P3 = P2 := by
        have h := d3 1200 (by omega)
        rw [c3 1200 (by omega)] at h
        exact (Prod.mk.inj (Option.some.inj h)).2.symm
      subst hP3
      have ha2 : a2 = a := by
        have h := d6.symm.trans c6
        exact (nI_eq (by omega) (by omega)).mp h
      subst ha2
      obtain ⟨G', g1, g2, g3, g4, g5⟩ := d10 h48 (cr_sp S1 0 11 1 (nI 0)) rfl (by simp only [cr_sp, cr_us_eq, pm_pt, pm_u]) 1200 (by omega)
      have hw : s_X6_writeTo S1 = some (cr_us S1 0 G') := by
        simp only [s_X6_writeTo, ↓pm_bd, pm_lit]
        rw [g1]
        simp only [cr_sp, cr_us_us]
      have g5' : ∀ j, j ≠ 11 → j ≠ 12 → G' j = S.1 0 j := fun j x1 x2 => by
        rw [g5 j x1 x2]
        simp only [cr_sp, cr_us_eq]
        rw [pm_ptne _ _ _ x1, s4 0 (by omega)]
      have z6 : P1 6 = P3 6 := s7 6 (by omega) (by omega)
      have z12 : P1 0 12 = nI a2 := (s8 12 (by omega)).trans c6
      have z1 : P1 1 = P3 1 := s7 1 (by omega) (by omega)
      have hm := qm_load_60 (cr_pt P1 0 6 (nI 0)) a2 h48 ((pt_o _ _ (by omega)).trans z12) 48 0 1200 (upd (P3 1) 78 (nI a2)) rfl (by omega) (by omega)
      have hpt6 : cr_pt P1 0 6 (nI 0) 6 = P3 6 := (pt_6 P1 6 (nI 0)).trans z6
      rw [hpt6] at hm
      obtain ⟨nT, nB, nL, nP, nW, h, hf, hJ, hh⟩ := hB'
      have hn := hJ.1.1
      have oz : ∀ k, (k < 78 ∨ 127 ≤ k) → wrow (P3 6) a2 (upd (P3 1) 78 (nI a2)) 0 k = P3 1 k := fun k hk => by
        simp only [wrow]
        rw [if_neg (by omega), pm_un _ _ (by omega)]
      have oz78 : wrow (P3 6) a2 (upd (P3 1) 78 (nI a2)) 0 78 = nI a2 := by
        simp only [wrow]
        rw [if_neg (by omega), pm_u]
      have ozr : ∀ i, i < a2 → wrow (P3 6) a2 (upd (P3 1) 78 (nI a2)) 0 (79 + i) = P3 6 i := fun i hi => by
        simp only [wrow]
        rw [if_pos (show 79 + 0 ≤ 79 + i ∧ 79 + i < 127 by omega), show 79 + i - 79 = i by omega, if_pos hi]
      have hB2 : BLK G' (wrow (P3 6) a2 (upd (P3 1) 78 (nI a2)) 0) := by
        refine BLK_of (nT := nT) (nB := nB) (nL := nL) (nP := nP) (nW := a2) (h := h) (fr_winds (by unfold okn at hn ⊢; omega) hf g5' oz (g2.trans oz78.symm) (fun i hi => (g4 i (by omega) hi).trans (ozr i hi).symm)) (J_winds hJ h48 oz oz78 (fun k hk => ?_)) hh
        rw [ozr k hk]
        obtain ⟨w, w1, w2⟩ := c9 k (by omega) hk (by omega)
        exact ⟨w, by omega, w2⟩
      refine Or.inl ⟨nI a2, cr_us (cr_us S1 0 G') 8 (cr_pt (S1.1 8) 2 1 (nI 0)), cr_pa (cr_pt P1 0 6 (nI 0)) 1 (wrow (P3 6) a2 (upd (P3 1) 78 (nI a2)) 0), ?_, ?_, ?_, ?_, ?_⟩
      · have hg8 : (cr_us S1 0 G').1 8 = S1.1 8 := cr_us_ne _ _ (by omega)
        have hg0 : ∀ X, (cr_us (cr_us S1 0 G') 8 X).1 0 = G' := fun X => by rw [cr_us_ne _ _ (by omega), cr_us_eq]
        simp (disch := omega) only [s_X8_load, ↓pm_bd, pm_lit, hcmp, H, pm_cl, hnc, pm_C, h48, s1, hw, cr_sp, hg8, hg0, g2, ↓reduceIte]
      · rw [cr_us_ne _ _ (by omega), cr_us_ne _ _ (by omega)]
        exact s4 9 (by omega)
      · have n10 : ¬ nI 1 = nI 0 := by decide
        have hr : s_X9_readText P0 = some (v, P3) := e2
        have hpt : cr_pt (cr_pt P1 0 6 (nI 0)) 1 78 (nI a2) = cr_pa (cr_pt P1 0 6 (nI 0)) 1 (upd (P3 1) 78 (nI a2)) := by
          unfold cr_pt
          rw [pm_pan _ _ (by omega), z1]
        simp only [s_X9_load, ↓pm_bd, pm_lit, ← hP0]
        simp +decide (disch := omega) only [hr, pm_cl, c5, n10, c6, pm_C, h48, s2, pt_o, z12, ↓reduceIte]
        rw [hpt]
        exact hm
      · rw [pm_pan _ _ (by omega), pt_o _ _ (by omega), s8 7 (by omega)]
        exact h7'
      · obtain ⟨x1, x2, x3, x4, x5, x6⟩ := s3
        refine ⟨?_, ⟨o1, k1, x1, x2, ?_, ?_, ?_, fun i hi => ?_⟩, 0, by omega, ?_, ?_, fun k hk => absurd hk (Nat.not_lt_zero k)⟩
        · rw [cr_us_ne _ _ (by omega), cr_us_eq, pm_pa]
          exact hB2
        · rw [cr_us_eq, pm_ptne _ _ _ (by omega)]; exact x3
        · rw [cr_us_eq, pm_ptne _ _ _ (by omega)]; exact x4
        · rw [pm_pan _ _ (by omega), pt_o _ _ (by omega)]; exact x5
        · have hmi : (o1 + i) % 6 < 6 := Nat.mod_lt _ (by omega)
          rw [cr_us_ne _ _ (by omega), cr_us_ne _ _ (by omega), pm_pan _ _ (by omega), pm_ptne _ _ _ (by omega)]
          exact x6 i hi
        · rw [cr_us_eq, pm_pt, pm_u]
        · rw [pm_pan _ _ (by omega), pt_i]
    · have n10 : ¬ nI 1 = nI 0 := by decide
      refine Or.inr ⟨"java/lang/IllegalStateException", 2, nI 0, cr_pt P2 0 7 (nI 2), ?_, by decide, ?_, R_f (R_kp hR0 e3) 2⟩
      · simp (disch := omega) only [s_X8_load, pm_lit, hcmp, H, pm_cl, hnc, pm_C, h48, ↓reduceIte]
      · simp only [s_X9_load, ↓pm_bd, pm_lit, ← hP0]
        simp +decide (disch := omega) only [e2, pm_cl, c5, n10, c6, pm_C, h48, qm_fails, ↓reduceIte]
  · have H : edb (stt cd len) = false := by
      cases hb : edb (stt cd len) with
      | true => exact absurd hb H
      | false => rfl
    have h13 := e4 H
    refine Or.inr ⟨"java/lang/IllegalArgumentException", 1, nI 0, cr_pt P' 0 7 (nI 1), ?_, by decide, ?_, R_f (R_kp hR0 e3) 1⟩
    · simp only [s_X8_load, hcmp, H, pm_cl, ↓reduceIte, Bool.false_eq_true]
    · simp only [s_X9_load, ↓pm_bd, pm_lit, ← hP0, e2, pm_cl, h13, qm_fails, ↓reduceIte]
