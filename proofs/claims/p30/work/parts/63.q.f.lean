/-! ### what the law does: what is kept, the saving of a state -/
theorem pm_lit2 : (21 : Int32) = nI 21 ∧ (111 : Int32) = nI 111 ∧ (18 : Int32) = nI 18 ∧ (31 : Int32) = nI 31 := ⟨rfl, rfl, rfl, rfl⟩
def RV (S : cr_S) (Z : Nat → Int32) (nT nB nL nP nW h c : Nat) : Prop := RZ S Z nT nB nL nP nW h ∧ (∃ P, R S P) ∧ S.1 8 2 1 = nI 0 ∧ S.1 8 0 4 = nI c ∧ c ≤ 6
def DV (S : cr_S) (h q : Nat) : Prop := ∃ (Z : Nat → Int32) (nT nB nL nP nW h' c' : Nat), RV S Z nT nB nL nP nW h' c' ∧ h' ≤ h + 40 ∧ q ≤ c'
def DN (o : Option (Bool × cr_S)) (h q : Nat) : Prop := ∃ S', o = some (true, S') ∧ DV S' h q
theorem DN_self {S : cr_S} {Z : Nat → Int32} {nT nB nL nP nW h c : Nat} (H : RV S Z nT nB nL nP nW h c) : DN (some (true, S)) h c := ⟨S, rfl, Z, nT, nB, nL, nP, nW, h, c, H, by omega, Nat.le_refl _⟩
theorem RX_c {S S' : cr_S} (h : ∃ P, R S P) (hA : ∀ f, f < 9 → S'.1 f = S.1 f) : ∃ P, R S' P := by
  obtain ⟨P, hP⟩ := h
  exact ⟨P, R_c hP (fun f _ hf => hA f hf) (fun _ _ => rfl) rfl rfl rfl rfl⟩
theorem a_sv0 {S : cr_S} {c : Nat} (hP : ∃ P, R S P) (hc : S.1 8 0 4 = nI c) (hc6 : c ≤ 6) : ∃ (S1 : cr_S) (c1 : Nat), s_X8_saveState S = some S1 ∧ S1.1 0 = S.1 0 ∧ (∀ f, 9 ≤ f → S1.1 f = S.1 f) ∧ (∀ j, j ≠ 0 → S1.1 8 j = S.1 8 j) ∧ S1.1 8 0 4 = nI c1 ∧ 0 < c1 ∧ c ≤ c1 ∧ c1 ≤ 6 ∧ ∀ (G' : cr_G) (Z' : Nat → Int32), BLK G' Z' → ∃ P, R (cr_us S1 0 G') P := by
  obtain ⟨P, hR⟩ := hP
  have hR9 := hR
  obtain ⟨hB, ⟨o, c0, hS⟩, len, t1, t2, t3, t4⟩ := hR
  obtain ⟨S1, P1, e1, e2, e3, e4, e5, e6, e7, e8⟩ := q_sv hR9
  obtain ⟨S2, P2, o1, c1, g1, g2, g3, g4, g5, g6, g7, g8⟩ := q_save hS hB
  rw [e1] at g1
  injection g1 with g1
  subst g1
  obtain ⟨s1, s2, s3, s4, s5, s6⟩ := hS
  obtain ⟨u1, u2, u3, u4, u5, u6⟩ := g3
  have hcc : c0 = c := by
    rw [hc, nI_eq (by omega) (by omega)] at s4
    exact s4.symm
  subst hcc
  have hk : 0 < c1 ∧ c0 ≤ c1 := by
    by_cases e : c0 = 6
    · subst e
      rw [qm_save_6 s5] at g2
      injection g2 with g2
      rw [← g2, pm_pt, pm_u, nI_eq (by omega) (by omega)] at u5
      omega
    · rw [qm_save_lt (show c0 ≤ 5 by omega) s5] at g2
      injection g2 with g2
      rw [← g2, pm_pt, pm_u, nI_eq (by omega) (by omega)] at u5
      omega
  exact ⟨S1, c1, e1, e3, fun f hf => g4 f (Or.inr hf), g5, u4, hk.1, hk.2, u2, fun G' Z' hB' => ⟨_, e7 G' Z' hB'⟩⟩
theorem a_sv {S Sm : cr_S} {Z : Nat → Int32} {nT nB nL nP nW h c : Nat} (H : RV S Z nT nB nL nP nW h c) (hm : ∀ f, f < 9 → Sm.1 f = S.1 f) : ∃ (S1 : cr_S) (c1 : Nat), s_X8_saveState Sm = some S1 ∧ S1.1 0 = S.1 0 ∧ (∀ f, 9 ≤ f → S1.1 f = Sm.1 f) ∧ 0 < c1 ∧ c ≤ c1 ∧ ∀ (G' : cr_G) (Z' : Nat → Int32) (mT mB mL mP mW h' : Nat), fr mT mB mL mP mW G' Z' → J mT mB mL mP mW h' h' Z' → jE Z' → aG mT mL mP (Sm.1 9) Z' → aK mB mW (Sm.1 11) Z' → mT ≤ 6 → h' ≤ 2000 → RV (cr_us S1 0 G') Z' mT mB mL mP mW h' c1 := by
  obtain ⟨hZ, hP, ht, hc, hc6⟩ := H
  obtain ⟨S1, c1, e1, e2, e3, e4, e5, e6, e7, e8, e9⟩ := a_sv0 (S := Sm) (RX_c hP hm) (by rw [hm 8 (by omega)]; exact hc) hc6
  refine ⟨S1, c1, e1, e2.trans (hm 0 (by omega)), e3, e6, e7, fun G' Z' mT mB mL mP mW h' hf hJ hE hG hK hT6 hh => ⟨⟨?_, hJ, hE, ?_, ?_, hT6, hh⟩, e9 G' Z' (BLK_of hf hJ (by omega)), ?_, ?_, e8⟩⟩
  · rw [cr_us_eq]; exact hf
  · rw [cr_us_ne _ _ (by omega), e3 9 (by omega)]; exact hG
  · rw [cr_us_ne _ _ (by omega), e3 11 (by omega)]; exact hK
  · rw [cr_us_ne _ _ (by omega), e4 2 (by omega), hm 8 (by omega)]; exact ht
  · rw [cr_us_ne _ _ (by omega)]; exact e5
theorem us_lo {S : cr_S} {g : Nat} {X : cr_G} (hg : 9 ≤ g) : ∀ f, f < 9 → (cr_us S g X).1 f = S.1 f := fun f hf => cr_us_ne S X (by omega)
theorem aG_c {nT nL nP : Nat} {G : cr_G} {Z Z' : Nat → Int32} (h : aG nT nL nP G Z) (hT : nT ≤ 10) (hL : nL ≤ 10) (hP : nP ≤ 10) (hz : ∀ k, (k < 71 ∨ k = 127 ∨ 140 ≤ k) → Z' k = Z k) : aG nT nL nP G Z' := ⟨aT_c h.1 hT (fun k hk => hz k (by omega)), aL_c h.2.1 hL (fun k hk => hz k (by omega)), aP_c h.2.2.1 hP (fun k hk => hz k (by omega)), aC_c h.2.2.2 (fun k hk => hz k (by omega))⟩
/-! ### a setting -/
theorem aS_u {k0 : Nat} {f Z : Nat → Int32} (v : Int32) (h : aS f Z) : aS (upd f k0 v) (upd Z (71 + k0) v) := by
  intro k hk
  by_cases e : k = k0
  · subst e
    rw [pm_u, pm_u]
  · rw [pm_un _ _ e, pm_un _ _ (by omega)]
    exact h k hk
theorem a_set {S : cr_S} {Z : Nat → Int32} {nT nB nL nP nW h c k v : Nat} (H : RV S Z nT nB nL nP nW h c) (hk : k < 7) (h1 : lo9 k ≤ v) (h2 : v ≤ hi9 k) : ∃ S', t_X8_set (nI k) (nI v) (cr_us S 11 (cr_pt (S.1 11) 1 k (nI v))) = some (S.1 11 1 k, S') ∧ DV S' h c := by
  have H0 := H
  obtain ⟨⟨hf, hJ, hE, hG, hK, hT6, hh⟩, hP, ht, hc, hc6⟩ := H
  have hn := hJ.1.1
  obtain ⟨S1, c1, e1, e2, e3, e4, e5, e6⟩ := a_sv (Sm := cr_us S 11 (cr_pt (S.1 11) 1 k (nI v))) H0 (us_lo (by omega))
  have l13 : lvp nT nB nL nP nW 13 k := by simp [lvp, hk]
  have f1 : fr nT nB nL nP nW (cr_pt (S.1 0) 13 k (nI v)) (upd Z (71 + k) (nI v)) := fr_pt (nI v) hn hf l13
  have o : ∀ i, i ≠ 71 + k → upd Z (71 + k) (nI v) i = Z i := fun i hi => pm_un _ _ hi
  obtain ⟨b1, b2, b3, b4, b5, b6⟩ := q_lohi (show k ≤ 6 by omega)
  have w1 := c_wi (n := k) (lo := 0) (hi := 6) (by omega) (by omega) (by omega)
  have w2 := c_wi h1 h2 (by omega)
  have g3 : S1.1 0 13 k = S.1 11 1 k := by rw [e2, hK.2.1 k hk]; exact fr_s hf hk
  refine ⟨cr_us S1 0 (cr_pt (S.1 0) 13 k (nI v)), ?_, _, _, _, _, _, _, _, _, e6 _ _ nT nB nL nP nW h f1 (J_set hJ (by omega) h1 h2) (jE_c hE (o _ (by omega)) (o _ (by omega))) ?_ ?_ hT6 hh, by omega, e5⟩
  · simp (disch := omega) only [t_X8_set, t_X8_requireSetting, pm_lit, w1, pm_cl, pm_S, pm_gd, b3, b4, w2, e1, ↓pm_bd, g3, cr_sp, e2, ↓reduceIte]
  · rw [cr_us_ne _ _ (by omega)]
    exact aG_c hG hn.1 hn.2.2.1 hn.2.2.2.1 (fun i hi => o i (by omega))
  · rw [cr_us_eq]
    refine ⟨?_, ?_, ?_⟩
    · rw [pm_ptne _ _ _ (by omega)]; exact aW_c hK.1 hn.2.2.2.2 (fun i hi => o i (by omega))
    · rw [pm_pt]; exact aS_u _ hK.2.1
    · rw [pm_ptne _ _ _ (by omega)]; exact aB_c hK.2.2 hn.2.1 (fun i hi => o i (by omega))
theorem a_181 {S : cr_S} {Z : Nat → Int32} {nT nB nL nP nW h c k m lo : Nat} (H : RV S Z nT nB nL nP nW h c) (y : Int32) (hk : k < 7) (hm : 0 < m) (h1 : lo9 k ≤ lo) (h2 : lo + m ≤ hi9 k + 1) : DN (s_L_act_181 (nI k) (S.1 11 1 k) (nI m) y (nI lo) (nI k) S) h c := by
  obtain ⟨b1, b2, b3, b4, b5, b6⟩ := q_lohi (show k ≤ 6 by omega)
  obtain ⟨j, hj, ej⟩ := l_at y (m := m) hm (by omega)
  obtain ⟨S', e1, e2⟩ := a_set (v := lo + j) H hk (by omega) (by omega)
  refine ⟨S', ?_, e2⟩
  simp (disch := omega) only [s_L_act_181, ej, pm_cl, pm_S, pm_gd, ↓pm_bd, cr_sp, cr_us_eq, pm_pt, e1, ↓reduceIte]
theorem act_3 (x y : Int32) (S : cr_S) : s_L_act (nI 3) x y S = cr_cl (s_L_at x (7 : Int32)) (fun r66_20 => (if r66_20 = 0 then (s_L_act_98 y r66_20 ((5 : Int32)) S) else (if r66_20 = (4 : Int32) then (s_L_act_98 y r66_20 ((0 : Int32)) S) else (if r66_20 = (6 : Int32) then (s_L_act_98 y r66_20 ((0 : Int32)) S) else (s_L_act_98 y r66_20 ((1 : Int32)) S))))) := by
  unfold s_L_act
  rw [if_pos (show (2 : Int32) ≤ nI 3 by decide), if_neg (show ¬ nI 3 = (2 : Int32) by decide), if_pos (show nI 3 = (3 : Int32) from rfl)]
theorem a_98 {S : cr_S} {Z : Nat → Int32} {nT nB nL nP nW h c k : Nat} (H : RV S Z nT nB nL nP nW h c) (y : Int32) (lo : Nat) (hk : k < 7) (hlo : lo = lo9 k) : DN (s_L_act_98 y (nI k) (nI lo) S) h c := by
  subst hlo
  have h9 : k = 0 ∨ k = 1 ∨ k = 2 ∨ k = 3 ∨ k = 4 ∨ k = 5 ∨ k = 6 := by omega
  unfold s_L_act_98
  rw [pm_in hk (by omega), pm_gd, nI_clamp (by omega), pm_bd]
  rcases h9 with rfl | rfl | rfl | rfl | rfl | rfl | rfl
  · rw [if_pos (show nI 0 = (0 : Int32) from rfl)]
    exact a_181 (m := 21) H y (by omega) (by omega) (by decide) (by decide)
  · rw [if_neg (by decide), if_pos (show nI 1 = (1 : Int32) from rfl)]
    exact a_181 (m := 20) H y (by omega) (by omega) (by decide) (by decide)
  · rw [if_neg (by decide), if_neg (by decide), if_pos (show nI 2 = (2 : Int32) from rfl)]
    exact a_181 (m := 6) H y (by omega) (by omega) (by decide) (by decide)
  · rw [if_neg (by decide), if_neg (by decide), if_neg (by decide), if_pos (show nI 3 = (3 : Int32) from rfl)]
    exact a_181 (m := 40) H y (by omega) (by omega) (by decide) (by decide)
  · rw [if_neg (by decide), if_neg (by decide), if_neg (by decide), if_neg (by decide), if_pos (show nI 4 = (4 : Int32) from rfl)]
    exact a_181 (m := 11) H y (by omega) (by omega) (by decide) (by decide)
  · rw [if_neg (by decide), if_neg (by decide), if_neg (by decide), if_neg (by decide), if_neg (by decide), if_pos (show nI 5 = (5 : Int32) from rfl)]
    exact a_181 (m := 30) H y (by omega) (by omega) (by decide) (by decide)
  · rw [if_neg (by decide), if_neg (by decide), if_neg (by decide), if_neg (by decide), if_neg (by decide), if_neg (by decide)]
    exact a_181 (m := 30) H y (by omega) (by omega) (by decide) (by decide)
theorem ne_lit {k j : Nat} (hk : k < 2 ^ 31) (hj : j < 2 ^ 31) (e : ¬ k = j) : ¬ nI k = nI j := fun h => e ((nI_eq hk hj).mp h)
theorem a_3 {S : cr_S} {Z : Nat → Int32} {nT nB nL nP nW h c : Nat} (H : RV S Z nT nB nL nP nW h c) (x y : Int32) : DN (s_L_act (nI 3) x y S) h c := by
  obtain ⟨k, hk, ek⟩ := l_at x (m := 7) (by omega) (by omega)
  rw [act_3, show (7 : Int32) = nI 7 from rfl, ek, pm_cl]
  by_cases e0 : k = 0
  · subst e0
    rw [if_pos (show nI 0 = (0 : Int32) from rfl)]
    exact a_98 H y 5 (by omega) rfl
  rw [if_neg (show ¬ nI k = (0 : Int32) from ne_lit (j := 0) (by omega) (by omega) e0)]
  by_cases e4 : k = 4
  · subst e4
    rw [if_pos (show nI 4 = (4 : Int32) from rfl)]
    exact a_98 H y 0 (by omega) rfl
  rw [if_neg (show ¬ nI k = (4 : Int32) from ne_lit (j := 4) (by omega) (by omega) e4)]
  by_cases e6 : k = 6
  · subst e6
    rw [if_pos (show nI 6 = (6 : Int32) from rfl)]
    exact a_98 H y 0 (by omega) rfl
  rw [if_neg (show ¬ nI k = (6 : Int32) from ne_lit (j := 6) (by omega) (by omega) e6)]
  have h9 : k = 1 ∨ k = 2 ∨ k = 3 ∨ k = 5 := by omega
  refine a_98 H y 1 hk ?_
  rcases h9 with rfl | rfl | rfl | rfl <;> rfl
