/-! ### the law's own loop: as functions (a false answer is none) -/
def s_L_law_310 (S : cr_S) : Option Unit := cr_cl (t_X8_count S (14 : Int32)) (fun r => if r ≤ 0 then none else some ())
def s_L_law_271 (k : Int32 → cr_S → Option Unit) (x9 x11 : Int32) (S : cr_S) : Option Unit := if x9 - x9 / (4 : Int32) * (4 : Int32) = (3 : Int32) then cr_cl (s_L_ahead (x11 >>> ((3 : Int32) &&& 31)) (cr_us S 10 (fun _ _ => 0))) (fun r => if r.1 = true then cr_bd (x9 + 1) (fun v => k v r.2) else none) else cr_bd (x9 + 1) (fun v => k v S)
def s_L_law_219 (k : Int32 → cr_S → Option Unit) (x9 x10 x11 y0 : Int32) (S : cr_S) : Option Unit := cr_cl (s_L_act y0 x10 x11 S) (fun r => if r.1 = true then cr_cl (s_L_told r.2 (x11 >>> ((2 : Int32) &&& 31))) (fun b => if b = true then s_L_law_271 k x9 x11 r.2 else none) else none)
def s_L_law_166 (k : Int32 → cr_S → Option Unit) (x9 x10 x11 : Int32) (S : cr_S) : Option Unit := if (3 : Int32) ≤ x9 then (if x9 = (3 : Int32) then s_L_law_219 k x9 x10 x11 (6 : Int32) S else if x9 = (4 : Int32) then s_L_law_219 k x9 x10 x11 (8 : Int32) S else if x9 = (5 : Int32) then s_L_law_219 k x9 x10 x11 (12 : Int32) S else cr_cl (s_L_at (x10 >>> ((13 : Int32) &&& 31)) (18 : Int32)) (fun r => s_L_law_219 k x9 x10 x11 r S)) else s_L_law_219 k x9 x10 x11 (4 : Int32) S
def s_L_law_131 (xs : Nat → Int32) (L : Nat) : Nat → Int32 → cr_S → Option Unit
  | 0, _, _ => none
  | n + 1, x9, S => if (26 : Int32) ≤ x9 then s_L_law_310 S else cr_cl (s_L_cell xs L ((2 : Int32) * x9)) (fun a => cr_bd (a &&& (2147483647 : Int32)) (fun x10 => cr_cl (s_L_cell xs L ((2 : Int32) * x9 + (1 : Int32))) (fun b => cr_bd (b &&& (2147483647 : Int32)) (fun x11 => s_L_law_166 (fun v S' => s_L_law_131 xs L n v S') x9 x10 x11 S))))
def s_L_law_91 (xs : Nat → Int32) (L : Nat) (S : cr_S) : Option Unit := cr_cl (s_L_told S (5 : Int32)) (fun b => if b = true then cr_cl (s_X8_doneIn S) (fun r => if r.1 = 0 then cr_cl (s_X8_bestFirst r.2) (fun q => if q.1 = (-1 : Int32) then s_L_law_131 xs L 1200 (0 : Int32) q.2 else none) else none) else none)
/-! ### they come to true -/
theorem l_cell (xs : Nat → Int32) {L i : Nat} (hL : L < 2 ^ 31) (hi : i < 2 ^ 31) : ∃ v, s_L_cell xs L (nI i) = some v := by
  by_cases e : L ≤ i
  · refine ⟨(1116352408 : Int32) * (nI i + (1 : Int32)), ?_⟩
    unfold s_L_cell
    rw [if_pos ((nI_leI hL hi).mpr e)]
  · refine ⟨xs i, ?_⟩
    unfold s_L_cell
    rw [if_neg (fun h => e ((nI_leI hL hi).mp h)), pm_in (by omega) hL, pm_gd, nI_clamp hi]
theorem RV_c {S S' : cr_S} {Z : Nat → Int32} {nT nB nL nP nW h c : Nat} (H : RV S Z nT nB nL nP nW h c) (o : ∀ f, f ≠ 1 → f ≠ 10 → S'.1 f = S.1 f) : RV S' Z nT nB nL nP nW h c := by
  obtain ⟨hZ, ⟨P, hP⟩, ht, hc, hc6⟩ := H
  exact ⟨RZ_c hZ (o 0 (by omega) (by omega)) (o 9 (by omega) (by omega)) (o 11 (by omega) (by omega)), ⟨P, R_c hP (fun f h1 h2 => o f h1 (by omega)) (fun _ _ => rfl) rfl rfl rfl rfl⟩, by rw [o 8 (by omega) (by omega)]; exact ht, by rw [o 8 (by omega) (by omega)]; exact hc, hc6⟩
theorem law_271 {S : cr_S} {Z : Nat → Int32} {nT nB nL nP nW h c j : Nat} (H : RV S Z nT nB nL nP nW h c) (k : Int32 → cr_S → Option Unit) (hj : j < 26) (x11 : Int32) (hk : ∀ S', RV S' Z nT nB nL nP nW h c → k (nI (j + 1)) S' = some ()) : s_L_law_271 k (nI j) x11 S = some () := by
  have hm : nI j - nI j / (4 : Int32) * (4 : Int32) = nI (j % 4) := by
    show nI j - nI j / nI 4 * nI 4 = _
    rw [pk_rem (by omega) (by omega) (by omega)]
  have hadd : nI j + 1 = nI (j + 1) := pm_add j 1
  unfold s_L_law_271
  rw [hm]
  by_cases e : j % 4 = 3
  · rw [if_pos (show nI (j % 4) = (3 : Int32) from congrArg nI e)]
    have H1 := RV_c (S' := cr_us S 10 (fun _ _ => 0)) H (fun f h1 h2 => us_10 _ _ h2)
    obtain ⟨S', e1, e2⟩ := d_ahead H1.1 (x11 >>> ((3 : Int32) &&& 31))
    rw [e1, pm_cl, if_pos rfl, pm_bd, hadd]
    exact hk S' (RV_c H1 e2)
  · rw [if_neg (show ¬ nI (j % 4) = (3 : Int32) from ne_lit (j := 3) (by omega) (by omega) e), pm_bd, hadd]
    exact hk S H
theorem law_219 {S : cr_S} {h q j : Nat} {y0 : Int32} {x10 x11 : Int32} (hA : DN (s_L_act y0 x10 x11 S) h q) (k : Int32 → cr_S → Option Unit) (hj : j < 26) (hk : ∀ S' Z nT nB nL nP nW h' c', RV S' Z nT nB nL nP nW h' c' → h' ≤ h + 40 → q ≤ c' → k (nI (j + 1)) S' = some ()) : s_L_law_219 k (nI j) x10 x11 y0 S = some () := by
  obtain ⟨S', e1, Z, nT, nB, nL, nP, nW, h', c', H, h1, h2⟩ := hA
  have ht := t_told H.1 (x11 >>> ((2 : Int32) &&& 31))
  unfold s_L_law_219
  rw [e1, pm_cl, if_pos rfl, ht, pm_cl, if_pos rfl]
  exact law_271 H k hj x11 (fun S2 H2 => hk S2 Z nT nB nL nP nW h' c' H2 h1 h2)
theorem law_131 (xs : Nat → Int32) {L : Nat} (hL : L ≤ 2048) : ∀ (d j n : Nat) (S : cr_S) (Z : Nat → Int32) (nT nB nL nP nW h c : Nat), 26 - j = d → d < n → j ≤ 26 → RV S Z nT nB nL nP nW h c → h ≤ 40 * j → (j = 0 → nT = 0) → (0 < j → 0 < c) → s_L_law_131 xs L n (nI j) S = some () := by
  intro d
  induction d with
  | zero =>
    intro j n S Z nT nB nL nP nW h c hd hn hj H hh h0 hc
    obtain ⟨n, rfl⟩ : ∃ m, n = m + 1 := ⟨n - 1, by omega⟩
    obtain rfl : j = 26 := by omega
    have hcnt := (c_counts H.1.1 H.1.2.1 (show h < 1000000 by omega)).2.2.2.2.2.2.2.2.2.2.2.2.2.2
    have hc4 : S.1 8 0 4 = nI c := H.2.2.2.1
    have hc6 := H.2.2.2.2
    have hct : t_X8_count S (14 : Int32) = some (nI c) := by
      rw [← hc4]
      exact hcnt
    rw [s_L_law_131, if_pos (show (26 : Int32) ≤ nI 26 by decide)]
    unfold s_L_law_310
    rw [hct, pm_cl, if_neg (show ¬ nI c ≤ (0 : Int32) from fun hx => by have := (nI_leI (b := 0) (by omega) (by omega)).mp hx; have := hc (by omega); omega)]
  | succ d ih =>
    intro j n S Z nT nB nL nP nW h c hd hn hj H hh h0 hc
    obtain ⟨n, rfl⟩ : ∃ m, n = m + 1 := ⟨n - 1, by omega⟩
    have n26 : ¬ (26 : Int32) ≤ nI j := fun hx => by have := (nI_leI (a := 26) (by omega) (by omega)).mp hx; omega
    obtain ⟨v1, e1⟩ := l_cell xs (L := L) (i := 2 * j) (by omega) (by omega)
    obtain ⟨v2, e2⟩ := l_cell xs (L := L) (i := 2 * j + 1) (by omega) (by omega)
    have m1 : (2 : Int32) * nI j = nI (2 * j) := pk_mul 2 j
    have m2 : nI (2 * j) + (1 : Int32) = nI (2 * j + 1) := pm_add _ 1
    rw [s_L_law_131, if_neg n26, m1, e1, pm_cl, pm_bd, m2, e2, pm_cl, pm_bd]
    have next : ∀ q, 1 ≤ q → ∀ S' Z nT nB nL nP nW h' c', RV S' Z nT nB nL nP nW h' c' → h' ≤ h + 40 → q ≤ c' → (fun v S' => s_L_law_131 xs L n v S') (nI (j + 1)) S' = some () := fun q hq S' Z nT nB nL nP nW h' c' H' h1 h2 => ih (j + 1) n S' Z nT nB nL nP nW h' c' (by omega) (by omega) (by omega) H' (by omega) (fun hx => by omega) (fun _ => by omega)
    unfold s_L_law_166
    by_cases h3 : 3 ≤ j
    · have hc0 : 1 ≤ c := hc (by omega)
      rw [if_pos (show (3 : Int32) ≤ nI j from (nI_leI (a := 3) (by omega) (by omega)).mpr h3)]
      by_cases e3 : j = 3
      · rw [if_pos (show nI j = (3 : Int32) from congrArg nI e3)]
        exact law_219 (a_act H (by omega) (show 6 < 18 by omega) _ _) _ (by omega) (next c hc0)
      rw [if_neg (show ¬ nI j = (3 : Int32) from ne_lit (j := 3) (by omega) (by omega) e3)]
      by_cases e4 : j = 4
      · rw [if_pos (show nI j = (4 : Int32) from congrArg nI e4)]
        exact law_219 (a_act H (by omega) (show 8 < 18 by omega) _ _) _ (by omega) (next c hc0)
      rw [if_neg (show ¬ nI j = (4 : Int32) from ne_lit (j := 4) (by omega) (by omega) e4)]
      by_cases e5 : j = 5
      · rw [if_pos (show nI j = (5 : Int32) from congrArg nI e5)]
        exact law_219 (a_act H (by omega) (show 12 < 18 by omega) _ _) _ (by omega) (next c hc0)
      rw [if_neg (show ¬ nI j = (5 : Int32) from ne_lit (j := 5) (by omega) (by omega) e5)]
      obtain ⟨r, hr, er⟩ := l_at ((v1 &&& (2147483647 : Int32)) >>> ((13 : Int32) &&& 31)) (m := 18) (by omega) (by omega)
      rw [show (18 : Int32) = nI 18 from rfl, er, pm_cl]
      exact law_219 (a_act H (by omega) hr _ _) _ (by omega) (next c hc0)
    · rw [if_neg (show ¬ (3 : Int32) ≤ nI j from fun hx => by have := (nI_leI (a := 3) (by omega) (by omega)).mp hx; omega)]
      by_cases hj0 : j = 0
      · exact law_219 (a_4 H (show 4 ≤ 4 by omega) (by omega) _ _ 1 (Or.inr ⟨rfl, h0 hj0⟩)) _ (by omega) (next 1 (by omega))
      · exact law_219 (a_act H (by omega) (show 4 < 18 by omega) _ _) _ (by omega) (next c (hc (by omega)))
theorem law_91 (xs : Nat → Int32) {L : Nat} (hL : L ≤ 2048) {S : cr_S} {Z : Nat → Int32} {c : Nat} (H : RV S Z 0 0 0 0 0 0 c) : s_L_law_91 xs L S = some () := by
  have h8 : S.1 0 8 1 = nI 0 := (fr_p H.1.1).trans H.1.2.1.1.2.2.2.2.1
  obtain ⟨Ga, a3, a4⟩ := q_copy H.1.2.1.1.1 H.1.1 H.1.2.1.1.2.1 (S.1 1)
  have g8 : Ga 8 1 = nI 0 := (fr_p a4).trans H.1.2.1.1.2.2.2.2.1
  have hdone : s_X8_doneIn S = some (nI 0, cr_us S 1 Ga) := by
    have n5 : ¬ 500 < 0 := by omega
    have hk : ∀ n, s_X8_doneIn_13 (n + 1) (nI 0) (cr_us S 1 Ga) = some (nI 0, cr_us S 1 Ga) := fun n => by
      simp (disch := omega) only [s_X8_doneIn_13, pm_lit, pm_C, n5, cr_us_eq, g8, ↓reduceIte]
    simp only [s_X8_doneIn, ↓pm_bd, pm_lit, a3, pm_cl]
    exact hk 1199
  have H1 := RV_c (S' := cr_us S 1 Ga) H (fun f h1 _ => cr_us_ne _ _ h1)
  have h81 : (cr_us S 1 Ga).1 0 8 1 = nI 0 := by rw [cr_us_ne _ _ (by omega)]; exact h8
  have hbest : s_X8_bestFirst (cr_us S 1 Ga) = some (mI, cr_us S 1 Ga) := by
    have hk : ∀ n, s_X8_bestFirst_6 (n + 1) mI (nI 0) (nI 0) (cr_us S 1 Ga) = some (mI, cr_us S 1 Ga) := fun n => by
      simp (disch := omega) only [s_X8_bestFirst_6, h81, pm_C, Nat.le_refl, ↓reduceIte]
    simp only [s_X8_bestFirst, ↓pm_m1, pm_lit]
    exact hk 1199
  unfold s_L_law_91
  rw [t_told H.1 5, pm_cl, if_pos rfl, hdone, pm_cl, if_pos (show nI 0 = (0 : Int32) from rfl), hbest, pm_cl, if_pos (show mI = (-1 : Int32) from rfl)]
  exact law_131 xs hL 26 0 1200 _ Z 0 0 0 0 0 0 c rfl (by omega) (by omega) H1 (by omega) (fun _ => rfl) (fun hx => by omega)
