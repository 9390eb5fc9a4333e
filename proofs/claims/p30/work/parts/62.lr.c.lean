/-! ### serving -/
def ldrv (f : Nat → Int32) (t : Nat) (pl : Int32) (m : Nat) : Nat → Int32 := if m = 0 then upd (upd (upd f 1 mI) 2 (nI 0)) 0 pl else upd (upd f 1 (nI t)) 2 (nI m)
theorem aC_drv {f Z : Nat → Int32} {t m : Nat} {pl : Int32} (h : aC f Z) : aC (ldrv f t pl m) (drv Z t pl m) := by
  have hne : ∀ k, k < 14 → 3 ≤ k → mcs k < 140 ∨ 143 ≤ mcs k := by decide
  intro k hk
  by_cases e : 3 ≤ k
  · rw [drv_o (hne k hk e)]
    unfold ldrv
    split
    · rw [pm_un _ _ (by omega), pm_un _ _ (by omega), pm_un _ _ (by omega)]
      exact h k hk
    · rw [pm_un _ _ (by omega), pm_un _ _ (by omega)]
      exact h k hk
  · have hk3 : k = 0 ∨ k = 1 ∨ k = 2 := by omega
    have h0 := aC0 h
    unfold ldrv drv
    by_cases em : m = 0
    · subst em
      rcases hk3 with rfl | rfl | rfl <;> simp [upd, mcs]
    · rcases hk3 with rfl | rfl | rfl <;> simp [upd, mcs, em, h0]
theorem jE_drv {Z : Nat → Int32} {t m : Nat} {pl : Int32} (h : jE Z) (ht : t < 10) : jE (drv Z t pl m) := by
  refine ⟨by rw [drv_o (by omega)]; exact h.1, ?_⟩
  unfold drv
  split
  · exact Or.inl (pm_u _ _ _)
  · exact Or.inr ⟨t, ht, pm_u _ _ _⟩
theorem pt_def (G : cr_G) (j i : Nat) (v : Int32) : cr_pt G j i v = cr_pa G j (upd (G j) i v) := rfl
theorem l_serve_66 {K G : cr_G} {t y : Nat} (ht : t < 6) (hy : y ≤ 1000) : s_L_serve_66 K (nI t) (nI y) G = some (nI 1, cr_pa G 3 (ldrv (G 3) t (G 0 (7 * t)) (y - 1))) := by
  unfold ldrv
  by_cases e : y - 1 = 0
  · rw [if_pos e]
    have hv : ∃ v : Int32, nI y - nI 1 = v ∧ v ≤ nI 0 ∧ ¬ nI 0 < v := by
      have h9 : y = 0 ∨ y = 1 := by omega
      rcases h9 with rfl | rfl
      · exact ⟨mI, pI_sub 0, by decide, by decide⟩
      · exact ⟨nI 0, pI_sub 1, by decide, by decide⟩
    obtain ⟨v, hv1, hv2, hv3⟩ := hv
    simp (disch := omega) only [s_L_serve_66, s_L_serve_98, ↓pm_m1, ↓pm_bd, pm_lit, hv1, hv2, hv3, pt_def, pm_papa, pk_mul, pm_S, pm_gd, ↓reduceIte]
  · rw [if_neg e]
    have hv : nI y - nI 1 = nI (y - 1) := pk_sub (by omega)
    have n1 : ¬ y - 1 ≤ 0 := by omega
    have n2 : 0 < y - 1 := by omega
    simp (disch := omega) only [s_L_serve_66, s_L_serve_98, ↓pm_m1, ↓pm_bd, pm_lit, hv, pm_C, n1, n2, pt_def, pm_papa, pk_mul, pm_S, pm_gd, ↓reduceIte]
theorem l_ready_n (K G : cr_G) (Z : Nat → Int32) {nL t : Nat} (hL : nL ≤ 10) (hA : aL nL (G 1) Z) (h7 : G 3 7 = nI nL) : ∀ d k n, nL - k = d → d < n → k ≤ nL → (∀ i, k ≤ i → i < nL → mzb Z (nI t) i = false) → s_L_ready_2 K G n (nI t) (nI k) = some mI := by
  intro d
  induction d with
  | zero =>
    intro k n hd hn hk _
    obtain ⟨n, rfl⟩ : ∃ m, n = m + 1 := ⟨n - 1, by omega⟩
    have hck : nL ≤ k := by omega
    simp (disch := omega) only [s_L_ready_2, ↓pm_m1, h7, pm_C, hck, ↓reduceIte]
  | succ d ih =>
    intro k n hd hn hk hno
    obtain ⟨n, rfl⟩ : ∃ m, n = m + 1 := ⟨n - 1, by omega⟩
    have hck : ¬ nL ≤ k := by omega
    obtain ⟨q1, q2⟩ := hA k (by omega)
    have hi := ih (k + 1) n (by omega) (by omega) (by omega) (fun i h1 h2 => hno i (by omega) h2)
    have hm := hno k (Nat.le_refl _) (by omega)
    simp only [mzb, mtb, decide_eq_false_iff_not] at hm
    by_cases e1 : Z (157 + k) = nI t
    · have e2 : ¬ Z (167 + k) = nI 0 := fun e => hm ⟨e1, e⟩
      simp (disch := omega) only [s_L_ready_2, ↓pm_bd, pm_lit, pk_mul, pm_S, pm_gd, pm_C, h7, hck, q1, q2, e1, e2, ↓reduceIte]
      exact hi
    · simp (disch := omega) only [s_L_ready_2, ↓pm_bd, pm_lit, pk_mul, pm_S, pm_gd, pm_C, h7, hck, q1, q2, e1, ↓reduceIte]
      exact hi
theorem l_ready_s (K G : cr_G) (Z : Nat → Int32) {nL t p : Nat} (hL : nL ≤ 10) (hA : aL nL (G 1) Z) (h7 : G 3 7 = nI nL) (hp : p < nL) (hpm : mzb Z (nI t) p = true) : ∀ d k n, p - k = d → d < n → k ≤ p → (∀ i, k ≤ i → i < p → mzb Z (nI t) i = false) → s_L_ready_2 K G n (nI t) (nI k) = some (nI p) := by
  intro d
  induction d with
  | zero =>
    intro k n hd hn hk _
    obtain ⟨n, rfl⟩ : ∃ m, n = m + 1 := ⟨n - 1, by omega⟩
    obtain rfl : k = p := by omega
    have hck : ¬ nL ≤ k := by omega
    obtain ⟨q1, q2⟩ := hA k (by omega)
    simp only [mzb, mtb, decide_eq_true_eq] at hpm
    simp (disch := omega) only [s_L_ready_2, ↓pm_bd, pm_lit, pk_mul, pm_S, pm_gd, pm_C, h7, hck, q1, q2, hpm.1, hpm.2, ↓reduceIte]
  | succ d ih =>
    intro k n hd hn hk hno
    obtain ⟨n, rfl⟩ : ∃ m, n = m + 1 := ⟨n - 1, by omega⟩
    have hck : ¬ nL ≤ k := by omega
    obtain ⟨q1, q2⟩ := hA k (by omega)
    have hi := ih (k + 1) n (by omega) (by omega) (by omega) (fun i h1 h2 => hno i (by omega) h2)
    have hm := hno k (Nat.le_refl _) (by omega)
    simp only [mzb, mtb, decide_eq_false_iff_not] at hm
    by_cases e1 : Z (157 + k) = nI t
    · have e2 : ¬ Z (167 + k) = nI 0 := fun e => hm ⟨e1, e⟩
      simp (disch := omega) only [s_L_ready_2, ↓pm_bd, pm_lit, pk_mul, pm_S, pm_gd, pm_C, h7, hck, q1, q2, e1, e2, ↓reduceIte]
      exact hi
    · simp (disch := omega) only [s_L_ready_2, ↓pm_bd, pm_lit, pk_mul, pm_S, pm_gd, pm_C, h7, hck, q1, q2, e1, ↓reduceIte]
      exact hi
theorem l_det {M : cr_G} {a b : Int32} {Z Z' : Nat → Int32} (h : some (a, cr_pa M 1 Z) = some (b, cr_pa M 1 Z')) : a = b ∧ Z = Z' := by
  obtain ⟨h1, h2⟩ := Prod.mk.inj (Option.some.inj h)
  have h3 := congrFun h2 1
  rw [pm_pa, pm_pa] at h3
  exact ⟨h1, h3⟩
theorem l_serve {nT nB nL nP nW h g t x : Nat} {K G M : cr_G} {Z : Nat → Int32} (hT6 : nT ≤ 6) (hA : aT nT (G 0) Z) (hL9 : aL nL (G 1) Z) (hC : aC (G 3) Z) (hK : aK nB nW K Z) (hJ : J nT nB nL nP nW h g Z) (hE : jE Z) (ht : t < nT) (hx : x ≤ 99) (hh : h < 2 ^ 31) (hwx : wv Z nW h = nI x) : ∃ (c : Nat) (h' Z' : Nat → Int32), c ≤ 4 ∧ s_L_serve K (nI t) (nI x) G = some (nI c, cr_pa G 3 h') ∧ s_X9_serve (nI t) (nI x) (cr_pa M 1 Z) = some (nI c, cr_pa M 1 Z') ∧ aC h' Z' ∧ J nT nB nL nP nW h g Z' ∧ jE Z' ∧ (∀ k, (k < 140 ∨ 145 ≤ k) → Z' k = Z k) ∧ (c = 4 → ∃ p, p < nL ∧ mzb Z (nI t) p = true ∧ ∀ i, i < p → mzb Z (nI t) i = false) := by
  obtain ⟨c0, G0', Z0, hc0, -, hm0, -, hJ0', ho0, hb0⟩ := q_serve (G := fun j i => Z (mp j i)) (M := M) (fun _ _ _ => rfl) hJ ht hx hh hwx
  have fin : ∀ (c : Nat) (h' Z' : Nat → Int32), c ≤ 4 → s_L_serve K (nI t) (nI x) G = some (nI c, cr_pa G 3 h') → s_X9_serve (nI t) (nI x) (cr_pa M 1 Z) = some (nI c, cr_pa M 1 Z') → aC h' Z' → jE Z' → ∃ (c : Nat) (h' Z' : Nat → Int32), c ≤ 4 ∧ s_L_serve K (nI t) (nI x) G = some (nI c, cr_pa G 3 h') ∧ s_X9_serve (nI t) (nI x) (cr_pa M 1 Z) = some (nI c, cr_pa M 1 Z') ∧ aC h' Z' ∧ J nT nB nL nP nW h g Z' ∧ jE Z' ∧ (∀ k, (k < 140 ∨ 145 ≤ k) → Z' k = Z k) ∧ (c = 4 → ∃ p, p < nL ∧ mzb Z (nI t) p = true ∧ ∀ i, i < p → mzb Z (nI t) i = false) := by
    intro c h' Z' hc e1 e2 e3 e4
    obtain ⟨d1, d2⟩ := l_det (hm0.symm.trans e2)
    subst d2
    have d3 : c0 = c := (nI_eq (by omega) (by omega)).mp d1
    subst d3
    exact ⟨c0, h', Z0, hc0, e1, hm0, e3, hJ0', e4, ho0, hb0⟩
  obtain ⟨a1, a2, a3, a4, a5, a6, a7, a8, a9, a10⟩ := hJ
  have hn := a1.1
  have hL := hn.2.2.1
  have h127 : Z 127 = nI nB := a1.2.2.1
  have h156 : Z 156 = nI nL := a1.2.2.2.1
  obtain ⟨pt, hpt, hzt⟩ := (a3 t ht).1
  obtain ⟨at_, hat, hza⟩ := a7.1
  have t10 : t < 10 := by omega
  have g0 : G 3 0 = nI at_ := (aC0 hC).trans hza
  have g1 : G 3 1 = Z 141 := aC1 hC
  have g2 : G 3 2 = Z 142 := aC2 hC
  have gp : G 0 (7 * t) = nI pt := (aT0 hA ht).trans hzt
  obtain ⟨w, hw, hwl, hwm⟩ := l_way (M := M) hK hC hn.2.1 h127 a2 a8 hat hpt
  have n10 : ¬ (1 : Nat) = 0 := by omega
  by_cases c1 : Z 141 = nI t
  · obtain ⟨l, hl1, hl2, hl⟩ : ∃ l : Nat, 1 ≤ l ∧ l ≤ 1000 ∧ Z 142 = nI l := by
      rcases a7.2.1 with ⟨hm, -⟩ | ⟨-, hl⟩
      · rw [c1, pm_ne (by omega)] at hm
        exact hm.elim
      · exact hl
    have nt0 : ¬ t < 0 := by omega
    refine fin 1 (ldrv (G 3) t (nI pt) (l - 1)) (drv Z t (nI pt) (l - 1)) (by omega) ?_ ?_ (aC_drv hC) (jE_drv hE t10)
    · have h66 := l_serve_66 (K := K) (G := G) (t := t) (y := l) (by omega) hl2
      rw [gp] at h66
      simp (disch := omega) only [s_L_serve, s_L_serve_12, s_L_serve_32, pm_lit, g1, c1, g2, hl, pm_C, nt0, n10, ↓reduceIte]
      exact h66
    · have e1 : upd Z 142 (nI (l - 1)) 141 = nI t := by rw [pm_un _ _ (by omega)]; exact c1
      have e2 : upd Z 142 (nI (l - 1)) t = nI pt := by rw [pm_un _ _ (by omega)]; exact hzt
      have e9 := qm_155 (M := M) t10 (show l - 1 ≤ 1000 by omega) e1 (pm_u Z 142 _)
      rw [e2, drv_drv1 c1] at e9
      simp (disch := omega) only [s_X9_serve, ↓pm_bd, pm_lit, pm_S, c1, hl, ↓reduceIte]
      exact e9
  · have e58 : s_X9_serve_58 (nI t) (cr_pa M 1 Z) = some (nI 1, cr_pa M 1 (drv Z t (nI pt) (w - 1))) := by
      have hzt' : Z t = nI pt := hzt
      have e1 : upd (upd Z 141 (nI t)) 142 (nI (w - 1)) 141 = nI t := by rw [pm_un _ _ (by omega), pm_u]
      have e2 : upd (upd Z 141 (nI t)) 142 (nI (w - 1)) t = nI pt := by rw [pm_un _ _ (by omega), pm_un _ _ (by omega)]; exact hzt
      have e9 := qm_155 (M := M) t10 (show w - 1 ≤ 1000 by omega) e1 (pm_u _ 142 _)
      rw [e2, drv_drv (a := nI 0)] at e9
      by_cases ew : w = 0
      · subst ew
        simp (disch := omega) only [s_X9_serve_58, ↓pm_bd, pm_lit, pm_S, pm_gd, Nat.zero_add, hza, hzt', hwm, pm_cl, ↓reduceIte]
        exact e9
      · simp (disch := omega) only [s_X9_serve_58, ↓pm_bd, pm_lit, pm_S, pm_gd, pm_C, Nat.zero_add, hza, hzt', hwm, pm_cl, ew, ↓reduceIte]
        exact e9
    have e32 : s_L_serve_32 K (nI t) G = some (nI 1, cr_pa G 3 (ldrv (G 3) t (nI pt) (w - 1))) := by
      have h66 := l_serve_66 (K := K) (G := G) (t := t) (y := w) (by omega) (by omega)
      rw [gp] at h66
      simp (disch := omega) only [s_L_serve_32, pm_lit, g1, c1, pk_mul, pm_S, pm_gd, g0, gp, hwl, pm_cl, ↓reduceIte]
      exact h66
    rcases hE.2 with c2 | ⟨t', ht', c2⟩
    · have nm : (mI < nI 0) = True := eq_true pm_mlt0
      have c1' : ¬ mI = nI t := by rw [← c2]; exact c1
      by_cases c3 : nI at_ = nI pt
      · rcases least (P := fun p => mzb Z (nI t) p = true) (fun k => Decidable.em _) nL with hno | ⟨p, hp1, hp2, hp3⟩
        · have hno' : ∀ i, i < nL → mzb Z (nI t) i = false := fun i hi => by simpa using hno i hi
          have hr := l_ready_n K G Z (t := t) hL hL9 ((aC7 hC).trans h156) nL 0 1200 rfl (by omega) (by omega) (fun i _ hi => hno' i hi)
          refine fin 2 (G 3) Z (by omega) ?_ ?_ hC hE
          · have nmm : ¬ nI 0 ≤ mI := by decide
            simp (disch := omega) only [s_L_serve, s_L_serve_12, s_L_ready, pm_lit, g1, c2, nm, pk_mul, pm_S, pm_gd, g0, gp, c3, hr, pm_cl, nmm, ↓reduceIte, pm_self]
          · simp (disch := omega) only [s_X9_serve, ↓pm_m1, pm_lit, pm_S, pm_gd, pm_C, c1', c2, Nat.zero_add, hza, hzt, c3, qm_bladeFor_no hL h156 hno', pm_cl, ↓reduceIte]
        · have hp3' : ∀ i, i < p → mzb Z (nI t) i = false := fun i hi => by simpa using hp3 i hi
          have hr := l_ready_s K G Z hL hL9 ((aC7 hC).trans h156) hp1 hp2 p 0 1200 rfl (by omega) (by omega) (fun i _ hi => hp3' i hi)
          have hlm := qm_limitOf (M := M) (Z := Z) t10
          have kk0 : K 1 0 = Z 71 := hK.2.1 0 (by omega)
          have gh := aT1 hA ht
          have np : 0 ≤ p := by omega
          by_cases hwl9 : nI x ≤ Z 71 - Z (10 + t) / nI 25
          · refine fin 4 (upd (upd (G 3) 3 (Z 143 + nI 1)) 4 (nI t)) (upd (upd Z 144 (nI t)) 143 (Z 143 + nI 1)) (by omega) ?_ ?_ ?_ ?_
            · simp (disch := omega) only [s_L_serve, s_L_serve_12, s_L_ready, ↓pm_bd, pm_lit, g1, c2, nm, pk_mul, pm_S, pm_gd, g0, gp, c3, hr, pm_cl, pm_C, np, kk0, gh, hwl9, pt_def, pm_papa, aC3 hC, ↓reduceIte]
            · simp (disch := omega) only [s_X9_serve, ↓pm_m1, ↓pm_bd, pm_lit, pm_S, pm_gd, pm_C, c1', c2, Nat.zero_add, hza, hzt, c3, qm_bladeFor_at hL h156 hp1 hp2 hp3', pm_cl, hlm, hwl9, ↓reduceIte]
            · have h9 := aC_u (k0 := 4) (nI t) (aC_u (k0 := 3) (Z 143 + nI 1) hC (by omega)) (by omega)
              have e9 : upd (upd Z 144 (nI t)) 143 (Z 143 + nI 1) = upd (upd Z 143 (Z 143 + nI 1)) 144 (nI t) := upd_comm (by omega)
              rw [e9]
              exact h9
            · refine ⟨Or.inr ⟨t, t10, ?_⟩, ?_⟩
              · rw [pm_un _ _ (by omega), pm_u]
              · rw [pm_un _ _ (by omega), pm_un _ _ (by omega)]
                exact hE.2
          · refine fin 3 (G 3) Z (by omega) ?_ ?_ hC hE
            · simp (disch := omega) only [s_L_serve, s_L_serve_12, s_L_ready, ↓pm_bd, pm_lit, g1, c2, nm, pk_mul, pm_S, pm_gd, g0, gp, c3, hr, pm_cl, pm_C, np, kk0, gh, hwl9, ↓reduceIte, pm_self]
            · simp (disch := omega) only [s_X9_serve, ↓pm_m1, ↓pm_bd, pm_lit, pm_S, pm_gd, pm_C, c1', c2, Nat.zero_add, hza, hzt, c3, qm_bladeFor_at hL h156 hp1 hp2 hp3', pm_cl, hlm, hwl9, ↓reduceIte]
      · have hne' : ¬ at_ = pt := fun e => c3 (by rw [e])
        refine fin 1 (ldrv (G 3) t (nI pt) (w - 1)) (drv Z t (nI pt) (w - 1)) (by omega) ?_ ?_ (aC_drv hC) (jE_drv hE t10)
        · simp (disch := omega) only [s_L_serve, s_L_serve_12, pm_lit, g1, c2, nm, pk_mul, pm_S, pm_gd, g0, gp, c3, ↓reduceIte]
          exact e32
        · simp (disch := omega) only [s_X9_serve, ↓pm_m1, pm_lit, pm_S, pm_gd, pm_C, c1', c2, Nat.zero_add, hza, hzt, hne', ↓reduceIte]
          exact e58
    · have nm : ¬ Z 141 = mI := by rw [c2, pm_ne (by omega)]; exact fun h => h
      have nt0 : ¬ t' < 0 := by omega
      refine fin 1 (ldrv (G 3) t (nI pt) (w - 1)) (drv Z t (nI pt) (w - 1)) (by omega) ?_ ?_ (aC_drv hC) (jE_drv hE t10)
      · have e9 : s_L_serve K (nI t) (nI x) G = s_L_serve_32 K (nI t) G := by
          simp (disch := omega) only [s_L_serve, s_L_serve_12, pm_lit, g1, c2, pm_C, nt0, n10, ↓reduceIte]
        rw [e9]
        exact e32
      · simp (disch := omega) only [s_X9_serve, ↓pm_m1, pm_lit, pm_pa, c1, nm, ↓reduceIte]
        exact e58
