/-! ### an hour: serving -/
theorem upd_comm {f : Nat → Int32} {a b : Nat} {x y : Int32} (h : a ≠ b) : upd (upd f a x) b y = upd (upd f b y) a x := by
  funext i
  simp only [upd]
  by_cases e : i = b
  · subst e
    rw [if_pos rfl, if_neg (Ne.symm h), if_pos rfl]
  · by_cases e' : i = a
    · subst e'
      rw [if_neg e, if_pos rfl, if_pos rfl]
    · rw [if_neg e, if_neg e', if_neg e', if_neg e]
theorem upd_upd {f : Nat → Int32} {a : Nat} {x y : Int32} : upd (upd f a x) a y = upd f a y := by
  funext i
  simp only [upd]
  by_cases e : i = a
  · rw [if_pos e, if_pos e]
  · rw [if_neg e, if_neg e, if_neg e]
theorem cr_max0 : ∀ l : Nat, l < 2 ^ 31 → cr_max (nI 0) (nI l - nI 1) = nI (l - 1)
  | 0, _ => by decide
  | l + 1, h => by
    rw [pk_sub (by omega), cr_max_n (by omega) (by omega), show max 0 (l + 1 - 1) = l + 1 - 1 by omega]
/-- the row behind an hour of driving to t, whose place is pl, with m hours left -/
def drv (Z : Nat → Int32) (t : Nat) (pl : Int32) (m : Nat) : Nat → Int32 := if m = 0 then upd (upd (upd (upd Z 142 (nI m)) 141 (nI t)) 140 pl) 141 mI else upd (upd Z 142 (nI m)) 141 (nI t)
def drvG (G : cr_G) (t : Nat) (pl : Int32) (m : Nat) : cr_G := if m = 0 then cr_pt (cr_pt (cr_pt (cr_pt G 10 1 (nI m)) 10 2 (nI t)) 10 0 pl) 10 2 mI else cr_pt (cr_pt G 10 1 (nI m)) 10 2 (nI t)
theorem drv_o {Z : Nat → Int32} {t : Nat} {pl : Int32} {m k : Nat} (h : k < 140 ∨ 143 ≤ k) : drv Z t pl m k = Z k := by
  unfold drv
  split
  · rw [pm_un _ _ (by omega), pm_un _ _ (by omega), pm_un _ _ (by omega), pm_un _ _ (by omega)]
  · rw [pm_un _ _ (by omega), pm_un _ _ (by omega)]
theorem fr_drv {nT nB nL nP nW : Nat} {G : cr_G} {Z : Nat → Int32} (hn : okn nT nB nL nP nW) (hf : fr nT nB nL nP nW G Z) (t : Nat) (pl : Int32) (m : Nat) : fr nT nB nL nP nW (drvG G t pl m) (drv Z t pl m) := by
  have h1 : fr nT nB nL nP nW (cr_pt (cr_pt G 10 1 (nI m)) 10 2 (nI t)) (upd (upd Z 142 (nI m)) 141 (nI t)) := fr_pt (nI t) hn (fr_pt (nI m) hn hf (by simp [lvp]) : fr nT nB nL nP nW (cr_pt G 10 1 (nI m)) (upd Z 142 (nI m))) (by simp [lvp])
  unfold drvG drv
  split
  · exact fr_pt mI hn (fr_pt pl hn h1 (by simp [lvp]) : fr nT nB nL nP nW _ (upd _ 140 pl)) (by simp [lvp])
  · exact h1
theorem J_drv {nT nB nL nP nW h g : Nat} {Z : Nat → Int32} (hJ : J nT nB nL nP nW h g Z) {t : Nat} {pl : Int32} {m : Nat} (ht : t < nT) (hpl : bd pl 99) (hm : m ≤ 1000) : J nT nB nL nP nW h g (drv Z t pl m) := by
  obtain ⟨a1, a2, a3, a4, a5, a6, a7, a8, a9, a10⟩ := hJ
  have hn := a1.1
  have hT := hn.1
  refine ⟨jC_c a1 (drv_o (by omega)) (drv_o (by omega)) (drv_o (by omega)) (drv_o (by omega)) (drv_o (by omega)) (drv_o (by omega)), jS_c a2 (drv_o (by omega)) (drv_o (by omega)), jT_c a3 hn.1 (fun k hk => drv_o (by omega)), jG_c a4 hn.1 (fun k hk => drv_o (by omega)), jQ_c a5 hn.1 (fun k hk => drv_o (by omega)), jP_c a6 hn.2.2.2.1 (fun k hk => drv_o (by omega)), ?_, jB_c a8 hn.2.1 (fun k hk => drv_o (by omega)), jW_c a9 hn.2.2.2.2 (fun k hk => drv_o (by omega)), jD_c a10 (fun k hk => drv_o (by omega))⟩
  have e3 : drv Z t pl m 143 = Z 143 := drv_o (by omega)
  have e4 : drv Z t pl m 144 = Z 144 := drv_o (by omega)
  unfold jK
  rw [e3, e4]
  unfold drv
  by_cases e : m = 0
  · subst e
    rw [if_pos rfl]
    refine ⟨?_, Or.inl ⟨pm_u _ _ _, ?_⟩, a7.2.2⟩
    · rw [pm_un _ _ (by omega), pm_u]
      exact hpl
    · rw [pm_un _ _ (by omega), pm_un _ _ (by omega), pm_un _ _ (by omega), pm_u]
  · rw [if_neg e]
    refine ⟨?_, Or.inr ⟨?_, m, by omega, hm, ?_⟩, a7.2.2⟩
    · rw [pm_un _ _ (by omega), pm_un _ _ (by omega)]
      exact a7.1
    · rw [pm_u, Ne, pm_ne (by omega)]
      exact fun h => h
    · rw [pm_un _ _ (by omega), pm_u]
theorem qc_drive {G : cr_G} {t l w m : Nat} {pl : Int32} (ht : t < 10) (hm : (G 10 2 = nI t ∧ G 10 1 = nI l ∧ l ≤ 1000 ∧ m = l - 1) ∨ (¬ G 10 2 = nI t ∧ w ≤ 1000 ∧ m = w - 1)) : s_X1_driveTo (nI t) pl (nI w) G = some (drvG G t pl m) := by
  have fin : s_X1_driveTo (nI t) pl (nI w) G = cr_bd (cr_pt G 10 1 (nI m)) (fun G23_1 => cr_bd (cr_pt G23_1 10 2 (nI t)) (fun G28_2 => if (G28_2 10) 1 = 0 then cr_bd (cr_pt G28_2 10 0 pl) (fun G40_3 => cr_bd (cr_pt G40_3 10 2 (-1 : Int32)) (fun G45_4 => some G45_4)) else some G28_2)) := by
    rcases hm with ⟨h1, h2, h3, rfl⟩ | ⟨h1, h3, rfl⟩
    · simp only [s_X1_driveTo, s_X1_driveTo_18, h1, h2, pm_lit, cr_max0 l (by omega), ↓reduceIte]
    · simp only [s_X1_driveTo, s_X1_driveTo_18, h1, pm_lit, cr_max0 w (by omega), ↓reduceIte]
  rw [fin]
  have hm1 : m ≤ 1000 := by omega
  unfold drvG
  by_cases e : m = 0
  · simp (disch := omega) only [↓pm_bd, ↓pm_m1, pm_lit, pm_pt, pm_S, pm_C, e, ↓reduceIte]
  · simp (disch := omega) only [↓pm_bd, ↓pm_m1, pm_lit, pm_pt, pm_S, pm_C, e, ↓reduceIte]
theorem qm_155 {M : cr_G} {Z : Nat → Int32} {t m : Nat} (ht : t < 10) (hm : m ≤ 1000) (h1 : Z 141 = nI t) (h2 : Z 142 = nI m) : s_X9_serve_155 (nI t) (cr_pa M 1 Z) = some (nI 1, cr_pa M 1 (drv Z t (Z t) m)) := by
  have e0 : upd (upd Z 142 (nI m)) 141 (nI t) = Z := by
    rw [upd_same h2, upd_same h1]
  unfold drv
  rw [e0]
  by_cases e : m = 0
  · subst e
    simp (disch := omega) only [s_X9_serve_155, ↓pm_bd, ↓pm_m1, pm_lit, pm_S, pm_gd, h2, Nat.zero_add, ↓reduceIte]
  · simp (disch := omega) only [s_X9_serve_155, ↓pm_bd, ↓pm_m1, pm_lit, pm_S, pm_gd, pm_C, h2, e, ↓reduceIte]
theorem drv_drv {Z : Nat → Int32} {t m : Nat} {a : Int32} {v : Int32} : drv (upd (upd Z 141 (nI t)) 142 (nI m)) t v m = drv Z t v m := by
  have e : upd (upd (upd (upd Z 141 (nI t)) 142 (nI m)) 142 (nI m)) 141 (nI t) = upd (upd Z 142 (nI m)) 141 (nI t) := by
    rw [upd_upd, upd_comm (by omega), upd_upd]
    exact upd_comm (by omega)
  unfold drv
  rw [e]
theorem drv_drv1 {Z : Nat → Int32} {t m : Nat} {v : Int32} (h : Z 141 = nI t) : drv (upd Z 142 (nI m)) t v m = drv Z t v m := by
  unfold drv
  rw [upd_upd]
def srv (nT nB nL nP nW h g : Nat) (M G : cr_G) (Z : Nat → Int32) (t x : Nat) : Prop := ∃ (c : Nat) (G' : cr_G) (Z' : Nat → Int32), c ≤ 4 ∧ s_X2_serve (nI t) G = some (nI c, G') ∧ s_X9_serve (nI t) (nI x) (cr_pa M 1 Z) = some (nI c, cr_pa M 1 Z') ∧ fr nT nB nL nP nW G' Z' ∧ J nT nB nL nP nW h g Z' ∧ (∀ k, (k < 140 ∨ 145 ≤ k) → Z' k = Z k) ∧ (c = 4 → ∃ p, p < nL ∧ mzb Z (nI t) p = true ∧ ∀ i, i < p → mzb Z (nI t) i = false)
theorem q_serve {nT nB nL nP nW h g t x : Nat} {G M : cr_G} {Z : Nat → Int32} (hf : fr nT nB nL nP nW G Z) (hJ : J nT nB nL nP nW h g Z) (ht : t < nT) (hx : x ≤ 99) (hh : h < 2 ^ 31) (hwx : wv Z nW h = nI x) : srv nT nB nL nP nW h g M G Z t x := by
  have hJ0 := hJ
  obtain ⟨a1, a2, a3, a4, a5, a6, a7, a8, a9, a10⟩ := hJ
  have hn := a1.1
  have hT := hn.1
  have hL := hn.2.2.1
  have h01 : G 0 1 = nI nT := (fr_n hf).trans a1.2.1
  have h127 : Z 127 = nI nB := a1.2.2.1
  have h156 : Z 156 = nI nL := a1.2.2.2.1
  have h78 : Z 78 = nI nW := a1.2.2.2.2.2.1
  have h182 : Z 182 = nI h := a1.2.2.2.2.2.2
  obtain ⟨pt, hpt, hzt⟩ := (a3 t ht).1
  obtain ⟨at_, hat, hza⟩ := a7.1
  have g0 : G (t + 15) 0 = nI pt := (fr_t0 hf ht).trans hzt
  have g100 : G 10 0 = nI at_ := (fr_c0 hf).trans hza
  have g102 : G 10 2 = Z 141 := fr_c2 hf
  have g101 : G 10 1 = Z 142 := fr_c1 hf
  obtain ⟨w, hw, hwc, hwm⟩ := q_way (M := M) hf hn.2.1 h127 a2 a8 hat hpt
  have t10 : t < 10 := by omega
  by_cases c1 : Z 141 = nI t
  · -- on its way to t
    obtain ⟨l, hl1, hl2, hl⟩ : ∃ l : Nat, 1 ≤ l ∧ l ≤ 1000 ∧ Z 142 = nI l := by
      rcases a7.2.1 with ⟨hm, -⟩ | ⟨-, hl⟩
      · rw [c1, pm_ne (by omega)] at hm
        exact hm.elim
      · exact hl
    have nm : ¬ Z 141 = mI := by
      rw [c1, pm_ne (by omega)]
      exact fun h => h
    refine ⟨1, drvG G t (nI pt) (l - 1), drv Z t (nI pt) (l - 1), by omega, ?_, ?_, fr_drv hn hf t _ _, J_drv hJ0 ht ⟨pt, hpt, rfl⟩ (by omega), fun k hk => drv_o (by omega), fun h => by omega⟩
    · simp (disch := omega) only [s_X2_serve, s_X2_serve_41, s_X1_isOnWay, ↓pm_bd, ↓pm_m1, pm_lit, qc_has h01 hT ht, pm_cl, pm_S, pm_gd, g102, nm, g100, g0, hwc, qc_drive (G := G) (w := w) (pl := nI pt) t10 (Or.inl ⟨g102.trans c1, g101.trans hl, hl2, rfl⟩), ↓reduceIte]
    · have e1 : upd Z 142 (nI (l - 1)) 141 = nI t := by rw [pm_un _ _ (by omega)]; exact c1
      have e2 : upd Z 142 (nI (l - 1)) t = nI pt := by rw [pm_un _ _ (by omega)]; exact hzt
      have e9 := qm_155 (M := M) t10 (show l - 1 ≤ 1000 by omega) e1 (pm_u Z 142 _)
      rw [e2, drv_drv1 c1] at e9
      simp (disch := omega) only [s_X9_serve, ↓pm_bd, pm_lit, pm_S, c1, hl, ↓reduceIte]
      exact e9
  · have away : ∀ (hA : ¬ Z 141 = mI ∨ (Z 141 = mI ∧ ¬ nI at_ = nI pt)), srv nT nB nL nP nW h g M G Z t x := by
      intro hA
      refine ⟨1, drvG G t (nI pt) (w - 1), drv Z t (nI pt) (w - 1), by omega, ?_, ?_, fr_drv hn hf t _ _, J_drv hJ0 ht ⟨pt, hpt, rfl⟩ (by omega), fun k hk => drv_o (by omega), fun h => by omega⟩
      · have hd := qc_drive (G := G) (w := w) (pl := nI pt) (l := 0) (m := w - 1) t10 (Or.inr ⟨by rw [g102]; exact c1, by omega, rfl⟩)
        rcases hA with nm | ⟨nm, hne⟩
        · simp (disch := omega) only [s_X2_serve, s_X2_serve_41, s_X1_isOnWay, ↓pm_bd, ↓pm_m1, pm_lit, qc_has h01 hT ht, pm_cl, pm_S, pm_gd, g102, nm, g100, g0, hwc, hd, ↓reduceIte]
        · have hne' : ¬ at_ = pt := fun e => hne (by rw [e])
          simp (disch := omega) only [s_X2_serve, s_X2_serve_41, s_X1_isOnWay, ↓pm_bd, ↓pm_m1, pm_lit, qc_has h01 hT ht, pm_cl, pm_S, pm_gd, g102, nm, g100, g0, pm_C, hne', hwc, hd, ↓reduceIte, Bool.false_eq_true]
      · have e58 : s_X9_serve_58 (nI t) (cr_pa M 1 Z) = some (nI 1, cr_pa M 1 (drv Z t (nI pt) (w - 1))) := by
          have hzt' : Z t = nI pt := hzt
          have e1 : upd (upd Z 141 (nI t)) 142 (nI (w - 1)) 141 = nI t := by rw [pm_un _ _ (by omega), pm_u]
          have e2 : upd (upd Z 141 (nI t)) 142 (nI (w - 1)) t = nI pt := by rw [pm_un _ _ (by omega), pm_un _ _ (by omega)]; exact hzt
          have e9 := qm_155 (M := M) t10 (show w - 1 ≤ 1000 by omega) e1 (pm_u _ 142 _)
          rw [e2, drv_drv (a := nI 0)] at e9
          by_cases ew : w = 0
          · subst ew
            simp (disch := omega) only [s_X9_serve_58, ↓pm_bd, pm_lit, pm_S, pm_gd, Nat.zero_add, hza, hzt', hwm, pm_cl, ↓reduceIte]
            exact e9
          · simp (disch := omega) only [s_X9_serve_58, ↓pm_bd, pm_lit, pm_S, pm_gd, pm_C, Nat.zero_add, hza, hzt', hwm, pm_cl, ew, ↓reduceIte]
            exact e9
        rcases hA with nm | ⟨nm, hne⟩
        · simp (disch := omega) only [s_X9_serve, ↓pm_m1, pm_lit, pm_pa, c1, nm, ↓reduceIte]
          exact e58
        · have hne' : ¬ at_ = pt := fun e => hne (by rw [e])
          have c1' : ¬ mI = nI t := by rw [← nm]; exact c1
          simp (disch := omega) only [s_X9_serve, ↓pm_m1, pm_lit, pm_S, pm_gd, pm_C, c1', nm, Nat.zero_add, hza, hzt, hne', ↓reduceIte]
          exact e58
    by_cases c2 : Z 141 = mI
    · by_cases c3 : nI at_ = nI pt
      · have c1' : ¬ mI = nI t := by rw [← c2]; exact c1
        have hcl : ∀ s r : Option (Int32 × cr_G), True := fun _ _ => trivial
        have hcu := qc_unloadedFor (G := G) (nI t) hL ((fr_l hf).trans h156)
        have hcz : cnt (mtb (G 6) (G 7) (nI t)) nL = cnt (mzb Z (nI t)) nL := cnt_congr (fun k hk => by simp only [mzb, mtb, fr_lw hf hk, fr_lg hf hk])
        rw [hcz] at hcu
        have hcle := cnt_le (mzb Z (nI t)) nL
        have hwn : s_X7_at G (nI h) = some (nI x) := by rw [← hwx]; exact qc_at hf h78 hn.2.2.2.2 hh
        have g09 : G 0 9 = nI h := (fr_h hf).trans h182
        rcases least (P := fun p => mzb Z (nI t) p = true) (fun k => Decidable.em _) nL with hno | ⟨p, hp1, hp2, hp3⟩
        · have hno' : ∀ i, i < nL → mzb Z (nI t) i = false := fun i hi => by simpa using hno i hi
          have h0 : cnt (mzb Z (nI t)) nL = 0 := cnt_n hno'
          rw [h0] at hcu
          refine ⟨2, G, Z, by omega, ?_, ?_, hf, hJ0, fun _ _ => rfl, fun h => by omega⟩
          · simp (disch := omega) only [s_X2_serve, s_X1_isOnWay, ↓pm_bd, ↓pm_m1, pm_lit, qc_has h01 hT ht, pm_cl, pm_S, pm_gd, g102, c2, g100, g0, c3, hcu, ↓reduceIte, Bool.false_eq_true]
          · simp (disch := omega) only [s_X9_serve, ↓pm_m1, pm_lit, pm_S, pm_gd, pm_C, c1', c2, Nat.zero_add, hza, hzt, c3, qm_bladeFor_no hL h156 hno', pm_cl, ↓reduceIte]
        · have hp3' : ∀ i, i < p → mzb Z (nI t) i = false := fun i hi => by simpa using hp3 i hi
          have h0 : ¬ cnt (mzb Z (nI t)) nL = 0 := fun e => by
            have := cnt_0 e p hp1
            rw [hp2] at this
            cases this
          have hlm := qc_limit hf ht
          by_cases hwl : nI x ≤ Z 71 - Z (10 + t) / nI 25
          · have hfr : fr nT nB nL nP nW (cr_pt (cr_pt G 10 4 (nI t)) 10 3 (Z 143 + nI 1)) (upd (upd Z 144 (nI t)) 143 (Z 143 + nI 1)) := fr_pt _ hn (fr_pt (nI t) hn hf (by simp [lvp]) : fr nT nB nL nP nW _ (upd Z 144 (nI t))) (by simp [lvp])
            have hZo : ∀ k, (k ≠ 143 ∧ k ≠ 144) → upd (upd Z 144 (nI t)) 143 (Z 143 + nI 1) k = Z k := fun k hk => by rw [pm_un _ _ hk.1, pm_un _ _ hk.2]
            refine ⟨4, _, _, by omega, ?_, ?_, hfr, ⟨jC_c a1 (hZo _ (by omega)) (hZo _ (by omega)) (hZo _ (by omega)) (hZo _ (by omega)) (hZo _ (by omega)) (hZo _ (by omega)), jS_c a2 (hZo _ (by omega)) (hZo _ (by omega)), jT_c a3 hn.1 (fun k hk => hZo _ (by omega)), jG_c a4 hn.1 (fun k hk => hZo _ (by omega)), jQ_c a5 hn.1 (fun k hk => hZo _ (by omega)), jP_c a6 hn.2.2.2.1 (fun k hk => hZo _ (by omega)), ⟨by rw [hZo _ (by omega)]; exact a7.1, by rw [hZo _ (by omega), hZo _ (by omega)]; exact a7.2.1, fun hm => ?_⟩, jB_c a8 hn.2.1 (fun k hk => hZo _ (by omega)), jW_c a9 hn.2.2.2.2 (fun k hk => hZo _ (by omega)), jD_c a10 (fun k hk => hZo _ (by omega))⟩, fun k hk => hZo k (by omega), fun _ => ⟨p, hp1, hp2, hp3'⟩⟩
            · simp (disch := omega) only [s_X2_serve, s_X2_windNow, s_X1_isOnWay, s_X1_workAnHourOn, ↓pm_bd, ↓pm_m1, pm_lit, qc_has h01 hT ht, pm_cl, pm_S, pm_C, pm_gd, g102, c2, g100, g0, c3, hcu, h0, g09, hwn, hlm, hwl, pm_pt, fr_c3 hf, ↓reduceIte, Bool.false_eq_true]
            · have hb := qm_bladeFor_at (M := M) hL h156 hp1 hp2 hp3'
              have hpm : ¬ nI p = mI := by rw [pm_ne (by omega)]; exact fun h => h
              simp (disch := omega) only [s_X9_serve, ↓pm_bd, ↓pm_m1, pm_lit, pm_S, pm_gd, pm_C, c1', c2, Nat.zero_add, hza, hzt, c3, hb, hpm, qm_limitOf t10, hwl, pm_cl, ↓reduceIte]
            · rw [pm_un _ _ (by omega), pm_u, pm_ne (by omega)] at hm
              exact hm.elim
          · refine ⟨3, G, Z, by omega, ?_, ?_, hf, hJ0, fun _ _ => rfl, fun h => by omega⟩
            · simp (disch := omega) only [s_X2_serve, s_X2_windNow, s_X1_isOnWay, ↓pm_bd, ↓pm_m1, pm_lit, qc_has h01 hT ht, pm_cl, pm_S, pm_C, pm_gd, g102, c2, g100, g0, c3, hcu, h0, g09, hwn, hlm, hwl, ↓reduceIte, Bool.false_eq_true]
            · have hb := qm_bladeFor_at (M := M) hL h156 hp1 hp2 hp3'
              have hpm : ¬ nI p = mI := by rw [pm_ne (by omega)]; exact fun h => h
              simp (disch := omega) only [s_X9_serve, ↓pm_bd, ↓pm_m1, pm_lit, pm_S, pm_gd, pm_C, c1', c2, Nat.zero_add, hza, hzt, c3, hb, hpm, qm_limitOf t10, hwl, pm_cl, ↓reduceIte]
      · exact away (Or.inr ⟨c2, c3⟩)
    · exact away (Or.inl c2)
