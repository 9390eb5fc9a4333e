/-! ### power shared, faults that worsen -/
def pwr (x k : Nat) (Z : Nat → Int32) : Int32 := nI (fw (Z (20 + k)).toNatClampNeg x)
def cau (x1 : Int32) (c k : Nat) : Nat := if nI k = x1 then c else 0
def lst (x1 : Int32) (c x k : Nat) (Z : Nat → Int32) : Int32 := if cau x1 c k = 4 then pwr x k Z else pwr x k Z * Z (30 + k) / nI 4
def shs (x1 : Int32) (c x k : Nat) (Z : Nat → Int32) : Nat → Int32 := upd (upd (upd Z (50 + k) (Z (50 + k) + lst x1 c x k Z)) (60 + k) (Z (60 + k) + (pwr x k Z - lst x1 c x k Z))) (177 + cau x1 c k) (Z (177 + cau x1 c k) + lst x1 c x k Z)
def sz (x1 : Int32) (c x : Nat) : Nat → Nat → (Nat → Int32) → (Nat → Int32)
  | 0, _, Z => Z
  | d + 1, k, Z => sz x1 c x d (k + 1) (shs x1 c x k Z)
def ss (x1 : Int32) (c x : Nat) : Nat → Nat → Int32 → (Nat → Int32) → Int32
  | 0, _, s, _ => s
  | d + 1, k, s, Z => ss x1 c x d (k + 1) (s + lst x1 c x k Z) (shs x1 c x k Z)
def wos (x1 : Int32) (c k : Nat) (Z : Nat → Int32) : Nat → Int32 := if cau x1 c k = 4 ∨ Z (30 + k) = nI 0 ∨ Z (30 + k) = nI 4 then Z else if Z (40 + k) + nI 1 < Z 74 then upd Z (40 + k) (Z (40 + k) + nI 1) else upd (upd Z (40 + k) (nI 0)) (30 + k) (Z (30 + k) + nI 1)
def wz (x1 : Int32) (c : Nat) : Nat → Nat → (Nat → Int32) → (Nat → Int32)
  | 0, _, Z => Z
  | d + 1, k, Z => wz x1 c d (k + 1) (wos x1 c k Z)
def mz (x1 : Int32) (c x : Nat) : Nat → Nat → (Nat → Int32) → (Nat → Int32)
  | 0, _, Z => Z
  | d + 1, k, Z => mz x1 c x d (k + 1) (wos x1 c k (shs x1 c x k Z))
def ms (x1 : Int32) (c x : Nat) : Nat → Nat → Int32 → (Nat → Int32) → Int32
  | 0, _, s, _ => s
  | d + 1, k, s, Z => ms x1 c x d (k + 1) (s + lst x1 c x k Z) (wos x1 c k (shs x1 c x k Z))
theorem cau_le {x1 : Int32} {c k : Nat} (hc : c ≤ 4) : cau x1 c k ≤ 4 := by
  unfold cau
  split <;> omega
theorem shs_o {x1 : Int32} {c x k i : Nat} {Z : Nat → Int32} (h1 : i ≠ 50 + k) (h2 : i ≠ 60 + k) (h3 : i ≠ 177 + cau x1 c k) : shs x1 c x k Z i = Z i := by
  unfold shs
  rw [pm_un _ _ h3, pm_un _ _ h2, pm_un _ _ h1]
theorem lst_upd {x1 : Int32} {c x j i : Nat} {Z : Nat → Int32} {v : Int32} (h1 : i ≠ 20 + j) (h2 : i ≠ 30 + j) : lst x1 c x j (upd Z i v) = lst x1 c x j Z ∧ pwr x j (upd Z i v) = pwr x j Z := by
  have e : pwr x j (upd Z i v) = pwr x j Z := by
    unfold pwr
    rw [pm_un _ _ (Ne.symm h1)]
  refine ⟨?_, e⟩
  unfold lst
  rw [e, pm_un _ _ (Ne.symm h2)]
theorem shs_upd {x1 : Int32} {c x j i : Nat} {Z : Nat → Int32} {v : Int32} (h1 : i ≠ 20 + j) (h2 : i ≠ 30 + j) (h3 : i ≠ 50 + j) (h4 : i ≠ 60 + j) (h5 : i ≠ 177 + cau x1 c j) : shs x1 c x j (upd Z i v) = upd (shs x1 c x j Z) i v := by
  obtain ⟨e1, e2⟩ := lst_upd (x1 := x1) (c := c) (x := x) (Z := Z) (v := v) h1 h2
  unfold shs
  rw [e1, e2, pm_un _ _ (Ne.symm h3), pm_un _ _ (Ne.symm h4), pm_un _ _ (Ne.symm h5), upd_comm h3, upd_comm h4, upd_comm h5]
theorem wos_comm {x1 : Int32} {c k : Nat} (Φ : (Nat → Int32) → (Nat → Int32)) (ho : ∀ Z i, (i = 30 + k ∨ i = 40 + k ∨ i = 74) → Φ Z i = Z i) (hu : ∀ Z i v, (i = 30 + k ∨ i = 40 + k) → Φ (upd Z i v) = upd (Φ Z) i v) (Z : Nat → Int32) : Φ (wos x1 c k Z) = wos x1 c k (Φ Z) := by
  have e3 := ho Z (30 + k) (Or.inl rfl)
  have e4 := ho Z (40 + k) (Or.inr (Or.inl rfl))
  have e7 := ho Z 74 (Or.inr (Or.inr rfl))
  unfold wos
  rw [e3, e4, e7]
  by_cases h1 : cau x1 c k = 4 ∨ Z (30 + k) = nI 0 ∨ Z (30 + k) = nI 4
  · rw [if_pos h1, if_pos h1]
  · rw [if_neg h1, if_neg h1]
    by_cases h2 : Z (40 + k) + nI 1 < Z 74
    · rw [if_pos h2, if_pos h2, hu _ _ _ (Or.inr rfl)]
    · rw [if_neg h2, if_neg h2, hu _ _ _ (Or.inl rfl), hu _ _ _ (Or.inr rfl)]
theorem wos_o {x1 : Int32} {c k i : Nat} {Z : Nat → Int32} (h1 : i ≠ 30 + k) (h2 : i ≠ 40 + k) : wos x1 c k Z i = Z i := by
  unfold wos
  split
  · rfl
  · split
    · rw [pm_un _ _ h2]
    · rw [pm_un _ _ h1, pm_un _ _ h2]
theorem shs_wos {x1 : Int32} {c x j k : Nat} (hc : c ≤ 4) (hj : j < 10) (hk : k < 10) (h : j ≠ k) (Z : Nat → Int32) : shs x1 c x j (wos x1 c k Z) = wos x1 c k (shs x1 c x j Z) := by
  have hcl := cau_le (x1 := x1) (k := j) hc
  refine wos_comm (shs x1 c x j) (fun Z i hi => shs_o (by omega) (by omega) (by omega)) (fun Z i v hi => shs_upd (by omega) (by omega) (by omega) (by omega) (by omega)) Z
theorem lst_wos {x1 : Int32} {c x j k : Nat} (hj : j < 10) (hk : k < 10) (h : j ≠ k) (Z : Nat → Int32) : lst x1 c x j (wos x1 c k Z) = lst x1 c x j Z := by
  have e : pwr x j (wos x1 c k Z) = pwr x j Z := by
    unfold pwr
    rw [wos_o (by omega) (by omega)]
  unfold lst
  rw [e, wos_o (by omega) (by omega)]
theorem sz_wos {x1 : Int32} {c x k : Nat} (hc : c ≤ 4) (hk : k < 10) : ∀ (d j : Nat) (Z : Nat → Int32), k < j → j + d ≤ 10 → sz x1 c x d j (wos x1 c k Z) = wos x1 c k (sz x1 c x d j Z) := by
  intro d
  induction d with
  | zero => intro j Z _ _; rfl
  | succ d ih =>
    intro j Z h1 h2
    rw [sz, sz, shs_wos hc (by omega) hk (by omega), ih _ _ (by omega) (by omega)]
theorem ss_wos {x1 : Int32} {c x k : Nat} (hc : c ≤ 4) (hk : k < 10) : ∀ (d j : Nat) (s : Int32) (Z : Nat → Int32), k < j → j + d ≤ 10 → ss x1 c x d j s (wos x1 c k Z) = ss x1 c x d j s Z := by
  intro d
  induction d with
  | zero => intro j s Z _ _; rfl
  | succ d ih =>
    intro j s Z h1 h2
    rw [ss, ss, shs_wos hc (by omega) hk (by omega), lst_wos (by omega) hk (by omega), ih _ _ _ (by omega) (by omega)]
theorem mz_eq {x1 : Int32} {c x : Nat} (hc : c ≤ 4) : ∀ (d k : Nat) (s : Int32) (Z : Nat → Int32), k + d ≤ 10 → mz x1 c x d k Z = wz x1 c d k (sz x1 c x d k Z) ∧ ms x1 c x d k s Z = ss x1 c x d k s Z := by
  intro d
  induction d with
  | zero => intro k s Z _; exact ⟨rfl, rfl⟩
  | succ d ih =>
    intro k s Z h
    obtain ⟨i1, i2⟩ := ih (k + 1) (s + lst x1 c x k Z) (wos x1 c k (shs x1 c x k Z)) (by omega)
    refine ⟨?_, ?_⟩
    · rw [mz, i1, sz_wos hc (by omega) _ _ _ (by omega) (by omega), wz, sz]
    · rw [ms, i2, ss_wos hc (by omega) _ _ _ _ (by omega) (by omega), ss]
theorem wz_comm {x1 : Int32} {c : Nat} (Φ : (Nat → Int32) → (Nat → Int32)) : ∀ (d k : Nat) (Z : Nat → Int32), (∀ j Z, k ≤ j → j < k + d → Φ (wos x1 c j Z) = wos x1 c j (Φ Z)) → Φ (wz x1 c d k Z) = wz x1 c d k (Φ Z) := by
  intro d
  induction d with
  | zero => intro k Z _; rfl
  | succ d ih =>
    intro k Z h
    rw [wz, wz, ih _ _ (fun j Z h1 h2 => h j Z (by omega) (by omega)), h k Z (by omega) (by omega)]
theorem wz_o {x1 : Int32} {c i : Nat} : ∀ (d k : Nat) (Z : Nat → Int32), (∀ j, k ≤ j → j < k + d → i ≠ 30 + j ∧ i ≠ 40 + j) → wz x1 c d k Z i = Z i := by
  intro d
  induction d with
  | zero => intro k Z _; rfl
  | succ d ih =>
    intro k Z h
    rw [wz, ih _ _ (fun j h1 h2 => h j (by omega) (by omega)), wos_o (h k (by omega) (by omega)).1 (h k (by omega) (by omega)).2]
theorem sz_o {x1 : Int32} {c x i : Nat} (hc : c ≤ 4) : ∀ (d k : Nat) (Z : Nat → Int32), k + d ≤ 10 → (i < 50 ∨ (70 ≤ i ∧ i < 177) ∨ 182 ≤ i) → sz x1 c x d k Z i = Z i := by
  intro d
  induction d with
  | zero => intro k Z _ _; rfl
  | succ d ih =>
    intro k Z h hi
    have hcl := cau_le (x1 := x1) (k := k) hc
    rw [sz, ih _ _ (by omega) hi, shs_o (by omega) (by omega) (by omega)]
/-! the model's two loops -/
def jF (nT : Nat) (Z : Nat → Int32) : Prop := ∀ t, t < nT → bd (Z (20 + t)) 50 ∧ bd (Z (30 + t)) 4
theorem m_share {nT : Nat} (M : cr_G) (hT : nT ≤ 10) (x1 : Int32) (c x : Nat) (hc : c ≤ 4) (hx : x ≤ 99) : ∀ (d k n : Nat) (s : Int32) (Z : Nat → Int32), nT - k = d → d < n → k ≤ nT → Z 70 = nI nT → jF nT Z → ∃ m, s_X9_goHour_158 n x1 (nI x) (nI c) s (nI k) (cr_pa M 1 Z) = s_X9_goHour_158 (m + 1) x1 (nI x) (nI c) (ss x1 c x d k s Z) (nI nT) (cr_pa M 1 (sz x1 c x d k Z)) := by
  intro d
  induction d with
  | zero =>
    intro k n s Z hd hn hk h70 hF
    obtain ⟨n, rfl⟩ : ∃ m, n = m + 1 := ⟨n - 1, by omega⟩
    obtain rfl : k = nT := by omega
    exact ⟨n, rfl⟩
  | succ d ih =>
    intro k n s Z hd hn hk h70 hF
    obtain ⟨n, rfl⟩ : ∃ m, n = m + 1 := ⟨n - 1, by omega⟩
    have hck : ¬ nT ≤ k := by omega
    have hk10 : k < 10 := by omega
    obtain ⟨⟨r, hr, hzr⟩, f, hf4, hzf⟩ := hF k (by omega)
    have hp : pwr x k Z = nI (fw r x) := by unfold pwr; rw [hzr, nI_clamp (by omega)]
    have hfulm := qm_full (M := M) (Z := Z) hk10 hr hx hzr
    have go : ∀ (c' : Nat) (u : Int32), cau x1 c k = c' → lst x1 c x k Z = u → c' ≤ 4 → s_X9_goHour_158 (n + 1) x1 (nI x) (nI c) s (nI k) (cr_pa M 1 Z) = s_X9_goHour_218 (fun x1a x2a x3a x4a x5a Ga => s_X9_goHour_158 n x1a x2a x3a x4a x5a Ga) x1 (nI x) (nI c) s (nI k) (nI (fw r x)) (nI c') u (cr_pa M 1 Z) → ∃ m, s_X9_goHour_158 (n + 1) x1 (nI x) (nI c) s (nI k) (cr_pa M 1 Z) = s_X9_goHour_158 (m + 1) x1 (nI x) (nI c) (ss x1 c x (d + 1) k s Z) (nI nT) (cr_pa M 1 (sz x1 c x (d + 1) k Z)) := by
      intro c' u hcu hlu hc4 hm
      have hs : shs x1 c x k Z = upd (upd (upd Z (50 + k) (Z (50 + k) + u)) (60 + k) (Z (60 + k) + (nI (fw r x) - u))) (177 + c') (Z (177 + c') + u) := by
        unfold shs
        rw [hcu, hlu, hp]
      obtain ⟨m, e⟩ := ih (k + 1) n (s + u) (shs x1 c x k Z) (by omega) (by omega) (by omega) (by rw [shs_o (by omega) (by omega) (by rw [hcu]; omega)]; exact h70) (fun t ht => by rw [shs_o (by omega) (by omega) (by rw [hcu]; omega), shs_o (by omega) (by omega) (by rw [hcu]; omega)]; exact hF t ht)
      refine ⟨m, ?_⟩
      rw [hm, ss, sz, hlu]
      rw [hs] at e ⊢
      simp (disch := omega) only [s_X9_goHour_218, ↓pm_bd, pm_lit, pm_S, pm_gd]
      exact e
    by_cases e1 : nI k = x1
    · have hca : cau x1 c k = c := by unfold cau; rw [if_pos e1]
      by_cases e4 : c = 4
      · subst e4
        refine go 4 (nI (fw r x)) hca (by unfold lst; rw [if_pos hca, hp]) (by omega) ?_
        simp (disch := omega) only [s_X9_goHour_158, s_X9_goHour_190, ↓pm_bd, pm_lit, pm_S, pm_gd, pm_C, h70, hck, hfulm, pm_cl, eq_true e1, ↓reduceIte]
      · refine go c (nI (fw r x) * Z (30 + k) / nI 4) hca (by unfold lst; rw [hca, if_neg e4, hp]) hc ?_
        simp (disch := omega) only [s_X9_goHour_158, s_X9_goHour_190, ↓pm_bd, pm_lit, pm_S, pm_gd, pm_C, h70, hck, hfulm, pm_cl, eq_true e1, e4, ↓reduceIte]
    · have hca : cau x1 c k = 0 := by unfold cau; rw [if_neg e1]
      have e4 : ¬ (0 : Nat) = 4 := by omega
      refine go 0 (nI (fw r x) * Z (30 + k) / nI 4) hca (by unfold lst; rw [hca, if_neg e4, hp]) (by omega) ?_
      simp (disch := omega) only [s_X9_goHour_158, s_X9_goHour_190, ↓pm_bd, pm_lit, pm_S, pm_gd, pm_C, h70, hck, hfulm, pm_cl, e1, e4, ↓reduceIte]
theorem m_worsen {nT : Nat} (M : cr_G) (hT : nT ≤ 10) (x1 : Int32) (c : Nat) (hc : c ≤ 4) (s : Int32) : ∀ (d k n : Nat) (Z : Nat → Int32), nT - k = d → d < n → k ≤ nT → Z 70 = nI nT → (∀ t, k ≤ t → t < nT → bd (Z (30 + t)) 4) → s_X9_goHour_356 n x1 (nI c) s (nI k) (cr_pa M 1 Z) = some (s, cr_pa M 1 (upd (wz x1 c d k Z) 182 (wz x1 c d k Z 182 + nI 1))) := by
  intro d
  induction d with
  | zero =>
    intro k n Z hd hn hk h70 hF
    obtain ⟨n, rfl⟩ : ∃ m, n = m + 1 := ⟨n - 1, by omega⟩
    obtain rfl : k = nT := by omega
    simp (disch := omega) only [s_X9_goHour_356, wz, ↓pm_bd, pm_lit, pm_S, h70, pm_C, Nat.le_refl, ↓reduceIte]
  | succ d ih =>
    intro k n Z hd hn hk h70 hF
    obtain ⟨n, rfl⟩ : ∃ m, n = m + 1 := ⟨n - 1, by omega⟩
    have hck : ¬ nT ≤ k := by omega
    have hk10 : k < 10 := by omega
    obtain ⟨f, hf4, hzf⟩ := hF k (Nat.le_refl _) (by omega)
    rw [wz]
    have ihk := ih (k + 1) n (wos x1 c k Z) (by omega) (by omega) (by omega) (by rw [wos_o (by omega) (by omega)]; exact h70) (fun t h1 h2 => by rw [wos_o (by omega) (by omega)]; exact hF t (by omega) h2)
    by_cases w : 1 ≤ f ∧ f ≤ 3
    · by_cases sk : cau x1 c k = 4
      · have e9 : wos x1 c k Z = Z := by unfold wos; rw [if_pos (Or.inl sk)]
        rw [e9] at ihk ⊢
        have sx : nI k = x1 := by
          unfold cau at sk
          by_cases e : nI k = x1
          · exact e
          · rw [if_neg e] at sk; omega
        have sc : c = 4 := by
          unfold cau at sk
          rw [if_pos sx] at sk
          exact sk
        rw [← ihk]
        have c4 : (nI c = nI 4) = True := eq_true (by rw [sc])
        simp (disch := omega) only [s_X9_goHour_356, ↓pm_bd, pm_lit, pm_S, pm_gd, pm_C, h70, hck, hzf, within_n, w, and_self, decide_true, pm_cl, eq_true sx, sc, ↓reduceIte]
      · have n0 : ¬ f = 0 := by omega
        have n4 : ¬ f = 4 := by omega
        have hno : ¬ (cau x1 c k = 4 ∨ Z (30 + k) = nI 0 ∨ Z (30 + k) = nI 4) := by
          rw [hzf, nI_eq (by omega) (by omega), nI_eq (by omega) (by omega)]
          omega
        have h397 : s_X9_goHour_356 (n + 1) x1 (nI c) s (nI k) (cr_pa M 1 Z) = s_X9_goHour_397 (fun x1a x3a x4a x5a Ga => s_X9_goHour_356 n x1a x3a x4a x5a Ga) x1 (nI c) s (nI k) (cr_pa M 1 Z) := by
          by_cases e1 : nI k = x1
          · have e2 : ¬ c = 4 := fun h => sk (by unfold cau; rw [if_pos e1]; exact h)
            simp (disch := omega) only [s_X9_goHour_356, ↓pm_bd, pm_lit, pm_S, pm_gd, pm_C, h70, hck, hzf, within_n, w, and_self, decide_true, pm_cl, eq_true e1, e2, ↓reduceIte]
          · simp (disch := omega) only [s_X9_goHour_356, ↓pm_bd, pm_lit, pm_S, pm_gd, pm_C, h70, hck, hzf, within_n, w, and_self, decide_true, pm_cl, e1, ↓reduceIte]
        by_cases aw : Z (40 + k) + nI 1 < Z 74
        · have e9 : wos x1 c k Z = upd Z (40 + k) (Z (40 + k) + nI 1) := by unfold wos; rw [if_neg hno, if_pos aw]
          rw [e9] at ihk ⊢
          rw [h397]
          simp (disch := omega) only [s_X9_goHour_397, ↓pm_bd, pm_lit, pm_S, pm_gd, aw, ↓reduceIte]
          exact ihk
        · have e9 : wos x1 c k Z = upd (upd (upd Z (40 + k) (Z (40 + k) + nI 1)) (40 + k) (nI 0)) (30 + k) (Z (30 + k) + nI 1) := by
            unfold wos
            rw [if_neg hno, if_neg aw, upd_upd]
          rw [e9] at ihk ⊢
          rw [h397]
          simp (disch := omega) only [s_X9_goHour_397, ↓pm_bd, pm_lit, pm_S, pm_gd, aw, ↓reduceIte]
          exact ihk
    · have e9 : wos x1 c k Z = Z := by
        unfold wos
        refine if_pos (Or.inr ?_)
        rw [hzf, nI_eq (by omega) (by omega), nI_eq (by omega) (by omega)]
        omega
      rw [e9] at ihk ⊢
      rw [← ihk]
      simp (disch := omega) only [s_X9_goHour_356, ↓pm_bd, pm_lit, pm_S, pm_gd, pm_C, h70, hck, hzf, within_n, w, decide_false, pm_cl, ↓reduceIte, Bool.false_eq_true]
