/-! ### the law's own campaign: its rows beside a row of the model -/
def mcs (k : Nat) : Nat := ([140, 141, 142, 143, 144, 182, 70, 156, 127, 177, 178, 179, 180, 181] : List Nat).getD k 0
def aT (nT : Nat) (f Z : Nat → Int32) : Prop := ∀ t i, (t < nT ∨ (3 ≤ i ∧ t < 6)) → i < 7 → f (7 * t + i) = Z (10 * i + t)
def aL (nL : Nat) (f Z : Nat → Int32) : Prop := ∀ b, b < nL → f (2 * b) = Z (157 + b) ∧ f (2 * b + 1) = Z (167 + b)
def aP (nP : Nat) (f Z : Nat → Int32) : Prop := ∀ k, k ≤ nP → f k = Z (145 + k)
def aC (f Z : Nat → Int32) : Prop := ∀ k, k < 14 → f k = Z (mcs k)
def aW (nW : Nat) (f Z : Nat → Int32) : Prop := ∀ k, k ≤ nW → f k = Z (78 + k)
def aS (f Z : Nat → Int32) : Prop := ∀ k, k < 7 → f k = Z (71 + k)
def aB (nB : Nat) (f Z : Nat → Int32) : Prop := ∀ b, b < nB → f (2 * b) = Z (128 + b) ∧ f (2 * b + 1) = Z (134 + b)
def aG (nT nL nP : Nat) (G : cr_G) (Z : Nat → Int32) : Prop := aT nT (G 0) Z ∧ aL nL (G 1) Z ∧ aP nP (G 2) Z ∧ aC (G 3) Z
def aK (nB nW : Nat) (K : cr_G) (Z : Nat → Int32) : Prop := aW nW (K 0) Z ∧ aS (K 1) Z ∧ aB nB (K 2) Z
theorem mcs_inj : ∀ k, k < 14 → ∀ k', k' < 14 → mcs k = mcs k' → k = k' := by decide
theorem mcs_set : ∀ k, k < 14 → (mcs k = 70 ∨ mcs k = 127 ∨ (140 ≤ mcs k ∧ mcs k < 145) ∨ mcs k = 156 ∨ (177 ≤ mcs k ∧ mcs k < 183)) := by decide
theorem aT_c {nT : Nat} {f Z Z' : Nat → Int32} (h : aT nT f Z) (hn : nT ≤ 10) (hz : ∀ k, k < 70 → Z' k = Z k) : aT nT f Z' := fun t i ht hi => by rw [h t i ht hi, hz _ (by omega)]
theorem aL_c {nL : Nat} {f Z Z' : Nat → Int32} (h : aL nL f Z) (hn : nL ≤ 10) (hz : ∀ k, 157 ≤ k ∧ k < 177 → Z' k = Z k) : aL nL f Z' := fun b hb => ⟨by rw [(h b hb).1, hz _ (by omega)], by rw [(h b hb).2, hz _ (by omega)]⟩
theorem aP_c {nP : Nat} {f Z Z' : Nat → Int32} (h : aP nP f Z) (hn : nP ≤ 10) (hz : ∀ k, 145 ≤ k ∧ k < 156 → Z' k = Z k) : aP nP f Z' := fun k hk => by rw [h k hk, hz _ (by omega)]
theorem aC_c {f Z Z' : Nat → Int32} (h : aC f Z) (hz : ∀ k, (k = 70 ∨ k = 127 ∨ (140 ≤ k ∧ k < 145) ∨ k = 156 ∨ (177 ≤ k ∧ k < 183)) → Z' k = Z k) : aC f Z' := fun k hk => by rw [h k hk, hz _ (mcs_set k hk)]
theorem aW_c {nW : Nat} {f Z Z' : Nat → Int32} (h : aW nW f Z) (hn : nW ≤ 48) (hz : ∀ k, 78 ≤ k ∧ k < 127 → Z' k = Z k) : aW nW f Z' := fun k hk => by rw [h k hk, hz _ (by omega)]
theorem aS_c {f Z Z' : Nat → Int32} (h : aS f Z) (hz : ∀ k, 71 ≤ k ∧ k < 78 → Z' k = Z k) : aS f Z' := fun k hk => by rw [h k hk, hz _ (by omega)]
theorem aB_c {nB : Nat} {f Z Z' : Nat → Int32} (h : aB nB f Z) (hn : nB ≤ 6) (hz : ∀ k, 128 ≤ k ∧ k < 140 → Z' k = Z k) : aB nB f Z' := fun b hb => ⟨by rw [(h b hb).1, hz _ (by omega)], by rw [(h b hb).2, hz _ (by omega)]⟩
theorem aK_c {nB nW : Nat} {K : cr_G} {Z Z' : Nat → Int32} (h : aK nB nW K Z) (hB : nB ≤ 6) (hW : nW ≤ 48) (hz : ∀ k, 71 ≤ k ∧ k < 140 → Z' k = Z k) : aK nB nW K Z' := ⟨aW_c h.1 hW (fun k hk => hz k (by omega)), aS_c h.2.1 (fun k hk => hz k (by omega)), aB_c h.2.2 hB (fun k hk => hz k (by omega))⟩
theorem aT_u {nT t0 i0 : Nat} {f Z : Nat → Int32} (v : Int32) (h : aT nT f Z) (hn : nT ≤ 10) (ht : t0 < nT) (hi0 : i0 < 7) : aT nT (upd f (7 * t0 + i0) v) (upd Z (10 * i0 + t0) v) := by
  intro t i ht' hi
  by_cases e : t = t0 ∧ i = i0
  · obtain ⟨rfl, rfl⟩ := e
    rw [pm_u, pm_u]
  · rw [pm_un _ _ (by omega), pm_un _ _ (by omega)]
    exact h t i ht' hi
theorem aL_u {nL b0 : Nat} {f Z : Nat → Int32} (v : Int32) (h : aL nL f Z) (hn : nL ≤ 10) (hb : b0 < nL) : aL nL (upd f (2 * b0 + 1) v) (upd Z (167 + b0) v) := by
  intro b hb'
  refine ⟨by rw [pm_un _ _ (by omega), pm_un _ _ (by omega)]; exact (h b hb').1, ?_⟩
  by_cases e : b = b0
  · subst e
    rw [pm_u, pm_u]
  · rw [pm_un _ _ (by omega), pm_un _ _ (by omega)]
    exact (h b hb').2
theorem aC_u {k0 : Nat} {f Z : Nat → Int32} (v : Int32) (h : aC f Z) (hk0 : k0 < 14) : aC (upd f k0 v) (upd Z (mcs k0) v) := by
  intro k hk
  by_cases e : k = k0
  · subst e
    rw [pm_u, pm_u]
  · rw [pm_un _ _ e, pm_un _ _ (fun h9 => e (mcs_inj k hk k0 hk0 h9))]
    exact h k hk
theorem aT0 {nT t : Nat} {f Z : Nat → Int32} (h : aT nT f Z) (ht : t < nT) : f (7 * t) = Z t := by
  have e := h t 0 (Or.inl ht) (by omega)
  rwa [show 10 * 0 + t = t by omega] at e
theorem aT1 {nT t : Nat} {f Z : Nat → Int32} (h : aT nT f Z) (ht : t < nT) : f (7 * t + 1) = Z (10 + t) := h t 1 (Or.inl ht) (by omega)
theorem aT2 {nT t : Nat} {f Z : Nat → Int32} (h : aT nT f Z) (ht : t < nT) : f (7 * t + 2) = Z (20 + t) := h t 2 (Or.inl ht) (by omega)
theorem aT3 {nT t : Nat} {f Z : Nat → Int32} (h : aT nT f Z) (ht : t < nT) : f (7 * t + 3) = Z (30 + t) := h t 3 (Or.inl ht) (by omega)
theorem aT4 {nT t : Nat} {f Z : Nat → Int32} (h : aT nT f Z) (ht : t < nT) : f (7 * t + 4) = Z (40 + t) := h t 4 (Or.inl ht) (by omega)
theorem aT5 {nT t : Nat} {f Z : Nat → Int32} (h : aT nT f Z) (ht : t < nT) : f (7 * t + 5) = Z (50 + t) := h t 5 (Or.inl ht) (by omega)
theorem aT6 {nT t : Nat} {f Z : Nat → Int32} (h : aT nT f Z) (ht : t < nT) : f (7 * t + 6) = Z (60 + t) := h t 6 (Or.inl ht) (by omega)
theorem aC0 {f Z : Nat → Int32} (h : aC f Z) : f 0 = Z 140 := h 0 (by omega)
theorem aC1 {f Z : Nat → Int32} (h : aC f Z) : f 1 = Z 141 := h 1 (by omega)
theorem aC2 {f Z : Nat → Int32} (h : aC f Z) : f 2 = Z 142 := h 2 (by omega)
theorem aC3 {f Z : Nat → Int32} (h : aC f Z) : f 3 = Z 143 := h 3 (by omega)
theorem aC4 {f Z : Nat → Int32} (h : aC f Z) : f 4 = Z 144 := h 4 (by omega)
theorem aC5 {f Z : Nat → Int32} (h : aC f Z) : f 5 = Z 182 := h 5 (by omega)
theorem aC6 {f Z : Nat → Int32} (h : aC f Z) : f 6 = Z 70 := h 6 (by omega)
theorem aC7 {f Z : Nat → Int32} (h : aC f Z) : f 7 = Z 156 := h 7 (by omega)
theorem aC8 {f Z : Nat → Int32} (h : aC f Z) : f 8 = Z 127 := h 8 (by omega)
theorem aCq {f Z : Nat → Int32} (h : aC f Z) {k : Nat} (hk : k < 5) : f (9 + k) = Z (177 + k) := by
  have h9 : ∀ k, k < 5 → mcs (9 + k) = 177 + k := by decide
  rw [h _ (by omega), h9 k hk]
/-- a number out of any bits -/
theorem l_ushr (x : Int32) : ∃ n : Nat, n < 2 ^ 31 ∧ cr_ushr x (1 : Int32) = nI n := by
  have h := pk_ushr x (1 : Int32) 1 (by decide)
  have h2 : x.toBitVec.toNat < 2 ^ 32 := x.toBitVec.isLt
  refine ⟨x.toBitVec.toNat / 2 ^ 1, by omega, ?_⟩
  unfold cr_ushr
  apply Int32.toBitVec_inj.mp
  apply BitVec.eq_of_toNat_eq
  rw [h, pk_tn (by omega)]
theorem l_at (x : Int32) {m : Nat} (h0 : 0 < m) (hm : m < 2 ^ 31) : ∃ j : Nat, j < m ∧ s_L_at x (nI m) = some (nI j) := by
  obtain ⟨n, hn, e⟩ := l_ushr x
  refine ⟨n % m, Nat.mod_lt _ h0, ?_⟩
  simp (disch := omega) only [s_L_at, e, pm_nz, pm_gd, pk_rem]
/-! the harbour -/
theorem l_unload_loop (K M : cr_G) {nL : Nat} (hL : nL ≤ 10) : ∀ (d k n n' : Nat) (r : Int32) (G : cr_G) (Z : Nat → Int32), nL - k = d → d < n → d < n' → k ≤ nL → aL nL (G 1) Z → G 3 7 = nI nL → Z 156 = nI nL → ∃ (m : Nat) (r' : Int32) (h' Z' : Nat → Int32), s_L_hour_9 K n r (nI k) G = s_L_hour_9 K (m + 1) r' (nI nL) (cr_pa G 1 h') ∧ s_X9_unload_10 n' r (nI k) (cr_pa M 1 Z) = some (cr_pa M 1 Z') ∧ aL nL h' Z' ∧ ∀ i, (i < 167 ∨ 177 ≤ i) → Z' i = Z i := by
  intro d
  induction d with
  | zero =>
    intro k n n' r G Z hd hn1 hn2 hk hA h7 h6
    obtain ⟨n, rfl⟩ : ∃ m, n = m + 1 := ⟨n - 1, by omega⟩
    obtain ⟨n', rfl⟩ : ∃ m, n' = m + 1 := ⟨n' - 1, by omega⟩
    obtain rfl : k = nL := by omega
    refine ⟨n, r, G 1, Z, by rw [pm_self], ?_, hA, fun _ _ => rfl⟩
    simp (disch := omega) only [s_X9_unload_10, pm_S, h6, pm_C, Nat.le_refl, ↓reduceIte]
  | succ d ih =>
    intro k n n' r G Z hd hn1 hn2 hk hA h7 h6
    obtain ⟨n, rfl⟩ : ∃ m, n = m + 1 := ⟨n - 1, by omega⟩
    obtain ⟨n', rfl⟩ : ∃ m, n' = m + 1 := ⟨n' - 1, by omega⟩
    have hck : ¬ nL ≤ k := by omega
    have hkl : k < nL := by omega
    have hw : G 1 (2 * k + 1) = Z (167 + k) := (hA k hkl).2
    have go : ∀ u : Int32, s_L_hour_9 K (n + 1) r (nI k) G = s_L_hour_45 K (fun x7a x8a Ga => s_L_hour_9 K n x7a x8a Ga) r (nI k) u G → s_X9_unload_10 (n' + 1) r (nI k) (cr_pa M 1 Z) = s_X9_unload_50 (fun x1a x2a Ga => s_X9_unload_10 n' x1a x2a Ga) r (nI k) u (cr_pa M 1 Z) → ∃ (m : Nat) (r' : Int32) (h' Z' : Nat → Int32), s_L_hour_9 K (n + 1) r (nI k) G = s_L_hour_9 K (m + 1) r' (nI nL) (cr_pa G 1 h') ∧ s_X9_unload_10 (n' + 1) r (nI k) (cr_pa M 1 Z) = some (cr_pa M 1 Z') ∧ aL nL h' Z' ∧ ∀ i, (i < 167 ∨ 177 ≤ i) → Z' i = Z i := by
      intro u hl hm
      obtain ⟨m, r', h', Z', a1, a2, a3, a4⟩ := ih (k + 1) n n' (r - u) (cr_pt G 1 (2 * k + 1) (Z (167 + k) - u)) (upd Z (167 + k) (Z (167 + k) - u)) (by omega) (by omega) (by omega) (by omega) (by rw [pm_pt]; exact aL_u _ hA hL hkl) (by rw [pm_ptne _ _ _ (by omega)]; exact h7) (by rw [pm_un _ _ (by omega)]; exact h6)
      refine ⟨m, r', h', Z', ?_, ?_, a3, fun i hi => ?_⟩
      · rw [hl]
        simp (disch := omega) only [s_L_hour_45, ↓pm_bd, pm_gd, pm_lit, pk_mul, pm_S, hw]
        rw [a1]
        unfold cr_pt
        rw [pm_papa]
      · rw [hm]
        simp (disch := omega) only [s_X9_unload_50, ↓pm_bd, pm_gd, pm_lit, pm_S]
        exact a2
      · rw [a4 i hi, pm_un _ _ (by omega)]
    by_cases e : Z (167 + k) ≤ r
    · refine go (Z (167 + k)) ?_ ?_
      · simp (disch := omega) only [s_L_hour_9, ↓pm_bd, pm_gd, pm_lit, pk_mul, pm_S, pm_C, h7, hck, hw, e, ↓reduceIte]
      · by_cases e2 : r ≤ Z (167 + k)
        · have e3 : r = Z (167 + k) := Int32.le_antisymm e2 e
          simp (disch := omega) only [s_X9_unload_10, ↓pm_bd, pm_gd, pm_lit, pm_S, pm_C, h6, hck, e2, ↓reduceIte]
          rw [← e3]
        · simp (disch := omega) only [s_X9_unload_10, ↓pm_bd, pm_gd, pm_lit, pm_S, pm_C, h6, hck, e2, ↓reduceIte]
    · have e2 : r ≤ Z (167 + k) := Int32.le_of_lt (Int32.not_le.mp e)
      refine go r ?_ ?_
      · simp (disch := omega) only [s_L_hour_9, ↓pm_bd, pm_gd, pm_lit, pk_mul, pm_S, pm_C, h7, hck, hw, e, ↓reduceIte]
      · simp (disch := omega) only [s_X9_unload_10, ↓pm_bd, pm_gd, pm_lit, pm_S, pm_C, h6, hck, e2, ↓reduceIte]
/-! the plan -/
theorem l_off_4 (K G : cr_G) (c : Nat) (hc : c ≤ 8) (hc0 : 0 < c) : ∀ (d k n : Nat) (h : Nat → Int32), c - k = d → d < n → k ≤ 9 → h 0 = nI c → 0 < k → s_L_off_4 K n (nI k) (cr_pa G 2 h) = some (cr_pa G 2 (upd (sl h 0 k c) 0 (nI (c - 1)))) := by
  intro d
  induction d with
  | zero =>
    intro k n h hd hn hk h0 hk0
    obtain ⟨n, rfl⟩ : ∃ m, n = m + 1 := ⟨n - 1, by omega⟩
    have hck : c ≤ k := by omega
    simp (disch := omega) only [s_L_off_4, ↓pm_bd, pm_gd, pm_lit, pm_S, h0, pm_C, hck, ↓reduceIte, sl_id hck]
  | succ d ih =>
    intro k n h hd hn hk h0 hk0
    obtain ⟨n, rfl⟩ : ∃ m, n = m + 1 := ⟨n - 1, by omega⟩
    have hck : ¬ c ≤ k := by omega
    simp (disch := omega) only [s_L_off_4, ↓pm_bd, pm_gd, pm_lit, pm_S, pm_C, h0, hck, ↓reduceIte]
    rw [ih (k + 1) n _ (by omega) (by omega) (by omega) (by rw [pm_un _ _ (by omega)]; exact h0) (by omega), sl_step0 (by omega)]
theorem l_off {K G : cr_G} {c p : Nat} (hc : c ≤ 8) (hc0 : 0 < c) (hp : p < c) (h0 : G 2 0 = nI c) : s_L_off K (nI p) G = some (cr_pa G 2 (upd (sl (G 2) 0 (p + 1) c) 0 (nI (c - 1)))) := by
  simp (disch := omega) only [s_L_off, ↓pm_bd, pm_lit, pm_S]
  have h := l_off_4 K G c hc hc0 (c - (p + 1)) (p + 1) 1200 (G 2) rfl (by omega) (by omega) h0 (by omega)
  rw [pm_self] at h
  exact h
theorem aP_off {c p : Nat} {f Z : Nat → Int32} (hc : c ≤ 10) (hp : p < c) (h : aP c f Z) : aP (c - 1) (upd (sl f 0 (p + 1) c) 0 (nI (c - 1))) (tk Z p c) := by
  intro k hk
  by_cases e : k = 0
  · subst e
    rw [pm_u]
    exact tk_145.symm
  · rw [pm_un _ _ e, show 145 + k = 146 + (k - 1) by omega, tk_r]
    simp only [sl]
    by_cases e2 : p ≤ k - 1
    · rw [if_pos (by omega), if_pos (by omega), h _ (by omega), show 145 + (k + 1) = 146 + (k - 1 + 1) by omega]
    · rw [if_neg (by omega), if_neg (by omega), h _ (by omega), show 145 + k = 146 + (k - 1) by omega]
