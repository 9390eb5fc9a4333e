/-! ### texts -/
def dig (s d : Nat) : Nat := if s = 1 then (if d = 1 ∨ d = 2 then 2 else if d = 3 then 3 else 4) else if s = 2 then 4 else if s = 3 then (if d = 0 then 4 else 0) else if s = 4 then 0 else if s = 5 then (if d = 0 then 0 else if d = 1 then 6 else if d = 2 ∨ d = 3 then 7 else if d = 4 then 8 else 9) else if s = 6 then 9 else if s = 7 then 9 else if s = 8 then (if d ≤ 8 then 9 else 0) else 0
def aft (s c : Nat) : Nat := if c = 44 then (if s = 2 ∨ s = 3 ∨ s = 4 ∨ s = 7 ∨ s = 8 ∨ s = 9 then 1 else 0) else if c = 42 then (if s = 2 ∨ s = 3 ∨ s = 4 then 5 else 0) else if 48 ≤ c ∧ c ≤ 57 then dig s (c - 48) else 0
theorem qc_after : ∀ s, s < 10 → ∀ c, c < 127 → s_X6_after (nI s) (nI c) = some (nI (aft s c)) := by decide +kernel
theorem aft_lt : ∀ s, s < 10 → ∀ c, c < 127 → aft s c < 10 := by decide +kernel
theorem pm_ptpt (G : cr_G) (j i : Nat) (v w : Int32) : cr_pt (cr_pt G j i v) j i w = cr_pt G j i w := by
  funext k
  by_cases e : k = j
  · subst e
    rw [pm_pt, pm_pt, pm_pt, upd_upd]
  · rw [pm_ptne _ _ _ e, pm_ptne _ _ _ e, pm_ptne _ _ _ e]
theorem pm_self_pt (G : cr_G) (j i : Nat) : cr_pt G j i (G j i) = G := by
  unfold cr_pt
  rw [upd_same rfl]
  exact pm_self G j
theorem pm_ptc (G : cr_G) {j j' : Nat} (i i' : Nat) (v w : Int32) (h : j ≠ j') : cr_pt (cr_pt G j i v) j' i' w = cr_pt (cr_pt G j' i' w) j i v := by
  funext k
  by_cases e : k = j
  · subst e
    rw [pm_ptne _ _ _ h, pm_pt, pm_pt, pm_ptne _ _ _ h]
  · by_cases e' : k = j'
    · subst e'
      rw [pm_pt, pm_ptne _ _ _ e, pm_ptne _ _ _ e, pm_pt]
    · rw [pm_ptne _ _ _ e', pm_ptne _ _ _ e, pm_ptne _ _ _ e, pm_ptne _ _ _ e']
def fill (h : Nat → Int32) (a d : Nat) (v : Int32) : Nat → Int32 := fun q => if a ≤ q ∧ q < a + d ∧ q < 48 then v else h q
theorem fill_0 {h : Nat → Int32} {a : Nat} {v : Int32} : fill h a 0 v = h := by
  funext q
  simp only [fill]
  rw [if_neg (by omega)]
theorem fill_w {h : Nat → Int32} {a d : Nat} {v : Int32} (ha : a < 48) : fill (upd h a v) (a + 1) d v = fill h a (d + 1) v := by
  funext q
  simp only [fill, upd]
  by_cases e : q = a
  · subst e
    rw [if_neg (by omega), if_pos rfl, if_pos (by omega)]
  · by_cases e2 : a + 1 ≤ q ∧ q < a + 1 + d ∧ q < 48
    · rw [if_pos e2, if_pos (by omega)]
    · rw [if_neg e2, if_neg e, if_neg (by omega)]
theorem fill_s {h : Nat → Int32} {a d : Nat} {v : Int32} (ha : 48 ≤ a) : fill h (a + 1) d v = fill h a (d + 1) v := by
  funext q
  simp only [fill]
  by_cases e2 : a + 1 ≤ q ∧ q < a + 1 + d ∧ q < 48
  · omega
  · rw [if_neg e2, if_neg (by omega)]
theorem qm_close_2 (P : cr_G) (T : Nat) (v : Int32) (hT : T ≤ 1000) (h11 : P 0 11 = nI T) (h10 : P 0 10 = v) : ∀ (d k n a : Nat) (h : Nat → Int32), T - k = d → d < n → k ≤ T → a + d ≤ 100000 → s_X9_close_2 n (nI k) (cr_pt (cr_pa P 6 h) 0 12 (nI a)) = some (cr_pt (cr_pa P 6 (fill h a d v)) 0 12 (nI (a + d))) := by
  intro d
  induction d with
  | zero =>
    intro k n a h hd hn hk ha
    obtain ⟨n, rfl⟩ : ∃ m, n = m + 1 := ⟨n - 1, by omega⟩
    have hck : T ≤ k := by omega
    simp (disch := omega) only [s_X9_close_2, pm_pt, pm_un, pm_pan, h11, pm_C, hck, fill_0, Nat.add_zero, ↓reduceIte]
  | succ d ih =>
    intro k n a h hd hn hk ha
    obtain ⟨n, rfl⟩ : ∃ m, n = m + 1 := ⟨n - 1, by omega⟩
    have hck : ¬ T ≤ k := by omega
    by_cases e : 48 ≤ a
    · have hi := ih (k + 1) n (a + 1) h (by omega) (by omega) (by omega)
      simp (disch := omega) only [s_X9_close_2, ↓pm_bd, pm_lit, pm_pt, pm_un, pm_u, pm_pan, h11, pm_C, hck, e, pm_add, pm_ptpt, ↓reduceIte]
      rw [hi (by omega), fill_s e, show a + 1 + d = a + (d + 1) by omega]
    · have ha' : a < 48 := by omega
      have hi := ih (k + 1) n (a + 1) (upd h a v) (by omega) (by omega) (by omega) (by omega)
      simp (disch := omega) only [s_X9_close_2, ↓pm_bd, pm_gd, pm_lit, pm_pt, pm_un, pm_u, pm_pan, pm_ptne, pm_in, nI_clamp, h11, h10, pm_C, hck, e, pm_add, ↓reduceIte]
      rw [pm_ptc _ _ _ _ _ (show (0 : Nat) ≠ 6 by omega), pm_ptpt, pm_ptpa, hi, fill_w ha', show a + 1 + d = a + (d + 1) by omega]
theorem qm_close {P : cr_G} {T a : Nat} (hT : T ≤ 1000) (ha : a ≤ 90000) (h11 : P 0 11 = nI T) (h12 : P 0 12 = nI a) : s_X9_close P = some (cr_pt (cr_pa P 6 (fill (P 6) a T (P 0 10))) 0 12 (nI (a + T))) := by
  have h := qm_close_2 P T (P 0 10) hT h11 rfl T 0 1200 a (P 6) rfl (by omega) (by omega) (by omega)
  have e : cr_pt (cr_pa P 6 (P 6)) 0 12 (nI a) = P := by
    rw [pm_self, ← h12]
    exact pm_self_pt P 0 12
  rw [e] at h
  simp only [s_X9_close, pm_lit]
  exact h
