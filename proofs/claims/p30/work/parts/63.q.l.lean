/-! ### bogs: the class's farm -/
def bgr (Z : Nat → Int32) (b nB : Nat) : Nat → Int32 := sl (sl (upd Z 127 (nI (nB - 1))) 128 b (nB - 1)) 134 b (nB - 1)
theorem bgr_o {Z : Nat → Int32} {b nB : Nat} (hB : nB ≤ 6) : ∀ k, (k < 127 ∨ 140 ≤ k) → bgr Z b nB k = Z k := fun k hk => by
  unfold bgr
  rw [sl_o (by omega), sl_o (by omega), pm_un _ _ (by omega)]
theorem bgr_127 {Z : Nat → Int32} {b nB : Nat} : bgr Z b nB 127 = nI (nB - 1) := by
  unfold bgr
  rw [sl_o (by omega), sl_o (by omega), pm_u]
theorem bgr_3 {Z : Nat → Int32} {b nB : Nat} (hB : nB ≤ 6) : ∀ i, i < nB - 1 → bgr Z b nB (128 + i) = if b ≤ i then Z (128 + (i + 1)) else Z (128 + i) := fun i hi => by
  unfold bgr
  rw [sl_o (by omega)]
  simp only [sl]
  by_cases eb : b ≤ i
  · rw [if_pos (by omega), if_pos eb, pm_un _ _ (by omega)]; rfl
  · rw [if_neg (by omega), if_neg eb, pm_un _ _ (by omega)]
theorem bgr_4 {Z : Nat → Int32} {b nB : Nat} (hB : nB ≤ 6) : ∀ i, i < nB - 1 → bgr Z b nB (134 + i) = if b ≤ i then Z (134 + (i + 1)) else Z (134 + i) := fun i hi => by
  unfold bgr
  by_cases eb : b ≤ i
  · rw [if_pos eb]
    have e9 : sl (sl (upd Z 127 (nI (nB - 1))) 128 b (nB - 1)) 134 b (nB - 1) (134 + i) = sl (upd Z 127 (nI (nB - 1))) 128 b (nB - 1) (134 + i + 1) := by
      show (if 134 + b ≤ 134 + i ∧ 134 + i < 134 + (nB - 1) then _ else _) = _
      rw [if_pos (by omega)]
    rw [e9, sl_o (by omega), pm_un _ _ (by omega)]; rfl
  · rw [if_neg eb, sl_o (by omega), sl_o (by omega), pm_un _ _ (by omega)]
theorem fr_bgr {nT nB nL nP nW b : Nat} {G : cr_G} {Z : Nat → Int32} (hn : okn nT nB nL nP nW) (hf : fr nT nB nL nP nW G Z) (hb : b < nB) : fr nT (nB - 1) nL nP nW (cr_pa (cr_pa (cr_pt G 2 2 (nI (nB - 1))) 3 (sl (G 3) 0 b (nB - 1))) 4 (sl (G 4) 0 b (nB - 1))) (bgr Z b nB) := by
  have hB := hn.2.1
  refine fr_bogs (mB := nB - 1) (by unfold okn at hn ⊢; omega) hf (fun j h2 h3 h4 => by rw [pm_pan _ _ h4, pm_pan _ _ h3, pm_ptne _ _ _ h2]) (bgr_o hB) (by rw [pm_pan _ _ (by omega), pm_pan _ _ (by omega), pm_pt, pm_u, bgr_127]) (fun i hi => ?_) (fun i hi => ?_)
  · rw [bgr_3 hB i hi, pm_pan _ _ (by omega), pm_pa]
    simp only [sl]
    by_cases eb : b ≤ i
    · rw [if_pos (by omega), if_pos eb, fr_bp hf (by omega)]
    · rw [if_neg (by omega), if_neg eb, fr_bp hf (by omega)]
  · rw [bgr_4 hB i hi, pm_pa]
    simp only [sl]
    by_cases eb : b ≤ i
    · rw [if_pos (by omega), if_pos eb, fr_bn hf (by omega)]
    · rw [if_neg (by omega), if_neg eb, fr_bn hf (by omega)]
theorem J_bgr {nT nB nL nP nW h g b : Nat} {Z : Nat → Int32} (hJ : J nT nB nL nP nW h g Z) (hb : b < nB) : J nT (nB - 1) nL nP nW h g (bgr Z b nB) := by
  have hB := hJ.1.1.2.1
  obtain ⟨f, hf1, hf2⟩ := hJ.2.2.2.2.2.2.2.1
  refine J_bogs (mB := nB - 1) hJ (by omega) (bgr_o hB) bgr_127 ⟨fun i => if b ≤ i then f (i + 1) else f i, fun i hi => ?_, fun i i' hi hi' => ?_⟩
  · rw [bgr_3 hB i hi]
    by_cases eb : b ≤ i
    · simp only [if_pos eb]; exact hf1 (i + 1) (by omega)
    · simp only [if_neg eb]; exact hf1 i (by omega)
  · show (if b ≤ i then f (i + 1) else f i) < (if b ≤ i' then f (i' + 1) else f i')
    split <;> split
    · exact hf2 _ _ (by omega) (by omega)
    · omega
    · exact hf2 _ _ (by omega) (by omega)
    · exact hf2 _ _ (by omega) (by omega)
def bgi (Z : Nat → Int32) (b nB a nd : Nat) : Nat → Int32 := upd (upd (upd (sr (sr Z 128 b nB) 134 b nB) (128 + b) (nI a)) (134 + b) (nI nd)) 127 (nI (nB + 1))
theorem bgi_o {Z : Nat → Int32} {b nB a nd : Nat} (hB : nB < 6) (hb : b ≤ nB) : ∀ k, (k < 127 ∨ 140 ≤ k) → bgi Z b nB a nd k = Z k := fun k hk => by
  unfold bgi
  rw [pm_un _ _ (by omega), pm_un _ _ (by omega), pm_un _ _ (by omega), sr_o (by omega), sr_o (by omega)]
theorem bgi_3 {Z : Nat → Int32} {b nB a nd : Nat} (hB : nB < 6) (hb : b ≤ nB) : ∀ i, i < nB + 1 → bgi Z b nB a nd (128 + i) = if i = b then nI a else if b < i then Z (128 + (i - 1)) else Z (128 + i) := fun i hi => by
  unfold bgi
  rw [pm_un _ _ (by omega), pm_un _ _ (by omega)]
  by_cases eb : i = b
  · subst eb; rw [pm_u, if_pos rfl]
  · rw [pm_un _ _ (by omega), if_neg eb, sr_o (by omega)]
    simp only [sr]
    by_cases el : b < i
    · rw [if_pos (by omega), if_pos el, show 128 + i - 1 = 128 + (i - 1) by omega]
    · rw [if_neg (by omega), if_neg el]
theorem bgi_4 {Z : Nat → Int32} {b nB a nd : Nat} (hB : nB < 6) (hb : b ≤ nB) : ∀ i, i < nB + 1 → bgi Z b nB a nd (134 + i) = if i = b then nI nd else if b < i then Z (134 + (i - 1)) else Z (134 + i) := fun i hi => by
  unfold bgi
  rw [pm_un _ _ (by omega)]
  by_cases eb : i = b
  · subst eb; rw [pm_u, if_pos rfl]
  · rw [pm_un _ _ (by omega), if_neg eb, pm_un _ _ (by omega)]
    by_cases el : b < i
    · have e9 : sr (sr Z 128 b nB) 134 b nB (134 + i) = sr Z 128 b nB (134 + i - 1) := by
        show (if 134 + b < 134 + i ∧ 134 + i ≤ 134 + nB then _ else _) = _
        rw [if_pos (by omega)]
      rw [if_pos el, e9, sr_o (by omega), show 134 + i - 1 = 134 + (i - 1) by omega]
    · rw [if_neg el, sr_o (by omega), sr_o (by omega)]
theorem fr_bgi {nT nB nL nP nW b a nd : Nat} {G : cr_G} {Z : Nat → Int32} (hn : okn nT nB nL nP nW) (hf : fr nT nB nL nP nW G Z) (hB : nB < 6) (hb : b ≤ nB) : fr nT (nB + 1) nL nP nW (cr_pt (cr_pa (cr_pa G 3 (upd (sr (G 3) 0 b nB) b (nI a))) 4 (upd (sr (G 4) 0 b nB) b (nI nd))) 2 2 (nI (nB + 1))) (bgi Z b nB a nd) := by
  refine fr_bogs (mB := nB + 1) (by unfold okn at hn ⊢; omega) hf (fun j h2 h3 h4 => by rw [pm_ptne _ _ _ h2, pm_pan _ _ h4, pm_pan _ _ h3]) (bgi_o hB hb) (by rw [pm_pt, pm_u]; exact (pm_u _ _ _).symm) (fun i hi => ?_) (fun i hi => ?_)
  · rw [bgi_3 hB hb i hi, pm_ptne _ _ _ (by omega), pm_pan _ _ (by omega), pm_pa]
    by_cases eb : i = b
    · subst eb; rw [pm_u, if_pos rfl]
    · rw [pm_un _ _ eb, if_neg eb]
      simp only [sr]
      by_cases el : b < i
      · rw [if_pos (by omega), if_pos el, fr_bp hf (by omega)]
      · rw [if_neg (by omega), if_neg el, fr_bp hf (by omega)]
  · rw [bgi_4 hB hb i hi, pm_ptne _ _ _ (by omega), pm_pa]
    by_cases eb : i = b
    · subst eb; rw [pm_u, if_pos rfl]
    · rw [pm_un _ _ eb, if_neg eb]
      simp only [sr]
      by_cases el : b < i
      · rw [if_pos (by omega), if_pos el, fr_bn hf (by omega)]
      · rw [if_neg (by omega), if_neg el, fr_bn hf (by omega)]
theorem J_bgi {nT nB nL nP nW h g b a nd : Nat} {Z : Nat → Int32} {f : Nat → Nat} (hJ : J nT nB nL nP nW h g Z) (hB : nB < 6) (hb : b ≤ nB) (ha : a ≤ 99) (hf1 : ∀ k, k < nB → f k ≤ 99 ∧ Z (128 + k) = nI (f k)) (hf2 : ∀ k k', k < k' → k' < nB → f k < f k') (hlo : ∀ i, i < b → f i < a) (hhi : ∀ i, b ≤ i → i < nB → a < f i) : J nT (nB + 1) nL nP nW h g (bgi Z b nB a nd) := by
  refine J_bogs (mB := nB + 1) hJ (by omega) (bgi_o hB hb) (pm_u _ _ _) ⟨fun i => if i = b then a else if b < i then f (i - 1) else f i, fun i hi => ?_, fun i i' hi hi' => ?_⟩
  · rw [bgi_3 hB hb i hi]
    by_cases eb : i = b
    · simp only [if_pos eb]; exact ⟨ha, trivial⟩
    · by_cases el : b < i
      · simp only [if_neg eb, if_pos el]; exact hf1 (i - 1) (by omega)
      · simp only [if_neg eb, if_neg el]; exact hf1 i (by omega)
  · show (if i = b then a else if b < i then f (i - 1) else f i) < (if i' = b then a else if b < i' then f (i' - 1) else f i')
    by_cases eb : i = b
    · have : ¬ i' = b := by omega
      rw [if_pos eb, if_neg this, if_pos (by omega)]
      exact hhi (i' - 1) (by omega) (by omega)
    · rw [if_neg eb]
      by_cases eb' : i' = b
      · rw [if_pos eb', if_neg (by omega)]
        exact hlo i (by omega)
      · rw [if_neg eb']
        split <;> split
        · exact hf2 _ _ (by omega) (by omega)
        · omega
        · exact hf2 _ _ (by omega) (by omega)
        · exact hf2 _ _ (by omega) (by omega)
/-! ### bogs: the law's row -/
theorem aB_r {nB b : Nat} {f Z : Nat → Int32} (h : aB nB f Z) (hB : nB ≤ 6) (hb : b < nB) : aB (nB - 1) (s2 f (2 * b) (2 * (nB - 1))) (bgr Z b nB) := by
  intro i hi
  rw [bgr_3 hB i hi, bgr_4 hB i hi]
  simp only [s2]
  by_cases e : b ≤ i
  · rw [if_pos (by omega), if_pos e, if_pos (by omega), if_pos e, show 2 * i + 2 = 2 * (i + 1) by omega, show 2 * i + 1 + 2 = 2 * (i + 1) + 1 by omega]
    exact h (i + 1) (by omega)
  · rw [if_neg (by omega), if_neg e, if_neg (by omega), if_neg e]
    exact h i (by omega)
def r2 (f : Nat → Int32) (p c : Nat) : Nat → Int32 := fun i => if p < i ∧ i ≤ c then f (i - 2) else f i
theorem r2_id {f : Nat → Int32} {p c : Nat} (h : c ≤ p) : r2 f p c = f := by
  funext i
  simp only [r2]
  rw [if_neg (by omega)]
theorem r2_step {f : Nat → Int32} {p c : Nat} (h : p < c) (hp : 0 < p) : r2 (upd f c (f (c - 2))) p (c - 1) = r2 f p c := by
  funext i
  simp only [r2, upd]
  repeat' split
  all_goals first | omega | (congr 1; omega) | rfl
theorem aB_i {nB b a nd : Nat} {f Z : Nat → Int32} (h : aB nB f Z) (hB : nB < 6) (hb : b ≤ nB) : aB (nB + 1) (upd (upd (r2 f (2 * b + 1) (2 * nB + 1)) (2 * b) (nI a)) (2 * b + 1) (nI nd)) (bgi Z b nB a nd) := by
  intro i hi
  rw [bgi_3 hB hb i hi, bgi_4 hB hb i hi]
  by_cases e : i = b
  · subst e
    rw [if_pos rfl, if_pos rfl, pm_u, pm_un _ _ (by omega), pm_u]
    exact ⟨rfl, rfl⟩
  · rw [if_neg e, if_neg e, pm_un _ _ (by omega), pm_un _ _ (by omega), pm_un _ _ (by omega), pm_un _ _ (by omega)]
    simp only [r2]
    by_cases el : b < i
    · rw [if_pos (by omega), if_pos el, if_pos (by omega), if_pos el, show 2 * i - 2 = 2 * (i - 1) by omega, show 2 * i + 1 - 2 = 2 * (i - 1) + 1 by omega]
      exact h (i - 1) (by omega)
    · rw [if_neg (by omega), if_neg el, if_neg (by omega), if_neg el]
      exact h i (by omega)
theorem l_bog_3 (S : cr_S) (f : Nat → Nat) {nB b a : Nat} (x2 : Int32) (hB : nB ≤ 6) (ha : a ≤ 99) (h8 : S.1 9 3 8 = nI nB) (hr : ∀ i, i < nB → f i ≤ 99 ∧ S.1 11 2 (2 * i) = nI (f i)) (hb : b ≤ nB) (hlo : ∀ i, i < b → f i < a) (hat : b < nB → a ≤ f b) : ∀ d k n, b - k = d → d < n → k ≤ b → s_L_bog_3 n (nI a) x2 (nI k) S = s_L_bog_29 (nI a) x2 (nI b) S := by
  intro d
  induction d with
  | zero =>
    intro k n hd hn hk
    obtain ⟨n, rfl⟩ : ∃ m, n = m + 1 := ⟨n - 1, by omega⟩
    obtain rfl : k = b := by omega
    by_cases e : nB ≤ k
    · simp (disch := omega) only [s_L_bog_3, h8, pm_C, e, ↓reduceIte]
    · have h1 := hat (by omega)
      obtain ⟨h2, h3⟩ := hr k (by omega)
      simp (disch := omega) only [s_L_bog_3, pm_lit, pk_mul, pm_S, pm_gd, h8, h3, pm_C, e, h1, ↓reduceIte]
  | succ d ih =>
    intro k n hd hn hk
    obtain ⟨n, rfl⟩ : ∃ m, n = m + 1 := ⟨n - 1, by omega⟩
    have e : ¬ nB ≤ k := by omega
    obtain ⟨h2, h3⟩ := hr k (by omega)
    have h4 : ¬ a ≤ f k := by have := hlo k (by omega); omega
    simp (disch := omega) only [s_L_bog_3, ↓pm_bd, pm_lit, pk_mul, pm_S, pm_gd, h8, h3, pm_C, e, h4, ↓reduceIte]
    exact ih (k + 1) n (by omega) (by omega) (by omega)
theorem l_bog_97 (S : cr_S) (x1 x2 x5 x6 : Int32) (c : Nat) (hc : c ≤ 5) (h8 : S.1 9 3 8 = nI c) : ∀ (d k n : Nat) (g : Nat → Int32), 2 * c - k = d → d < n → k ≤ 12 → s_L_bog_97 n x1 x2 x5 x6 (nI k) (cr_us S 11 (cr_pa (S.1 11) 2 g)) = s_L_bog_125 x1 x2 x5 x6 (cr_us S 11 (cr_pa (S.1 11) 2 (s2 g k (2 * c)))) := by
  intro d
  induction d with
  | zero =>
    intro k n g hd hn hk
    obtain ⟨n, rfl⟩ : ∃ m, n = m + 1 := ⟨n - 1, by omega⟩
    have e : 2 * c ≤ k := by omega
    have n9 : (9 : Nat) ≠ 11 := by omega
    rw [s2_id e]
    simp (disch := omega) only [s_L_bog_97, pm_lit, cr_us_ne _ _ n9, h8, pk_mul, pm_C, e, ↓reduceIte]
  | succ d ih =>
    intro k n g hd hn hk
    obtain ⟨n, rfl⟩ : ∃ m, n = m + 1 := ⟨n - 1, by omega⟩
    have e : ¬ 2 * c ≤ k := by omega
    have n9 : (9 : Nat) ≠ 11 := by omega
    have hi := ih (k + 1) n (upd g k (g (k + 2))) (by omega) (by omega) (by omega)
    rw [s2_step (by omega)] at hi
    rw [← hi]
    simp (disch := omega) only [s_L_bog_97, ↓pm_bd, pm_lit, cr_us_ne _ _ n9, h8, pk_mul, pm_S, pm_gd, pm_C, e, cr_sp, cr_us_eq, cr_us_us, ↓reduceIte]
theorem l_bog_145 (S : cr_S) (x1 x2 : Int32) (b c : Nat) (hc : c ≤ 5) (hb : b ≤ c) (h8 : S.1 9 3 8 = nI c) : ∀ (d k n : Nat) (g : Nat → Int32), k - (2 * b + 1) = d → d < n → 2 * b + 1 ≤ k → k ≤ 15 → s_L_bog_145 n x1 x2 (nI b) (nI k) (cr_us S 11 (cr_pa (S.1 11) 2 g)) = s_L_bog_181 x1 x2 (nI b) (cr_sp (cr_us S 11 (cr_pa (S.1 11) 2 (r2 g (2 * b + 1) k))) 9 3 8 (nI (c + 1))) := by
  intro d
  induction d with
  | zero =>
    intro k n g hd hn hk hk2
    obtain ⟨n, rfl⟩ : ∃ m, n = m + 1 := ⟨n - 1, by omega⟩
    obtain rfl : k = 2 * b + 1 := by omega
    have n9 : (9 : Nat) ≠ 11 := by omega
    rw [r2_id (Nat.le_refl _)]
    simp (disch := omega) only [s_L_bog_145, ↓pm_bd, pm_lit, cr_us_ne _ _ n9, h8, pk_mul, pm_S, pm_C, Nat.le_refl, ↓reduceIte]
  | succ d ih =>
    intro k n g hd hn hk hk2
    obtain ⟨n, rfl⟩ : ∃ m, n = m + 1 := ⟨n - 1, by omega⟩
    have e : ¬ k ≤ 2 * b + 1 := by omega
    have hi := ih (k - 1) n (upd g k (g (k - 2))) (by omega) (by omega) (by omega) (by omega)
    rw [r2_step (by omega) (by omega)] at hi
    rw [← hi]
    simp (disch := omega) only [s_L_bog_145, ↓pm_bd, ↓pm_m1, pm_lit, pk_mul, pm_S, pm_gd, pm_C, e, pm_am1, cr_sp, cr_us_eq, cr_us_us, ↓reduceIte]
