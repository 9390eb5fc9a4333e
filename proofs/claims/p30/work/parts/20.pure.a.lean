/-! The pure side: what the functions of the walks answer (our own text). -/
def mI : Int32 := -1
theorem pm_m1 : (-1 : Int32) = mI := rfl
theorem pm_lit : (0 : Int32) = nI 0 ∧ (1 : Int32) = nI 1 ∧ (2 : Int32) = nI 2 ∧ (3 : Int32) = nI 3 ∧ (4 : Int32) = nI 4 ∧ (5 : Int32) = nI 5 ∧ (6 : Int32) = nI 6 ∧ (7 : Int32) = nI 7 ∧ (8 : Int32) = nI 8 ∧ (9 : Int32) = nI 9 ∧ (10 : Int32) = nI 10 ∧ (11 : Int32) = nI 11 ∧ (12 : Int32) = nI 12 ∧ (13 : Int32) = nI 13 ∧ (14 : Int32) = nI 14 ∧ (15 : Int32) = nI 15 ∧ (20 : Int32) = nI 20 ∧ (23 : Int32) = nI 23 ∧ (24 : Int32) = nI 24 ∧ (25 : Int32) = nI 25 ∧ (30 : Int32) = nI 30 ∧ (33 : Int32) = nI 33 ∧ (40 : Int32) = nI 40 ∧ (42 : Int32) = nI 42 ∧ (44 : Int32) = nI 44 ∧ (48 : Int32) = nI 48 ∧ (50 : Int32) = nI 50 ∧ (52 : Int32) = nI 52 ∧ (57 : Int32) = nI 57 ∧ (60 : Int32) = nI 60 ∧ (71 : Int32) = nI 71 ∧ (79 : Int32) = nI 79 ∧ (96 : Int32) = nI 96 ∧ (99 : Int32) = nI 99 ∧ (100 : Int32) = nI 100 ∧ (126 : Int32) = nI 126 ∧ (127 : Int32) = nI 127 ∧ (128 : Int32) = nI 128 ∧ (134 : Int32) = nI 134 ∧ (146 : Int32) = nI 146 ∧ (157 : Int32) = nI 157 ∧ (160 : Int32) = nI 160 ∧ (167 : Int32) = nI 167 ∧ (177 : Int32) = nI 177 ∧ (184 : Int32) = nI 184 ∧ (200 : Int32) = nI 200 ∧ (500 : Int32) = nI 500 ∧ (501 : Int32) = nI 501 ∧ (920 : Int32) = nI 920 ∧ (1022 : Int32) = nI 1022 ∧ (10000 : Int32) = nI 10000 ∧ (2143289344 : Int32) = nI 2143289344 := ⟨rfl, rfl, rfl, rfl, rfl, rfl, rfl, rfl, rfl, rfl, rfl, rfl, rfl, rfl, rfl, rfl, rfl, rfl, rfl, rfl, rfl, rfl, rfl, rfl, rfl, rfl, rfl, rfl, rfl, rfl, rfl, rfl, rfl, rfl, rfl, rfl, rfl, rfl, rfl, rfl, rfl, rfl, rfl, rfl, rfl, rfl, rfl, rfl, rfl, rfl, rfl, rfl⟩
theorem pm_bd {α β : Type} (v : α) (k : α → β) : cr_bd v k = k v := Eq.trans rfl rfl
theorem pm_gd {α : Type} (r : Option α) : cr_gd true r = r := Eq.trans rfl rfl
theorem pm_cl {α β : Type} (a : α) (k : α → Option β) : cr_cl (some a) k = k a := Eq.trans rfl rfl
theorem pm_mt : mI.toInt = -1 := by decide
theorem pm_ne {k : Nat} (h : k < 2 ^ 31) : (nI k = mI) = False := by
  apply eq_false
  intro e
  have h1 := congrArg Int32.toInt e
  rw [nI_toInt h, pm_mt] at h1
  omega
theorem pm_nem {k : Nat} (h : k < 2 ^ 31) : (mI = nI k) = False := by
  apply eq_false
  intro e
  have h1 := congrArg Int32.toInt e
  rw [nI_toInt h, pm_mt] at h1
  omega
theorem pm_ltm {k : Nat} (h : k < 2 ^ 31) : (nI k < mI) = False := by
  apply eq_false
  rw [Int32.lt_iff_toInt_lt, nI_toInt h, pm_mt]
  omega
theorem pm_mlt {k : Nat} (h : k < 2 ^ 31) : (mI < nI k) = True := by
  apply eq_true
  rw [Int32.lt_iff_toInt_lt, nI_toInt h, pm_mt]
  omega
theorem pm_lem {k : Nat} (h : k < 2 ^ 31) : (nI k ≤ mI) = False := by
  apply eq_false
  rw [Int32.le_iff_toInt_le, nI_toInt h, pm_mt]
  omega
theorem pm_mle {k : Nat} (h : k < 2 ^ 31) : (mI ≤ nI k) = True := by
  apply eq_true
  rw [Int32.le_iff_toInt_le, nI_toInt h, pm_mt]
  omega
theorem pm_in {k N : Nat} (h : k < N) (hN : N < 2 ^ 31) : cr_in (nI k) N = true := by
  unfold cr_in
  exact decide_eq_true (nI_in h hN)
theorem pm_nz {k : Nat} (h0 : 0 < k) (h : k < 2 ^ 31) : cr_nz (nI k) = true := by
  unfold cr_nz
  exact decide_eq_true (nI_ne0 h0 h)
theorem pm_pa (G : cr_G) (j : Nat) (h : Nat → Int32) : cr_pa G j h j = h := by simp [cr_pa]
theorem pm_pan (G : cr_G) {j j' : Nat} (h : Nat → Int32) (hn : j' ≠ j) : cr_pa G j h j' = G j' := by simp [cr_pa, hn]
theorem pm_ptpa (G : cr_G) (j : Nat) (h : Nat → Int32) (i : Nat) (v : Int32) : cr_pt (cr_pa G j h) j i v = cr_pa G j (upd h i v) := by
  funext k
  by_cases e : k = j <;> simp [cr_pt, cr_pa, e]
theorem pm_papa (G : cr_G) (j : Nat) (h h' : Nat → Int32) : cr_pa (cr_pa G j h) j h' = cr_pa G j h' := by
  funext k
  by_cases e : k = j <;> simp [cr_pa, e]
theorem pm_ptn (G : cr_G) {j j' : Nat} (h : Nat → Int32) (i : Nat) (v : Int32) (hn : j' ≠ j) : cr_pt (cr_pa G j h) j' i v = cr_pa (cr_pt G j' i v) j h := by
  funext k
  by_cases e : k = j
  · subst e
    simp [cr_pt, cr_pa, hn.symm]
  · by_cases e' : k = j' <;> simp [cr_pt, cr_pa, e, e', hn]
theorem pm_self (G : cr_G) (j : Nat) : cr_pa G j (G j) = G := by
  funext k
  by_cases e : k = j
  · subst e; simp [cr_pa]
  · simp [cr_pa, e]
theorem pm_u (f : Nat → Int32) (k : Nat) (v : Int32) : upd f k v k = v := by simp [upd]
theorem pm_un (f : Nat → Int32) {k j : Nat} (v : Int32) (h : j ≠ k) : upd f k v j = f j := by simp [upd, h]
theorem pm_pt (G : cr_G) (j i : Nat) (v : Int32) : cr_pt G j i v j = upd (G j) i v := pm_pa G j _
theorem pm_ptne (G : cr_G) {j j' : Nat} (i : Nat) (v : Int32) (hn : j' ≠ j) : cr_pt G j i v j' = G j' := pm_pan G _ hn
theorem pm_add (a b : Nat) : nI a + nI b = nI (a + b) := nI_add a b
theorem pm_add0 (x : Int32) : x + nI 0 = x := by rw [show nI 0 = (0 : Int32) from rfl]; exact Int32.add_zero x
theorem pm_0add (x : Int32) : nI 0 + x = x := by rw [show nI 0 = (0 : Int32) from rfl]; exact Int32.zero_add x
theorem pm_am1 {k : Nat} (h : 0 < k) : nI k + mI = nI (k - 1) := sb_m1 h
/-- what a walk's words come to -/
theorem pm_S : (∀ (G : cr_G) (j : Nat) (h : Nat → Int32), cr_pa G j h j = h) ∧ (∀ (G : cr_G) {j j' : Nat} (h : Nat → Int32), j' ≠ j → cr_pa G j h j' = G j') ∧ (∀ (G : cr_G) (j : Nat) (h : Nat → Int32) (i : Nat) (v : Int32), cr_pt (cr_pa G j h) j i v = cr_pa G j (upd h i v)) ∧ (∀ (f : Nat → Int32) (k : Nat) (v : Int32), upd f k v k = v) ∧ (∀ (f : Nat → Int32) {k j : Nat} (v : Int32), j ≠ k → upd f k v j = f j) ∧ (∀ {k N : Nat}, k < N → N < 2 ^ 31 → cr_in (nI k) N = true) ∧ (∀ {k : Nat}, k < 2 ^ 31 → (nI k).toNatClampNeg = k) ∧ (∀ a b : Nat, nI a + nI b = nI (a + b)) ∧ (∀ {a b : Nat}, b ≤ a → nI a - nI b = nI (a - b)) :=
  ⟨pm_pa, fun G _ _ h hn => pm_pan G h hn, pm_ptpa, pm_u, fun f _ _ v h => pm_un f v h, fun h h' => pm_in h h', fun h => nI_clamp h, nI_add, fun h => pk_sub h⟩
/-- comparisons -/
theorem pm_C : (∀ {a b : Nat}, a < 2 ^ 31 → b < 2 ^ 31 → ((nI a ≤ nI b) ↔ a ≤ b)) ∧ (∀ {a b : Nat}, a < 2 ^ 31 → b < 2 ^ 31 → ((nI a < nI b) ↔ a < b)) ∧ (∀ {a b : Nat}, a < 2 ^ 31 → b < 2 ^ 31 → ((nI a = nI b) ↔ a = b)) ∧ (∀ {k : Nat}, k < 2 ^ 31 → (nI k = mI) = False) ∧ (∀ {k : Nat}, k < 2 ^ 31 → (mI = nI k) = False) ∧ (∀ {k : Nat}, k < 2 ^ 31 → (nI k < mI) = False) ∧ (∀ {k : Nat}, k < 2 ^ 31 → (mI < nI k) = True) ∧ (∀ {k : Nat}, k < 2 ^ 31 → (nI k ≤ mI) = False) ∧ (∀ {k : Nat}, k < 2 ^ 31 → (mI ≤ nI k) = True) :=
  ⟨fun h h' => nI_leI h h', fun h h' => nI_ltI h h', fun h h' => nI_eq h h', fun h => pm_ne h, fun h => pm_nem h, fun h => pm_ltm h, fun h => pm_mlt h, fun h => pm_lem h, fun h => pm_mle h⟩
/-- rows moved by one, to the left and to the right -/
def sl (f : Nat → Int32) (a p c : Nat) : Nat → Int32 := fun i => if a + p ≤ i ∧ i < a + c then f (i + 1) else f i
def sr (f : Nat → Int32) (a p c : Nat) : Nat → Int32 := fun i => if a + p < i ∧ i ≤ a + c then f (i - 1) else f i
theorem sl_id {f : Nat → Int32} {a p c : Nat} (h : c ≤ p) : sl f a p c = f := by
  funext i
  simp only [sl]
  rw [if_neg (by omega)]
theorem sl_step {f : Nat → Int32} {a p c : Nat} (h : p < c) : sl (upd f (a + p) (f (a + p + 1))) a (p + 1) c = sl f a p c := by
  funext i
  simp only [sl, upd]
  repeat' split
  all_goals first | omega | (congr 1; omega) | rfl
theorem sl_step0 {f : Nat → Int32} {p c : Nat} (h : p < c) : sl (upd f p (f (p + 1))) 0 (p + 1) c = sl f 0 p c := by
  have h9 := sl_step (f := f) (a := 0) h
  simpa only [Nat.zero_add] using h9
theorem sr_step0 {f : Nat → Int32} {p c : Nat} (h : p < c) : sr (upd f c (f (c - 1))) 0 p (c - 1) = sr f 0 p c := by
  funext i
  simp only [sr, upd]
  repeat' split
  all_goals first | omega | (congr 1; omega) | rfl
theorem sr_id {f : Nat → Int32} {a p c : Nat} (h : c ≤ p) : sr f a p c = f := by
  funext i
  simp only [sr]
  rw [if_neg (by omega)]
theorem sr_step {f : Nat → Int32} {a p c : Nat} (h : p < c) : sr (upd f (a + c) (f (a + c - 1))) a p (c - 1) = sr f a p c := by
  funext i
  simp only [sr, upd]
  repeat' split
  all_goals first | omega | (congr 1; omega) | rfl
/-! ### plan -/
theorem qm_takeOff_14 (M : cr_G) (c : Nat) (hc : c ≤ 10) : ∀ (d k n : Nat) (Z : Nat → Int32), c - k = d → d < n → k ≤ 10 → Z 145 = nI c → s_X9_takeOff_14 n (nI k) (cr_pa M 1 Z) = some (cr_pa M 1 (sl Z 146 k c)) := by
  intro d
  induction d with
  | zero =>
    intro k n Z hd hn hk h5
    obtain ⟨n, rfl⟩ : ∃ m, n = m + 1 := ⟨n - 1, by omega⟩
    have hck : c ≤ k := by omega
    simp (disch := omega) only [s_X9_takeOff_14, pm_S, h5, pm_C, hck, ↓reduceIte, sl_id hck]
  | succ d ih =>
    intro k n Z hd hn hk h5
    obtain ⟨n, rfl⟩ : ∃ m, n = m + 1 := ⟨n - 1, by omega⟩
    have hck : ¬ c ≤ k := by omega
    simp (disch := omega) only [s_X9_takeOff_14, ↓pm_bd, pm_gd, pm_lit, pm_S, pm_C, h5, hck, ↓reduceIte]
    rw [ih (k + 1) n _ (by omega) (by omega) (by omega) (by simp (disch := omega) only [pm_S, h5]), sl_step (by omega)]
theorem qm_takeOff {M : cr_G} {Z : Nat → Int32} {c p : Nat} (hc : c ≤ 10) (hc0 : 0 < c) (hp : p ≤ 10) (h5 : Z 145 = nI c) : s_X9_takeOff (nI p) (cr_pa M 1 Z) = some (cr_pa M 1 (sl (upd Z 145 (nI (c - 1))) 146 p (c - 1))) := by
  simp (disch := omega) only [s_X9_takeOff, ↓pm_bd, pm_lit, pm_S, h5]
  rw [qm_takeOff_14 M (c - 1) (by omega) (c - 1 - p) p 1200 _ rfl (by omega) hp (pm_u _ _ _)]
theorem qc_removeAt_25 (G : cr_G) (c : Nat) (hc : c < 10) (h8 : G 8 1 = nI c) : ∀ (d k n : Nat) (h : Nat → Int32), c - k = d → d < n → k ≤ 10 → s_X4_removeAt_25 n (nI k) (cr_pa G 9 h) = some (cr_pa G 9 (sl h 0 k c)) := by
  intro d
  induction d with
  | zero =>
    intro k n h hd hn hk
    obtain ⟨n, rfl⟩ : ∃ m, n = m + 1 := ⟨n - 1, by omega⟩
    have hck : c ≤ k := by omega
    simp (disch := omega) only [s_X4_removeAt_25, pm_S, h8, pm_C, hck, ↓reduceIte, sl_id hck]
  | succ d ih =>
    intro k n h hd hn hk
    obtain ⟨n, rfl⟩ : ∃ m, n = m + 1 := ⟨n - 1, by omega⟩
    have hck : ¬ c ≤ k := by omega
    simp (disch := omega) only [s_X4_removeAt_25, ↓pm_bd, pm_gd, pm_lit, pm_S, pm_C, h8, hck, ↓reduceIte]
    rw [ih (k + 1) n _ (by omega) (by omega) (by omega), sl_step0 (by omega)]
theorem qc_removeAt {G : cr_G} {c p : Nat} (hc : c ≤ 10) (h8 : G 8 1 = nI c) (hp : p < c) : s_X4_removeAt (nI p) G = some (cr_pa (cr_pt G 8 1 (nI (c - 1))) 9 (sl (G 9) 0 p (c - 1))) := by
  have h1 : ¬ p < 0 := by omega
  simp (disch := omega) only [s_X4_removeAt, ↓pm_bd, pm_lit, pm_S, pm_C, h8, hp, h1, ↓reduceIte]
  have h2 : cr_pt G 8 1 (nI (c - 1)) = cr_pa (cr_pt G 8 1 (nI (c - 1))) 9 (G 9) := by
    rw [← pm_self (cr_pt G 8 1 (nI (c - 1))) 9]
    simp (disch := omega) only [pm_ptne, pm_papa]
  have h3 := qc_removeAt_25 (cr_pt G 8 1 (nI (c - 1))) (c - 1) (by omega) (by rw [pm_pt, pm_u]) (c - 1 - p) p 1200 (G 9) rfl (by omega) (by omega)
  rw [← h2] at h3
  exact h3
theorem qc_removeAt_m (G : cr_G) : s_X4_removeAt mI G = some G := by
  have h1 : mI < 0 := by decide
  simp only [s_X4_removeAt, h1, ↓reduceIte]
theorem qc_first {G : cr_G} {c : Nat} (hc : c ≤ 10) (h8 : G 8 1 = nI c) : s_X4_first G = some (if c = 0 then mI else G 9 0) := by
  by_cases h0 : c = 0
  · subst h0
    simp (disch := omega) only [s_X4_first, ↓pm_m1, pm_lit, pm_C, h8, Nat.le_refl, ↓reduceIte]
  · have h1 : ¬ c ≤ 0 := by omega
    simp (disch := omega) only [s_X4_first, ↓pm_m1, pm_lit, pm_C, h8, h1, h0, ↓reduceIte]
