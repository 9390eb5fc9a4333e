/-! ### counting -/
def cnt (P : Nat → Bool) : Nat → Nat
  | 0 => 0
  | c + 1 => cnt P c + (P c).toNat
theorem cnt_le (P : Nat → Bool) : ∀ c, cnt P c ≤ c
  | 0 => Nat.le_refl _
  | c + 1 => by
    have h := cnt_le P c
    have h2 : (P c).toNat ≤ 1 := Bool.toNat_le _
    simp only [cnt]
    omega
theorem cnt_congr {P Q : Nat → Bool} : ∀ {c : Nat}, (∀ k, k < c → P k = Q k) → cnt P c = cnt Q c
  | 0, _ => rfl
  | c + 1, h => by
    simp only [cnt]
    rw [cnt_congr (fun k hk => h k (by omega)), h c (by omega)]
theorem cnt_t {P : Nat → Bool} {k : Nat} (h : P k = true) : cnt P (k + 1) = cnt P k + 1 := by simp [cnt, h]
theorem cnt_f {P : Nat → Bool} {k : Nat} (h : P k = false) : cnt P (k + 1) = cnt P k := by simp [cnt, h]
theorem cnt_0 {P : Nat → Bool} : ∀ {c : Nat}, cnt P c = 0 → ∀ k, k < c → P k = false
  | 0, _, k, hk => absurd hk (Nat.not_lt_zero k)
  | c + 1, h, k, hk => by
    simp only [cnt] at h
    by_cases e : k = c
    · subst e
      cases hp : P k with
      | false => rfl
      | true => rw [hp] at h; simp at h
    · exact cnt_0 (c := c) (by omega) k (by omega)
theorem cnt_n {P : Nat → Bool} : ∀ {c : Nat}, (∀ k, k < c → P k = false) → cnt P c = 0
  | 0, _ => rfl
  | c + 1, h => by rw [cnt_f (h c (by omega)), cnt_n (fun k hk => h k (by omega))]
/-- a sum of ints -/
def sI (f : Nat → Int32) : Nat → Int32
  | 0 => nI 0
  | c + 1 => sI f c + f c
theorem sI_congr {f g : Nat → Int32} : ∀ {c : Nat}, (∀ k, k < c → f k = g k) → sI f c = sI g c
  | 0, _ => rfl
  | c + 1, h => by
    simp only [sI]
    rw [sI_congr (fun k hk => h k (by omega)), h c (by omega)]
/-- the least place with a property -/
theorem least {P : Nat → Prop} (hd : ∀ k, P k ∨ ¬ P k) : ∀ c : Nat, (∀ k, k < c → ¬ P k) ∨ ∃ p, p < c ∧ P p ∧ ∀ k, k < p → ¬ P k
  | 0 => Or.inl (fun k hk => absurd hk (Nat.not_lt_zero k))
  | c + 1 => by
    rcases least hd c with h | ⟨p, h1, h2, h3⟩
    · rcases hd c with hc | hc
      · exact Or.inr ⟨c, by omega, hc, h⟩
      · refine Or.inl (fun k hk => ?_)
        by_cases e : k = c
        · subst e; exact hc
        · exact h k (by omega)
    · exact Or.inr ⟨p, by omega, h2, h3⟩
/-! ### places in the plan -/
theorem qc_placeOf_n (G : cr_G) (c : Nat) (x : Int32) (hc : c ≤ 10) (h8 : G 8 1 = nI c) : ∀ d k n, c - k = d → d < n → k ≤ 10 → (∀ i, k ≤ i → i < c → G 9 i ≠ x) → s_X4_placeOf_2 G n x (nI k) = some mI := by
  intro d
  induction d with
  | zero =>
    intro k n hd hn hk hx
    obtain ⟨n, rfl⟩ : ∃ m, n = m + 1 := ⟨n - 1, by omega⟩
    have hck : c ≤ k := by omega
    simp (disch := omega) only [s_X4_placeOf_2, ↓pm_m1, pm_S, h8, pm_C, hck, ↓reduceIte]
  | succ d ih =>
    intro k n hd hn hk hx
    obtain ⟨n, rfl⟩ : ∃ m, n = m + 1 := ⟨n - 1, by omega⟩
    have hck : ¬ c ≤ k := by omega
    have hne : ¬ G 9 k = x := hx k (by omega) (by omega)
    simp (disch := omega) only [s_X4_placeOf_2, ↓pm_bd, pm_gd, pm_lit, pm_S, pm_C, h8, hck, hne, ↓reduceIte]
    exact ih (k + 1) n (by omega) (by omega) (by omega) (fun i h1 h2 => hx i (by omega) h2)
theorem qc_placeOf_s (G : cr_G) (c p : Nat) (x : Int32) (hc : c ≤ 10) (h8 : G 8 1 = nI c) (hp : p < c) (hpx : G 9 p = x) : ∀ d k n, p - k = d → d < n → k ≤ p → (∀ i, k ≤ i → i < p → G 9 i ≠ x) → s_X4_placeOf_2 G n x (nI k) = some (nI p) := by
  intro d
  induction d with
  | zero =>
    intro k n hd hn hk hx
    obtain ⟨n, rfl⟩ : ∃ m, n = m + 1 := ⟨n - 1, by omega⟩
    have hck : ¬ c ≤ k := by omega
    obtain rfl : k = p := by omega
    simp (disch := omega) only [s_X4_placeOf_2, ↓pm_bd, pm_gd, pm_lit, pm_S, pm_C, h8, hck, hpx, ↓reduceIte]
  | succ d ih =>
    intro k n hd hn hk hx
    obtain ⟨n, rfl⟩ : ∃ m, n = m + 1 := ⟨n - 1, by omega⟩
    have hck : ¬ c ≤ k := by omega
    have hne : ¬ G 9 k = x := hx k (by omega) (by omega)
    simp (disch := omega) only [s_X4_placeOf_2, ↓pm_bd, pm_gd, pm_lit, pm_S, pm_C, h8, hck, hne, ↓reduceIte]
    exact ih (k + 1) n (by omega) (by omega) (by omega) (fun i h1 h2 => hx i (by omega) h2)
theorem qc_placeOf_no {G : cr_G} {c : Nat} {x : Int32} (hc : c ≤ 10) (h8 : G 8 1 = nI c) (h : ∀ i, i < c → G 9 i ≠ x) : s_X4_placeOf G x = some mI := by
  simp only [s_X4_placeOf, pm_lit]
  exact qc_placeOf_n G c x hc h8 c 0 1200 rfl (by omega) (by omega) (fun i _ h2 => h i h2)
theorem qc_placeOf_at {G : cr_G} {c p : Nat} {x : Int32} (hc : c ≤ 10) (h8 : G 8 1 = nI c) (hp : p < c) (hpx : G 9 p = x) (h : ∀ i, i < p → G 9 i ≠ x) : s_X4_placeOf G x = some (nI p) := by
  simp only [s_X4_placeOf, pm_lit]
  exact qc_placeOf_s G c p x hc h8 hp hpx p 0 1200 rfl (by omega) (by omega) (fun i _ h2 => h i h2)
theorem qm_placeOf_n (M : cr_G) (Z : Nat → Int32) (c : Nat) (x : Int32) (hc : c ≤ 10) (h5 : Z 145 = nI c) (a : Int32) : ∀ d k n, c - k = d → d < n → k ≤ 10 → (∀ i, k ≤ i → i < c → Z (146 + i) ≠ x) → s_X9_placeOf_4 (cr_pa M 1 Z) n x a (nI k) = some a := by
  intro d
  induction d with
  | zero =>
    intro k n hd hn hk hx
    obtain ⟨n, rfl⟩ : ∃ m, n = m + 1 := ⟨n - 1, by omega⟩
    have hck : c ≤ k := by omega
    simp (disch := omega) only [s_X9_placeOf_4, pm_S, h5, pm_C, hck, ↓reduceIte]
  | succ d ih =>
    intro k n hd hn hk hx
    obtain ⟨n, rfl⟩ : ∃ m, n = m + 1 := ⟨n - 1, by omega⟩
    have hck : ¬ c ≤ k := by omega
    have hne : ¬ Z (146 + k) = x := hx k (by omega) (by omega)
    simp (disch := omega) only [s_X9_placeOf_4, ↓pm_bd, pm_gd, pm_lit, pm_S, pm_C, h5, hck, hne, ↓reduceIte]
    exact ih (k + 1) n (by omega) (by omega) (by omega) (fun i h1 h2 => hx i (by omega) h2)
theorem qm_placeOf_s (M : cr_G) (Z : Nat → Int32) (c p : Nat) (x : Int32) (hc : c ≤ 10) (h5 : Z 145 = nI c) (hp : p < c) (hpx : Z (146 + p) = x) (hx : ∀ i, i < c → i ≠ p → Z (146 + i) ≠ x) (a : Int32) : ∀ d k n, p - k = d → 20 ≤ n → k ≤ p → s_X9_placeOf_4 (cr_pa M 1 Z) (n + d) x a (nI k) = some (nI p) := by
  intro d
  induction d with
  | zero =>
    intro k n hd hn hk
    obtain ⟨n, rfl⟩ : ∃ m, n = m + 1 := ⟨n - 1, by omega⟩
    have hck : ¬ c ≤ k := by omega
    obtain rfl : k = p := by omega
    simp (disch := omega) only [s_X9_placeOf_4, Nat.add_zero, ↓pm_bd, pm_gd, pm_lit, pm_S, pm_C, h5, hck, hpx, ↓reduceIte]
    exact qm_placeOf_n M Z c x hc h5 (nI k) (c - (k + 1)) (k + 1) n rfl (by omega) (by omega) (fun i h1 h2 => hx i h2 (by omega))
  | succ d ih =>
    intro k n hd hn hk
    have hck : ¬ c ≤ k := by omega
    have hne : ¬ Z (146 + k) = x := hx k (by omega) (by omega)
    rw [show n + (d + 1) = (n + d) + 1 from rfl]
    simp (disch := omega) only [s_X9_placeOf_4, ↓pm_bd, pm_gd, pm_lit, pm_S, pm_C, h5, hck, hne, ↓reduceIte]
    exact ih (k + 1) n (by omega) hn (by omega)
theorem qm_placeOf_no {M : cr_G} {Z : Nat → Int32} {c : Nat} {x : Int32} (hc : c ≤ 10) (h5 : Z 145 = nI c) (h : ∀ i, i < c → Z (146 + i) ≠ x) : s_X9_placeOf (cr_pa M 1 Z) x = some mI := by
  simp only [s_X9_placeOf, ↓pm_m1, pm_lit]
  exact qm_placeOf_n M Z c x hc h5 mI c 0 1200 rfl (by omega) (by omega) (fun i _ h2 => h i h2)
theorem qm_placeOf_at {M : cr_G} {Z : Nat → Int32} {c p : Nat} {x : Int32} (hc : c ≤ 10) (h5 : Z 145 = nI c) (hp : p < c) (hpx : Z (146 + p) = x) (h : ∀ i, i < c → i ≠ p → Z (146 + i) ≠ x) : s_X9_placeOf (cr_pa M 1 Z) x = some (nI p) := by
  simp only [s_X9_placeOf, ↓pm_m1, pm_lit]
  have h9 := qm_placeOf_s M Z c p x hc h5 hp hpx h mI p 0 (1200 - p) rfl (by omega) (by omega)
  rwa [show 1200 - p + p = 1200 by omega] at h9
/-! ### the harbour -/
def mtb (f g : Nat → Int32) (x : Int32) (k : Nat) : Bool := decide (f k = x ∧ g k = nI 0)
theorem mtb_t {f g : Nat → Int32} {x : Int32} {k : Nat} (h : f k = x) (h' : g k = nI 0) : mtb f g x k = true := by simp [mtb, h, h']
theorem mtb_f1 {f g : Nat → Int32} {x : Int32} {k : Nat} (h : ¬ f k = x) : mtb f g x k = false := by simp [mtb, h]
theorem mtb_f2 {f g : Nat → Int32} {x : Int32} {k : Nat} (h : ¬ g k = nI 0) : mtb f g x k = false := by simp [mtb, h]
theorem qc_unloadedFor_4 (G : cr_G) (c : Nat) (x : Int32) (hc : c ≤ 10) (h5 : G 5 2 = nI c) : ∀ d k n, c - k = d → d < n → k ≤ c → s_X3_unloadedFor_4 G n x (nI (cnt (mtb (G 6) (G 7) x) k)) (nI k) = some (nI (cnt (mtb (G 6) (G 7) x) c)) := by
  intro d
  induction d with
  | zero =>
    intro k n hd hn hk
    obtain ⟨n, rfl⟩ : ∃ m, n = m + 1 := ⟨n - 1, by omega⟩
    obtain rfl : k = c := by omega
    simp (disch := omega) only [s_X3_unloadedFor_4, pm_S, h5, pm_C, Nat.le_refl, ↓reduceIte]
  | succ d ih =>
    intro k n hd hn hk
    obtain ⟨n, rfl⟩ : ∃ m, n = m + 1 := ⟨n - 1, by omega⟩
    have hck : ¬ c ≤ k := by omega
    have hi := ih (k + 1) n (by omega) (by omega) (by omega)
    by_cases h1 : G 6 k = x
    · by_cases h2 : G 7 k = nI 0
      · rw [cnt_t (mtb_t h1 h2)] at hi
        simp (disch := omega) only [s_X3_unloadedFor_4, ↓pm_bd, pm_gd, pm_lit, pm_S, pm_C, h5, hck, h1, h2, ↓reduceIte]
        exact hi
      · rw [cnt_f (mtb_f2 h2)] at hi
        simp (disch := omega) only [s_X3_unloadedFor_4, ↓pm_bd, pm_gd, pm_lit, pm_S, pm_C, h5, hck, h1, h2, ↓reduceIte]
        exact hi
    · rw [cnt_f (mtb_f1 h1)] at hi
      simp (disch := omega) only [s_X3_unloadedFor_4, ↓pm_bd, pm_gd, pm_lit, pm_S, pm_C, h5, hck, h1, ↓reduceIte]
      exact hi
theorem qc_unloadedFor {G : cr_G} {c : Nat} (x : Int32) (hc : c ≤ 10) (h5 : G 5 2 = nI c) : s_X3_unloadedFor G x = some (nI (cnt (mtb (G 6) (G 7) x) c)) := by
  simp only [s_X3_unloadedFor, pm_lit]
  exact qc_unloadedFor_4 G c x hc h5 c 0 1200 rfl (by omega) (by omega)
def mzb (Z : Nat → Int32) (x : Int32) (k : Nat) : Bool := mtb (fun b => Z (157 + b)) (fun b => Z (167 + b)) x k
theorem mzb_t {Z : Nat → Int32} {x : Int32} {k : Nat} (h : Z (157 + k) = x) (h' : Z (167 + k) = nI 0) : mzb Z x k = true := by simp [mzb, mtb, h, h']
theorem mzb_f1 {Z : Nat → Int32} {x : Int32} {k : Nat} (h : ¬ Z (157 + k) = x) : mzb Z x k = false := by simp [mzb, mtb, h]
theorem mzb_f2 {Z : Nat → Int32} {x : Int32} {k : Nat} (h : ¬ Z (167 + k) = nI 0) : mzb Z x k = false := by simp [mzb, mtb, h]
theorem qm_ashore_4 (M : cr_G) (Z : Nat → Int32) (c : Nat) (x : Int32) (hc : c ≤ 10) (h5 : Z 156 = nI c) : ∀ d k n, c - k = d → d < n → k ≤ c → s_X9_ashore_4 (cr_pa M 1 Z) n x (nI (cnt (mzb Z x) k)) (nI k) = some (nI (cnt (mzb Z x) c)) := by
  intro d
  induction d with
  | zero =>
    intro k n hd hn hk
    obtain ⟨n, rfl⟩ : ∃ m, n = m + 1 := ⟨n - 1, by omega⟩
    obtain rfl : k = c := by omega
    simp (disch := omega) only [s_X9_ashore_4, pm_S, h5, pm_C, Nat.le_refl, ↓reduceIte]
  | succ d ih =>
    intro k n hd hn hk
    obtain ⟨n, rfl⟩ : ∃ m, n = m + 1 := ⟨n - 1, by omega⟩
    have hck : ¬ c ≤ k := by omega
    have hi := ih (k + 1) n (by omega) (by omega) (by omega)
    by_cases h1 : Z (157 + k) = x
    · by_cases h2 : Z (167 + k) = nI 0
      · rw [cnt_t (mzb_t h1 h2)] at hi
        simp (disch := omega) only [s_X9_ashore_4, ↓pm_bd, pm_gd, pm_lit, pm_S, pm_C, h5, hck, h1, h2, ↓reduceIte]
        exact hi
      · rw [cnt_f (mzb_f2 h2)] at hi
        simp (disch := omega) only [s_X9_ashore_4, ↓pm_bd, pm_gd, pm_lit, pm_S, pm_C, h5, hck, h1, h2, Nat.add_zero, ↓reduceIte]
        exact hi
    · rw [cnt_f (mzb_f1 h1)] at hi
      simp (disch := omega) only [s_X9_ashore_4, ↓pm_bd, pm_gd, pm_lit, pm_S, pm_C, h5, hck, h1, Nat.add_zero, ↓reduceIte]
      exact hi
theorem qm_ashore {M : cr_G} {Z : Nat → Int32} {c : Nat} (x : Int32) (hc : c ≤ 10) (h5 : Z 156 = nI c) : s_X9_ashore (cr_pa M 1 Z) x = some (nI (cnt (mzb Z x) c)) := by
  simp only [s_X9_ashore, pm_lit]
  exact qm_ashore_4 M Z c x hc h5 c 0 1200 rfl (by omega) (by omega)
/-- an index that goes down -/
def pI : Nat → Int32
  | 0 => mI
  | k + 1 => nI k
theorem pI_dn : ∀ k : Nat, nI k + mI = pI k
  | 0 => by decide
  | k + 1 => by rw [pm_am1 (by omega)]; rfl
theorem pI_sub : ∀ k : Nat, nI k - nI 1 = pI k
  | 0 => by decide
  | k + 1 => by rw [pk_sub (by omega)]; rfl
theorem pm_mlt0 : mI < nI 0 := by decide
theorem qm_bladeFor_n (M : cr_G) (Z : Nat → Int32) (x a : Int32) : ∀ k n, k ≤ 10 → k < n → (∀ i, i < k → mzb Z x i = false) → s_X9_bladeFor_13 (cr_pa M 1 Z) n x a (pI k) = some a := by
  intro k
  induction k with
  | zero =>
    intro n hk hn hx
    obtain ⟨n, rfl⟩ : ∃ m, n = m + 1 := ⟨n - 1, by omega⟩
    simp (disch := omega) only [s_X9_bladeFor_13, pI, pm_lit, pm_mlt0, ↓reduceIte]
  | succ k ih =>
    intro n hk hn hx
    obtain ⟨n, rfl⟩ : ∃ m, n = m + 1 := ⟨n - 1, by omega⟩
    have hi := ih n (by omega) (by omega) (fun i h => hx i (by omega))
    have h9 := hx k (by omega)
    have h0 : ¬ k < 0 := by omega
    by_cases h1 : Z (157 + k) = x
    · by_cases h2 : Z (167 + k) = nI 0
      · rw [mzb_t h1 h2] at h9; cases h9
      · simp (disch := omega) only [s_X9_bladeFor_13, pI, ↓pm_bd, pm_gd, ↓pm_m1, pm_lit, pm_S, pm_C, h0, h1, h2, ↓reduceIte, pI_dn]
        exact hi
    · simp (disch := omega) only [s_X9_bladeFor_13, pI, ↓pm_bd, pm_gd, ↓pm_m1, pm_lit, pm_S, pm_C, h0, h1, ↓reduceIte, pI_dn]
      exact hi
theorem qm_bladeFor_s (M : cr_G) (Z : Nat → Int32) (x : Int32) (p : Nat) (hp : mzb Z x p = true) (hx : ∀ i, i < p → mzb Z x i = false) : ∀ k n a, k ≤ 10 → k < n → p < k → s_X9_bladeFor_13 (cr_pa M 1 Z) n x a (pI k) = some (nI p) := by
  intro k
  induction k with
  | zero => intro n a hk hn hp9; omega
  | succ k ih =>
    intro n a hk hn hp9
    obtain ⟨n, rfl⟩ : ∃ m, n = m + 1 := ⟨n - 1, by omega⟩
    have h0 : ¬ k < 0 := by omega
    by_cases e : p = k
    · subst e
      have h9 : Z (157 + p) = x ∧ Z (167 + p) = nI 0 := by simpa [mzb, mtb] using hp
      obtain ⟨h1, h2⟩ := h9
      simp (disch := omega) only [s_X9_bladeFor_13, pI, ↓pm_bd, pm_gd, ↓pm_m1, pm_lit, pm_S, pm_C, h0, h1, h2, ↓reduceIte, pI_dn]
      exact qm_bladeFor_n M Z x (nI p) p n (by omega) (by omega) hx
    · by_cases h1 : Z (157 + k) = x
      · by_cases h2 : Z (167 + k) = nI 0
        · simp (disch := omega) only [s_X9_bladeFor_13, pI, ↓pm_bd, pm_gd, ↓pm_m1, pm_lit, pm_S, pm_C, h0, h1, h2, ↓reduceIte, pI_dn]
          exact ih n _ (by omega) (by omega) (by omega)
        · simp (disch := omega) only [s_X9_bladeFor_13, pI, ↓pm_bd, pm_gd, ↓pm_m1, pm_lit, pm_S, pm_C, h0, h1, h2, ↓reduceIte, pI_dn]
          exact ih n _ (by omega) (by omega) (by omega)
      · simp (disch := omega) only [s_X9_bladeFor_13, pI, ↓pm_bd, pm_gd, ↓pm_m1, pm_lit, pm_S, pm_C, h0, h1, ↓reduceIte, pI_dn]
        exact ih n _ (by omega) (by omega) (by omega)
theorem qm_bladeFor_no {M : cr_G} {Z : Nat → Int32} {x : Int32} {c : Nat} (hc : c ≤ 10) (h5 : Z 156 = nI c) (h : ∀ i, i < c → mzb Z x i = false) : s_X9_bladeFor (cr_pa M 1 Z) x = some mI := by
  simp only [s_X9_bladeFor, ↓pm_bd, ↓pm_m1, pm_lit, pm_pa, h5, pI_sub]
  exact qm_bladeFor_n M Z x mI c 1200 hc (by omega) h
theorem qm_bladeFor_at {M : cr_G} {Z : Nat → Int32} {x : Int32} {c p : Nat} (hc : c ≤ 10) (h5 : Z 156 = nI c) (hpc : p < c) (hp : mzb Z x p = true) (h : ∀ i, i < p → mzb Z x i = false) : s_X9_bladeFor (cr_pa M 1 Z) x = some (nI p) := by
  simp only [s_X9_bladeFor, ↓pm_bd, ↓pm_m1, pm_lit, pm_pa, h5, pI_sub]
  exact qm_bladeFor_s M Z x p hp h c 1200 mI hc (by omega) hpc
