/-! ### the whole state: what holds between the class and the model -/
def TXs (A P : cr_G) (len : Nat) : Prop := len ≤ 60 ∧ A 2 1 = nI len ∧ P 0 6 = nI len ∧ ∀ k, k < len → A 3 k = P 4 k ∧ ∃ n : Nat, 33 ≤ n ∧ n ≤ 126 ∧ P 4 k = nI n
def R (S : cr_S) (P : cr_G) : Prop := BLK (S.1 0) (P 1) ∧ (∃ o c : Nat, SVs S.1 P o c) ∧ ∃ len : Nat, TXs (S.1 8) P len
theorem R_c {S S' : cr_S} {P P' : cr_G} (h : R S P) (hA : ∀ f, f ≠ 1 → f < 9 → S'.1 f = S.1 f) (h1 : ∀ k, k < 184 → P' 1 k = P 1 k) (h3 : P' 3 = P 3) (h4 : P' 4 = P 4) (h5 : P' 0 5 = P 0 5) (h6 : P' 0 6 = P 0 6) : R S' P' := by
  obtain ⟨a, ⟨o, c, b1, b2, b3, b4, b5, b6⟩, len, c1, c2, c3, c4⟩ := h
  refine ⟨?_, ⟨o, c, b1, b2, ?_, ?_, ?_, fun i hi => ?_⟩, len, c1, ?_, ?_, fun k hk => ?_⟩
  · rw [hA 0 (by omega) (by omega)]
    exact BLK_c a h1
  · rw [hA 8 (by omega) (by omega)]; exact b3
  · rw [hA 8 (by omega) (by omega)]; exact b4
  · rw [h5]; exact b5
  · have hm : (o + i) % 6 < 6 := Nat.mod_lt _ (by omega)
    rw [hA _ (by omega) (by omega), h3]
    exact b6 i hi
  · rw [hA 8 (by omega) (by omega)]; exact c2
  · rw [h6]; exact c3
  · rw [hA 8 (by omega) (by omega), h4]; exact c4 k hk
theorem R_0 {S : cr_S} {P : cr_G} (h : R S P) (v : Int32) : R S (cr_pt P 0 7 v) :=
  R_c h (fun f _ _ => rfl) (fun k _ => by rw [pm_ptne _ _ _ (by omega)]) (pm_ptne _ _ _ (by omega)) (pm_ptne _ _ _ (by omega)) (by rw [pm_pt, pm_un _ _ (by omega)]) (by rw [pm_pt, pm_un _ _ (by omega)])
theorem R_scr {S : cr_S} {P P' : cr_G} (h : R S P) (hs : scr P P') (X : cr_G) : R (cr_us S 1 X) P' :=
  R_c h (fun f h1 _ => cr_us_ne S X h1) hs.2 (hs.1 3 (by omega) (by omega)) (hs.1 4 (by omega) (by omega)) (by rw [hs.1 0 (by omega) (by omega)]) (by rw [hs.1 0 (by omega) (by omega)])
def AG (S : cr_S) (o : Option (String ⊕ (Int32 × cr_S))) (m : Option (Int32 × cr_G)) (code : String → Option Nat) : Prop :=
  (∃ (v : Int32) (S1 : cr_S) (P1 : cr_G), o = some (.inr (v, S1)) ∧ S1.1 9 = S.1 9 ∧ m = some (v, P1) ∧ P1 0 7 = nI 0 ∧ R S1 P1) ∨ ∃ (C : String) (k : Nat) (w : Int32) (P1 : cr_G), o = some (.inl C) ∧ code C = some k ∧ m = some (w, P1) ∧ P1 0 7 = nI k ∧ R S P1
def AGr (S : cr_S) (o : Option (String ⊕ Int32)) (m : Option (Int32 × cr_G)) (code : String → Option Nat) : Prop :=
  (∃ (v : Int32) (P1 : cr_G), o = some (.inr v) ∧ m = some (v, P1) ∧ P1 0 7 = nI 0 ∧ R S P1) ∨ ∃ (C : String) (k : Nat) (w : Int32) (P1 : cr_G), o = some (.inl C) ∧ code C = some k ∧ m = some (w, P1) ∧ P1 0 7 = nI k ∧ R S P1
def cIA : String → Option Nat := fun C => if C = "java/lang/IllegalArgumentException" then some 1 else none
def cIO : String → Option Nat := fun C => if C = "java/lang/IndexOutOfBoundsException" then some 1 else none
def cIS : String → Option Nat := fun C => if C = "java/lang/IllegalStateException" then some 1 else none
def cAS : String → Option Nat := fun C => if C = "java/lang/IllegalArgumentException" then some 1 else if C = "java/lang/IllegalStateException" then some 2 else none
def cOA : String → Option Nat := fun C => if C = "java/lang/IndexOutOfBoundsException" then some 1 else if C = "java/lang/IllegalArgumentException" then some 2 else none
def cOS : String → Option Nat := fun C => if C = "java/lang/IndexOutOfBoundsException" then some 1 else if C = "java/lang/IllegalStateException" then some 2 else none
theorem qm_fails (P : cr_G) (v : Int32) : s_X9_fails v P = some (nI 0, cr_pt P 0 7 v) := by
  simp only [s_X9_fails, ↓pm_bd, pm_lit]
theorem q_wi (p : Int32) {lo hi : Nat} (hlo : lo < 2 ^ 31) (hhi : hi < 2 ^ 31) : (∃ n : Nat, lo ≤ n ∧ n ≤ hi ∧ p = nI n ∧ s_X8_isWithin p (nI lo) (nI hi) = some true ∧ s_X9_within p (nI lo) (nI hi) = some true) ∨ (s_X8_isWithin p (nI lo) (nI hi) = some false ∧ s_X9_within p (nI lo) (nI hi) = some false) := by
  by_cases e1 : p < nI lo
  · exact Or.inr ⟨by simp only [s_X8_isWithin, e1, ↓reduceIte], by simp only [s_X9_within, e1, ↓reduceIte]⟩
  · by_cases e2 : nI hi < p
    · exact Or.inr ⟨by simp only [s_X8_isWithin, e1, e2, ↓reduceIte], by simp only [s_X9_within, e1, e2, ↓reduceIte]⟩
    · have h0 : ¬ p < 0 := fun h => e1 (Int32.lt_of_lt_of_le h (nI_pos' hlo))
      obtain ⟨n, hn, rfl⟩ := nI_of h0
      rw [nI_ltI hn hlo] at e1
      rw [nI_ltI hhi hn] at e2
      refine Or.inl ⟨n, by omega, by omega, rfl, ?_, ?_⟩
      · simp (disch := omega) only [s_X8_isWithin, pm_C, e1, e2, ↓reduceIte]
      · simp (disch := omega) only [s_X9_within, pm_C, e1, e2, ↓reduceIte]
/-- 0 to one less than a count -/
theorem q_ix (p : Int32) {c : Nat} (hc : c < 2 ^ 31) : (∃ n : Nat, n < c ∧ p = nI n ∧ s_X8_isWithin p (nI 0) (pI c) = some true ∧ s_X9_within p (nI 0) (pI c) = some true) ∨ (s_X8_isWithin p (nI 0) (pI c) = some false ∧ s_X9_within p (nI 0) (pI c) = some false) := by
  cases c with
  | succ c =>
    rcases q_wi p (lo := 0) (hi := c) (by omega) (by omega) with ⟨n, -, h2, h3, h4, h5⟩ | h
    · exact Or.inl ⟨n, by omega, h3, h4, h5⟩
    · exact Or.inr h
  | zero =>
    refine Or.inr ?_
    by_cases e1 : p < nI 0
    · exact ⟨by simp only [s_X8_isWithin, e1, ↓reduceIte], by simp only [s_X9_within, e1, ↓reduceIte]⟩
    · have h0 : ¬ p < 0 := e1
      obtain ⟨n, hn, rfl⟩ := nI_of h0
      have h9 : mI < nI n := by rw [pm_mlt hn]; trivial
      exact ⟨by simp only [s_X8_isWithin, pI, e1, h9, ↓reduceIte], by simp only [s_X9_within, pI, e1, h9, ↓reduceIte]⟩
theorem q_tb {G P : cr_G} (p : Int32) {c : Nat} (hc : c ≤ 10) (h0 : G 0 1 = nI c) (h70 : P 1 70 = nI c) : (∃ t : Nat, t < c ∧ p = nI t ∧ s_X2_hasTurbine G p = some true ∧ s_X9_isTurbine P p = some true) ∨ (s_X2_hasTurbine G p = some false ∧ s_X9_isTurbine P p = some false) := by
  have hm : s_X9_isTurbine P p = s_X9_within p (nI 0) (pI c) := by
    simp only [s_X9_isTurbine, pm_lit, h70, pI_sub]
    rcases q_ix p (c := c) (by omega) with ⟨n, -, -, -, h⟩ | ⟨-, h⟩ <;> simp only [h, pm_cl]
  rw [hm]
  rcases q_ix p (c := c) (by omega) with ⟨n, h1, h2, -, h4⟩ | ⟨h3, h4⟩
  · subst h2
    exact Or.inl ⟨n, h1, rfl, qc_has h0 hc h1, h4⟩
  · refine Or.inr ⟨?_, h4⟩
    rcases pk_ix p (show c < 2 ^ 31 by omega) with h | h | ⟨j, hj, rfl⟩
    · simp only [s_X2_hasTurbine, h, ↓reduceIte]
    · by_cases h' : p < 0
      · simp only [s_X2_hasTurbine, h', ↓reduceIte]
      · simp only [s_X2_hasTurbine, h0, h, h', ↓reduceIte]
    · exfalso
      rcases q_ix (nI j) (c := c) (by omega) with ⟨n, -, -, h5, -⟩ | ⟨h5, -⟩
      · rw [h3] at h5; cases h5
      · cases c with
        | zero => omega
        | succ c =>
          have e1 : ¬ j < 0 := by omega
          have e2 : ¬ c < j := by omega
          simp (disch := omega) only [s_X8_isWithin, pI, pm_C, e1, e2, ↓reduceIte] at h3
          cases h3
theorem q_start {S : cr_S} {P : cr_G} (hR : R S P) : ∃ P0 : cr_G, P0 = cr_pt P 0 7 (nI 0) ∧ P0 1 = P 1 ∧ cr_pa P0 1 (P 1) = P0 ∧ R S P0 ∧ P0 0 7 = nI 0 := by
  refine ⟨_, rfl, pm_ptne _ _ _ (by omega), ?_, R_0 hR _, by rw [pm_pt, pm_u]⟩
  have h := pm_self (cr_pt P 0 7 (nI 0)) 1
  rw [pm_ptne _ _ _ (by omega)] at h
  exact h
theorem R_f {S : cr_S} {P0 : cr_G} (h : R S P0) (k : Nat) : (cr_pt P0 0 7 (nI k)) 0 7 = nI k ∧ R S (cr_pt P0 0 7 (nI k)) := ⟨by rw [pm_pt, pm_u], R_0 h _⟩
/-! ### questions -/
theorem q_turbine {S : cr_S} {P : cr_G} (hR : R S P) (p q : Int32) : AGr S (s_X8_turbine S p q) (s_X9_turbine p q P) cOA := by
  obtain ⟨P0, hP0, h1, hpa, hR0, h7⟩ := q_start hR
  obtain ⟨⟨nT, nB, nL, nP, nW, h, hf, hJ, hh⟩, -⟩ := hR
  rw [← h1] at hf hJ
  rw [← h1] at hpa
  rcases q_tb (P := P0) p hJ.1.1.1 ((fr_n hf).trans hJ.1.2.1) hJ.1.2.1 with ⟨t, ht, rfl, c1, m1⟩ | ⟨c1, m1⟩
  · rcases q_wi q (lo := 0) (hi := 10) (by omega) (by omega) with ⟨n, -, -, rfl, c2, m2⟩ | ⟨c2, m2⟩
    · obtain ⟨v, v1, v2⟩ := q_prop (M := P0) hf hJ (by omega) ht (nI n)
      rw [hpa] at v2
      refine Or.inl ⟨v, P0, ?_, ?_, h7, hR0⟩
      · simp only [s_X8_turbine, s_X8_requireTurbine, cr_clx, pm_lit, c1, pm_cl, c2, v1, ↓reduceIte]
      · simp only [s_X9_turbine, ↓pm_bd, pm_lit, ← hP0, m1, pm_cl, m2, v2, ↓reduceIte]
    · refine Or.inr ⟨"java/lang/IllegalArgumentException", 2, nI 0, cr_pt P0 0 7 (nI 2), ?_, by decide, ?_, R_f hR0 2⟩
      · simp only [s_X8_turbine, s_X8_requireTurbine, cr_clx, pm_lit, c1, pm_cl, c2, ↓reduceIte, Bool.false_eq_true]
      · simp only [s_X9_turbine, ↓pm_bd, pm_lit, ← hP0, m1, pm_cl, m2, qm_fails, ↓reduceIte, Bool.false_eq_true]
  · refine Or.inr ⟨"java/lang/IndexOutOfBoundsException", 1, nI 0, cr_pt P0 0 7 (nI 1), ?_, by decide, ?_, R_f hR0 1⟩
    · simp only [s_X8_turbine, s_X8_requireTurbine, cr_clx, pm_lit, c1, pm_cl, ↓reduceIte, Bool.false_eq_true]
    · simp only [s_X9_turbine, ↓pm_bd, pm_lit, ← hP0, m1, pm_cl, qm_fails, ↓reduceIte, Bool.false_eq_true]
