/-! ### winds: the law's rows and the class's -/
def wS (S : cr_S) (q : Nat) : Nat := (S.1 11 0 (1 + q)).toNatClampNeg
theorem w_88 (k16 : Int32 → Int32 → Int32 → Int32 → cr_S → Option (Bool × cr_S)) (x1 x2 x4 x5 : Int32) {S : cr_S} {b v T : Nat} (h : tx S b) (hb : b ≤ 50) (hv : v ≤ 30) (hT1 : 1 ≤ T) (hT2 : T ≤ 10) : ∃ (S5 : cr_S) (e : Nat), s_L_winds_88 k16 x1 x2 x4 x5 (nI v) (nI T) S = s_L_winds_127 k16 1200 x1 x2 x4 x5 (nI v) (nI T) (nI 0) S5 ∧ EX S S5 b e ∧ sg (cdS S5) b e v T := by
  obtain ⟨S2, l2, e1, e2, e3⟩ := w_num (v := v) h (by omega) (by omega)
  have hl2 : l2 ≤ b + 2 := by omega
  by_cases eT : T = 1
  · refine ⟨S2, l2, ?_, e2, hv, hT1, hT2, l2, ?_, Or.inl ⟨eT, rfl⟩⟩
    · simp (disch := omega) only [s_L_winds_88, e1, pm_cl, pm_lit, pm_C, eT, Nat.le_refl, ↓reduceIte]
    · rcases e3 with ⟨a1, a2, a3⟩ | ⟨a1, a2, a3, a4⟩
      · exact Or.inl ⟨a1, a3, a2⟩
      · exact Or.inr ⟨a1, a3, a4, a2⟩
  · have nT : ¬ T ≤ 1 := by omega
    obtain ⟨S3, f1, f2, f3⟩ := w_app (n := 42) e2.2.2.2.1 (by omega) (by omega) (by omega)
    obtain ⟨S4, l4, g1, g2, g3⟩ := w_num (v := T) f2.2.2.2.1 (by omega) (by omega)
    have n1 : ¬ l2 + 1 < 1 := by omega
    refine ⟨S4, l4, ?_, EX_tr e2 (EX_tr f2 g2), hv, hT1, hT2, l2, ?_, ?_⟩
    · simp (disch := omega) only [s_L_winds_88, e1, pm_cl, pm_lit, pm_C, nT, f1, n1, g1, ↓reduceIte]
    · have hk : ∀ k, k < l2 → cdS S4 k = cdS S2 k := fun k hk => (g2.2.2.1 k (by omega)).trans (f2.2.2.1 k hk)
      rcases e3 with ⟨a1, a2, a3⟩ | ⟨a1, a2, a3, a4⟩
      · exact Or.inl ⟨a1, by rw [hk _ (by omega)]; exact a3, a2⟩
      · exact Or.inr ⟨a1, by rw [hk _ (by omega)]; exact a3, by rw [hk _ (by omega)]; exact a4, a2⟩
    · have h42 : cdS S4 l2 = 42 := (g2.2.2.1 l2 (by omega)).trans f3
      rcases g3 with ⟨a1, a2, a3⟩ | ⟨a1, a2, a3, a4⟩
      · exact Or.inr (Or.inl ⟨by omega, by omega, h42, a3, by omega⟩)
      · have hT10 : T = 10 := by omega
        subst hT10
        exact Or.inr (Or.inr ⟨rfl, h42, a3, a4, by omega⟩)
theorem l_127 (k16 : Int32 → Int32 → Int32 → Int32 → cr_S → Option (Bool × cr_S)) (x1 x2 x4 : Int32) (p v T : Nat) (hp : p ≤ 4) (hT : T ≤ 10) : ∀ (d i n a : Nat) (S : cr_S), T - i = d → d < n → i ≤ T → S.1 11 0 0 = nI a → a + d ≤ 48 → ∃ h' : Nat → Int32, s_L_winds_127 k16 n x1 x2 x4 (nI p) (nI v) (nI T) (nI i) S = k16 x1 x2 x4 (nI (p + 1)) (cr_us S 11 (cr_pa (S.1 11) 0 h')) ∧ h' 0 = nI (a + d) ∧ (∀ q, q < a → h' (1 + q) = S.1 11 0 (1 + q)) ∧ ∀ q, a ≤ q → q < a + d → h' (1 + q) = nI v := by
  intro d
  induction d with
  | zero =>
    intro i n a S hd hn hi h0 ha
    obtain ⟨n, rfl⟩ : ∃ m, n = m + 1 := ⟨n - 1, by omega⟩
    obtain rfl : i = T := by omega
    refine ⟨S.1 11 0, ?_, h0, fun _ _ => rfl, fun q h1 h2 => by omega⟩
    rw [pm_self, cr_us_self]
    simp (disch := omega) only [s_L_winds_127, ↓pm_bd, pm_lit, pm_add, pm_C, Nat.le_refl, ↓reduceIte]
  | succ d ih =>
    intro i n a S hd hn hi h0 ha
    obtain ⟨n, rfl⟩ : ∃ m, n = m + 1 := ⟨n - 1, by omega⟩
    have hci : ¬ T ≤ i := by omega
    obtain ⟨h', e1, e2, e3, e4⟩ := ih (i + 1) n (a + 1) (cr_us S 11 (cr_pt (cr_pt (S.1 11) 0 0 (nI (a + 1))) 0 (a + 1) (nI v))) (by omega) (by omega) (by omega) (by rw [cr_us_eq, pm_pt, pm_un _ _ (by omega), pm_pt, pm_u]) (by omega)
    rw [cr_us_eq] at e1 e3
    refine ⟨h', ?_, e2.trans (congrArg nI (by omega)), fun q hq => ?_, fun q h1 h2 => ?_⟩
    · have hpa : cr_pa (cr_pt (cr_pt (S.1 11) 0 0 (nI (a + 1))) 0 (a + 1) (nI v)) 0 h' = cr_pa (S.1 11) 0 h' := by
        rw [pt_def (cr_pt (S.1 11) 0 0 (nI (a + 1))), pm_papa, pt_def (S.1 11), pm_papa]
      rw [hpa, cr_us_us] at e1
      rw [← e1]
      simp (disch := omega) only [s_L_winds_127, ↓pm_bd, pm_lit, pm_add, pm_C, hci, h0, cr_sp, cr_us_eq, cr_us_us, pm_pt, pm_S, pm_gd, ↓reduceIte]
    · rw [e3 q (by omega), pm_pt, pm_un _ _ (by omega), pm_pt, pm_un _ _ (by omega)]
    · by_cases e9 : q = a
      · subst e9
        rw [e3 q (by omega), pm_pt, show 1 + q = q + 1 by omega, pm_u]
      · exact e4 q (by omega) (by omega)
def TI (S0 S : cr_S) (p l a : Nat) : Prop := (∀ f, f ≠ 8 → f ≠ 11 → S.1 f = S0.1 f) ∧ S.1 8 0 = S0.1 8 0 ∧ (∀ j, j ≠ 0 → S.1 11 j = S0.1 11 j) ∧ tx S l ∧ S.1 11 0 0 = nI a ∧ (∀ q, q < a → S.1 11 0 (1 + q) = nI (wS S q)) ∧ PT (cdS S) (wS S) p l a
theorem tx_c {S S' : cr_S} {l : Nat} (h : tx S l) (hA : ∀ f, f < 9 → S'.1 f = S.1 f) : tx S' l := by
  obtain ⟨a1, a2, a3, a4⟩ := h
  unfold tx cdS at *
  rw [hA 8 (by omega)]
  exact ⟨a1, a2, a3, RX_c a4 hA⟩
theorem w_52 (k16 : Int32 → Int32 → Int32 → Int32 → cr_S → Option (Bool × cr_S)) (x1 x2 x4 y1 : Int32) {S0 S : cr_S} {p l a mm : Nat} (h : TI S0 S p l a) (hp : p < 4) (hm1 : 0 < mm) (hm2 : mm ≤ 31) : ∃ (S' : cr_S) (l' a' : Nat), s_L_winds_52 k16 x1 x2 x4 (nI p) (nI mm) y1 S = k16 x1 x2 x4 (nI (p + 1)) S' ∧ TI S0 S' (p + 1) l' a' := by
  obtain ⟨t1, t2, t3, t4, t5, t6, t7⟩ := h
  obtain ⟨L1, L2, L3⟩ := PT_len t7
  obtain ⟨v, hv, ev⟩ := l_at y1 (m := mm) hm1 (by omega)
  obtain ⟨j, hj, ej⟩ := l_at ((x1 >>> (nI p &&& 31)) + nI p) (m := 10) (by omega) (by omega)
  -- to the number
  have hpre : ∃ (S1 : cr_S) (b : Nat), s_L_winds_52 k16 x1 x2 x4 (nI p) (nI mm) y1 S = s_L_winds_88 k16 x1 x2 x4 (nI p) (nI v) (nI (1 + j)) S1 ∧ EX S S1 l b ∧ b ≤ l + 1 ∧ ((p = 0 ∧ b = 0) ∨ (0 < p ∧ cdS S1 l = 44 ∧ b = l + 1)) := by
    by_cases e : p = 0
    · subst e
      have hl0 : l = 0 := t7.1
      subst hl0
      refine ⟨S, 0, ?_, ⟨fun _ _ => rfl, rfl, fun _ _ => rfl, t4, Nat.le_refl _⟩, by omega, Or.inl ⟨rfl, rfl⟩⟩
      simp (disch := omega) only [s_L_winds_52, ↓pm_bd, pm_lit, ev, ej, pm_cl, pm_add, pm_C, Nat.le_refl, ↓reduceIte]
    · have n0 : ¬ p ≤ 0 := by omega
      have n1 : ¬ l + 1 < 1 := by omega
      obtain ⟨S1, f1, f2, f3⟩ := w_app (n := 44) t4 (by omega) (by omega) (by omega)
      refine ⟨S1, l + 1, ?_, f2, by omega, Or.inr ⟨by omega, f3, rfl⟩⟩
      simp (disch := omega) only [s_L_winds_52, ↓pm_bd, pm_lit, ev, ej, pm_cl, pm_add, pm_C, n0, n1, f1, ↓reduceIte]
  obtain ⟨S1, b, p1, p2, p3, p4⟩ := hpre
  obtain ⟨S5, e, q1, q2, q3⟩ := w_88 k16 x1 x2 x4 (nI p) (v := v) (T := 1 + j) p2.2.2.2.1 (by omega) (by omega) (by omega) (by omega)
  have q4 := EX_tr p2 q2
  have h11 : S5.1 11 = S.1 11 := q4.1 11 (by omega)
  obtain ⟨h', r1, r2, r3, r4⟩ := l_127 k16 x1 x2 x4 p v (1 + j) (by omega) (by omega) (1 + j) 0 1200 a S5 (by omega) (by omega) (by omega) (by rw [h11]; exact t5) (by omega)
  refine ⟨cr_us S5 11 (cr_pa (S5.1 11) 0 h'), e, a + (1 + j), p1.trans (q1.trans r1), ?_⟩
  have hcd : cdS (cr_us S5 11 (cr_pa (S5.1 11) 0 h')) = cdS S5 := by
    funext k
    unfold cdS
    rw [cr_us_ne _ _ (by omega)]
  have hw1 : ∀ q, q < a → wS (cr_us S5 11 (cr_pa (S5.1 11) 0 h')) q = wS S q := fun q hq => by
    unfold wS
    rw [cr_us_eq, pm_pa, r3 q hq, h11]
  have hw2 : ∀ q, a ≤ q → q < a + (1 + j) → wS (cr_us S5 11 (cr_pa (S5.1 11) 0 h')) q = v := fun q hq1 hq2 => by
    unfold wS
    rw [cr_us_eq, pm_pa, r4 q hq1 hq2]
    exact nI_clamp (by omega)
  have hsn := sg_n q3
  refine ⟨fun f h1 h2 => by rw [cr_us_ne _ _ h2, q4.1 f h1]; exact t1 f h1 h2, by rw [cr_us_ne _ _ (by omega), q4.2.1]; exact t2, fun j hj => by rw [cr_us_eq, pm_pan _ _ hj, h11]; exact t3 j hj, tx_c q4.2.2.2.1 (us_lo (by omega)), by rw [cr_us_eq, pm_pa]; exact r2, fun q hq => ?_, ?_⟩
  · by_cases e9 : q < a
    · rw [hw1 q e9, cr_us_eq, pm_pa, r3 q e9, h11]
      exact t6 q e9
    · rw [hw2 q (by omega) hq, cr_us_eq, pm_pa, r4 q (by omega) hq]
  · rw [hcd]
    refine ⟨l, a, b, v, 1 + j, PT_c t7 (fun i hi => q4.2.2.1 i hi) (fun q hq => hw1 q hq), ?_, q3, rfl, hw2⟩
    rcases p4 with k | ⟨k1, k2, k3⟩
    · exact Or.inl k
    · exact Or.inr ⟨k1, (q2.2.2.1 l (by omega)).trans k2, k3⟩
/-! ### the class reads them -/
def wZ (Z : Nat → Int32) (w : Nat → Nat) (a : Nat) : Nat → Int32 := fun k => if k = 78 then nI a else if 79 ≤ k ∧ k < 127 then (if k - 79 < a then nI (w (k - 79)) else nI 0) else Z k
theorem wZ_o {Z : Nat → Int32} {w : Nat → Nat} {a : Nat} : ∀ k, (k < 78 ∨ 127 ≤ k) → wZ Z w a k = Z k := fun k hk => by
  simp only [wZ]
  rw [if_neg (by omega), if_neg (by omega)]
theorem wZ_r {Z : Nat → Int32} {w : Nat → Nat} {a : Nat} (ha : a ≤ 48) : ∀ i, i < a → wZ Z w a (79 + i) = nI (w i) := fun i hi => by
  simp only [wZ]
  rw [if_neg (by omega), if_pos (by omega), if_pos (by omega), show 79 + i - 79 = i by omega]
theorem a_load {S Sm : cr_S} {Z : Nat → Int32} {nT nB nL nP nW h c p l a : Nat} (H : RV S Z nT nB nL nP nW h c) (hp0 : 0 < p) (hp : p ≤ 4) (hT : TI S Sm p l a) : ∃ S', t_X8_load Sm = some (nI a, S') ∧ S'.1 11 0 0 = nI a ∧ DV S' h c := by
  obtain ⟨⟨hf, hJ, hE, hG, hK, hT6, hh⟩, hP, -, hc, hc6⟩ := H
  obtain ⟨t1, t2, t3, ⟨x1, x2, x3, x4⟩, t5, t6, t7⟩ := hT
  obtain ⟨L1, L2, L3⟩ := PT_len t7
  have hn := hJ.1.1
  have hA : ax (Sm.1 8) (cdS Sm) l := ⟨x2, x1, x3⟩
  obtain ⟨hs, hs10⟩ := PT_s t7 hp0
  have hcmp : s_X6_isComplete (Sm.1 8) = some true := by
    simp only [s_X6_isComplete, pm_lit]
    rw [← hs]
    exact qc_complete hA l 0 1200 rfl (by omega) (by omega)
  have hnc : s_X6_numberCount (Sm.1 8) = some (nI a) := by
    simp only [s_X6_numberCount, pm_lit]
    have k1 := PT_nc hA t7 (Nat.le_refl _) (Or.inl rfl) (1199 - l + 1)
    rw [show 1199 - l + 1 + l = 1200 by omega, nc_e hA] at k1
    exact k1
  obtain ⟨S1, c1, e1, e2, e3, e4, e5, e6, e7, e8, e9⟩ := a_sv0 x4 (by rw [t2]; exact hc) hc6
  have hA1 : ax ((cr_sp S1 0 11 1 (nI 0)).1 8) (cdS Sm) l := by
    have h8 : (cr_sp S1 0 11 1 (nI 0)).1 8 = S1.1 8 := cr_us_ne _ _ (by omega)
    rw [h8]
    exact ⟨x2, by rw [e4 2 (by omega)]; exact x1, fun k hk => by rw [e4 3 (by omega)]; exact x3 k hk⟩
  have h48 : a ≤ 48 := by omega
  obtain ⟨G', g1, g2, g3, g4⟩ := PT_wt t7 (Nat.le_refl _) (Or.inl rfl) h48 (1199 - l + 1) (cr_sp S1 0 11 1 (nI 0)) hA1 (by simp only [cr_sp, cr_us_eq, pm_pt, pm_u])
  have hw : s_X6_writeTo S1 = some (cr_us S1 0 G') := by
    simp only [s_X6_writeTo, ↓pm_bd, pm_lit]
    rw [show 1199 - l + 1 + l = 1200 by omega] at g1
    rw [g1]
    have hA2 : ax ((cr_us (cr_sp S1 0 11 1 (nI 0)) 0 G').1 8) (cdS Sm) l := by rw [cr_us_ne _ _ (by omega)]; exact hA1
    rw [wt_e hA2]
    simp only [cr_sp, cr_us_us]
  have g5 : ∀ j, j ≠ 11 → j ≠ 12 → G' j = S.1 0 j := fun j h1 h2 => by
    rw [g4 j h1 h2]
    simp only [cr_sp, cr_us_eq]
    rw [pm_ptne _ _ _ h1, e2, t1 0 (by omega) (by omega)]
  have z78 : wZ Z (wS Sm) a 78 = nI a := rfl
  have f2 : fr nT nB nL nP a G' (wZ Z (wS Sm) a) := fr_winds (by unfold okn at hn ⊢; omega) hf g5 wZ_o g2 (fun i hi => (g3 i hi).trans (wZ_r h48 i hi).symm)
  have J2 : J nT nB nL nP a h h (wZ Z (wS Sm) a) := J_winds hJ h48 wZ_o z78 (fun k hk => by
    rw [wZ_r h48 k hk]
    exact ⟨wS Sm k, by have := L3 k hk; omega, rfl⟩)
  have hR1 := e9 G' _ (BLK_of f2 J2 (by omega))
  have hg8 : (cr_us S1 0 G').1 8 = S1.1 8 := cr_us_ne _ _ (by omega)
  obtain ⟨S', hS'⟩ : ∃ S', S' = cr_us (cr_us S1 0 G') 8 (cr_pt (S1.1 8) 2 1 (nI 0)) := ⟨_, rfl⟩
  have hR2 : ∃ P, R S' P := by
    obtain ⟨P, hR⟩ := hR1
    obtain ⟨v, S2, P2, q1, -, -, q4⟩ := q_clear hR
    simp only [s_X8_clearBuffer, ↓pm_bd, pm_lit, cr_sp, hg8] at q1
    have h9 := (Prod.mk.inj (Option.some.inj q1)).2
    rw [hS', h9]
    exact ⟨P2, q4⟩
  have o9 : ∀ f, 9 ≤ f → S'.1 f = Sm.1 f := fun f hf => by rw [hS', cr_us_ne _ _ (by omega), cr_us_ne _ _ (by omega)]; exact e3 f hf
  have h0 : S'.1 0 = G' := by rw [hS', cr_us_ne _ _ (by omega), cr_us_eq]
  refine ⟨S', ?_, by rw [o9 11 (by omega)]; exact t5, wZ Z (wS Sm) a, nT, nB, nL, nP, a, h, c1, ⟨⟨by rw [h0]; exact f2, J2, jE_c hE (wZ_o _ (by omega)) (wZ_o _ (by omega)), ?_, ?_, hT6, hh⟩, hR2, ?_, ?_, e8⟩, by omega, e7⟩
  · have h0' : (cr_us (cr_us S1 0 G') 8 (cr_pt (S1.1 8) 2 1 (nI 0))).1 0 = G' := by rw [← hS']; exact h0
    simp (disch := omega) only [t_X8_load, ↓pm_bd, pm_lit, hcmp, pm_cl, hnc, pm_C, h48, e1, hw, cr_sp, hg8, h0', g2, ↓reduceIte]
    rw [← hS']
  · rw [o9 9 (by omega), t1 9 (by omega) (by omega)]
    exact aG_c hG hn.1 hn.2.2.1 hn.2.2.2.1 (fun k hk => wZ_o k (by omega))
  · rw [o9 11 (by omega)]
    refine ⟨fun k hk => ?_, ?_, ?_⟩
    · by_cases e : k = 0
      · subst e; exact t5
      · obtain ⟨q, rfl⟩ : ∃ q, k = 1 + q := ⟨k - 1, by omega⟩
        rw [t6 q (by omega), show 78 + (1 + q) = 79 + q by omega, wZ_r h48 q (by omega)]
    · rw [t3 1 (by omega)]; exact aS_c hK.2.1 (fun k hk => wZ_o k (by omega))
    · rw [t3 2 (by omega)]; exact aB_c hK.2.2 hn.2.1 (fun k hk => wZ_o k (by omega))
  · rw [hS', cr_us_eq, pm_pt, pm_u]
  · rw [hS', cr_us_eq, pm_ptne _ _ _ (by omega)]; exact e5
theorem w_16 {S0 : cr_S} {Z : Nat → Int32} {nT nB nL nP nW h c : Nat} (H : RV S0 Z nT nB nL nP nW h c) (x1 x2 : Int32) (m : Nat) (hm0 : 0 < m) (hm : m ≤ 4) : ∀ (d p n l a : Nat) (S : cr_S), m - p = d → d < n → p ≤ m → TI S0 S p l a → DN (s_L_winds_16 n x1 x2 (nI m) (nI p) S) h c := by
  intro d
  induction d with
  | zero =>
    intro p n l a S hd hn hp hT
    obtain ⟨n, rfl⟩ : ∃ k, n = k + 1 := ⟨n - 1, by omega⟩
    obtain rfl : p = m := by omega
    obtain ⟨S', e1, e2, e3⟩ := a_load H hm0 hm hT
    refine ⟨S', ?_, e3⟩
    simp (disch := omega) only [s_L_winds_16, pm_C, Nat.le_refl, e1, e2, pm_cl, ↓reduceIte]
  | succ d ih =>
    intro p n l a S hd hn hp hT
    obtain ⟨n, rfl⟩ : ∃ k, n = k + 1 := ⟨n - 1, by omega⟩
    have hcp : ¬ m ≤ p := by omega
    obtain ⟨j, hj, ej⟩ := l_at (x1 >>> (nI 2 &&& 31)) (m := 2) (by omega) (by omega)
    by_cases e : j = 0
    · subst e
      obtain ⟨S', l', a', r1, r2⟩ := w_52 (fun x1a x2a x4a x5a Sa => s_L_winds_16 n x1a x2a x4a x5a Sa) x1 x2 (nI m) (((x2 >>> (((3 : Int32) * nI p) &&& 31)) + ((7 : Int32) * nI p))) (mm := 31) hT (by omega) (by omega) (by omega)
      have st : s_L_winds_16 (n + 1) x1 x2 (nI m) (nI p) S = s_L_winds_16 n x1 x2 (nI m) (nI (p + 1)) S' := by
        rw [s_L_winds_16, if_neg (show ¬ nI m ≤ nI p from fun h => hcp ((nI_leI (by omega) (by omega)).mp h)), show s_L_at (x1 >>> ((2 : Int32) &&& 31)) (2 : Int32) = some (nI 0) from ej, pm_cl, if_pos (show nI 0 = (0 : Int32) from rfl)]
        exact r1
      rw [st]
      exact ih (p + 1) n l' a' S' (by omega) (by omega) (by omega) r2
    · obtain ⟨S', l', a', r1, r2⟩ := w_52 (fun x1a x2a x4a x5a Sa => s_L_winds_16 n x1a x2a x4a x5a Sa) x1 x2 (nI m) (((x2 >>> (((3 : Int32) * nI p) &&& 31)) + ((7 : Int32) * nI p))) (mm := 18) hT (by omega) (by omega) (by omega)
      have st : s_L_winds_16 (n + 1) x1 x2 (nI m) (nI p) S = s_L_winds_16 n x1 x2 (nI m) (nI (p + 1)) S' := by
        rw [s_L_winds_16, if_neg (show ¬ nI m ≤ nI p from fun h => hcp ((nI_leI (by omega) (by omega)).mp h)), show s_L_at (x1 >>> ((2 : Int32) &&& 31)) (2 : Int32) = some (nI j) from ej, pm_cl, if_neg (show ¬ nI j = (0 : Int32) from ne_lit (j := 0) (by omega) (by omega) e)]
        exact r1
      rw [st]
      exact ih (p + 1) n l' a' S' (by omega) (by omega) (by omega) r2
theorem a_0 {S : cr_S} {Z : Nat → Int32} {nT nB nL nP nW h c a0 : Nat} (H : RV S Z nT nB nL nP nW h c) (h2 : a0 < 2) (x y : Int32) : DN (s_L_act (nI a0) x y S) h c := by
  rw [act_0 x y S h2]
  obtain ⟨j, hj, ej⟩ := l_at x (m := 4) (by omega) (by omega)
  have key : DN (s_L_winds x y S) h c := by
    have st : s_L_winds x y S = s_L_winds_16 1200 x y (nI (1 + j)) (nI 0) (cr_us S 11 (cr_pt (S.1 11) 0 0 (nI 0))) := by
      simp only [s_L_winds, ↓pm_bd, pm_lit, ej, pm_cl, pm_add, cr_sp]
    rw [st]
    refine w_16 H x y (1 + j) (by omega) (by omega) (1 + j) 0 1200 0 0 _ (by omega) (by omega) (by omega) ⟨fun f h1 h2 => cr_us_ne _ _ h2, by rw [cr_us_ne _ _ (by omega)], fun j hj => by rw [cr_us_eq, pm_ptne _ _ _ hj], tx_c ⟨H.2.2.1, by omega, fun k hk => by omega, H.2.1⟩ (us_lo (by omega)), by rw [cr_us_eq, pm_pt, pm_u], fun q hq => by omega, rfl, rfl⟩
  obtain ⟨S', e1, e2⟩ := key
  refine ⟨S', ?_, e2⟩
  rw [e1, pm_cl]
/-- what the law does comes to true, and all is kept -/
theorem a_act {S : cr_S} {Z : Nat → Int32} {nT nB nL nP nW h c a : Nat} (H : RV S Z nT nB nL nP nW h c) (hh : h ≤ 1900) (ha : a < 18) (x y : Int32) : DN (s_L_act (nI a) x y S) h c := by
  by_cases h0 : a < 2
  · exact a_0 H h0 x y
  by_cases h1 : a = 2
  · subst h1; exact a_2 H x y
  by_cases h3 : a = 3
  · subst h3; exact a_3 H x y
  by_cases h4 : a < 6
  · exact a_4 H (by omega) h4 x y c (Or.inl (Nat.le_refl _))
  by_cases h6 : a < 8
  · exact a_7 H (by omega) h6 x y
  by_cases h8 : a < 11
  · exact a_8 H (by omega) h8 x y
  by_cases h11 : a = 11
  · subst h11; exact a_11 H x y
  by_cases h12 : a < 14
  · exact a_12 H (by omega) h12 x y
  · exact a_14 H hh (by omega) ha x y
