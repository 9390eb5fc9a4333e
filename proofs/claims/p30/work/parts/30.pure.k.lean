/-! ### into the plan -/
theorem qc_moveTo_36 (G : cr_G) (c p : Nat) (x : Int32) (hc : c < 10) (h8 : G 8 1 = nI c) (hp : p ≤ c) : ∀ (d k n : Nat) (h : Nat → Int32), k - p = d → d < n → p ≤ k → k ≤ c → s_X4_moveTo_36 n x (nI p) (nI k) (cr_pa G 9 h) = some (cr_pt (cr_pa G 9 (upd (sr h 0 p k) p x)) 8 1 (nI (c + 1))) := by
  intro d
  induction d with
  | zero =>
    intro k n h hd hn hk hkc
    obtain ⟨n, rfl⟩ : ∃ m, n = m + 1 := ⟨n - 1, by omega⟩
    obtain rfl : k = p := by omega
    simp (disch := omega) only [s_X4_moveTo_36, ↓pm_bd, pm_gd, pm_lit, pm_S, h8, pm_C, Nat.le_refl, sr_id, ↓reduceIte]
  | succ d ih =>
    intro k n h hd hn hk hkc
    obtain ⟨n, rfl⟩ : ∃ m, n = m + 1 := ⟨n - 1, by omega⟩
    have hck : ¬ k ≤ p := by omega
    simp (disch := omega) only [s_X4_moveTo_36, ↓pm_bd, pm_gd, ↓pm_m1, pm_lit, pm_S, pm_C, hck, pm_am1, ↓reduceIte]
    rw [ih (k - 1) n _ (by omega) (by omega) (by omega) (by omega), sr_step0 (by omega)]
def ins (Z : Nat → Int32) (p c : Nat) (x : Int32) : Nat → Int32 := upd (upd (sr Z 146 p c) (146 + p) x) 145 (nI (c + 1))
theorem ins_o {Z : Nat → Int32} {p c k : Nat} {x : Int32} (hp : p ≤ c) (hc : c < 10) (h : k < 145 ∨ 156 ≤ k) : ins Z p c x k = Z k := by
  unfold ins
  rw [pm_un _ _ (by omega), pm_un _ _ (by omega)]
  simp only [sr]
  rw [if_neg (by omega)]
theorem ins_145 {Z : Nat → Int32} {p c : Nat} {x : Int32} : ins Z p c x 145 = nI (c + 1) := pm_u _ _ _
theorem ins_r {Z : Nat → Int32} {p c k : Nat} {x : Int32} : ins Z p c x (146 + k) = if k = p then x else if p < k ∧ k ≤ c then Z (146 + (k - 1)) else Z (146 + k) := by
  unfold ins
  rw [pm_un _ _ (by omega)]
  by_cases e : k = p
  · subst e
    rw [pm_u, if_pos rfl]
  · rw [pm_un _ _ (by omega), if_neg e]
    simp only [sr]
    by_cases e2 : p < k ∧ k ≤ c
    · rw [if_pos (by omega), if_pos e2, show 146 + k - 1 = 146 + (k - 1) by omega]
    · rw [if_neg (by omega), if_neg e2]
theorem fr_ins {nT nB nL nW c p : Nat} {G : cr_G} {Z : Nat → Int32} {x : Int32} (hn : okn nT nB nL c nW) (hf : fr nT nB nL c nW G Z) (hp : p ≤ c) (hc : c < 10) : fr nT nB nL (c + 1) nW (cr_pt (cr_pa G 9 (upd (sr (G 9) 0 p c) p x)) 8 1 (nI (c + 1))) (ins Z p c x) := by
  have hn' : okn nT nB nL (c + 1) nW := by unfold okn at hn ⊢; omega
  have h1 : fr nT nB nL (c + 1) nW (cr_pa G 9 (upd (sr (G 9) 0 p c) p x)) (upd (sr Z 146 p c) (146 + p) x) := by
    refine fr_pa hn' hf (fun j i hj hl => ?_) (fun k hk => ?_) (fun i hl => ?_)
    · rcases hl with h | h | h | h | h | h | h | h | h | h | h | h | h | h | h
      · exact Or.inl h
      · exact Or.inr (Or.inl h)
      · exact Or.inr (Or.inr (Or.inl h))
      · exact Or.inr (Or.inr (Or.inr (Or.inl h)))
      · exact Or.inr (Or.inr (Or.inr (Or.inr (Or.inl h))))
      · exact Or.inr (Or.inr (Or.inr (Or.inr (Or.inr (Or.inl h)))))
      · exact Or.inr (Or.inr (Or.inr (Or.inr (Or.inr (Or.inr (Or.inl h))))))
      · exact Or.inr (Or.inr (Or.inr (Or.inr (Or.inr (Or.inr (Or.inr (Or.inl h)))))))
      · exact absurd h.1 hj
      · exact Or.inr (Or.inr (Or.inr (Or.inr (Or.inr (Or.inr (Or.inr (Or.inr (Or.inr (Or.inl h)))))))))
      · exact Or.inr (Or.inr (Or.inr (Or.inr (Or.inr (Or.inr (Or.inr (Or.inr (Or.inr (Or.inr (Or.inl h))))))))))
      · exact Or.inr (Or.inr (Or.inr (Or.inr (Or.inr (Or.inr (Or.inr (Or.inr (Or.inr (Or.inr (Or.inr (Or.inl h)))))))))))
      · exact Or.inr (Or.inr (Or.inr (Or.inr (Or.inr (Or.inr (Or.inr (Or.inr (Or.inr (Or.inr (Or.inr (Or.inr (Or.inl h))))))))))))
      · exact Or.inr (Or.inr (Or.inr (Or.inr (Or.inr (Or.inr (Or.inr (Or.inr (Or.inr (Or.inr (Or.inr (Or.inr (Or.inr (Or.inl h)))))))))))))
      · exact Or.inr (Or.inr (Or.inr (Or.inr (Or.inr (Or.inr (Or.inr (Or.inr (Or.inr (Or.inr (Or.inr (Or.inr (Or.inr (Or.inr h)))))))))))))
    · have h9 := @rw_9 k
      have hk' : ¬ (146 ≤ k ∧ k < 156) := fun h => hk (h9 h)
      rw [pm_un _ _ (by omega)]
      simp only [sr]
      rw [if_neg (by omega)]
    · have hi : i < c + 1 := by simpa [lvp] using hl
      show upd (sr (G 9) 0 p c) p x i = upd (sr Z 146 p c) (146 + p) x (146 + i)
      by_cases e : i = p
      · subst e
        rw [pm_u, pm_u]
      · rw [pm_un _ _ e, pm_un _ _ (by omega)]
        simp only [sr]
        by_cases e2 : p < i ∧ i ≤ c
        · rw [if_pos (by omega), if_pos (by omega), fr_pr hf (by omega), show 146 + i - 1 = 146 + (i - 1) by omega]
        · rw [if_neg (by omega), if_neg (by omega), fr_pr hf (by omega)]
  exact fr_pt (nI (c + 1)) hn' h1 (by simp [lvp])
theorem J_ins {nT nB nL nW c p h g t : Nat} {Z : Nat → Int32} (hJ : J nT nB nL c nW h g Z) (hp : p ≤ c) (hc : c < 10) (ht : t < nT) (hno : ∀ i, i < c → Z (146 + i) ≠ nI t) : J nT nB nL (c + 1) nW h g (ins Z p c (nI t)) := by
  obtain ⟨a1, a2, a3, a4, a5, a6, a7, a8, a9, a10⟩ := hJ
  have hn := a1.1
  obtain ⟨b0, b1, b2, b3, b4, b5, b6⟩ := a1
  refine ⟨⟨by unfold okn at hn ⊢; omega, ?_, ?_, ?_, ins_145, ?_, ?_⟩, jS_c a2 (ins_o hp hc (by omega)) (ins_o hp hc (by omega)), jT_c a3 hn.1 (fun k hk => ins_o hp hc (by omega)), jG_c a4 hn.1 (fun k hk => ins_o hp hc (by omega)), jQ_c a5 hn.1 (fun k hk => ins_o hp hc (by omega)), ⟨fun k hk => ?_, fun k k' hk hk' he => ?_⟩, jK_c a7 (fun k hk => ins_o hp hc (by omega)), jB_c a8 hn.2.1 (fun k hk => ins_o hp hc (by omega)), jW_c a9 hn.2.2.2.2 (fun k hk => ins_o hp hc (by omega)), jD_c a10 (fun k hk => ins_o hp hc (by omega))⟩
  · rw [ins_o hp hc (by omega)]; exact b1
  · rw [ins_o hp hc (by omega)]; exact b2
  · rw [ins_o hp hc (by omega)]; exact b3
  · rw [ins_o hp hc (by omega)]; exact b5
  · rw [ins_o hp hc (by omega)]; exact b6
  · rw [ins_r]
    split
    · exact ⟨t, ht, rfl⟩
    · split
      · exact a6.1 (k - 1) (by omega)
      · exact a6.1 k (by omega)
  · rw [ins_r, ins_r] at he
    by_cases e : k = p
    · by_cases e' : k' = p
      · omega
      · rw [if_pos e, if_neg e'] at he
        split at he
        · exact absurd he.symm (hno (k' - 1) (by omega))
        · exact absurd he.symm (hno k' (by omega))
    · by_cases e' : k' = p
      · rw [if_neg e, if_pos e'] at he
        split at he
        · exact absurd he (hno (k - 1) (by omega))
        · exact absurd he (hno k (by omega))
      · rw [if_neg e, if_neg e'] at he
        split at he <;> split at he
        · have := a6.2 (k - 1) (k' - 1) (by omega) (by omega) he
          omega
        · have := a6.2 (k - 1) k' (by omega) (by omega) he
          omega
        · have := a6.2 k (k' - 1) (by omega) (by omega) he
          omega
        · exact a6.2 k k' (by omega) (by omega) he
/-- a turbine that is in the plan moves to a place -/
theorem q_move {nT nB nL nW c q p h g : Nat} {G : cr_G} {Z : Nat → Int32} (hf : fr nT nB nL c nW G Z) (hJ : J nT nB nL c nW h g Z) (hq : q < c) (hp : p < c) : ∃ G', s_X4_moveTo (Z (146 + q)) (nI p) G = some G' ∧ fr nT nB nL c nW G' (ins (tk Z q c) p (c - 1) (Z (146 + q))) ∧ J nT nB nL c nW h g (ins (tk Z q c) p (c - 1) (Z (146 + q))) := by
  have hn := hJ.1.1
  have hc := hn.2.2.2.1
  have hjP := hJ.2.2.2.2.2.1
  have h8 := (fr_p hf).trans hJ.1.2.2.2.2.1
  obtain ⟨t, ht, hz⟩ := hjP.1 q hq
  have f1 := fr_tk hn hf hq
  have J1 := J_tk hJ hq
  have hno : ∀ i, i < c - 1 → tk Z q c (146 + i) ≠ nI t := by
    intro i hi he
    rw [tk_r, ← hz] at he
    split at he
    · have := hjP.2 (i + 1) q (by omega) hq he
      omega
    · have := hjP.2 i q (by omega) hq he
      omega
  have f2 := fr_ins (p := p) (x := Z (146 + q)) J1.1.1 f1 (by omega) (by omega)
  have J2 := J_ins (p := p) J1 (by omega) (by omega) ht hno
  rw [← hz] at J2
  rw [show c - 1 + 1 = c by omega] at f2 J2
  refine ⟨_, ?_, f2, J2⟩
  have hpl := qc_placeOf_at (x := Z (146 + q)) hc h8 hq (fr_pr hf hq) (fun i hi he => by
    rw [fr_pr hf (by omega)] at he
    have := hjP.2 i q (by omega) hq he
    omega)
  have hrm := qc_removeAt hc h8 hq
  have h8' : (cr_pa (cr_pt G 8 1 (nI (c - 1))) 9 (sl (G 9) 0 q (c - 1))) 8 1 = nI (c - 1) := by
    rw [pm_pan _ _ (by omega), pm_pt, pm_u]
  have n1 : ¬ p < 0 := by omega
  have n2 : ¬ c - 1 < p := by omega
  have n3 : c - 1 < 10 := by omega
  have hmv := qc_moveTo_36 (cr_pt G 8 1 (nI (c - 1))) (c - 1) p (Z (146 + q)) n3 (by rw [pm_pt, pm_u]) (by omega) (c - 1 - p) (c - 1) 1200 (sl (G 9) 0 q (c - 1)) rfl (by omega) (by omega) (by omega)
  simp only [s_X4_moveTo, hpl, pm_cl, hrm, h8']
  simp (disch := omega) only [pm_lit, pm_C, n1, n2, n3, ↓reduceIte, ↓pm_bd]
  rw [hmv]
  rw [pm_pa, pm_papa, show c - 1 + 1 = c by omega]
/-! ### which would be best first -/
theorem qm_bestNow_30 (k20 : Int32 → Int32 → Int32 → Int32 → cr_G → Option (Int32 × cr_G)) (M : cr_G) (x1 x2 x3 : Int32) (a : Nat) : ∀ (k n : Nat) (Z : Nat → Int32), k < n → k ≤ 9 → ∃ m, s_X9_bestNow_30 k20 n x1 x2 x3 (nI a) (nI k) (cr_pa M 1 Z) = s_X9_bestNow_30 k20 (m + 1) x1 x2 x3 (nI a) (nI 0) (cr_pa M 1 (sr Z 146 0 k)) := by
  intro k
  induction k with
  | zero =>
    intro n Z hn hk
    obtain ⟨n, rfl⟩ : ∃ m, n = m + 1 := ⟨n - 1, by omega⟩
    exact ⟨n, by rw [sr_id (Nat.le_refl _)]⟩
  | succ k ih =>
    intro n Z hn hk
    obtain ⟨n, rfl⟩ : ∃ m, n = m + 1 := ⟨n - 1, by omega⟩
    have hck : ¬ k + 1 ≤ 0 := by omega
    obtain ⟨m, hm⟩ := ih n (upd Z (146 + (k + 1)) (Z (146 + (k + 1) - 1))) (by omega) (by omega)
    refine ⟨m, ?_⟩
    have e9 := sr_step (f := Z) (a := 146) (p := 0) (c := k + 1) (by omega)
    rw [show k + 1 - 1 = k from rfl] at e9
    rw [e9] at hm
    rw [← hm]
    simp (disch := omega) only [s_X9_bestNow_30, ↓pm_bd, pm_gd, ↓pm_m1, pm_lit, pm_S, pm_C, hck, pm_am1, ↓reduceIte]
    rfl
theorem q_best_loop {nT nB nL nW c h g : Nat} {S : cr_S} {M : cr_G} (hf : fr nT nB nL c nW (S.1 0) (M 1)) (hJ : J nT nB nL c nW h g (M 1)) (hh : h < 50000) : ∀ (d k n n' : Nat) (b l : Int32) (Gx M1 : cr_G), c - k = d → d < n → d < n' → k ≤ c → scr M M1 → (∀ q, q < 184 → M1 2 q = M 1 q) → (b = mI ∨ ∃ k', k' < k ∧ b = M 1 (146 + k')) → ∃ (v : Int32) (Gy M2 : cr_G), s_X8_bestFirst_6 n b l (nI k) (cr_us S 1 Gx) = some (v, cr_us S 1 Gy) ∧ s_X9_bestNow_20 n' b l (nI c) (nI k) M1 = some (v, M2) ∧ scr M M2 := by
  have hn := hJ.1.1
  have hc := hn.2.2.2.1
  have hjP := hJ.2.2.2.2.2.1
  have h8 := (fr_p hf).trans hJ.1.2.2.2.2.1
  have g0 : ∀ X, (cr_us S 1 X).1 0 = S.1 0 := fun X => cr_us_ne S X (by decide)
  have g1 : ∀ X, (cr_us S 1 X).1 1 = X := fun X => cr_us_eq S 1 X
  intro d
  induction d with
  | zero =>
    intro k n n' b l Gx M1 hd hn1 hn2 hk hs ha hb
    obtain ⟨n, rfl⟩ : ∃ m, n = m + 1 := ⟨n - 1, by omega⟩
    obtain ⟨n', rfl⟩ : ∃ m, n' = m + 1 := ⟨n' - 1, by omega⟩
    have hck : c ≤ k := by omega
    refine ⟨b, Gx, M1, ?_, ?_, hs⟩
    · simp (disch := omega) only [s_X8_bestFirst_6, g0, h8, pm_C, hck, ↓reduceIte]
    · simp (disch := omega) only [s_X9_bestNow_20, pm_C, hck, ↓reduceIte]
  | succ d ih =>
    intro k n n' b l Gx M1 hd hn1 hn2 hk hs ha hb
    obtain ⟨n, rfl⟩ : ∃ m, n = m + 1 := ⟨n - 1, by omega⟩
    obtain ⟨n', rfl⟩ : ∃ m, n' = m + 1 := ⟨n' - 1, by omega⟩
    have hck : ¬ c ≤ k := by omega
    have hkc : k < c := by omega
    have h9 : S.1 0 9 k = M 1 (146 + k) := fr_pr hf hkc
    obtain ⟨G1, c1, f1⟩ := q_copy hn hf hJ.1.2.1 Gx
    obtain ⟨G2, c2, f2, J2⟩ := q_move (p := 0) f1 hJ hkc (by omega)
    have hk184 : ∀ q, q < 184 → upd (sr (M1 1) 146 0 k) 146 (M 1 (146 + k)) q = ins (tk (M 1) k c) 0 (c - 1) (M 1 (146 + k)) q := by
      intro q hq
      by_cases e1 : 146 ≤ q ∧ q < 156
      · obtain ⟨i, rfl⟩ : ∃ i, q = 146 + i := ⟨q - 146, by omega⟩
        rw [ins_r]
        by_cases e2 : i = 0
        · subst e2
          rw [if_pos rfl, pm_u]
        · rw [if_neg e2, pm_un _ _ (by omega)]
          simp only [sr]
          by_cases e3 : i ≤ k
          · rw [if_pos (by omega), if_pos (by omega), tk_r, if_neg (by omega), show 146 + i - 1 = 146 + (i - 1) by omega, hs.2 _ (by omega)]
          · rw [if_neg (by omega)]
            by_cases e4 : i ≤ c - 1
            · rw [if_pos (by omega), tk_r, if_pos (by omega), show i - 1 + 1 = i by omega, hs.2 _ (by omega)]
            · rw [if_neg (by omega), tk_r, if_neg (by omega), hs.2 _ (by omega)]
      · by_cases e5 : q = 145
        · subst e5
          rw [ins_145, pm_un _ _ (by omega), show c - 1 + 1 = c by omega]
          simp only [sr]
          rw [if_neg (by omega), hs.2 _ (by omega)]
          exact hJ.1.2.2.2.2.1
        · rw [ins_o (by omega) (by omega) (by omega), tk_o hc (by omega), pm_un _ _ (by omega)]
          simp only [sr]
          rw [if_neg (by omega), hs.2 _ hq]
    have f3 := fr_c hn f2 hk184
    have J3 := J_c184 J2 hk184
    obtain ⟨nL', nP', v1, G4, Z4, d1, d2, d3, d4⟩ := q_runHours (M := M1) (K := 48) f3 J3 (by omega) (by omega)
    have hm1 : M1 = cr_pa M1 1 (M1 1) := (pm_self M1 1).symm
    obtain ⟨m, hm⟩ := qm_bestNow_30 (fun x1a x2a x3a x4a Ga => s_X9_bestNow_20 n' x1a x2a x3a x4a Ga) M1 b l (nI c) k k 1200 (M1 1) (by omega) (by omega)
    rw [← hm1] at hm
    have ha2 : M1 2 (146 + k) = M 1 (146 + k) := ha _ (by omega)
    have hs' : scr M (cr_pa M1 1 (c184 (M1 2) Z4 0)) := by
      refine ⟨fun j h1 h2 => ?_, fun q hq => ?_⟩
      · rw [pm_pan _ _ h1]
        exact hs.1 j h1 h2
      · rw [pm_pa, c184_in hq]
        exact ha q hq
    have ha' : ∀ q, q < 184 → cr_pa M1 1 (c184 (M1 2) Z4 0) 2 q = M 1 q := fun q hq => by
      rw [pm_pan _ _ (by omega)]
      exact ha q hq
    -- the class takes it, or not
    have go : ∀ b' l' : Int32, (b' = M 1 (146 + k) ∨ b' = b ∧ ¬ b = mI) → s_X8_bestFirst_6 (n + 1) b l (nI k) (cr_us S 1 Gx) = s_X8_bestFirst_6 n b' l' (nI (k + 1)) (cr_us S 1 G4) → s_X9_bestNow_20 (n' + 1) b l (nI c) (nI k) M1 = s_X9_bestNow_20 n' b' l' (nI c) (nI (k + 1)) (cr_pa M1 1 (c184 (M1 2) Z4 0)) → ∃ (v : Int32) (Gy M2 : cr_G), s_X8_bestFirst_6 (n + 1) b l (nI k) (cr_us S 1 Gx) = some (v, cr_us S 1 Gy) ∧ s_X9_bestNow_20 (n' + 1) b l (nI c) (nI k) M1 = some (v, M2) ∧ scr M M2 := by
      intro b' l' hb' e1 e2
      rw [e1, e2]
      refine ih (k + 1) n n' b' l' G4 _ (by omega) (by omega) (by omega) (by omega) hs' ha' ?_
      rcases hb' with rfl | ⟨rfl, hbm⟩
      · exact Or.inr ⟨k, by omega, rfl⟩
      · rcases hb with h | ⟨k', h1, h2⟩
        · exact absurd h hbm
        · exact Or.inr ⟨k', by omega, h2⟩
    have cls : ∀ r, (if b = mI then s_X8_bestFirst_6 n (M 1 (146 + k)) v1 (nI (k + 1)) (cr_us S 1 G4) else if l ≤ v1 then s_X8_bestFirst_6 n b l (nI (k + 1)) (cr_us S 1 G4) else s_X8_bestFirst_6 n (M 1 (146 + k)) v1 (nI (k + 1)) (cr_us S 1 G4)) = r → s_X8_bestFirst_6 (n + 1) b l (nI k) (cr_us S 1 Gx) = r := by
      intro r hr
      rw [← hr]
      simp (disch := omega) only [s_X8_bestFirst_6, ↓pm_bd, pm_gd, ↓pm_m1, pm_lit, pm_S, pm_C, g0, g1, h8, hck, h9, c1, pm_cl, cr_us_us, c2, d1, ↓reduceIte]
    have mdl : ∀ r, (if b = mI then s_X9_bestNow_20 n' (M 1 (146 + k)) v1 (nI c) (nI (k + 1)) (cr_pa M1 1 (c184 (M1 2) Z4 0)) else if l ≤ v1 then (if b = M 1 (146 + k) then s_X9_bestNow_20 n' b v1 (nI c) (nI (k + 1)) (cr_pa M1 1 (c184 (M1 2) Z4 0)) else s_X9_bestNow_20 n' b l (nI c) (nI (k + 1)) (cr_pa M1 1 (c184 (M1 2) Z4 0))) else s_X9_bestNow_20 n' (M 1 (146 + k)) v1 (nI c) (nI (k + 1)) (cr_pa M1 1 (c184 (M1 2) Z4 0))) = r → s_X9_bestNow_20 (n' + 1) b l (nI c) (nI k) M1 = r := by
      intro r hr
      rw [← hr]
      have e0 : s_X9_bestNow_20 (n' + 1) b l (nI c) (nI k) M1 = s_X9_bestNow_30 (fun x1a x2a x3a x4a Ga => s_X9_bestNow_20 n' x1a x2a x3a x4a Ga) 1200 b l (nI c) (nI k) (nI k) M1 := by
        simp (disch := omega) only [s_X9_bestNow_20, pm_C, hck, ↓reduceIte]
      rw [e0, hm]
      simp (disch := omega) only [s_X9_bestNow_30, s_X9_bestNow_118, s_X9_bestNow_140, ↓pm_bd, pm_gd, ↓pm_m1, pm_lit, pm_S, pm_C, Nat.le_refl, ha2, d2, pm_cl, qm_bring, ↓reduceIte]
    by_cases e1 : b = mI
    · refine go (M 1 (146 + k)) v1 (Or.inl rfl) (cls _ ?_) (mdl _ ?_)
      · rw [if_pos e1]
      · rw [if_pos e1]
    · by_cases e2 : l ≤ v1
      · have hbx : ¬ b = M 1 (146 + k) := by
          rcases hb with h | ⟨k', h1, h2⟩
          · exact absurd h e1
          · intro he
            have := hjP.2 k' k (by omega) hkc (h2.symm.trans he)
            omega
        refine go b l (Or.inr ⟨rfl, e1⟩) (cls _ ?_) (mdl _ ?_)
        · rw [if_neg e1, if_pos e2]
        · rw [if_neg e1, if_pos e2, if_neg hbx]
      · refine go (M 1 (146 + k)) v1 (Or.inl rfl) (cls _ ?_) (mdl _ ?_)
        · rw [if_neg e1, if_neg e2]
        · rw [if_neg e1, if_neg e2]
theorem q_best {nT nB nL nW c h g : Nat} {S : cr_S} {M : cr_G} (hf : fr nT nB nL c nW (S.1 0) (M 1)) (hJ : J nT nB nL c nW h g (M 1)) (hh : h < 50000) : ∃ (v : Int32) (Gy M2 : cr_G), s_X8_bestFirst S = some (v, cr_us S 1 Gy) ∧ s_X9_bestNow M = some (v, M2) ∧ scr M M2 := by
  have hs : scr M (cr_pa M 2 (c184 (M 1) (M 2) 0)) := ⟨fun j h1 h2 => pm_pan _ _ h2, fun q hq => by rw [pm_pan _ _ (by omega)]⟩
  obtain ⟨v, Gy, M2, e1, e2, e3⟩ := q_best_loop hf hJ hh c 0 1200 1200 mI (nI 0) (S.1 1) (cr_pa M 2 (c184 (M 1) (M 2) 0)) rfl (by have := hJ.1.1.2.2.2.1; omega) (by have := hJ.1.1.2.2.2.1; omega) (Nat.zero_le _) hs (fun q hq => by rw [pm_pa, c184_in hq]) (Or.inl rfl)
  rw [cr_us_self] at e1
  refine ⟨v, Gy, M2, ?_, ?_, e3⟩
  · simp only [s_X8_bestFirst, ↓pm_m1, pm_lit]
    exact e1
  · have h145 : cr_pa M 2 (c184 (M 1) (M 2) 0) 1 145 = nI c := by rw [pm_pan _ _ (by omega)]; exact hJ.1.2.2.2.2.1
    simp only [s_X9_bestNow, qm_keep, pm_cl, ↓pm_bd, ↓pm_m1, pm_lit, h145]
    exact e2
/-! ### when it would be done -/
theorem q_done_loop {nT nB nW : Nat} {S : cr_S} (M : cr_G) : ∀ (d k n n' nL nP h g : Nat) (G : cr_G) (Z : Nat → Int32), 501 - k = d → d < n → d < n' → k ≤ 501 → h + d < 50000 → fr nT nB nL nP nW G Z → J nT nB nL nP nW h g Z → ∃ (v : Int32) (Gy : cr_G) (Z' : Nat → Int32), s_X8_doneIn_13 n (nI k) (cr_us S 1 G) = some (v, cr_us S 1 Gy) ∧ s_X9_doneNow_6 n' (nI k) (cr_pa M 1 Z) = some (v, cr_pa M 1 (c184 (M 2) Z' 0)) := by
  have g1 : ∀ X, (cr_us S 1 X).1 1 = X := fun X => cr_us_eq S 1 X
  intro d
  induction d with
  | zero =>
    intro k n n' nL nP h g G Z hd hn1 hn2 hk hh hf hJ
    obtain ⟨n, rfl⟩ : ∃ m, n = m + 1 := ⟨n - 1, by omega⟩
    obtain ⟨n', rfl⟩ : ∃ m, n' = m + 1 := ⟨n' - 1, by omega⟩
    obtain rfl : k = 501 := by omega
    refine ⟨mI, G, Z, ?_, ?_⟩
    · simp +decide (disch := omega) only [s_X8_doneIn_13, ↓pm_m1, pm_lit, pm_C, ↓reduceIte]
    · simp +decide (disch := omega) only [s_X9_doneNow_6, s_X9_doneNow_35, ↓pm_m1, pm_lit, pm_C, qm_bring, pm_cl, ↓reduceIte]
  | succ d ih =>
    intro k n n' nL nP h g G Z hd hn1 hn2 hk hh hf hJ
    obtain ⟨n, rfl⟩ : ∃ m, n = m + 1 := ⟨n - 1, by omega⟩
    obtain ⟨n', rfl⟩ : ∃ m, n' = m + 1 := ⟨n' - 1, by omega⟩
    have k1 : ¬ 500 < k := by omega
    have k2 : ¬ 501 ≤ k := by omega
    have k3 : k ≤ 500 := by omega
    have hP := hJ.1.1.2.2.2.1
    have h145 := hJ.1.2.2.2.2.1
    have h8 := (fr_p hf).trans h145
    by_cases e : nP = 0
    · subst e
      refine ⟨nI k, G, Z, ?_, ?_⟩
      · simp (disch := omega) only [s_X8_doneIn_13, pm_lit, pm_C, k1, g1, h8, ↓reduceIte]
      · simp (disch := omega) only [s_X9_doneNow_6, s_X9_doneNow_35, pm_lit, pm_pa, pm_C, k2, k3, h145, Nat.le_refl, qm_bring, pm_cl, ↓reduceIte]
    · have e1 : ¬ nP ≤ 0 := by omega
      obtain ⟨nL1, nP1, v1, G1, Z1, b1, b2, b3, b4⟩ := q_hour (M := M) hf hJ (by omega)
      obtain ⟨v, Gy, Z', c1, c2⟩ := ih (k + 1) n n' nL1 nP1 (h + 1) (g + 1) G1 Z1 (by omega) (by omega) (by omega) (by omega) (by omega) b3 b4
      refine ⟨v, Gy, Z', ?_, ?_⟩
      · simp (disch := omega) only [s_X8_doneIn_13, ↓pm_bd, pm_lit, pm_C, k1, g1, h8, e, b1, pm_cl, cr_us_us, pm_add, ↓reduceIte]
        exact c1
      · simp (disch := omega) only [s_X9_doneNow_6, ↓pm_bd, pm_lit, pm_pa, pm_C, k2, h145, e1, b2, pm_cl, pm_add, ↓reduceIte]
        exact c2
theorem q_done {nT nB nL nP nW h g : Nat} {S : cr_S} {M : cr_G} (hf : fr nT nB nL nP nW (S.1 0) (M 1)) (hJ : J nT nB nL nP nW h g (M 1)) (hh : h < 40000) : ∃ (v : Int32) (Gy M2 : cr_G), s_X8_doneIn S = some (v, cr_us S 1 Gy) ∧ s_X9_doneNow M = some (v, M2) ∧ scr M M2 := by
  obtain ⟨G1, c1, f1⟩ := q_copy hJ.1.1 hf hJ.1.2.1 (S.1 1)
  obtain ⟨v, Gy, Z', e1, e2⟩ := q_done_loop (S := S) (cr_pa M 2 (c184 (M 1) (M 2) 0)) 501 0 1200 1200 nL nP h g G1 (M 1) rfl (by omega) (by omega) (by omega) (by omega) f1 hJ
  have e0 : cr_pa M 2 (c184 (M 1) (M 2) 0) = cr_pa (cr_pa M 2 (c184 (M 1) (M 2) 0)) 1 (M 1) := by
    have := pm_self (cr_pa M 2 (c184 (M 1) (M 2) 0)) 1
    rw [pm_pan M _ (show (1 : Nat) ≠ 2 by omega)] at this
    exact this.symm
  refine ⟨v, Gy, cr_pa (cr_pa M 2 (c184 (M 1) (M 2) 0)) 1 (c184 (cr_pa M 2 (c184 (M 1) (M 2) 0) 2) Z' 0), ?_, ?_, ?_⟩
  · simp only [s_X8_doneIn, c1, pm_cl, ↓pm_bd, pm_lit]
    exact e1
  · simp only [s_X9_doneNow, qm_keep, pm_cl, pm_lit]
    rw [← e0] at e2
    exact e2
  · refine ⟨fun j h1 h2 => ?_, fun q hq => ?_⟩
    · rw [pm_pan _ _ h1, pm_pan _ _ h2]
    · rw [pm_pa, c184_in hq, pm_pa, c184_in hq]
