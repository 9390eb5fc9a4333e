/-! ### the law's loop, by its cases -/
def CS (f : (Nat → Int32) → Nat → (Int32 → cr_S → Option Unit) → Int32 → cr_S → Option Unit) : Prop := ∀ (xs : Nat → Int32) (L j : Nat) (S : cr_S), 4 * j + 4 ≤ L → L ≤ 2048 → R S (S.1 9) → ∀ k23 : Int32 → cr_S → Option Unit, ∃ S', f xs L k23 (nI (4 * j)) S = k23 (nI (4 * j + 4)) S' ∧ R S' (S'.1 9)
theorem w_loop (H749 : CS s_L_law_749) (H762 : CS s_L_law_762) (H1452 : CS s_L_law_1452) (H1495 : CS s_L_law_1495) (H1536 : CS s_L_law_1536) (xs : Nat → Int32) (L : Nat) (hL : L ≤ 2048) : ∀ (d j n : Nat) (S : cr_S), 512 - j = d → d < n → j ≤ 512 → R S (S.1 9) → s_L_law_23 xs L n (nI (4 * j)) S = some () := by
  intro d
  induction d with
  | zero =>
    intro j n S hd hn hj hR
    obtain ⟨n, rfl⟩ : ∃ m, n = m + 1 := ⟨n - 1, by omega⟩
    have hlt : nI L - 4 < nI (4 * j) := Decidable.byContradiction fun h => by
      have := cr_law_j hL hj rfl h
      omega
    unfold s_L_law_23
    rw [if_pos hlt]
  | succ d ih =>
    intro j n S hd hn hj hR
    obtain ⟨n, rfl⟩ : ∃ m, n = m + 1 := ⟨n - 1, by omega⟩
    unfold s_L_law_23
    by_cases hlt : nI L - 4 < nI (4 * j)
    · rw [if_pos hlt]
    · have h4 : 4 * j + 4 ≤ L := by
        by_cases e : 4 ≤ L
        · rw [show (4 : Int32) = nI 4 from rfl, pk_sub e, nI_ltI (by omega) (by omega)] at hlt
          omega
        · exfalso
          apply hlt
          have h1 := pk_sneg (a := L) (b := 4) (by omega) (by omega)
          have h2 : (0 : Int32) ≤ nI (4 * j) := nI_pos' (by omega)
          exact Int32.lt_of_lt_of_le h1 h2
      have nx : ∀ S', R S' (S'.1 9) → s_L_law_23 xs L n (nI (4 * j + 4)) S' = some () := fun S' h => by
        rw [show 4 * j + 4 = 4 * (j + 1) by omega]
        exact ih (j + 1) n S' (by omega) (by omega) (by omega) h
      rw [if_neg hlt, pm_in (show 4 * j < L by omega) (by omega), pm_gd]
      by_cases e0 : (xs (nI (4 * j)).toNatClampNeg &&& (31 : Int32)) = 0
      · rw [if_pos e0]
        obtain ⟨S2, h1, h2⟩ := w_160 h4 hL hR (fun x4a Sa => s_L_law_23 xs L n x4a Sa)
        exact h1.trans (nx S2 h2)
      rw [if_neg e0]
      by_cases e1 : (xs (nI (4 * j)).toNatClampNeg &&& (31 : Int32)) = 1
      · rw [if_pos e1]
        obtain ⟨S2, h1, h2⟩ := w_240 h4 hL hR (fun x4a Sa => s_L_law_23 xs L n x4a Sa)
        exact h1.trans (nx S2 h2)
      rw [if_neg e1]
      by_cases e2 : (xs (nI (4 * j)).toNatClampNeg &&& (31 : Int32)) = 2
      · rw [if_pos e2]
        obtain ⟨S2, h1, h2⟩ := w_308 h4 hL hR (fun x4a Sa => s_L_law_23 xs L n x4a Sa)
        exact h1.trans (nx S2 h2)
      rw [if_neg e2]
      by_cases e3 : (xs (nI (4 * j)).toNatClampNeg &&& (31 : Int32)) = 3
      · rw [if_pos e3]
        obtain ⟨S2, h1, h2⟩ := w_376 h4 hL hR (fun x4a Sa => s_L_law_23 xs L n x4a Sa)
        exact h1.trans (nx S2 h2)
      rw [if_neg e3]
      by_cases e4 : (xs (nI (4 * j)).toNatClampNeg &&& (31 : Int32)) = 4
      · rw [if_pos e4]
        obtain ⟨S2, h1, h2⟩ := w_444 h4 hL hR (fun x4a Sa => s_L_law_23 xs L n x4a Sa)
        exact h1.trans (nx S2 h2)
      rw [if_neg e4]
      by_cases e5 : (xs (nI (4 * j)).toNatClampNeg &&& (31 : Int32)) = 5
      · rw [if_pos e5]
        obtain ⟨S2, h1, h2⟩ := w_512 h4 hL hR (fun x4a Sa => s_L_law_23 xs L n x4a Sa)
        exact h1.trans (nx S2 h2)
      rw [if_neg e5]
      by_cases e6 : (xs (nI (4 * j)).toNatClampNeg &&& (31 : Int32)) = 6
      · rw [if_pos e6]
        obtain ⟨S2, h1, h2⟩ := w_568 h4 hL hR (fun x4a Sa => s_L_law_23 xs L n x4a Sa)
        exact h1.trans (nx S2 h2)
      rw [if_neg e6]
      by_cases e7 : (xs (nI (4 * j)).toNatClampNeg &&& (31 : Int32)) = 7
      · rw [if_pos e7]
        obtain ⟨S2, h1, h2⟩ := w_624 h4 hL hR (fun x4a Sa => s_L_law_23 xs L n x4a Sa)
        exact h1.trans (nx S2 h2)
      rw [if_neg e7]
      by_cases e8 : (xs (nI (4 * j)).toNatClampNeg &&& (31 : Int32)) = 8
      · rw [if_pos e8]
        obtain ⟨S2, h1, h2⟩ := w_680 h4 hL hR (fun x4a Sa => s_L_law_23 xs L n x4a Sa)
        exact h1.trans (nx S2 h2)
      rw [if_neg e8]
      by_cases e9 : (xs (nI (4 * j)).toNatClampNeg &&& (31 : Int32)) = 9
      · rw [if_pos e9]
        obtain ⟨S2, h1, h2⟩ := w_736 h4 hL hR (fun x4a Sa => s_L_law_23 xs L n x4a Sa)
        exact h1.trans (nx S2 h2)
      rw [if_neg e9]
      by_cases e10 : (xs (nI (4 * j)).toNatClampNeg &&& (31 : Int32)) = 10
      · rw [if_pos e10]
        obtain ⟨S2, h1, h2⟩ := H749 xs L j S h4 hL hR (fun x4a Sa => s_L_law_23 xs L n x4a Sa)
        exact h1.trans (nx S2 h2)
      rw [if_neg e10]
      by_cases e11 : (xs (nI (4 * j)).toNatClampNeg &&& (31 : Int32)) = 11
      · rw [if_pos e11]
        obtain ⟨S2, h1, h2⟩ := H762 xs L j S h4 hL hR (fun x4a Sa => s_L_law_23 xs L n x4a Sa)
        exact h1.trans (nx S2 h2)
      rw [if_neg e11]
      by_cases e12 : (xs (nI (4 * j)).toNatClampNeg &&& (31 : Int32)) = 12
      · rw [if_pos e12]
        obtain ⟨S2, h1, h2⟩ := w_806 h4 hL hR (fun x4a Sa => s_L_law_23 xs L n x4a Sa)
        exact h1.trans (nx S2 h2)
      rw [if_neg e12]
      by_cases e13 : (xs (nI (4 * j)).toNatClampNeg &&& (31 : Int32)) = 13
      · rw [if_pos e13]
        obtain ⟨S2, h1, h2⟩ := w_850 h4 hL hR (fun x4a Sa => s_L_law_23 xs L n x4a Sa)
        exact h1.trans (nx S2 h2)
      rw [if_neg e13]
      by_cases e14 : (xs (nI (4 * j)).toNatClampNeg &&& (31 : Int32)) = 14
      · rw [if_pos e14]
        obtain ⟨S2, h1, h2⟩ := w_918 h4 hL hR (fun x4a Sa => s_L_law_23 xs L n x4a Sa)
        exact h1.trans (nx S2 h2)
      rw [if_neg e14]
      by_cases e15 : (xs (nI (4 * j)).toNatClampNeg &&& (31 : Int32)) = 15
      · rw [if_pos e15]
        obtain ⟨S2, h1, h2⟩ := w_986 h4 hL hR (fun x4a Sa => s_L_law_23 xs L n x4a Sa)
        exact h1.trans (nx S2 h2)
      rw [if_neg e15]
      by_cases e16 : (xs (nI (4 * j)).toNatClampNeg &&& (31 : Int32)) = 16
      · rw [if_pos e16]
        obtain ⟨S2, h1, h2⟩ := w_1054 h4 hL hR (fun x4a Sa => s_L_law_23 xs L n x4a Sa)
        exact h1.trans (nx S2 h2)
      rw [if_neg e16]
      by_cases e17 : (xs (nI (4 * j)).toNatClampNeg &&& (31 : Int32)) = 17
      · rw [if_pos e17]
        obtain ⟨S2, h1, h2⟩ := w_1110 h4 hL hR (fun x4a Sa => s_L_law_23 xs L n x4a Sa)
        exact h1.trans (nx S2 h2)
      rw [if_neg e17]
      by_cases e18 : (xs (nI (4 * j)).toNatClampNeg &&& (31 : Int32)) = 18
      · rw [if_pos e18]
        obtain ⟨S2, h1, h2⟩ := w_1166 h4 hL hR (fun x4a Sa => s_L_law_23 xs L n x4a Sa)
        exact h1.trans (nx S2 h2)
      rw [if_neg e18]
      by_cases e19 : (xs (nI (4 * j)).toNatClampNeg &&& (31 : Int32)) = 19
      · rw [if_pos e19]
        obtain ⟨S2, h1, h2⟩ := w_1222 h4 hL hR (fun x4a Sa => s_L_law_23 xs L n x4a Sa)
        exact h1.trans (nx S2 h2)
      rw [if_neg e19]
      by_cases e20 : (xs (nI (4 * j)).toNatClampNeg &&& (31 : Int32)) = 20
      · rw [if_pos e20]
        obtain ⟨S2, h1, h2⟩ := w_1290 h4 hL hR (fun x4a Sa => s_L_law_23 xs L n x4a Sa)
        exact h1.trans (nx S2 h2)
      rw [if_neg e20]
      by_cases e21 : (xs (nI (4 * j)).toNatClampNeg &&& (31 : Int32)) = 21
      · rw [if_pos e21]
        obtain ⟨S2, h1, h2⟩ := w_1358 h4 hL hR (fun x4a Sa => s_L_law_23 xs L n x4a Sa)
        exact h1.trans (nx S2 h2)
      rw [if_neg e21]
      by_cases e22 : (xs (nI (4 * j)).toNatClampNeg &&& (31 : Int32)) = 22
      · rw [if_pos e22]
        obtain ⟨S2, h1, h2⟩ := w_1371 h4 hL hR (fun x4a Sa => s_L_law_23 xs L n x4a Sa)
        exact h1.trans (nx S2 h2)
      rw [if_neg e22]
      by_cases e23 : (xs (nI (4 * j)).toNatClampNeg &&& (31 : Int32)) = 23
      · rw [if_pos e23]
        obtain ⟨S2, h1, h2⟩ := w_1439 h4 hL hR (fun x4a Sa => s_L_law_23 xs L n x4a Sa)
        exact h1.trans (nx S2 h2)
      rw [if_neg e23]
      by_cases e24 : (xs (nI (4 * j)).toNatClampNeg &&& (31 : Int32)) = 24
      · rw [if_pos e24]
        obtain ⟨S2, h1, h2⟩ := H1452 xs L j S h4 hL hR (fun x4a Sa => s_L_law_23 xs L n x4a Sa)
        exact h1.trans (nx S2 h2)
      rw [if_neg e24]
      by_cases e25 : (xs (nI (4 * j)).toNatClampNeg &&& (31 : Int32)) = 25
      · rw [if_pos e25]
        obtain ⟨S2, h1, h2⟩ := H1495 xs L j S h4 hL hR (fun x4a Sa => s_L_law_23 xs L n x4a Sa)
        exact h1.trans (nx S2 h2)
      rw [if_neg e25]
      by_cases e26 : (xs (nI (4 * j)).toNatClampNeg &&& (31 : Int32)) = 26
      · rw [if_pos e26]
        obtain ⟨S2, h1, h2⟩ := H1536 xs L j S h4 hL hR (fun x4a Sa => s_L_law_23 xs L n x4a Sa)
        exact h1.trans (nx S2 h2)
      rw [if_neg e26]
      rw [show nI (4 * j) + (4 : Int32) = nI (4 * j + 4) from pm_add _ _]
      exact nx S hR
