/-! A farm's cells and a row of the model: which slot holds what. -/
def lvp (nT nB nL nP nW j i : Nat) : Prop := (j = 0 ∧ (i = 1 ∨ i = 9)) ∨ (j = 2 ∧ i = 2) ∨ (j = 3 ∧ i < nB) ∨ (j = 4 ∧ i < nB) ∨ (j = 5 ∧ i = 2) ∨ (j = 6 ∧ i < nL) ∨ (j = 7 ∧ i < nL) ∨ (j = 8 ∧ i = 1) ∨ (j = 9 ∧ i < nP) ∨ (j = 10 ∧ i < 5) ∨ (j = 11 ∧ i = 1) ∨ (j = 12 ∧ i < nW) ∨ (j = 13 ∧ i < 7) ∨ (j = 14 ∧ i < 5) ∨ (15 ≤ j ∧ j < nT + 15 ∧ i < 7)
def mp (j i : Nat) : Nat := if j = 0 then (if i = 1 then 70 else 182) else if j = 1 then 183 else if j = 2 then 127 else if j = 3 then 128 + i else if j = 4 then 134 + i else if j = 5 then 156 else if j = 6 then 157 + i else if j = 7 then 167 + i else if j = 8 then 145 else if j = 9 then 146 + i else if j = 10 then (if i = 0 then 140 else if i = 1 then 142 else if i = 2 then 141 else if i = 3 then 143 else 144) else if j = 11 then 78 else if j = 12 then 79 + i else if j = 13 then 71 + i else if j = 14 then 177 + i else 10 * i + (j - 15)
def rowOf (k : Nat) : Nat := if k < 70 then k % 10 + 15 else if k < 71 then 0 else if k < 78 then 13 else if k < 79 then 11 else if k < 127 then 12 else if k < 128 then 2 else if k < 134 then 3 else if k < 140 then 4 else if k < 145 then 10 else if k < 146 then 8 else if k < 156 then 9 else if k < 157 then 5 else if k < 167 then 6 else if k < 177 then 7 else if k < 182 then 14 else if k < 183 then 0 else 1
def okn (nT nB nL nP nW : Nat) : Prop := nT ≤ 10 ∧ nB ≤ 6 ∧ nL ≤ 10 ∧ nP ≤ 10 ∧ nW ≤ 48
def fr (nT nB nL nP nW : Nat) (G : cr_G) (Z : Nat → Int32) : Prop := ∀ j i, lvp nT nB nL nP nW j i → G j i = Z (mp j i)
theorem mp_t (t i : Nat) : mp (t + 15) i = 10 * i + t := by
  unfold mp
  repeat rw [if_neg (by omega)]
  omega
theorem rowOf_mp {nT nB nL nP nW j i : Nat} (hn : okn nT nB nL nP nW) (h : lvp nT nB nL nP nW j i) : rowOf (mp j i) = j := by
  obtain ⟨h1, h2, h3, h4, h5⟩ := hn
  rcases h with ⟨rfl, h⟩ | ⟨rfl, h⟩ | ⟨rfl, h⟩ | ⟨rfl, h⟩ | ⟨rfl, h⟩ | ⟨rfl, h⟩ | ⟨rfl, h⟩ | ⟨rfl, h⟩ | ⟨rfl, h⟩ | ⟨rfl, h⟩ | ⟨rfl, h⟩ | ⟨rfl, h⟩ | ⟨rfl, h⟩ | ⟨rfl, h⟩ | ⟨h6, h7, h⟩
  · rcases h with rfl | rfl <;> rfl
  · subst h; rfl
  · show rowOf (128 + i) = 3
    unfold rowOf; rw [if_neg (by omega), if_neg (by omega), if_neg (by omega), if_neg (by omega), if_neg (by omega), if_neg (by omega), if_pos (by omega)]
  · show rowOf (134 + i) = 4
    unfold rowOf; rw [if_neg (by omega), if_neg (by omega), if_neg (by omega), if_neg (by omega), if_neg (by omega), if_neg (by omega), if_neg (by omega), if_pos (by omega)]
  · subst h; rfl
  · show rowOf (157 + i) = 6
    unfold rowOf; rw [if_neg (by omega), if_neg (by omega), if_neg (by omega), if_neg (by omega), if_neg (by omega), if_neg (by omega), if_neg (by omega), if_neg (by omega), if_neg (by omega), if_neg (by omega), if_neg (by omega), if_neg (by omega), if_pos (by omega)]
  · show rowOf (167 + i) = 7
    unfold rowOf; rw [if_neg (by omega), if_neg (by omega), if_neg (by omega), if_neg (by omega), if_neg (by omega), if_neg (by omega), if_neg (by omega), if_neg (by omega), if_neg (by omega), if_neg (by omega), if_neg (by omega), if_neg (by omega), if_neg (by omega), if_pos (by omega)]
  · subst h; rfl
  · show rowOf (146 + i) = 9
    unfold rowOf; rw [if_neg (by omega), if_neg (by omega), if_neg (by omega), if_neg (by omega), if_neg (by omega), if_neg (by omega), if_neg (by omega), if_neg (by omega), if_neg (by omega), if_neg (by omega), if_pos (by omega)]
  · have h9 : i = 0 ∨ i = 1 ∨ i = 2 ∨ i = 3 ∨ i = 4 := by omega
    rcases h9 with rfl | rfl | rfl | rfl | rfl <;> rfl
  · subst h; rfl
  · show rowOf (79 + i) = 12
    unfold rowOf; rw [if_neg (by omega), if_neg (by omega), if_neg (by omega), if_neg (by omega), if_pos (by omega)]
  · show rowOf (71 + i) = 13
    unfold rowOf; rw [if_neg (by omega), if_neg (by omega), if_pos (by omega)]
  · show rowOf (177 + i) = 14
    unfold rowOf; rw [if_neg (by omega), if_neg (by omega), if_neg (by omega), if_neg (by omega), if_neg (by omega), if_neg (by omega), if_neg (by omega), if_neg (by omega), if_neg (by omega), if_neg (by omega), if_neg (by omega), if_neg (by omega), if_neg (by omega), if_neg (by omega), if_pos (by omega)]
  · obtain ⟨t, rfl⟩ : ∃ t, j = t + 15 := ⟨j - 15, by omega⟩
    rw [mp_t]
    unfold rowOf
    rw [if_pos (by omega)]
    omega
theorem mp_inj {nT nB nL nP nW j i i' : Nat} (h : lvp nT nB nL nP nW j i) (h' : lvp nT nB nL nP nW j i') (hm : mp j i = mp j i') : i = i' := by
  rcases h with ⟨rfl, h⟩ | ⟨rfl, h⟩ | ⟨rfl, h⟩ | ⟨rfl, h⟩ | ⟨rfl, h⟩ | ⟨rfl, h⟩ | ⟨rfl, h⟩ | ⟨rfl, h⟩ | ⟨rfl, h⟩ | ⟨rfl, h⟩ | ⟨rfl, h⟩ | ⟨rfl, h⟩ | ⟨rfl, h⟩ | ⟨rfl, h⟩ | ⟨h6, h7, h⟩
  · have h9 : i' = 1 ∨ i' = 9 := by simp [lvp] at h'; exact h'
    rcases h with rfl | rfl <;> rcases h9 with rfl | rfl <;> first | rfl | (exact absurd hm (by decide))
  · have h9 : i' = 2 := by simp [lvp] at h'; exact h'
    omega
  · exact Nat.add_left_cancel (show 128 + i = 128 + i' from hm)
  · exact Nat.add_left_cancel (show 134 + i = 134 + i' from hm)
  · have h9 : i' = 2 := by simp [lvp] at h'; exact h'
    omega
  · exact Nat.add_left_cancel (show 157 + i = 157 + i' from hm)
  · exact Nat.add_left_cancel (show 167 + i = 167 + i' from hm)
  · have h9 : i' = 1 := by simp [lvp] at h'; exact h'
    omega
  · exact Nat.add_left_cancel (show 146 + i = 146 + i' from hm)
  · have h9 : i' < 5 := by simp [lvp] at h'; exact h'
    have h8 : i = 0 ∨ i = 1 ∨ i = 2 ∨ i = 3 ∨ i = 4 := by omega
    have h7 : i' = 0 ∨ i' = 1 ∨ i' = 2 ∨ i' = 3 ∨ i' = 4 := by omega
    rcases h8 with rfl | rfl | rfl | rfl | rfl <;> rcases h7 with rfl | rfl | rfl | rfl | rfl <;> first | rfl | (exact absurd hm (by decide))
  · have h9 : i' = 1 := by simp [lvp] at h'; exact h'
    omega
  · exact Nat.add_left_cancel (show 79 + i = 79 + i' from hm)
  · exact Nat.add_left_cancel (show 71 + i = 71 + i' from hm)
  · exact Nat.add_left_cancel (show 177 + i = 177 + i' from hm)
  · obtain ⟨t, rfl⟩ : ∃ t, j = t + 15 := ⟨j - 15, by omega⟩
    rw [mp_t, mp_t] at hm
    omega
theorem fr_n {nT nB nL nP nW : Nat} {G : cr_G} {Z : Nat → Int32} (h : fr nT nB nL nP nW G Z) : G 0 1 = Z 70 := h 0 1 (by simp [lvp])
theorem fr_h {nT nB nL nP nW : Nat} {G : cr_G} {Z : Nat → Int32} (h : fr nT nB nL nP nW G Z) : G 0 9 = Z 182 := h 0 9 (by simp [lvp])
theorem fr_b {nT nB nL nP nW : Nat} {G : cr_G} {Z : Nat → Int32} (h : fr nT nB nL nP nW G Z) : G 2 2 = Z 127 := h 2 2 (by simp [lvp])
theorem fr_bp {nT nB nL nP nW : Nat} {G : cr_G} {Z : Nat → Int32} (h : fr nT nB nL nP nW G Z) {k : Nat} (hk : k < nB) : G 3 k = Z (128 + k) := h 3 k (by simp [lvp, hk])
theorem fr_bn {nT nB nL nP nW : Nat} {G : cr_G} {Z : Nat → Int32} (h : fr nT nB nL nP nW G Z) {k : Nat} (hk : k < nB) : G 4 k = Z (134 + k) := h 4 k (by simp [lvp, hk])
theorem fr_l {nT nB nL nP nW : Nat} {G : cr_G} {Z : Nat → Int32} (h : fr nT nB nL nP nW G Z) : G 5 2 = Z 156 := h 5 2 (by simp [lvp])
theorem fr_lw {nT nB nL nP nW : Nat} {G : cr_G} {Z : Nat → Int32} (h : fr nT nB nL nP nW G Z) {k : Nat} (hk : k < nL) : G 6 k = Z (157 + k) := h 6 k (by simp [lvp, hk])
theorem fr_lg {nT nB nL nP nW : Nat} {G : cr_G} {Z : Nat → Int32} (h : fr nT nB nL nP nW G Z) {k : Nat} (hk : k < nL) : G 7 k = Z (167 + k) := h 7 k (by simp [lvp, hk])
theorem fr_p {nT nB nL nP nW : Nat} {G : cr_G} {Z : Nat → Int32} (h : fr nT nB nL nP nW G Z) : G 8 1 = Z 145 := h 8 1 (by simp [lvp])
theorem fr_pr {nT nB nL nP nW : Nat} {G : cr_G} {Z : Nat → Int32} (h : fr nT nB nL nP nW G Z) {k : Nat} (hk : k < nP) : G 9 k = Z (146 + k) := h 9 k (by simp [lvp, hk])
theorem fr_c0 {nT nB nL nP nW : Nat} {G : cr_G} {Z : Nat → Int32} (h : fr nT nB nL nP nW G Z) : G 10 0 = Z 140 := h 10 0 (by simp [lvp])
theorem fr_c1 {nT nB nL nP nW : Nat} {G : cr_G} {Z : Nat → Int32} (h : fr nT nB nL nP nW G Z) : G 10 1 = Z 142 := h 10 1 (by simp [lvp])
theorem fr_c2 {nT nB nL nP nW : Nat} {G : cr_G} {Z : Nat → Int32} (h : fr nT nB nL nP nW G Z) : G 10 2 = Z 141 := h 10 2 (by simp [lvp])
theorem fr_c3 {nT nB nL nP nW : Nat} {G : cr_G} {Z : Nat → Int32} (h : fr nT nB nL nP nW G Z) : G 10 3 = Z 143 := h 10 3 (by simp [lvp])
theorem fr_c4 {nT nB nL nP nW : Nat} {G : cr_G} {Z : Nat → Int32} (h : fr nT nB nL nP nW G Z) : G 10 4 = Z 144 := h 10 4 (by simp [lvp])
theorem fr_w {nT nB nL nP nW : Nat} {G : cr_G} {Z : Nat → Int32} (h : fr nT nB nL nP nW G Z) : G 11 1 = Z 78 := h 11 1 (by simp [lvp])
theorem fr_wr {nT nB nL nP nW : Nat} {G : cr_G} {Z : Nat → Int32} (h : fr nT nB nL nP nW G Z) {k : Nat} (hk : k < nW) : G 12 k = Z (79 + k) := h 12 k (by simp [lvp, hk])
theorem fr_s {nT nB nL nP nW : Nat} {G : cr_G} {Z : Nat → Int32} (h : fr nT nB nL nP nW G Z) {k : Nat} (hk : k < 7) : G 13 k = Z (71 + k) := h 13 k (by simp [lvp, hk])
theorem fr_q {nT nB nL nP nW : Nat} {G : cr_G} {Z : Nat → Int32} (h : fr nT nB nL nP nW G Z) {k : Nat} (hk : k < 5) : G 14 k = Z (177 + k) := h 14 k (by simp [lvp, hk])
theorem fr_t {nT nB nL nP nW : Nat} {G : cr_G} {Z : Nat → Int32} (h : fr nT nB nL nP nW G Z) {t i : Nat} (ht : t < nT) (hi : i < 7) : G (t + 15) i = Z (10 * i + t) := by
  rw [h (t + 15) i (Or.inr (Or.inr (Or.inr (Or.inr (Or.inr (Or.inr (Or.inr (Or.inr (Or.inr (Or.inr (Or.inr (Or.inr (Or.inr (Or.inr (⟨by omega, by omega, hi⟩))))))))))))))), mp_t]
theorem fr_t0 {nT nB nL nP nW : Nat} {G : cr_G} {Z : Nat → Int32} (h : fr nT nB nL nP nW G Z) {t : Nat} (ht : t < nT) : G (t + 15) 0 = Z (t) := by
  have e := fr_t h ht (i := 0) (by omega)
  rwa [show 10 * 0 + t = t by omega] at e
theorem fr_t1 {nT nB nL nP nW : Nat} {G : cr_G} {Z : Nat → Int32} (h : fr nT nB nL nP nW G Z) {t : Nat} (ht : t < nT) : G (t + 15) 1 = Z (10 + t) := by
  have e := fr_t h ht (i := 1) (by omega)
  rwa [show 10 * 1 + t = 10 + t by omega] at e
theorem fr_t2 {nT nB nL nP nW : Nat} {G : cr_G} {Z : Nat → Int32} (h : fr nT nB nL nP nW G Z) {t : Nat} (ht : t < nT) : G (t + 15) 2 = Z (20 + t) := by
  have e := fr_t h ht (i := 2) (by omega)
  rwa [show 10 * 2 + t = 20 + t by omega] at e
theorem fr_t3 {nT nB nL nP nW : Nat} {G : cr_G} {Z : Nat → Int32} (h : fr nT nB nL nP nW G Z) {t : Nat} (ht : t < nT) : G (t + 15) 3 = Z (30 + t) := by
  have e := fr_t h ht (i := 3) (by omega)
  rwa [show 10 * 3 + t = 30 + t by omega] at e
theorem fr_t4 {nT nB nL nP nW : Nat} {G : cr_G} {Z : Nat → Int32} (h : fr nT nB nL nP nW G Z) {t : Nat} (ht : t < nT) : G (t + 15) 4 = Z (40 + t) := by
  have e := fr_t h ht (i := 4) (by omega)
  rwa [show 10 * 4 + t = 40 + t by omega] at e
theorem fr_t5 {nT nB nL nP nW : Nat} {G : cr_G} {Z : Nat → Int32} (h : fr nT nB nL nP nW G Z) {t : Nat} (ht : t < nT) : G (t + 15) 5 = Z (50 + t) := by
  have e := fr_t h ht (i := 5) (by omega)
  rwa [show 10 * 5 + t = 50 + t by omega] at e
theorem fr_t6 {nT nB nL nP nW : Nat} {G : cr_G} {Z : Nat → Int32} (h : fr nT nB nL nP nW G Z) {t : Nat} (ht : t < nT) : G (t + 15) 6 = Z (60 + t) := by
  have e := fr_t h ht (i := 6) (by omega)
  rwa [show 10 * 6 + t = 60 + t by omega] at e
theorem fr_pa {nT nB nL nP nW mT mB mL mP mW j0 : Nat} {G : cr_G} {Z Z' h : Nat → Int32} (hn : okn mT mB mL mP mW) (hf : fr nT nB nL nP nW G Z) (hsub : ∀ j i, j ≠ j0 → lvp mT mB mL mP mW j i → lvp nT nB nL nP nW j i) (hZ : ∀ k, rowOf k ≠ j0 → Z' k = Z k) (hrow : ∀ i, lvp mT mB mL mP mW j0 i → h i = Z' (mp j0 i)) : fr mT mB mL mP mW (cr_pa G j0 h) Z' := by
  intro j i hl
  by_cases e : j = j0
  · subst e
    rw [pm_pa]
    exact hrow i hl
  · rw [pm_pan _ _ e, hf j i (hsub j i e hl), hZ _ (by rw [rowOf_mp hn hl]; exact e)]
theorem fr_pt {nT nB nL nP nW j0 i0 : Nat} {G : cr_G} {Z : Nat → Int32} (v : Int32) (hn : okn nT nB nL nP nW) (hf : fr nT nB nL nP nW G Z) (h0 : lvp nT nB nL nP nW j0 i0) : fr nT nB nL nP nW (cr_pt G j0 i0 v) (upd Z (mp j0 i0) v) := by
  refine fr_pa hn hf (fun j i _ h => h) (fun k hk => pm_un _ _ ?_) (fun i hl => ?_)
  · rintro rfl
    exact hk (rowOf_mp hn h0)
  · by_cases e : i = i0
    · subst e
      rw [pm_u, pm_u]
    · rw [pm_un _ _ e, pm_un _ _ (fun e' => e (mp_inj hl h0 e')), hf j0 i hl]
theorem lvp_mono {nT nB nL nP nW mT mB mL mP mW j i : Nat} (h1 : mT ≤ nT) (h2 : mB ≤ nB) (h3 : mL ≤ nL) (h4 : mP ≤ nP) (h5 : mW ≤ nW) (hl : lvp mT mB mL mP mW j i) : lvp nT nB nL nP nW j i := by
  rcases hl with h | h | h | h | h | h | h | h | h | h | h | h | h | h | h
  · exact Or.inl h
  · exact Or.inr (Or.inl h)
  · exact Or.inr (Or.inr (Or.inl ⟨h.1, by omega⟩))
  · exact Or.inr (Or.inr (Or.inr (Or.inl ⟨h.1, by omega⟩)))
  · exact Or.inr (Or.inr (Or.inr (Or.inr (Or.inl h))))
  · exact Or.inr (Or.inr (Or.inr (Or.inr (Or.inr (Or.inl ⟨h.1, by omega⟩)))))
  · exact Or.inr (Or.inr (Or.inr (Or.inr (Or.inr (Or.inr (Or.inl ⟨h.1, by omega⟩))))))
  · exact Or.inr (Or.inr (Or.inr (Or.inr (Or.inr (Or.inr (Or.inr (Or.inl h)))))))
  · exact Or.inr (Or.inr (Or.inr (Or.inr (Or.inr (Or.inr (Or.inr (Or.inr (Or.inl ⟨h.1, by omega⟩))))))))
  · exact Or.inr (Or.inr (Or.inr (Or.inr (Or.inr (Or.inr (Or.inr (Or.inr (Or.inr (Or.inl h)))))))))
  · exact Or.inr (Or.inr (Or.inr (Or.inr (Or.inr (Or.inr (Or.inr (Or.inr (Or.inr (Or.inr (Or.inl h))))))))))
  · exact Or.inr (Or.inr (Or.inr (Or.inr (Or.inr (Or.inr (Or.inr (Or.inr (Or.inr (Or.inr (Or.inr (Or.inl ⟨h.1, by omega⟩)))))))))))
  · exact Or.inr (Or.inr (Or.inr (Or.inr (Or.inr (Or.inr (Or.inr (Or.inr (Or.inr (Or.inr (Or.inr (Or.inr (Or.inl h))))))))))))
  · exact Or.inr (Or.inr (Or.inr (Or.inr (Or.inr (Or.inr (Or.inr (Or.inr (Or.inr (Or.inr (Or.inr (Or.inr (Or.inr (Or.inl h)))))))))))))
  · exact Or.inr (Or.inr (Or.inr (Or.inr (Or.inr (Or.inr (Or.inr (Or.inr (Or.inr (Or.inr (Or.inr (Or.inr (Or.inr (Or.inr (⟨h.1, by omega, h.2.2⟩))))))))))))))
theorem fr_mono {nT nB nL nP nW mT mB mL mP mW : Nat} {G : cr_G} {Z : Nat → Int32} (hf : fr nT nB nL nP nW G Z) (h1 : mT ≤ nT) (h2 : mB ≤ nB) (h3 : mL ≤ nL) (h4 : mP ≤ nP) (h5 : mW ≤ nW) : fr mT mB mL mP mW G Z := fun j i hl => hf j i (lvp_mono h1 h2 h3 h4 h5 hl)
theorem rw_0a {k : Nat} (h : 70 ≤ k ∧ k < 71) : rowOf k = 0 := by
  unfold rowOf; rw [if_neg (by omega), if_pos (by omega)]
theorem rw_0b {k : Nat} (h : 182 ≤ k ∧ k < 183) : rowOf k = 0 := by
  unfold rowOf; rw [if_neg (by omega), if_neg (by omega), if_neg (by omega), if_neg (by omega), if_neg (by omega), if_neg (by omega), if_neg (by omega), if_neg (by omega), if_neg (by omega), if_neg (by omega), if_neg (by omega), if_neg (by omega), if_neg (by omega), if_neg (by omega), if_neg (by omega), if_pos (by omega)]
theorem rw_2 {k : Nat} (h : 127 ≤ k ∧ k < 128) : rowOf k = 2 := by
  unfold rowOf; rw [if_neg (by omega), if_neg (by omega), if_neg (by omega), if_neg (by omega), if_neg (by omega), if_pos (by omega)]
theorem rw_3 {k : Nat} (h : 128 ≤ k ∧ k < 134) : rowOf k = 3 := by
  unfold rowOf; rw [if_neg (by omega), if_neg (by omega), if_neg (by omega), if_neg (by omega), if_neg (by omega), if_neg (by omega), if_pos (by omega)]
theorem rw_4 {k : Nat} (h : 134 ≤ k ∧ k < 140) : rowOf k = 4 := by
  unfold rowOf; rw [if_neg (by omega), if_neg (by omega), if_neg (by omega), if_neg (by omega), if_neg (by omega), if_neg (by omega), if_neg (by omega), if_pos (by omega)]
theorem rw_5 {k : Nat} (h : 156 ≤ k ∧ k < 157) : rowOf k = 5 := by
  unfold rowOf; rw [if_neg (by omega), if_neg (by omega), if_neg (by omega), if_neg (by omega), if_neg (by omega), if_neg (by omega), if_neg (by omega), if_neg (by omega), if_neg (by omega), if_neg (by omega), if_neg (by omega), if_pos (by omega)]
theorem rw_6 {k : Nat} (h : 157 ≤ k ∧ k < 167) : rowOf k = 6 := by
  unfold rowOf; rw [if_neg (by omega), if_neg (by omega), if_neg (by omega), if_neg (by omega), if_neg (by omega), if_neg (by omega), if_neg (by omega), if_neg (by omega), if_neg (by omega), if_neg (by omega), if_neg (by omega), if_neg (by omega), if_pos (by omega)]
theorem rw_7 {k : Nat} (h : 167 ≤ k ∧ k < 177) : rowOf k = 7 := by
  unfold rowOf; rw [if_neg (by omega), if_neg (by omega), if_neg (by omega), if_neg (by omega), if_neg (by omega), if_neg (by omega), if_neg (by omega), if_neg (by omega), if_neg (by omega), if_neg (by omega), if_neg (by omega), if_neg (by omega), if_neg (by omega), if_pos (by omega)]
theorem rw_8 {k : Nat} (h : 145 ≤ k ∧ k < 146) : rowOf k = 8 := by
  unfold rowOf; rw [if_neg (by omega), if_neg (by omega), if_neg (by omega), if_neg (by omega), if_neg (by omega), if_neg (by omega), if_neg (by omega), if_neg (by omega), if_neg (by omega), if_pos (by omega)]
theorem rw_9 {k : Nat} (h : 146 ≤ k ∧ k < 156) : rowOf k = 9 := by
  unfold rowOf; rw [if_neg (by omega), if_neg (by omega), if_neg (by omega), if_neg (by omega), if_neg (by omega), if_neg (by omega), if_neg (by omega), if_neg (by omega), if_neg (by omega), if_neg (by omega), if_pos (by omega)]
theorem rw_10 {k : Nat} (h : 140 ≤ k ∧ k < 145) : rowOf k = 10 := by
  unfold rowOf; rw [if_neg (by omega), if_neg (by omega), if_neg (by omega), if_neg (by omega), if_neg (by omega), if_neg (by omega), if_neg (by omega), if_neg (by omega), if_pos (by omega)]
theorem rw_11 {k : Nat} (h : 78 ≤ k ∧ k < 79) : rowOf k = 11 := by
  unfold rowOf; rw [if_neg (by omega), if_neg (by omega), if_neg (by omega), if_pos (by omega)]
theorem rw_12 {k : Nat} (h : 79 ≤ k ∧ k < 127) : rowOf k = 12 := by
  unfold rowOf; rw [if_neg (by omega), if_neg (by omega), if_neg (by omega), if_neg (by omega), if_pos (by omega)]
theorem rw_13 {k : Nat} (h : 71 ≤ k ∧ k < 78) : rowOf k = 13 := by
  unfold rowOf; rw [if_neg (by omega), if_neg (by omega), if_pos (by omega)]
theorem rw_14 {k : Nat} (h : 177 ≤ k ∧ k < 182) : rowOf k = 14 := by
  unfold rowOf; rw [if_neg (by omega), if_neg (by omega), if_neg (by omega), if_neg (by omega), if_neg (by omega), if_neg (by omega), if_neg (by omega), if_neg (by omega), if_neg (by omega), if_neg (by omega), if_neg (by omega), if_neg (by omega), if_neg (by omega), if_neg (by omega), if_pos (by omega)]
theorem rw_t {t i k : Nat} (ht : t < 10) (hi : i < 7) (hk : k = 10 * i + t) : rowOf k = t + 15 := by
  unfold rowOf; rw [if_pos (by omega)]; omega
