/-! ### the law's words in the tables (5) -/
theorem goodIn_q {big : List Cond} (ws codes : List Cond) (hp : ws.filter k2_isCode = codes) (hm : GoodIn big codes)
    (h : (ws.filter (fun w => !k2_isCode w)).all (fun w => decide (w ∈ big) && goodWord w) = true) : GoodIn big ws := by
  intro w hw
  by_cases hc : k2_isCode w = true
  · exact hm w (hp ▸ List.mem_filter.mpr ⟨hw, hc⟩)
  · have h1 := List.all_eq_true.mp h w (List.mem_filter.mpr ⟨hw, by simpa using hc⟩)
    simp only [Bool.and_eq_true, decide_eq_true_eq] at h1
    exact ⟨h1.1, good_of_word h1.2⟩
set_option maxRecDepth 100000 in
theorem lr_5 : GoodIn lw_tbl wsL_law0_r5 := goodIn_q _ [Cond.code yL_told cL_told 13 (some .boolean), Cond.code yL_turbines cL_turbines 10 (some .boolean), Cond.code yX8_turbine cX8_turbine 3 (some .int), Cond.code yX8_requireTurbine cX8_requireTurbine 2 none] (by rfl) (goodIn_app (goodIn_1 531 (by rfl) (by decide +kernel)) (goodIn_app (goodIn_1 534 (by rfl) (by decide +kernel)) (goodIn_app (goodIn_1 538 (by rfl) (by decide +kernel)) (goodIn_1 542 (by rfl) (by decide +kernel))))) (by decide +kernel)
