/-! ### the start: two rules more -/
theorem st_g1 (g0 gc : Nat → Nat × va_E) (x0 : Nat × va_E) {i : Nat} (h : i < 204) : gj (gu g0 0 x0) 1 0 gc i = gc i := by
  by_cases e : i = 0
  · subst e
    exact if_pos rfl
  · have e2 : gj (gu g0 0 x0) 1 0 gc i = gc (i - 1 + 1) := (if_neg e).trans (if_neg (show ¬ i < 1 by omega))
    rw [e2, show i - 1 + 1 = i by omega]
theorem st_R {a b : Cond} {A : Array Value} {s : State} (h : (Cond.and a b).before A s = true) : b.before A s = true := by
  rw [Cond.before_and, Bool.and_eq_true] at h
  exact h.2
section CT2
variable {Γ : cr_C} {D : va_G} {c : Nat → ClassId} {A0 A : Nat → Prop} {cc : ByteArray} {nL : Nat} {own : String} {Ts : List Cond} {rm : Room} {Q : State → Prop} {kc ks n pc : Nat} {g : Nat → Nat × va_E} {lv : List (Nat × Value)} {rest : List Value}
theorem ct_aloadW (X : ct_X Γ D c A0 A cc nL own Ts rm) (q : Nat) {i x : Nat} (hk : lv[q]? = some (i, .ref x)) (hdg : decode cc pc = .ok (.aload i, 2)) (kk : ct_W Γ D A nL Q kc ks n g (pc + 2) lv (.ref x :: rest)) : ct_W Γ D A nL Q kc ks n g pc lv rest := by
  obtain ⟨p, l, e, R, s, m, args, below, meth, co⟩ := Γ
  obtain ⟨hx, hb, -⟩ := X
  intro H locs ls hP hD hS hl
  exact lv_aload hx hb hdg (lv_at hl q hk) (kk H locs ls hP hD hS hl)
theorem ct_astoreW (X : ct_X Γ D c A0 A cc nL own Ts rm) (lv' : List (Nat × Value)) {i x : Nat} (hn : i < nL) (hl' : (i, Value.ref x) :: lv.filter (fun q => !(q.1 == i) && !(q.1 + 1 == i && q.2.category == 2)) = lv') (hdg : decode cc pc = .ok (.astore i, 2)) (kk : ct_W Γ D A nL Q kc ks n g (pc + 2) lv' rest) : ct_W Γ D A nL Q kc ks n g pc lv (.ref x :: rest) := by
  obtain ⟨p, l, e, R, s, m, args, below, meth, co⟩ := Γ
  obtain ⟨hx, hb, -⟩ := X
  intro H locs ls hP hD hS hl
  exact lv_astore hx hb hdg hl hn hl' (fun ls' h => kk H locs ls' hP hD hS h)
end CT2
set_option maxRecDepth 100000 in
theorem gh_X8_init : GoodIn wsL_law0 [Cond.code yX8_init cX8_init 2 none] := goodIn_1 7 (by rfl) (by decide +kernel)
set_option maxRecDepth 20000 in
theorem gr_X8_init_r1 : GoodIn wsL_law0 wsX8_init_r1 := goodIn_r _ [8, 9, 10, 11, 12, 13, 14, 15, 16, 17, 18, 19, 20, 21, 22, 23, 24, 25, 26, 27, 28, 29, 30, 31] (by decide +kernel) (by decide +kernel)
set_option maxRecDepth 20000 in
theorem gr_X8_init_r2 : GoodIn wsL_law0 wsX8_init_r2 := goodIn_r _ [32, 33, 34, 35, 36, 37, 38, 39, 40, 41, 42, 43, 44, 45, 46, 47, 48, 49, 3, 50, 51, 52, 53, 54] (by decide +kernel) (by decide +kernel)
set_option maxRecDepth 20000 in
theorem gr_X8_init_r3 : GoodIn wsL_law0 wsX8_init_r3 := goodIn_r _ [55, 56, 57, 58, 59, 60, 61, 62, 63, 64, 65, 66, 67, 68, 69, 70, 71, 72, 73, 74, 75, 76, 77, 78] (by decide +kernel) (by decide +kernel)
set_option maxRecDepth 20000 in
theorem gr_X8_init_r4 : GoodIn wsL_law0 wsX8_init_r4 := goodIn_r _ [79, 80, 81, 82, 83, 84, 85, 86, 87, 88, 89, 90, 91, 92, 93, 94, 95, 96] (by decide +kernel) (by decide +kernel)
theorem gL_law_X8_init : GoodIn wsL_law0 wsX8_init := goodIn_app gh_X8_init (goodIn_app (goodIn_app (goodIn_app (goodIn_app (goodIn_app (goodIn_app (goodIn_app (goodIn_app (goodIn_app (goodIn_app gr_X8_init_r1 (goodIn_app gr_X8_init_r2 (goodIn_app gr_X8_init_r3 gr_X8_init_r4))) gp0X2) gp0X8) gp0X6) gp0X0) gp0X3) gp0X4) gp0X1) gp0X7) gp0X5)
