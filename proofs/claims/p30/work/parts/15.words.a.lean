theorem goodIn_up {big ws : List Cond} {c : Cond} (h : GoodIn big ws) : GoodIn (c :: big) ws := fun w hw => ⟨List.mem_cons_of_mem _ (h w hw).1, (h w hw).2⟩
theorem in0X8 : ∀ w ∈ wsX80, w ∈ wsL_law0 := fun w h => List.mem_append_left _ (List.mem_append_left _ (List.mem_append_left _ (List.mem_append_left _ (List.mem_append_left _ (List.mem_append_left _ (List.mem_append_left _ (List.mem_append_left _ (List.mem_append_left _ (List.mem_append_right _ h)))))))))
theorem gp0X8 : GoodIn wsL_law0 wsX80 := goodIn_sub in0X8 (by decide +kernel)
theorem in0X2 : ∀ w ∈ wsX20, w ∈ wsL_law0 := fun w h => List.mem_append_left _ (List.mem_append_left _ (List.mem_append_left _ (List.mem_append_left _ (List.mem_append_left _ (List.mem_append_left _ (List.mem_append_left _ (List.mem_append_left _ (List.mem_append_right _ h))))))))
theorem gp0X2 : GoodIn wsL_law0 wsX20 := goodIn_sub in0X2 (by decide +kernel)
theorem in0X6 : ∀ w ∈ wsX60, w ∈ wsL_law0 := fun w h => List.mem_append_left _ (List.mem_append_left _ (List.mem_append_left _ (List.mem_append_left _ (List.mem_append_left _ (List.mem_append_left _ (List.mem_append_left _ (List.mem_append_right _ h)))))))
theorem gp0X6 : GoodIn wsL_law0 wsX60 := goodIn_sub in0X6 (by decide +kernel)
theorem in0X0 : ∀ w ∈ wsX00, w ∈ wsL_law0 := fun w h => List.mem_append_left _ (List.mem_append_left _ (List.mem_append_left _ (List.mem_append_left _ (List.mem_append_left _ (List.mem_append_left _ (List.mem_append_right _ h))))))
theorem gp0X0 : GoodIn wsL_law0 wsX00 := goodIn_sub in0X0 (by decide +kernel)
theorem in0X3 : ∀ w ∈ wsX30, w ∈ wsL_law0 := fun w h => List.mem_append_left _ (List.mem_append_left _ (List.mem_append_left _ (List.mem_append_left _ (List.mem_append_left _ (List.mem_append_right _ h)))))
theorem gp0X3 : GoodIn wsL_law0 wsX30 := goodIn_sub in0X3 (by decide +kernel)
theorem in0X4 : ∀ w ∈ wsX40, w ∈ wsL_law0 := fun w h => List.mem_append_left _ (List.mem_append_left _ (List.mem_append_left _ (List.mem_append_left _ (List.mem_append_right _ h))))
theorem gp0X4 : GoodIn wsL_law0 wsX40 := goodIn_sub in0X4 (by decide +kernel)
theorem in0X1 : ∀ w ∈ wsX10, w ∈ wsL_law0 := fun w h => List.mem_append_left _ (List.mem_append_left _ (List.mem_append_left _ (List.mem_append_right _ h)))
theorem gp0X1 : GoodIn wsL_law0 wsX10 := goodIn_sub in0X1 (by decide +kernel)
theorem in0X7 : ∀ w ∈ wsX70, w ∈ wsL_law0 := fun w h => List.mem_append_left _ (List.mem_append_left _ (List.mem_append_right _ h))
theorem gp0X7 : GoodIn wsL_law0 wsX70 := goodIn_sub in0X7 (by decide +kernel)
theorem in0X5 : ∀ w ∈ wsX50, w ∈ wsL_law0 := fun w h => List.mem_append_left _ (List.mem_append_right _ h)
theorem gp0X5 : GoodIn wsL_law0 wsX50 := goodIn_sub in0X5 (by decide +kernel)
set_option maxRecDepth 40000 in
theorem ok_law0 : wsL_law0.all goodWord = true := by decide +kernel
theorem gself0 : GoodIn wsL_law0 wsL_law0 := goodIn_sub (fun _ h => h) ok_law0
def wsL_abs : List Cond := .code yL_abs cL_abs 1 (some .int) :: wsL_law0
def wsL_at : List Cond := .code yL_at cL_at 2 (some .int) :: wsL_law0
def wsL_number : List Cond := .code yL_number cL_number 2 (some .boolean) :: wsL_law0
def wsL_winds : List Cond := .code yL_winds cL_winds 9 (some .boolean) :: wsL_law0
def wsL_bog : List Cond := .code yL_bog cL_bog 8 (some .boolean) :: wsL_law0
def wsL_spot : List Cond := .code yL_spot cL_spot 3 (some .int) :: wsL_law0
def wsL_off : List Cond := .code yL_off cL_off 3 none :: wsL_law0
def wsL_wind : List Cond := .code yL_wind cL_wind 2 (some .int) :: wsL_law0
def wsL_way : List Cond := .code yL_way cL_way 7 (some .int) :: wsL_law0
def wsL_ready : List Cond := .code yL_ready cL_ready 4 (some .int) :: wsL_law0
def wsL_serve : List Cond := .code yL_serve cL_serve 9 (some .int) :: wsL_law0
def wsL_power : List Cond := .code yL_power cL_power 3 (some .int) :: wsL_law0
def wsL_hour : List Cond := .code yL_hour cL_hour 16 (some .int) :: wsL_law0
def wsL_act : List Cond := .code yL_act cL_act 15 (some .boolean) :: wsL_law0
def wsL_same : List Cond := .code yL_same cL_same 3 none :: wsL_law0
def wsL_sum : List Cond := .code yL_sum cL_sum 5 (some .int) :: wsL_law0
def wsL_window : List Cond := .code yL_window cL_window 8 (some .int) :: wsL_law0
def wsL_ahead : List Cond := .code yL_ahead cL_ahead 21 (some .boolean) :: wsL_law0
def wsL_cell : List Cond := .code yL_cell cL_cell 2 (some .int) :: wsL_law0
def wsL_turbines : List Cond := .code yL_turbines cL_turbines 10 (some .boolean) :: wsL_law0
def wsL_told : List Cond := .code yL_told cL_told 13 (some .boolean) :: wsL_law0
