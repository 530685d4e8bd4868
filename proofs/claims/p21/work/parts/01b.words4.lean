set_option maxRecDepth 20000 in
theorem wsL_law0_r13_in : ∀ w ∈ wsL_law0_r13, w ∈ lw_tbl := fun w h => (goodIn_p wsL_law0_r13 [198, 241, 245, 255, 259, 550] (by decide +kernel) (by decide +kernel) w h).1
set_option maxRecDepth 20000 in
theorem t14_0 : (Cond.code yX1_foresee cX1_foresee 7 (some .int) : Cond) ∈ lw_tbl := List.mem_of_getElem? (i := 320) rfl
set_option maxRecDepth 20000 in
theorem t14_1 : (Cond.methodLink RL 122 yX2_isSame : Cond) ∈ lw_tbl := by decide +kernel
set_option maxRecDepth 20000 in
theorem t14_2 : (Cond.instanceMethod yX2_isSame : Cond) ∈ lw_tbl := by decide +kernel
set_option maxRecDepth 20000 in
theorem t14_3 : (Cond.selects RX2 yX2_isSame yX2_isSame : Cond) ∈ lw_tbl := by decide +kernel
set_option maxRecDepth 20000 in
theorem t14_4 : (Cond.code yX2_isSame cX2_isSame 13 (some .boolean) : Cond) ∈ lw_tbl := List.mem_of_getElem? (i := 332) rfl
set_option maxRecDepth 20000 in
theorem t14_5 : (Cond.fieldLink RX2 83 "TwinOrchardLaw$Sim" "tilt" "I" : Cond) ∈ lw_tbl := by decide +kernel
set_option maxRecDepth 20000 in
theorem t14_6 : (Cond.methodLink RX2 62 yX1_tree : Cond) ∈ lw_tbl := by decide +kernel
set_option maxRecDepth 20000 in
theorem t14_7 : (Cond.methodLink RX2 68 yX1_leans : Cond) ∈ lw_tbl := by decide +kernel
set_option maxRecDepth 20000 in
theorem t14_8 : (Cond.instanceMethod yX1_leans : Cond) ∈ lw_tbl := by decide +kernel
set_option maxRecDepth 20000 in
theorem t14_9 : (Cond.selects RX1 yX1_leans yX1_leans : Cond) ∈ lw_tbl := by decide +kernel
set_option maxRecDepth 20000 in
theorem t14_10 : (Cond.code yX1_leans cX1_leans 5 (some .int) : Cond) ∈ lw_tbl := List.mem_of_getElem? (i := 349) rfl
set_option maxRecDepth 20000 in
theorem t14_11 : (Cond.methodLink RX2 72 yX1_sort : Cond) ∈ lw_tbl := by decide +kernel
set_option maxRecDepth 20000 in
theorem t14_12 : (Cond.methodLink RX2 75 yX2_tired : Cond) ∈ lw_tbl := by decide +kernel
set_option maxRecDepth 20000 in
theorem t14_13 : (Cond.instanceMethod yX2_tired : Cond) ∈ lw_tbl := by decide +kernel
set_option maxRecDepth 20000 in
theorem t14_14 : (Cond.selects RX2 yX2_tired yX2_tired : Cond) ∈ lw_tbl := by decide +kernel
set_option maxRecDepth 20000 in
theorem t14_15 : (Cond.code yX2_tired cX2_tired 10 (some .int) : Cond) ∈ lw_tbl := List.mem_of_getElem? (i := 355) rfl
set_option maxRecDepth 20000 in
theorem t14_16 : (Cond.methodLink RX2 77 yX1_count : Cond) ∈ lw_tbl := by decide +kernel
set_option maxRecDepth 20000 in
theorem t14_17 : (Cond.methodLink RX2 80 yX1_tilt : Cond) ∈ lw_tbl := by decide +kernel
set_option maxRecDepth 20000 in
theorem t14_18 : (Cond.methodLink RX2 85 yX1_mean : Cond) ∈ lw_tbl := by decide +kernel
set_option maxRecDepth 20000 in
theorem t14_19 : (Cond.instanceMethod yX1_mean : Cond) ∈ lw_tbl := by decide +kernel
set_option maxRecDepth 20000 in
theorem t14_20 : (Cond.selects RX1 yX1_mean yX1_mean : Cond) ∈ lw_tbl := by decide +kernel
set_option maxRecDepth 20000 in
theorem t14_21 : (Cond.code yX1_mean cX1_mean 4 (some .double) : Cond) ∈ lw_tbl := List.mem_of_getElem? (i := 361) rfl
set_option maxRecDepth 20000 in
theorem t14_22 : (Cond.methodLink RX2 89 yX2_branches : Cond) ∈ lw_tbl := by decide +kernel
set_option maxRecDepth 20000 in
theorem t14_23 : (Cond.instanceMethod yX2_branches : Cond) ∈ lw_tbl := by decide +kernel
theorem t14_c {x : Cond} {l : List Cond} {P : Cond → Prop} (h : P x) (k : ∀ w ∈ l, P w) : ∀ w ∈ (x :: l), P w := fun w hw => (List.mem_cons.mp hw).elim (fun e => e ▸ h) (k w)
theorem wsL_law0_r14_in : ∀ w ∈ wsL_law0_r14, w ∈ lw_tbl := (t14_c (P := fun w => w ∈ lw_tbl) t14_0 (t14_c (P := fun w => w ∈ lw_tbl) t14_1 (t14_c (P := fun w => w ∈ lw_tbl) t14_2 (t14_c (P := fun w => w ∈ lw_tbl) t14_3 (t14_c (P := fun w => w ∈ lw_tbl) t14_4 (t14_c (P := fun w => w ∈ lw_tbl) t14_5 (t14_c (P := fun w => w ∈ lw_tbl) t14_6 (t14_c (P := fun w => w ∈ lw_tbl) t14_7 (t14_c (P := fun w => w ∈ lw_tbl) t14_8 (t14_c (P := fun w => w ∈ lw_tbl) t14_9 (t14_c (P := fun w => w ∈ lw_tbl) t14_10 (t14_c (P := fun w => w ∈ lw_tbl) t14_11 (t14_c (P := fun w => w ∈ lw_tbl) t14_12 (t14_c (P := fun w => w ∈ lw_tbl) t14_13 (t14_c (P := fun w => w ∈ lw_tbl) t14_14 (t14_c (P := fun w => w ∈ lw_tbl) t14_15 (t14_c (P := fun w => w ∈ lw_tbl) t14_16 (t14_c (P := fun w => w ∈ lw_tbl) t14_17 (t14_c (P := fun w => w ∈ lw_tbl) t14_18 (t14_c (P := fun w => w ∈ lw_tbl) t14_19 (t14_c (P := fun w => w ∈ lw_tbl) t14_20 (t14_c (P := fun w => w ∈ lw_tbl) t14_21 (t14_c (P := fun w => w ∈ lw_tbl) t14_22 (t14_c (P := fun w => w ∈ lw_tbl) t14_23 (fun w h => absurd h List.not_mem_nil)))))))))))))))))))))))))
set_option maxRecDepth 20000 in
theorem wsL_law0_r15_in : ∀ w ∈ wsL_law0_r15, w ∈ lw_tbl := fun w h => (goodIn_p wsL_law0_r15 [365] (by decide +kernel) (by decide +kernel) w h).1
