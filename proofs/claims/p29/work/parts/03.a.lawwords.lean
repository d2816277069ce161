set_option maxRecDepth 100000 in
theorem zq_table : Cond.code yL_table cL_table 9 (some .boolean) ∈ lw_tbl := List.mem_append_right _ (List.mem_of_getElem? (i := 27) rfl)
set_option maxRecDepth 20000 in
theorem zL_r1 : ∀ w ∈ wsL_law0_r1, w ∈ lw_tbl := (List.forall_mem_append.mpr ⟨(by decide +kernel : ∀ w ∈ ([Cond.methodLink RL 150 yL_table, Cond.static yL_table, Cond.initialized RL] : List Cond), w ∈ lw_tbl), (List.forall_mem_cons.mpr ⟨zq_table, (by decide +kernel : ∀ w ∈ ([Cond.classLink RL 11 RX7, Cond.instantiable RX7 7, Cond.initialized RX7, Cond.arrayClass .int, Cond.constant RL 128 (1073741824), Cond.methodLink RL 127 yX7_init, Cond.instanceMethod yX7_init, Cond.code yX7_init cX7_init 2 none, Cond.methodLink RX7 3 objectInit, Cond.instanceMethod objectInit, Cond.code objectInit ⟨#[0xb1]⟩ 1 none, Cond.classLink RX7 9 RX4, Cond.instantiable RX4 2, Cond.initialized RX4, Cond.fieldLink RX7 12 "WideCell" "ranges" "LWideCell$Ranges;", Cond.classLink RX7 16 RX5, Cond.instantiable RX5 6, Cond.initialized RX5, Cond.fieldLink RX7 21 "WideCell" "idealTable" "LWideCell$Table;", Cond.classLink RX7 25 RX3] : List Cond), w ∈ lw_tbl)⟩)⟩)
set_option maxRecDepth 20000 in
theorem zL_r2 : ∀ w ∈ wsL_law0_r2, w ∈ lw_tbl := by decide +kernel
set_option maxRecDepth 20000 in
theorem zL_r3 : ∀ w ∈ wsL_law0_r3, w ∈ lw_tbl := by decide +kernel
set_option maxRecDepth 100000 in
theorem zq_draw : Cond.code yL_draw cL_draw 4 (some .int) ∈ lw_tbl := List.mem_append_right _ (List.mem_of_getElem? (i := 168) rfl)
set_option maxRecDepth 100000 in
theorem zq_step : Cond.code yL_step cL_step 8 (some .boolean) ∈ lw_tbl := List.mem_append_right _ (List.mem_of_getElem? (i := 174) rfl)
