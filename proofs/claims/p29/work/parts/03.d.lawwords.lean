set_option maxRecDepth 100000 in
theorem zq_buries : Cond.code yL_buries cL_buries 16 (some .boolean) ∈ lw_tbl := List.mem_append_right _ (List.mem_of_getElem? (i := 435) rfl)
set_option maxRecDepth 100000 in
theorem zq_deletes : Cond.codeWith yL_deletes cL_deletes 7 (some .int) [(0, 64, 65, 26)] ∈ lw_tbl := List.mem_append_right _ (List.mem_of_getElem? (i := 456) rfl)
set_option maxRecDepth 20000 in
theorem zL_r12 : ∀ w ∈ wsL_law0_r12, w ∈ lw_tbl := (List.forall_mem_append.mpr ⟨(by decide +kernel : ∀ w ∈ ([Cond.static yL_buries] : List Cond), w ∈ lw_tbl), (List.forall_mem_cons.mpr ⟨zq_buries, (List.forall_mem_append.mpr ⟨(by decide +kernel : ∀ w ∈ ([Cond.methodLink RL 42 yX7_buriedBy, Cond.instanceMethod yX7_buriedBy, Cond.selects RX7 yX7_buriedBy yX7_buriedBy, Cond.code yX7_buriedBy cX7_buriedBy 5 (some .int), Cond.methodLink RX7 176 yX5_greatestBurial, Cond.instanceMethod yX5_greatestBurial, Cond.selects RX5 yX5_greatestBurial yX5_greatestBurial, Cond.code yX5_greatestBurial cX5_greatestBurial 6 (some .int), Cond.methodLink RX5 67 Lib.Math.max.name, Cond.methodLink RX5 63 yX5_coverPlace, Cond.instanceMethod yX5_coverPlace, Cond.selects RX5 yX5_coverPlace yX5_coverPlace, Cond.code yX5_coverPlace cX5_coverPlace 5 (some .int), Cond.methodLink RX5 57 yX4_has, Cond.instanceMethod yX4_has, Cond.selects RX4 yX4_has yX4_has, Cond.code yX4_has cX4_has 3 (some .boolean), Cond.methodLink RL 85 yL_deletes, Cond.static yL_deletes] : List Cond), w ∈ lw_tbl), (List.forall_mem_cons.mpr ⟨zq_deletes, (by decide +kernel : ∀ w ∈ ([Cond.classLink RL 26 "java/lang/IllegalStateException", Cond.methodLink RL 10 yX7_deleteCell] : List Cond), w ∈ lw_tbl)⟩)⟩)⟩)⟩)
set_option maxRecDepth 20000 in
theorem zL_r13 : ∀ w ∈ wsL_law0_r13, w ∈ lw_tbl := by decide +kernel
set_option maxRecDepth 20000 in
theorem zL_r14 : ∀ w ∈ wsL_law0_r14, w ∈ lw_tbl := by decide +kernel
set_option maxRecDepth 20000 in
theorem zL_r15 : ∀ w ∈ wsL_law0_r15, w ∈ lw_tbl := by decide +kernel
