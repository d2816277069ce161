set_option maxRecDepth 100000 in
theorem zq_reads : Cond.code yL_reads cL_reads 15 (some .boolean) ∈ lw_tbl := List.mem_append_right _ (List.mem_of_getElem? (i := 557) rfl)
set_option maxRecDepth 20000 in
theorem zL_r16 : ∀ w ∈ wsL_law0_r16, w ∈ lw_tbl := (List.forall_mem_append.mpr ⟨(by decide +kernel : ∀ w ∈ ([Cond.code yX7_pass cX7_pass 2 (some .int), Cond.methodLink RL 117 yL_reads, Cond.static yL_reads] : List Cond), w ∈ lw_tbl), (List.forall_mem_cons.mpr ⟨zq_reads, (by decide +kernel : ∀ w ∈ ([Cond.methodLink RL 63 yX7_unlike, Cond.instanceMethod yX7_unlike, Cond.selects RX7 yX7_unlike yX7_unlike, Cond.code yX7_unlike cX7_unlike 3 (some .int), Cond.methodLink RX7 127 yX1_compareNodes, Cond.instanceMethod yX1_compareNodes, Cond.selects RX1 yX1_compareNodes yX1_compareNodes, Cond.code yX1_compareNodes cX1_compareNodes 6 (some .int), Cond.methodLink RX1 29 yX1_makeSums, Cond.static yX1_makeSums, Cond.code yX1_makeSums cX1_makeSums 3 none, Cond.constant RX1 28 (65521), Cond.methodLink RX1 22 yX5_rowSum, Cond.instanceMethod yX5_rowSum, Cond.selects RX5 yX5_rowSum yX5_rowSum, Cond.code yX5_rowSum cX5_rowSum 5 (some .int), Cond.constant RX5 115 (65521), Cond.methodLink RX5 106 yX5_tombstonePart, Cond.instanceMethod yX5_tombstonePart, Cond.selects RX5 yX5_tombstonePart yX5_tombstonePart] : List Cond), w ∈ lw_tbl)⟩)⟩)
set_option maxRecDepth 20000 in
theorem zL_r17 : ∀ w ∈ wsL_law0_r17, w ∈ lw_tbl := by decide +kernel
set_option maxRecDepth 20000 in
theorem zL_r18 : ∀ w ∈ wsL_law0_r18, w ∈ lw_tbl := by decide +kernel
set_option maxRecDepth 20000 in
theorem zL_r19 : ∀ w ∈ wsL_law0_r19, w ∈ lw_tbl := by decide +kernel
set_option maxRecDepth 100000 in
theorem zq_cleans : Cond.code yL_cleans cL_cleans 12 (some .boolean) ∈ lw_tbl := List.mem_append_right _ (List.mem_of_getElem? (i := 663) rfl)
