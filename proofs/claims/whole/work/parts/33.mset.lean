abbrev rm_k_X8_deleteCell : Room := { frames := 5, cells := 0, slots := 0, locals := 125 }
set_option maxHeartbeats 4000000 in
set_option maxRecDepth 100000 in
theorem k_X8_deleteCell (l : Launch) (G : wG) (σ : cS) (μ : mS) (o : Nat → Int64) (cs : Int32) (row : Nat) (col : Nat) (sp : Int32) (hrow : row < 16) (hcol : col < 4) (hm : mOK μ) : Met l yX8_deleteCell wsX8_deleteCell rm_k_X8_deleteCell (wPc G σ μ o [.ref (gA G 39), .int (cs), .int (nI row), .int (nI col), .int (sp)]) (va_Qi (fun (rr : Int32) (u : cS × mS) => rr = nI (buR μ cs (4 * row + col) sp) ∧ u = (σ, buS μ cs (4 * row + col) sp)) (fun u t => wI G u.1 u.2 o t) (gP G)) 0 0 (gP G) := by
  refine Met.ofW (cc := cX8_deleteCell) (maxL := 5) (ret := (some .int)) (by decide) rfl ?_
  intro p e s m args below meth c s₁ B hml hv
  obtain ⟨hargs, hI⟩ := hv
  have S : CallFix p m c cX8_deleteCell 5 s args wsX8_deleteCell RX8 := ⟨B.exec, B.bytes, hml, findClass_of_methodNamed B.named, atoms_spec (ws := wsX8_deleteCell) B.pre⟩
  have hret := B.returns
  have hlocks := B.notSynchronized
  have Z := wZ_0 hI
  clear hI
  obtain ⟨Q, hQ⟩ : ∃ Q, Q = MQ below (va_Qi (fun (rr : Int32) (u : cS × mS) => rr = nI (buR μ cs (4 * row + col) sp) ∧ u = (σ, buS μ cs (4 * row + col) sp)) (fun u t => wI G u.1 u.2 o t) (gP G)) args s 0 0 (gP G) := ⟨_, rfl⟩
  rw [← hQ]
  have hl := lv_entry [.ref (gA G 39), .int (cs), .int (nI row), .int (nI col), .int (sp)] (n := 5) (Nat.le_of_ble_eq_true rfl)
  rw [show entryFrame m args 5 = entryFrame m ([.ref (gA G 39), .int (cs), .int (nI row), .int (nI col), .int (sp)] : List Value).toArray 5 from by rw [hargs], lg_entry_eq]
  generalize (lg_sl [.ref (gA G 39), .int (cs), .int (nI row), .int (nI col), .int (sp)] ++ List.replicate (5 - (lg_sl [.ref (gA G 39), .int (cs), .int (nI row), .int (nI col), .int (sp)]).length) Slot.unset).toArray = ls at hl ⊢
  have hl : lv_has ls 5 [(0, .ref (gA G 39)), (1, .int (cs)), (2, .int (nI row)), (3, .int (nI col)), (4, .int (sp))] := hl
  refine lv_aload_n S.1 S.2.1 dX8_deleteCell_0 rfl (lv_at hl 0 rfl) ?_
  refine lv_iload_n S.1 S.2.1 dX8_deleteCell_1 rfl (lv_at hl 1 rfl) ?_
  refine lv_iload_n S.1 S.2.1 dX8_deleteCell_2 rfl (lv_at hl 2 rfl) ?_
  refine lv_iload_n S.1 S.2.1 dX8_deleteCell_3 rfl (lv_at hl 3 rfl) ?_
  refine vp_callSi (va_runS (As := [.int (nI row), .int (nI col)]) (rest := [.int (cs), .ref (gA G 39)]) S (k_X8_isCell l G σ μ o (nI row) (nI col) ) (va_cwS 2 S.2.2.2.2 gX8_deleteCell_X8_isCell rfl rfl rfl hy_X8_isCell ⟨Nat.le_of_ble_eq_true rfl, Nat.le_of_ble_eq_true rfl⟩) (wPc_S Z) rfl rfl hl.1 rfl (lv_room (Nat.le_of_ble_eq_true rfl)) dX8_deleteCell_4 ⟨Nat.le_of_ble_eq_true rfl, Nat.le_of_ble_eq_true rfl⟩).run (fun r_1 h_2 => ?_)
  rw [h_2]; clear h_2 r_1
  refine lv_iconst (v := nI 4) S.1 S.2.1 dX8_deleteCell_7 (by decide) ?_
  refine lv_iload_n S.1 S.2.1 dX8_deleteCell_8 rfl (lv_at hl 2 rfl) ?_
  refine r_mulN S dX8_deleteCell_9 ?_
  refine lv_iload_n S.1 S.2.1 dX8_deleteCell_10 rfl (lv_at hl 3 rfl) ?_
  refine r_addN S dX8_deleteCell_11 ?_
  refine lv_iload S.1 S.2.1 dX8_deleteCell_12 (lv_at hl 4 rfl) ?_
  rw [show isCellB (nI row) (nI col) = true from (isCellB_ok hrow hcol)]
  refine va_calli (va_runV (As := [.int (cs), .int (bi true), .int (nI ((4 * row) + col)), .int (sp)]) (rest := []) S (k_X8_buries l G σ μ o cs ((4 * row) + col) sp (by omega) hm) (cwV 4 S.2.2.2.2 gX8_deleteCell_X8_buries rfl rfl rfl ⟨rfl, hy_X8_buries⟩ ⟨Nat.le_of_ble_eq_true rfl, Nat.le_of_ble_eq_true rfl⟩) (wPc_V (q := (RX8, TX8, 19)) Z (by decide) rfl rfl) rfl rfl hl.1 rfl (lv_room (Nat.le_of_ble_eq_true rfl)) dX8_deleteCell_14 ⟨Nat.le_of_ble_eq_true rfl, Nat.le_of_ble_eq_true rfl⟩) Z.2.2.2.2 (fun _ _ h => h) (fun _ h => h) (fun r_3 u_4 T9 H1 locs1 hT9 hvm hw hB hz hk9 hS => ?_)
  obtain ⟨hr9, rfl⟩ := hw
  rw [hr9]; clear hr9 r_3
  have Z : wZ G (σ) (buS μ cs ((4 * row) + col) sp) o s H1 locs1 := wZ_callP Z hB hT9 hS
  clear hB hT9 hS hk9 hz hvm T9
  revert Z; generalize H1 = H; generalize locs1 = locs; intro Z
  refine W.widen (k := 0) (n := 0) (by decide) (by decide) ?_
  rw [hQ]
  have q8 : (buS μ cs (4 * row + col) sp : mS) = buS μ cs ((4 * row) + col) sp := by first | (simp []; done) | (simp []; omega) | (simp [← Int32.not_le]; done) | rfl
  rw [← q8] at Z
  exact W.iret (v := nI (buR μ cs ((4 * row) + col) sp)) S.1 S.2.1 hret (fun _ hT9 hW => ⟨⟨_, (σ, buS μ cs (4 * row + col) sp), rfl, ⟨rfl, rfl⟩, wZ_P Z hT9 hW⟩, Z.2.2.2.2.F hT9⟩) Z.2.2.2.2.2.2 dX8_deleteCell_17

abbrev rm_k_X8_deleteCell_B : Room := { frames := 5, cells := 0, slots := 0, locals := 125 }
set_option maxHeartbeats 4000000 in
set_option maxRecDepth 100000 in
theorem k_X8_deleteCell_B (l : Launch) (G : wG) (σ : cS) (μ : mS) (o : Nat → Int64) (cs : Int32) (row : Int32) (col : Int32) (sp : Int32) (hb : isCellB row col = false) : Met l yX8_deleteCell wsX8_deleteCell rm_k_X8_deleteCell_B (wPc G σ μ o [.ref (gA G 39), .int (cs), .int (row), .int (col), .int (sp)]) (va_Qi (fun (rr : Int32) (u : cS × mS) => rr = nI (0) ∧ u = (σ, thr μ 1)) (fun u t => wI G u.1 u.2 o t) (gP G)) 0 0 (gP G) := by
  refine Met.ofW (cc := cX8_deleteCell) (maxL := 5) (ret := (some .int)) (by decide) rfl ?_
  intro p e s m args below meth c s₁ B hml hv
  obtain ⟨hargs, hI⟩ := hv
  have S : CallFix p m c cX8_deleteCell 5 s args wsX8_deleteCell RX8 := ⟨B.exec, B.bytes, hml, findClass_of_methodNamed B.named, atoms_spec (ws := wsX8_deleteCell) B.pre⟩
  have hret := B.returns
  have hlocks := B.notSynchronized
  have Z := wZ_0 hI
  clear hI
  obtain ⟨Q, hQ⟩ : ∃ Q, Q = MQ below (va_Qi (fun (rr : Int32) (u : cS × mS) => rr = nI (0) ∧ u = (σ, thr μ 1)) (fun u t => wI G u.1 u.2 o t) (gP G)) args s 0 0 (gP G) := ⟨_, rfl⟩
  rw [← hQ]
  have hl := lv_entry [.ref (gA G 39), .int (cs), .int (row), .int (col), .int (sp)] (n := 5) (Nat.le_of_ble_eq_true rfl)
  rw [show entryFrame m args 5 = entryFrame m ([.ref (gA G 39), .int (cs), .int (row), .int (col), .int (sp)] : List Value).toArray 5 from by rw [hargs], lg_entry_eq]
  generalize (lg_sl [.ref (gA G 39), .int (cs), .int (row), .int (col), .int (sp)] ++ List.replicate (5 - (lg_sl [.ref (gA G 39), .int (cs), .int (row), .int (col), .int (sp)]).length) Slot.unset).toArray = ls at hl ⊢
  have hl : lv_has ls 5 [(0, .ref (gA G 39)), (1, .int (cs)), (2, .int (row)), (3, .int (col)), (4, .int (sp))] := hl
  refine lv_aload_n S.1 S.2.1 dX8_deleteCell_0 rfl (lv_at hl 0 rfl) ?_
  refine lv_iload_n S.1 S.2.1 dX8_deleteCell_1 rfl (lv_at hl 1 rfl) ?_
  refine lv_iload_n S.1 S.2.1 dX8_deleteCell_2 rfl (lv_at hl 2 rfl) ?_
  refine lv_iload_n S.1 S.2.1 dX8_deleteCell_3 rfl (lv_at hl 3 rfl) ?_
  refine vp_callSi (va_runS (As := [.int (row), .int (col)]) (rest := [.int (cs), .ref (gA G 39)]) S (k_X8_isCell l G σ μ o row col ) (va_cwS 2 S.2.2.2.2 gX8_deleteCell_X8_isCell rfl rfl rfl hy_X8_isCell ⟨Nat.le_of_ble_eq_true rfl, Nat.le_of_ble_eq_true rfl⟩) (wPc_S Z) rfl rfl hl.1 rfl (lv_room (Nat.le_of_ble_eq_true rfl)) dX8_deleteCell_4 ⟨Nat.le_of_ble_eq_true rfl, Nat.le_of_ble_eq_true rfl⟩).run (fun r_1 h_2 => ?_)
  rw [h_2]; clear h_2 r_1
  refine lv_iconst (v := nI 4) S.1 S.2.1 dX8_deleteCell_7 (by decide) ?_
  refine lv_iload_n S.1 S.2.1 dX8_deleteCell_8 rfl (lv_at hl 2 rfl) ?_
  refine lv_imul S.1 S.2.1 dX8_deleteCell_9 ?_
  refine lv_iload_n S.1 S.2.1 dX8_deleteCell_10 rfl (lv_at hl 3 rfl) ?_
  refine lv_iadd S.1 S.2.1 dX8_deleteCell_11 ?_
  refine lv_iload S.1 S.2.1 dX8_deleteCell_12 (lv_at hl 4 rfl) ?_
  rw [show isCellB row col = false from hb]
  refine va_calli (va_runV (As := [.int (cs), .int (bi false), .int (((nI 4 * row) + col)), .int (sp)]) (rest := []) S (k_X8_buries_B l G σ μ o cs (((nI 4 * row) + col)) sp ) (cwV 4 S.2.2.2.2 gX8_deleteCell_X8_buries rfl rfl rfl ⟨rfl, hy_X8_buries⟩ ⟨Nat.le_of_ble_eq_true rfl, Nat.le_of_ble_eq_true rfl⟩) (wPc_V (q := (RX8, TX8, 19)) Z (by decide) rfl rfl) rfl rfl hl.1 rfl (lv_room (Nat.le_of_ble_eq_true rfl)) dX8_deleteCell_14 ⟨Nat.le_of_ble_eq_true rfl, Nat.le_of_ble_eq_true rfl⟩) Z.2.2.2.2 (fun _ _ h => h) (fun _ h => h) (fun r_3 u_4 T9 H1 locs1 hT9 hvm hw hB hz hk9 hS => ?_)
  obtain ⟨hr9, rfl⟩ := hw
  rw [hr9]; clear hr9 r_3
  have Z : wZ G (σ) (thr μ 1) o s H1 locs1 := wZ_callP Z hB hT9 hS
  clear hB hT9 hS hk9 hz hvm T9
  revert Z; generalize H1 = H; generalize locs1 = locs; intro Z
  refine W.widen (k := 0) (n := 0) (by decide) (by decide) ?_
  rw [hQ]
  exact W.iret (v := nI 0) S.1 S.2.1 hret (fun _ hT9 hW => ⟨⟨_, (σ, thr μ 1), rfl, ⟨rfl, rfl⟩, wZ_P Z hT9 hW⟩, Z.2.2.2.2.F hT9⟩) Z.2.2.2.2.2.2 dX8_deleteCell_17

abbrev rm_k_X8_deleteColumn : Room := { frames := 5, cells := 0, slots := 0, locals := 125 }
set_option maxHeartbeats 4000000 in
set_option maxRecDepth 100000 in
theorem k_X8_deleteColumn (l : Launch) (G : wG) (σ : cS) (μ : mS) (o : Nat → Int64) (cs : Int32) (col : Nat) (sp : Int32) (hcol : col < 4) (hm : mOK μ) : Met l yX8_deleteColumn wsX8_deleteColumn rm_k_X8_deleteColumn (wPc G σ μ o [.ref (gA G 39), .int (cs), .int (nI col), .int (sp)]) (va_Qi (fun (rr : Int32) (u : cS × mS) => rr = nI (buR μ cs (64 + col) sp) ∧ u = (σ, buS μ cs (64 + col) sp)) (fun u t => wI G u.1 u.2 o t) (gP G)) 0 0 (gP G) := by
  refine Met.ofW (cc := cX8_deleteColumn) (maxL := 4) (ret := (some .int)) (by decide) rfl ?_
  intro p e s m args below meth c s₁ B hml hv
  obtain ⟨hargs, hI⟩ := hv
  have S : CallFix p m c cX8_deleteColumn 4 s args wsX8_deleteColumn RX8 := ⟨B.exec, B.bytes, hml, findClass_of_methodNamed B.named, atoms_spec (ws := wsX8_deleteColumn) B.pre⟩
  have hret := B.returns
  have hlocks := B.notSynchronized
  have Z := wZ_0 hI
  clear hI
  obtain ⟨Q, hQ⟩ : ∃ Q, Q = MQ below (va_Qi (fun (rr : Int32) (u : cS × mS) => rr = nI (buR μ cs (64 + col) sp) ∧ u = (σ, buS μ cs (64 + col) sp)) (fun u t => wI G u.1 u.2 o t) (gP G)) args s 0 0 (gP G) := ⟨_, rfl⟩
  rw [← hQ]
  have hl := lv_entry [.ref (gA G 39), .int (cs), .int (nI col), .int (sp)] (n := 4) (Nat.le_of_ble_eq_true rfl)
  rw [show entryFrame m args 4 = entryFrame m ([.ref (gA G 39), .int (cs), .int (nI col), .int (sp)] : List Value).toArray 4 from by rw [hargs], lg_entry_eq]
  generalize (lg_sl [.ref (gA G 39), .int (cs), .int (nI col), .int (sp)] ++ List.replicate (4 - (lg_sl [.ref (gA G 39), .int (cs), .int (nI col), .int (sp)]).length) Slot.unset).toArray = ls at hl ⊢
  have hl : lv_has ls 4 [(0, .ref (gA G 39)), (1, .int (cs)), (2, .int (nI col)), (3, .int (sp))] := hl
  refine lv_aload_n S.1 S.2.1 dX8_deleteColumn_0 rfl (lv_at hl 0 rfl) ?_
  refine lv_iload_n S.1 S.2.1 dX8_deleteColumn_1 rfl (lv_at hl 1 rfl) ?_
  refine lv_iload_n S.1 S.2.1 dX8_deleteColumn_2 rfl (lv_at hl 2 rfl) ?_
  refine lv_iconst (v := nI 0) S.1 S.2.1 dX8_deleteColumn_3 (by decide) ?_
  refine lv_iconst (v := nI 3) S.1 S.2.1 dX8_deleteColumn_4 (by decide) ?_
  refine vp_callSi (va_runS (As := [.int (nI col), .int (nI 0), .int (nI 3)]) (rest := [.int (cs), .ref (gA G 39)]) S (k_X8_isIn l G σ μ o (nI col) (nI 0) (nI 3) ) (va_cwS 3 S.2.2.2.2 gX8_deleteColumn_X8_isIn rfl rfl rfl hy_X8_isIn ⟨Nat.le_of_ble_eq_true rfl, Nat.le_of_ble_eq_true rfl⟩) (wPc_S Z) rfl rfl hl.1 rfl (lv_room (Nat.le_of_ble_eq_true rfl)) dX8_deleteColumn_5 ⟨Nat.le_of_ble_eq_true rfl, Nat.le_of_ble_eq_true rfl⟩).run (fun r_1 h_2 => ?_)
  rw [h_2]; clear h_2 r_1
  refine lv_bipush (v := nI 64) S.1 S.2.1 dX8_deleteColumn_8 (by decide) ?_
  refine lv_iload_n S.1 S.2.1 dX8_deleteColumn_10 rfl (lv_at hl 2 rfl) ?_
  refine r_addN S dX8_deleteColumn_11 ?_
  refine lv_iload_n S.1 S.2.1 dX8_deleteColumn_12 rfl (lv_at hl 3 rfl) ?_
  rw [show isInB (nI col) (nI 0) (nI 3) = true from (isInB_ok (Nat.zero_le _) (by omega) (by decide))]
  refine va_calli (va_runV (As := [.int (cs), .int (bi true), .int (nI (64 + col)), .int (sp)]) (rest := []) S (k_X8_buries l G σ μ o cs (64 + col) sp (by omega) hm) (cwV 4 S.2.2.2.2 gX8_deleteColumn_X8_buries rfl rfl rfl ⟨rfl, hy_X8_buries⟩ ⟨Nat.le_of_ble_eq_true rfl, Nat.le_of_ble_eq_true rfl⟩) (wPc_V (q := (RX8, TX8, 19)) Z (by decide) rfl rfl) rfl rfl hl.1 rfl (lv_room (Nat.le_of_ble_eq_true rfl)) dX8_deleteColumn_13 ⟨Nat.le_of_ble_eq_true rfl, Nat.le_of_ble_eq_true rfl⟩) Z.2.2.2.2 (fun _ _ h => h) (fun _ h => h) (fun r_3 u_4 T9 H1 locs1 hT9 hvm hw hB hz hk9 hS => ?_)
  obtain ⟨hr9, rfl⟩ := hw
  rw [hr9]; clear hr9 r_3
  have Z : wZ G (σ) (buS μ cs (64 + col) sp) o s H1 locs1 := wZ_callP Z hB hT9 hS
  clear hB hT9 hS hk9 hz hvm T9
  revert Z; generalize H1 = H; generalize locs1 = locs; intro Z
  refine W.widen (k := 0) (n := 0) (by decide) (by decide) ?_
  rw [hQ]
  exact W.iret (v := nI (buR μ cs (64 + col) sp)) S.1 S.2.1 hret (fun _ hT9 hW => ⟨⟨_, (σ, buS μ cs (64 + col) sp), rfl, ⟨rfl, rfl⟩, wZ_P Z hT9 hW⟩, Z.2.2.2.2.F hT9⟩) Z.2.2.2.2.2.2 dX8_deleteColumn_16

abbrev rm_k_X8_deleteColumn_B : Room := { frames := 5, cells := 0, slots := 0, locals := 125 }
set_option maxHeartbeats 4000000 in
set_option maxRecDepth 100000 in
theorem k_X8_deleteColumn_B (l : Launch) (G : wG) (σ : cS) (μ : mS) (o : Nat → Int64) (cs : Int32) (col : Int32) (sp : Int32) (hb : isInB col (nI 0) (nI 3) = false) : Met l yX8_deleteColumn wsX8_deleteColumn rm_k_X8_deleteColumn_B (wPc G σ μ o [.ref (gA G 39), .int (cs), .int (col), .int (sp)]) (va_Qi (fun (rr : Int32) (u : cS × mS) => rr = nI (0) ∧ u = (σ, thr μ 1)) (fun u t => wI G u.1 u.2 o t) (gP G)) 0 0 (gP G) := by
  refine Met.ofW (cc := cX8_deleteColumn) (maxL := 4) (ret := (some .int)) (by decide) rfl ?_
  intro p e s m args below meth c s₁ B hml hv
  obtain ⟨hargs, hI⟩ := hv
  have S : CallFix p m c cX8_deleteColumn 4 s args wsX8_deleteColumn RX8 := ⟨B.exec, B.bytes, hml, findClass_of_methodNamed B.named, atoms_spec (ws := wsX8_deleteColumn) B.pre⟩
  have hret := B.returns
  have hlocks := B.notSynchronized
  have Z := wZ_0 hI
  clear hI
  obtain ⟨Q, hQ⟩ : ∃ Q, Q = MQ below (va_Qi (fun (rr : Int32) (u : cS × mS) => rr = nI (0) ∧ u = (σ, thr μ 1)) (fun u t => wI G u.1 u.2 o t) (gP G)) args s 0 0 (gP G) := ⟨_, rfl⟩
  rw [← hQ]
  have hl := lv_entry [.ref (gA G 39), .int (cs), .int (col), .int (sp)] (n := 4) (Nat.le_of_ble_eq_true rfl)
  rw [show entryFrame m args 4 = entryFrame m ([.ref (gA G 39), .int (cs), .int (col), .int (sp)] : List Value).toArray 4 from by rw [hargs], lg_entry_eq]
  generalize (lg_sl [.ref (gA G 39), .int (cs), .int (col), .int (sp)] ++ List.replicate (4 - (lg_sl [.ref (gA G 39), .int (cs), .int (col), .int (sp)]).length) Slot.unset).toArray = ls at hl ⊢
  have hl : lv_has ls 4 [(0, .ref (gA G 39)), (1, .int (cs)), (2, .int (col)), (3, .int (sp))] := hl
  refine lv_aload_n S.1 S.2.1 dX8_deleteColumn_0 rfl (lv_at hl 0 rfl) ?_
  refine lv_iload_n S.1 S.2.1 dX8_deleteColumn_1 rfl (lv_at hl 1 rfl) ?_
  refine lv_iload_n S.1 S.2.1 dX8_deleteColumn_2 rfl (lv_at hl 2 rfl) ?_
  refine lv_iconst (v := nI 0) S.1 S.2.1 dX8_deleteColumn_3 (by decide) ?_
  refine lv_iconst (v := nI 3) S.1 S.2.1 dX8_deleteColumn_4 (by decide) ?_
  refine vp_callSi (va_runS (As := [.int (col), .int (nI 0), .int (nI 3)]) (rest := [.int (cs), .ref (gA G 39)]) S (k_X8_isIn l G σ μ o col (nI 0) (nI 3) ) (va_cwS 3 S.2.2.2.2 gX8_deleteColumn_X8_isIn rfl rfl rfl hy_X8_isIn ⟨Nat.le_of_ble_eq_true rfl, Nat.le_of_ble_eq_true rfl⟩) (wPc_S Z) rfl rfl hl.1 rfl (lv_room (Nat.le_of_ble_eq_true rfl)) dX8_deleteColumn_5 ⟨Nat.le_of_ble_eq_true rfl, Nat.le_of_ble_eq_true rfl⟩).run (fun r_1 h_2 => ?_)
  rw [h_2]; clear h_2 r_1
  refine lv_bipush (v := nI 64) S.1 S.2.1 dX8_deleteColumn_8 (by decide) ?_
  refine lv_iload_n S.1 S.2.1 dX8_deleteColumn_10 rfl (lv_at hl 2 rfl) ?_
  refine lv_iadd S.1 S.2.1 dX8_deleteColumn_11 ?_
  refine lv_iload_n S.1 S.2.1 dX8_deleteColumn_12 rfl (lv_at hl 3 rfl) ?_
  rw [show isInB col (nI 0) (nI 3) = false from hb]
  refine va_calli (va_runV (As := [.int (cs), .int (bi false), .int ((nI 64 + col)), .int (sp)]) (rest := []) S (k_X8_buries_B l G σ μ o cs ((nI 64 + col)) sp ) (cwV 4 S.2.2.2.2 gX8_deleteColumn_X8_buries rfl rfl rfl ⟨rfl, hy_X8_buries⟩ ⟨Nat.le_of_ble_eq_true rfl, Nat.le_of_ble_eq_true rfl⟩) (wPc_V (q := (RX8, TX8, 19)) Z (by decide) rfl rfl) rfl rfl hl.1 rfl (lv_room (Nat.le_of_ble_eq_true rfl)) dX8_deleteColumn_13 ⟨Nat.le_of_ble_eq_true rfl, Nat.le_of_ble_eq_true rfl⟩) Z.2.2.2.2 (fun _ _ h => h) (fun _ h => h) (fun r_3 u_4 T9 H1 locs1 hT9 hvm hw hB hz hk9 hS => ?_)
  obtain ⟨hr9, rfl⟩ := hw
  rw [hr9]; clear hr9 r_3
  have Z : wZ G (σ) (thr μ 1) o s H1 locs1 := wZ_callP Z hB hT9 hS
  clear hB hT9 hS hk9 hz hvm T9
  revert Z; generalize H1 = H; generalize locs1 = locs; intro Z
  refine W.widen (k := 0) (n := 0) (by decide) (by decide) ?_
  rw [hQ]
  exact W.iret (v := nI 0) S.1 S.2.1 hret (fun _ hT9 hW => ⟨⟨_, (σ, thr μ 1), rfl, ⟨rfl, rfl⟩, wZ_P Z hT9 hW⟩, Z.2.2.2.2.F hT9⟩) Z.2.2.2.2.2.2 dX8_deleteColumn_16

abbrev rm_k_X8_deleteRow : Room := { frames := 5, cells := 0, slots := 0, locals := 125 }
set_option maxHeartbeats 4000000 in
set_option maxRecDepth 100000 in
theorem k_X8_deleteRow (l : Launch) (G : wG) (σ : cS) (μ : mS) (o : Nat → Int64) (cs : Int32) (row : Nat) (sp : Int32) (hrow : row < 16) (hm : mOK μ) : Met l yX8_deleteRow wsX8_deleteRow rm_k_X8_deleteRow (wPc G σ μ o [.ref (gA G 39), .int (cs), .int (nI row), .int (sp)]) (va_Qi (fun (rr : Int32) (u : cS × mS) => rr = nI (buR μ cs (68 + row) sp) ∧ u = (σ, buS μ cs (68 + row) sp)) (fun u t => wI G u.1 u.2 o t) (gP G)) 0 0 (gP G) := by
  refine Met.ofW (cc := cX8_deleteRow) (maxL := 4) (ret := (some .int)) (by decide) rfl ?_
  intro p e s m args below meth c s₁ B hml hv
  obtain ⟨hargs, hI⟩ := hv
  have S : CallFix p m c cX8_deleteRow 4 s args wsX8_deleteRow RX8 := ⟨B.exec, B.bytes, hml, findClass_of_methodNamed B.named, atoms_spec (ws := wsX8_deleteRow) B.pre⟩
  have hret := B.returns
  have hlocks := B.notSynchronized
  have Z := wZ_0 hI
  clear hI
  obtain ⟨Q, hQ⟩ : ∃ Q, Q = MQ below (va_Qi (fun (rr : Int32) (u : cS × mS) => rr = nI (buR μ cs (68 + row) sp) ∧ u = (σ, buS μ cs (68 + row) sp)) (fun u t => wI G u.1 u.2 o t) (gP G)) args s 0 0 (gP G) := ⟨_, rfl⟩
  rw [← hQ]
  have hl := lv_entry [.ref (gA G 39), .int (cs), .int (nI row), .int (sp)] (n := 4) (Nat.le_of_ble_eq_true rfl)
  rw [show entryFrame m args 4 = entryFrame m ([.ref (gA G 39), .int (cs), .int (nI row), .int (sp)] : List Value).toArray 4 from by rw [hargs], lg_entry_eq]
  generalize (lg_sl [.ref (gA G 39), .int (cs), .int (nI row), .int (sp)] ++ List.replicate (4 - (lg_sl [.ref (gA G 39), .int (cs), .int (nI row), .int (sp)]).length) Slot.unset).toArray = ls at hl ⊢
  have hl : lv_has ls 4 [(0, .ref (gA G 39)), (1, .int (cs)), (2, .int (nI row)), (3, .int (sp))] := hl
  refine lv_aload_n S.1 S.2.1 dX8_deleteRow_0 rfl (lv_at hl 0 rfl) ?_
  refine lv_iload_n S.1 S.2.1 dX8_deleteRow_1 rfl (lv_at hl 1 rfl) ?_
  refine lv_iload_n S.1 S.2.1 dX8_deleteRow_2 rfl (lv_at hl 2 rfl) ?_
  refine lv_iconst (v := nI 0) S.1 S.2.1 dX8_deleteRow_3 (by decide) ?_
  refine lv_bipush (v := nI 15) S.1 S.2.1 dX8_deleteRow_4 (by decide) ?_
  refine vp_callSi (va_runS (As := [.int (nI row), .int (nI 0), .int (nI 15)]) (rest := [.int (cs), .ref (gA G 39)]) S (k_X8_isIn l G σ μ o (nI row) (nI 0) (nI 15) ) (va_cwS 3 S.2.2.2.2 gX8_deleteRow_X8_isIn rfl rfl rfl hy_X8_isIn ⟨Nat.le_of_ble_eq_true rfl, Nat.le_of_ble_eq_true rfl⟩) (wPc_S Z) rfl rfl hl.1 rfl (lv_room (Nat.le_of_ble_eq_true rfl)) dX8_deleteRow_6 ⟨Nat.le_of_ble_eq_true rfl, Nat.le_of_ble_eq_true rfl⟩).run (fun r_1 h_2 => ?_)
  rw [h_2]; clear h_2 r_1
  refine lv_bipush (v := nI 68) S.1 S.2.1 dX8_deleteRow_9 (by decide) ?_
  refine lv_iload_n S.1 S.2.1 dX8_deleteRow_11 rfl (lv_at hl 2 rfl) ?_
  refine r_addN S dX8_deleteRow_12 ?_
  refine lv_iload_n S.1 S.2.1 dX8_deleteRow_13 rfl (lv_at hl 3 rfl) ?_
  rw [show isInB (nI row) (nI 0) (nI 15) = true from (isInB_ok (Nat.zero_le _) (by omega) (by decide))]
  refine va_calli (va_runV (As := [.int (cs), .int (bi true), .int (nI (68 + row)), .int (sp)]) (rest := []) S (k_X8_buries l G σ μ o cs (68 + row) sp (by omega) hm) (cwV 4 S.2.2.2.2 gX8_deleteRow_X8_buries rfl rfl rfl ⟨rfl, hy_X8_buries⟩ ⟨Nat.le_of_ble_eq_true rfl, Nat.le_of_ble_eq_true rfl⟩) (wPc_V (q := (RX8, TX8, 19)) Z (by decide) rfl rfl) rfl rfl hl.1 rfl (lv_room (Nat.le_of_ble_eq_true rfl)) dX8_deleteRow_14 ⟨Nat.le_of_ble_eq_true rfl, Nat.le_of_ble_eq_true rfl⟩) Z.2.2.2.2 (fun _ _ h => h) (fun _ h => h) (fun r_3 u_4 T9 H1 locs1 hT9 hvm hw hB hz hk9 hS => ?_)
  obtain ⟨hr9, rfl⟩ := hw
  rw [hr9]; clear hr9 r_3
  have Z : wZ G (σ) (buS μ cs (68 + row) sp) o s H1 locs1 := wZ_callP Z hB hT9 hS
  clear hB hT9 hS hk9 hz hvm T9
  revert Z; generalize H1 = H; generalize locs1 = locs; intro Z
  refine W.widen (k := 0) (n := 0) (by decide) (by decide) ?_
  rw [hQ]
  exact W.iret (v := nI (buR μ cs (68 + row) sp)) S.1 S.2.1 hret (fun _ hT9 hW => ⟨⟨_, (σ, buS μ cs (68 + row) sp), rfl, ⟨rfl, rfl⟩, wZ_P Z hT9 hW⟩, Z.2.2.2.2.F hT9⟩) Z.2.2.2.2.2.2 dX8_deleteRow_17

abbrev rm_k_X8_deleteRow_B : Room := { frames := 5, cells := 0, slots := 0, locals := 125 }
set_option maxHeartbeats 4000000 in
set_option maxRecDepth 100000 in
theorem k_X8_deleteRow_B (l : Launch) (G : wG) (σ : cS) (μ : mS) (o : Nat → Int64) (cs : Int32) (row : Int32) (sp : Int32) (hb : isInB row (nI 0) (nI 15) = false) : Met l yX8_deleteRow wsX8_deleteRow rm_k_X8_deleteRow_B (wPc G σ μ o [.ref (gA G 39), .int (cs), .int (row), .int (sp)]) (va_Qi (fun (rr : Int32) (u : cS × mS) => rr = nI (0) ∧ u = (σ, thr μ 1)) (fun u t => wI G u.1 u.2 o t) (gP G)) 0 0 (gP G) := by
  refine Met.ofW (cc := cX8_deleteRow) (maxL := 4) (ret := (some .int)) (by decide) rfl ?_
  intro p e s m args below meth c s₁ B hml hv
  obtain ⟨hargs, hI⟩ := hv
  have S : CallFix p m c cX8_deleteRow 4 s args wsX8_deleteRow RX8 := ⟨B.exec, B.bytes, hml, findClass_of_methodNamed B.named, atoms_spec (ws := wsX8_deleteRow) B.pre⟩
  have hret := B.returns
  have hlocks := B.notSynchronized
  have Z := wZ_0 hI
  clear hI
  obtain ⟨Q, hQ⟩ : ∃ Q, Q = MQ below (va_Qi (fun (rr : Int32) (u : cS × mS) => rr = nI (0) ∧ u = (σ, thr μ 1)) (fun u t => wI G u.1 u.2 o t) (gP G)) args s 0 0 (gP G) := ⟨_, rfl⟩
  rw [← hQ]
  have hl := lv_entry [.ref (gA G 39), .int (cs), .int (row), .int (sp)] (n := 4) (Nat.le_of_ble_eq_true rfl)
  rw [show entryFrame m args 4 = entryFrame m ([.ref (gA G 39), .int (cs), .int (row), .int (sp)] : List Value).toArray 4 from by rw [hargs], lg_entry_eq]
  generalize (lg_sl [.ref (gA G 39), .int (cs), .int (row), .int (sp)] ++ List.replicate (4 - (lg_sl [.ref (gA G 39), .int (cs), .int (row), .int (sp)]).length) Slot.unset).toArray = ls at hl ⊢
  have hl : lv_has ls 4 [(0, .ref (gA G 39)), (1, .int (cs)), (2, .int (row)), (3, .int (sp))] := hl
  refine lv_aload_n S.1 S.2.1 dX8_deleteRow_0 rfl (lv_at hl 0 rfl) ?_
  refine lv_iload_n S.1 S.2.1 dX8_deleteRow_1 rfl (lv_at hl 1 rfl) ?_
  refine lv_iload_n S.1 S.2.1 dX8_deleteRow_2 rfl (lv_at hl 2 rfl) ?_
  refine lv_iconst (v := nI 0) S.1 S.2.1 dX8_deleteRow_3 (by decide) ?_
  refine lv_bipush (v := nI 15) S.1 S.2.1 dX8_deleteRow_4 (by decide) ?_
  refine vp_callSi (va_runS (As := [.int (row), .int (nI 0), .int (nI 15)]) (rest := [.int (cs), .ref (gA G 39)]) S (k_X8_isIn l G σ μ o row (nI 0) (nI 15) ) (va_cwS 3 S.2.2.2.2 gX8_deleteRow_X8_isIn rfl rfl rfl hy_X8_isIn ⟨Nat.le_of_ble_eq_true rfl, Nat.le_of_ble_eq_true rfl⟩) (wPc_S Z) rfl rfl hl.1 rfl (lv_room (Nat.le_of_ble_eq_true rfl)) dX8_deleteRow_6 ⟨Nat.le_of_ble_eq_true rfl, Nat.le_of_ble_eq_true rfl⟩).run (fun r_1 h_2 => ?_)
  rw [h_2]; clear h_2 r_1
  refine lv_bipush (v := nI 68) S.1 S.2.1 dX8_deleteRow_9 (by decide) ?_
  refine lv_iload_n S.1 S.2.1 dX8_deleteRow_11 rfl (lv_at hl 2 rfl) ?_
  refine lv_iadd S.1 S.2.1 dX8_deleteRow_12 ?_
  refine lv_iload_n S.1 S.2.1 dX8_deleteRow_13 rfl (lv_at hl 3 rfl) ?_
  rw [show isInB row (nI 0) (nI 15) = false from hb]
  refine va_calli (va_runV (As := [.int (cs), .int (bi false), .int ((nI 68 + row)), .int (sp)]) (rest := []) S (k_X8_buries_B l G σ μ o cs ((nI 68 + row)) sp ) (cwV 4 S.2.2.2.2 gX8_deleteRow_X8_buries rfl rfl rfl ⟨rfl, hy_X8_buries⟩ ⟨Nat.le_of_ble_eq_true rfl, Nat.le_of_ble_eq_true rfl⟩) (wPc_V (q := (RX8, TX8, 19)) Z (by decide) rfl rfl) rfl rfl hl.1 rfl (lv_room (Nat.le_of_ble_eq_true rfl)) dX8_deleteRow_14 ⟨Nat.le_of_ble_eq_true rfl, Nat.le_of_ble_eq_true rfl⟩) Z.2.2.2.2 (fun _ _ h => h) (fun _ h => h) (fun r_3 u_4 T9 H1 locs1 hT9 hvm hw hB hz hk9 hS => ?_)
  obtain ⟨hr9, rfl⟩ := hw
  rw [hr9]; clear hr9 r_3
  have Z : wZ G (σ) (thr μ 1) o s H1 locs1 := wZ_callP Z hB hT9 hS
  clear hB hT9 hS hk9 hz hvm T9
  revert Z; generalize H1 = H; generalize locs1 = locs; intro Z
  refine W.widen (k := 0) (n := 0) (by decide) (by decide) ?_
  rw [hQ]
  exact W.iret (v := nI 0) S.1 S.2.1 hret (fun _ hT9 hW => ⟨⟨_, (σ, thr μ 1), rfl, ⟨rfl, rfl⟩, wZ_P Z hT9 hW⟩, Z.2.2.2.2.F hT9⟩) Z.2.2.2.2.2.2 dX8_deleteRow_17

theorem i_X8_setUp_X8 : ∀ w ∈ wsX80, w ∈ wsX8_setUp := by decide +kernel
theorem m_X8_setUp_f31 : Cond.fieldLink RX8 31 "WideCellModel" "isUp" "[Z" ∈ wsX8_setUp := by decide +kernel
theorem m_X8_setUp_f35 : Cond.fieldLink RX8 35 "WideCellModel" "hints" "[I" ∈ wsX8_setUp := by decide +kernel
theorem m_X8_setUp_f38 : Cond.fieldLink RX8 38 "WideCellModel" "hintAt" "[I" ∈ wsX8_setUp := by decide +kernel
theorem m_X8_setUp_f41 : Cond.fieldLink RX8 41 "WideCellModel" "hintStamp" "[I" ∈ wsX8_setUp := by decide +kernel
theorem m_X8_setUp_f44 : Cond.fieldLink RX8 44 "WideCellModel" "hintValue" "[I" ∈ wsX8_setUp := by decide +kernel
theorem m_X8_setUp_f47 : Cond.fieldLink RX8 47 "WideCellModel" "hintEnd" "[I" ∈ wsX8_setUp := by decide +kernel
abbrev rm_k_X8_setUp : Room := { frames := 3, cells := 0, slots := 0, locals := 74 }
set_option maxHeartbeats 4000000 in
set_option maxRecDepth 100000 in
theorem k_X8_setUp (l : Launch) (G : wG) (σ : cS) (μ : mS) (o : Nat → Int64) (k : Nat) (up : Bool) (hk3 : k < 3) (hm : mOK μ) : Met l yX8_setUp wsX8_setUp rm_k_X8_setUp (wPc G σ μ o [.ref (gA G 39), .int (nI k), .int (bi up)]) (va_Qi (fun (rr : Int32) (u : cS × mS) => rr = nI (if up = true then mH μ k else 0) ∧ u = (σ, suE μ k up)) (fun u t => wI G u.1 u.2 o t) (gP G)) 0 0 (gP G) := by
  refine Met.ofW (cc := cX8_setUp) (maxL := 5) (ret := (some .int)) (by decide) rfl ?_
  intro p e s m args below meth c s₁ B hml hv
  obtain ⟨hargs, hI⟩ := hv
  have S : CallFix p m c cX8_setUp 5 s args wsX8_setUp RX8 := ⟨B.exec, B.bytes, hml, findClass_of_methodNamed B.named, atoms_spec (ws := wsX8_setUp) B.pre⟩
  have hret := B.returns
  have hlocks := B.notSynchronized
  have Z := wZ_0 hI
  clear hI
  obtain ⟨Q, hQ⟩ : ∃ Q, Q = MQ below (va_Qi (fun (rr : Int32) (u : cS × mS) => rr = nI (if up = true then mH μ k else 0) ∧ u = (σ, suE μ k up)) (fun u t => wI G u.1 u.2 o t) (gP G)) args s 0 0 (gP G) := ⟨_, rfl⟩
  rw [← hQ]
  have hl := lv_entry [.ref (gA G 39), .int (nI k), .int (bi up)] (n := 5) (Nat.le_of_ble_eq_true rfl)
  rw [show entryFrame m args 5 = entryFrame m ([.ref (gA G 39), .int (nI k), .int (bi up)] : List Value).toArray 5 from by rw [hargs], lg_entry_eq]
  generalize (lg_sl [.ref (gA G 39), .int (nI k), .int (bi up)] ++ List.replicate (5 - (lg_sl [.ref (gA G 39), .int (nI k), .int (bi up)]).length) Slot.unset).toArray = ls at hl ⊢
  have hl : lv_has ls 5 [(0, .ref (gA G 39)), (1, .int (nI k)), (2, .int (bi up))] := hl
  have hh := hm.2.2.1 k hk3
  refine lv_aload_n S.1 S.2.1 dX8_setUp_0 rfl (lv_at hl 0 rfl) ?_
  refine lv_iload_n S.1 S.2.1 dX8_setUp_1 rfl (lv_at hl 1 rfl) ?_
  refine vp_callSi (va_runS (As := [.int (nI k)]) (rest := [.ref (gA G 39)]) S (k_X8_isCopy l G σ μ o (nI k) ) (va_cwS 1 S.2.2.2.2 gX8_setUp_X8_isCopy rfl rfl rfl hy_X8_isCopy ⟨Nat.le_of_ble_eq_true rfl, Nat.le_of_ble_eq_true rfl⟩) (wPc_S Z) rfl rfl hl.1 rfl (lv_room (Nat.le_of_ble_eq_true rfl)) dX8_setUp_2 ⟨Nat.le_of_ble_eq_true rfl, Nat.le_of_ble_eq_true rfl⟩).run (fun r_1 h_2 => ?_)
  rw [h_2]; clear h_2 r_1
  refine r_if_eqB S (tgt := 12) dX8_setUp_5 (by decide) (fun c_3 => absurd c_3 (by rw [isCopyB_ok hk3]; decide)) (fun c_3 => ?_)
  refine lv_iconst (v := nI 0) S.1 S.2.1 dX8_setUp_8 (by decide) ?_
  refine lv_goto (tgt := 13) S.1 S.2.1 dX8_setUp_9 (by decide) ?_
  refine va_calli (va_runV (As := [.int (nI 0)]) (rest := []) S (k_X8_can l G σ μ o 0 (by omega)) (cwV 1 S.2.2.2.2 gX8_setUp_X8_can rfl rfl rfl ⟨rfl, hy_X8_can⟩ ⟨Nat.le_of_ble_eq_true rfl, Nat.le_of_ble_eq_true rfl⟩) (wPc_V (q := (RX8, TX8, 19)) Z (by decide) rfl rfl) rfl rfl hl.1 rfl (lv_room (Nat.le_of_ble_eq_true rfl)) dX8_setUp_13 ⟨Nat.le_of_ble_eq_true rfl, Nat.le_of_ble_eq_true rfl⟩) Z.2.2.2.2 (fun _ _ h => h) (fun _ h => h) (fun r_4 u_5 T9 H1 locs1 hT9 hvm hw hB hz hk9 hS => ?_)
  obtain ⟨hr9, rfl⟩ := hw
  rw [hr9]; clear hr9 r_4
  have Z : wZ G (σ) (thr μ 0) o s H1 locs1 := wZ_callP Z hB hT9 hS
  clear hB hT9 hS hk9 hz hvm T9
  revert Z; generalize H1 = H; generalize locs1 = locs; intro Z
  refine W.widen (k := 0) (n := 0) (by decide) (by decide) ?_
  refine r_if_neB S (tgt := 21) dX8_setUp_16 (by decide) (fun c_6 => ?_) (fun c_6 => absurd c_6 (by decide))
  refine lv_aload_n S.1 S.2.1 dX8_setUp_21 rfl (lv_at hl 0 rfl) ?_
  refine r_get (C := RX8) (T := TX8) (N := 19) (ci := 8) S Z (by decide) rfl rfl i_X8_setUp_X8 8 (by decide) m_X8_setUp_f31 rfl (v := .ref (gA G 47)) rfl dX8_setUp_22 ?_
  refine lv_iload_n S.1 S.2.1 dX8_setUp_25 rfl (lv_at hl 1 rfl) ?_
  refine lv_iload_n S.1 S.2.1 dX8_setUp_26 rfl (lv_at hl 2 rfl) ?_
  refine r_zast (σ' := σ) (μ' := mU' (thr μ 0) k up) (k := 47) (n := 4) (f := fun j => bi (mU (thr μ 0) j)) S Z (by decide) rfl (upd_bi _ _ _) rfl (sMU _ _) (by omega) (by decide) dX8_setUp_27 (fun H locs Z => ?_)
  refine lv_iload_n S.1 S.2.1 dX8_setUp_28 rfl (lv_at hl 2 rfl) ?_
  refine r_if_eqB S (tgt := 41) dX8_setUp_29 (by decide) (fun c_7 => ?_) (fun c_7 => ?_)
  · skip
    refine lv_iconst (v := nI 0) S.1 S.2.1 dX8_setUp_41 (by decide) ?_
    refine lv_istore_n (lv' := [(3, .int (nI 0)), (0, .ref (gA G 39)), (1, .int (nI k)), (2, .int (bi up))]) S.1 S.2.1 dX8_setUp_42 rfl hl (by decide) rfl (fun ls hl => ?_)
    refine lv_bipush (v := nI 10) S.1 S.2.1 dX8_setUp_43 (by decide) ?_
    refine lv_iload_n S.1 S.2.1 dX8_setUp_45 rfl (lv_at hl 2 rfl) ?_
    refine r_mulN S dX8_setUp_46 ?_
    refine lv_istore (lv' := [(4, .int (nI (10 * k))), (3, .int (nI 0)), (0, .ref (gA G 39)), (1, .int (nI k)), (2, .int (bi up))]) S.1 S.2.1 dX8_setUp_47 hl (by decide) rfl (fun ls hl => ?_)
    refine lv_iload S.1 S.2.1 dX8_setUp_49 (lv_at hl 0 rfl) ?_
    refine lv_bipush (v := nI 10) S.1 S.2.1 dX8_setUp_51 (by decide) ?_
    refine lv_iload_n S.1 S.2.1 dX8_setUp_53 rfl (lv_at hl 3 rfl) ?_
    refine r_mulN S dX8_setUp_54 ?_
    refine lv_iload_n S.1 S.2.1 dX8_setUp_55 rfl (lv_at hl 1 rfl) ?_
    refine r_addN S dX8_setUp_56 ?_
    refine r_icmpN_ge S (tgt := 99) (by omega) (by omega) dX8_setUp_57 (by decide) (fun c_8 => ?_) (fun c_8 => absurd c_8 (by omega))
    refine lv_aload_n S.1 S.2.1 dX8_setUp_99 rfl (lv_at hl 2 rfl) ?_
    refine r_get (C := RX8) (T := TX8) (N := 19) (ci := 8) S Z (by decide) rfl rfl i_X8_setUp_X8 9 (by decide) m_X8_setUp_f35 rfl (v := .ref (gA G 48)) rfl dX8_setUp_100 ?_
    refine lv_iload_n S.1 S.2.1 dX8_setUp_103 rfl (lv_at hl 3 rfl) ?_
    refine lv_dup2_11 S.1 S.2.1 dX8_setUp_104 rfl rfl ?_
    refine r_iald (k := 48) (n := 3) (f := fun j => nI (mH (mU' (thr μ 0) k up) j)) S Z (by decide) rfl (by omega) (by decide) dX8_setUp_105 ?_
    refine lv_iload_n S.1 S.2.1 dX8_setUp_106 rfl (lv_at hl 1 rfl) ?_
    refine r_subN S (by first | omega | exact Nat.le_of_eq (congrFun (suS_k _).1 _).symm) dX8_setUp_107 ?_
    refine r_iast (σ' := σ) (μ' := mH' (mU' (thr μ 0) k up) k ((mH (mU' (thr μ 0) k up) k) - 0)) (k := 48) (n := 3) (f := fun j => nI (mH (mU' (thr μ 0) k up) j)) S Z (by decide) rfl (upd_nI _ _ _) rfl (sMH _ _) (by omega) (by decide) dX8_setUp_108 (fun H locs Z => ?_)
    refine lv_iload_n S.1 S.2.1 dX8_setUp_109 rfl (lv_at hl 1 rfl) ?_
    rw [hQ]
    have q8 : (suE μ k up : mS) = mH' (mU' (thr μ 0) k up) k ((mH (mU' (thr μ 0) k up) k) - 0) := by first | (rw [show up = false from by assumption]; unfold suE; rw [if_neg (by decide), Nat.sub_zero, mH_k]; done) | (have e1 : i = mH μ k := (by omega); subst e1; rw [(suS_k (μ := μ) (k := k) (mH μ k)).1, Nat.sub_self]; try (unfold suE; rw [if_pos (by assumption)]))
    rw [← q8] at Z
    exact W.iret (v := nI 0) S.1 S.2.1 hret (fun _ hT9 hW => ⟨⟨_, (σ, suE μ k up), rfl, ⟨(by first | (rw [if_pos (by assumption)]; done) | (rw [if_neg (by simp [*])]; done)), rfl⟩, wZ_P Z hT9 hW⟩, Z.2.2.2.2.F hT9⟩) Z.2.2.2.2.2.2 dX8_setUp_110
  · skip
    refine lv_aload_n S.1 S.2.1 dX8_setUp_32 rfl (lv_at hl 0 rfl) ?_
    refine r_get (C := RX8) (T := TX8) (N := 19) (ci := 8) S Z (by decide) rfl rfl i_X8_setUp_X8 9 (by decide) m_X8_setUp_f35 rfl (v := .ref (gA G 48)) rfl dX8_setUp_33 ?_
    refine lv_iload_n S.1 S.2.1 dX8_setUp_36 rfl (lv_at hl 1 rfl) ?_
    refine r_iald (k := 48) (n := 3) (f := fun j => nI (mH (mU' (thr μ 0) k up) j)) S Z (by decide) rfl (by omega) (by decide) dX8_setUp_37 ?_
    refine lv_goto (tgt := 42) S.1 S.2.1 dX8_setUp_38 (by decide) ?_
    refine lv_istore_n (lv' := [(3, .int (nI (mH (mU' (thr μ 0) k up) k))), (0, .ref (gA G 39)), (1, .int (nI k)), (2, .int (bi up))]) S.1 S.2.1 dX8_setUp_42 rfl hl (by decide) rfl (fun ls hl => ?_)
    refine lv_bipush (v := nI 10) S.1 S.2.1 dX8_setUp_43 (by decide) ?_
    refine lv_iload_n S.1 S.2.1 dX8_setUp_45 rfl (lv_at hl 2 rfl) ?_
    refine r_mulN S dX8_setUp_46 ?_
    refine lv_istore (lv' := [(4, .int (nI (10 * k))), (3, .int (nI (mH (mU' (thr μ 0) k up) k))), (0, .ref (gA G 39)), (1, .int (nI k)), (2, .int (bi up))]) S.1 S.2.1 dX8_setUp_47 hl (by decide) rfl (fun ls hl => ?_)
    have L_49 : ∀ (n : Nat) (i : Nat) (hup : up = true) (hi : i ≤ mH μ k) (hn : mH μ k - i < n) (H : Heap) (locs : List Loc) (Z : wZ G (σ) (suS μ k i) o s H locs) (ls : Array Slot) (hl : lv_has ls 5 [(0, .ref (gA G 39)), (1, .int (nI k)), (2, .int (bi up)), (3, .int (nI (mH μ k))), (4, .int (nI (10 * k + i)))]), W p l e (headSpec wsX8_setUp rm_k_X8_setUp).room s m args below meth c H locs 0 0 Q (F0 m 49 ls []) := by
      intro n
      induction n with
      | zero => intro i hup hi hn; omega
      | succ n ih_49 =>
        intro i hup hi hn H locs Z ls hl
        refine lv_iload S.1 S.2.1 dX8_setUp_49 (lv_at hl 4 rfl) ?_
        refine lv_bipush (v := nI 10) S.1 S.2.1 dX8_setUp_51 (by decide) ?_
        refine lv_iload_n S.1 S.2.1 dX8_setUp_53 rfl (lv_at hl 1 rfl) ?_
        refine r_mulN S dX8_setUp_54 ?_
        refine lv_iload_n S.1 S.2.1 dX8_setUp_55 rfl (lv_at hl 3 rfl) ?_
        refine r_addN S dX8_setUp_56 ?_
        refine r_icmpN_ge S (tgt := 99) (by omega) (by omega) dX8_setUp_57 (by decide) (fun c_9 => ?_) (fun c_9 => ?_)
        · skip
          refine lv_aload_n S.1 S.2.1 dX8_setUp_99 rfl (lv_at hl 0 rfl) ?_
          refine r_get (C := RX8) (T := TX8) (N := 19) (ci := 8) S Z (by decide) rfl rfl i_X8_setUp_X8 9 (by decide) m_X8_setUp_f35 rfl (v := .ref (gA G 48)) rfl dX8_setUp_100 ?_
          refine lv_iload_n S.1 S.2.1 dX8_setUp_103 rfl (lv_at hl 1 rfl) ?_
          refine lv_dup2_11 S.1 S.2.1 dX8_setUp_104 rfl rfl ?_
          refine r_iald (k := 48) (n := 3) (f := fun j => nI (mH (suS μ k i) j)) S Z (by decide) rfl (by omega) (by decide) dX8_setUp_105 ?_
          refine lv_iload_n S.1 S.2.1 dX8_setUp_106 rfl (lv_at hl 3 rfl) ?_
          refine r_subN S (by first | omega | exact Nat.le_of_eq (congrFun (suS_k _).1 _).symm) dX8_setUp_107 ?_
          refine r_iast (σ' := σ) (μ' := mH' (suS μ k i) k ((mH (suS μ k i) k) - (mH μ k))) (k := 48) (n := 3) (f := fun j => nI (mH (suS μ k i) j)) S Z (by decide) rfl (upd_nI _ _ _) rfl (sMH _ _) (by omega) (by decide) dX8_setUp_108 (fun H locs Z => ?_)
          refine lv_iload_n S.1 S.2.1 dX8_setUp_109 rfl (lv_at hl 3 rfl) ?_
          rw [hQ]
          have q8 : (suE μ k up : mS) = mH' (suS μ k i) k ((mH (suS μ k i) k) - (mH μ k)) := by first | (rw [show up = false from by assumption]; unfold suE; rw [if_neg (by decide), Nat.sub_zero, mH_k]; done) | (have e1 : i = mH μ k := (by omega); subst e1; rw [(suS_k (μ := μ) (k := k) (mH μ k)).1, Nat.sub_self]; try (unfold suE; rw [if_pos (by assumption)]))
          rw [← q8] at Z
          exact W.iret (v := nI (mH μ k)) S.1 S.2.1 hret (fun _ hT9 hW => ⟨⟨_, (σ, suE μ k up), rfl, ⟨(by first | (rw [if_pos (by assumption)]; done) | (rw [if_neg (by simp [*])]; done)), rfl⟩, wZ_P Z hT9 hW⟩, Z.2.2.2.2.F hT9⟩) Z.2.2.2.2.2.2 dX8_setUp_110
        · skip
          refine lv_aload_n S.1 S.2.1 dX8_setUp_60 rfl (lv_at hl 0 rfl) ?_
          refine lv_iload_n S.1 S.2.1 dX8_setUp_61 rfl (lv_at hl 1 rfl) ?_
          refine lv_aload_n S.1 S.2.1 dX8_setUp_62 rfl (lv_at hl 0 rfl) ?_
          refine r_get (C := RX8) (T := TX8) (N := 19) (ci := 8) S Z (by decide) rfl rfl i_X8_setUp_X8 10 (by decide) m_X8_setUp_f38 rfl (v := .ref (gA G 49)) rfl dX8_setUp_63 ?_
          refine lv_iload S.1 S.2.1 dX8_setUp_66 (lv_at hl 4 rfl) ?_
          refine r_iald (k := 49) (n := 30) (f := fun j => nI (mA (suS μ k i) j)) S Z (by decide) rfl (by omega) (by decide) dX8_setUp_68 ?_
          refine lv_aload_n S.1 S.2.1 dX8_setUp_69 rfl (lv_at hl 0 rfl) ?_
          refine r_get (C := RX8) (T := TX8) (N := 19) (ci := 8) S Z (by decide) rfl rfl i_X8_setUp_X8 11 (by decide) m_X8_setUp_f41 rfl (v := .ref (gA G 50)) rfl dX8_setUp_70 ?_
          refine lv_iload S.1 S.2.1 dX8_setUp_73 (lv_at hl 4 rfl) ?_
          refine r_ialdM S Z (n := 30) ⟨rfl, rfl⟩ (by omega) (by decide) dX8_setUp_75 ?_
          refine lv_aload_n S.1 S.2.1 dX8_setUp_76 rfl (lv_at hl 0 rfl) ?_
          refine r_get (C := RX8) (T := TX8) (N := 19) (ci := 8) S Z (by decide) rfl rfl i_X8_setUp_X8 12 (by decide) m_X8_setUp_f44 rfl (v := .ref (gA G 51)) rfl dX8_setUp_77 ?_
          refine lv_iload S.1 S.2.1 dX8_setUp_80 (lv_at hl 4 rfl) ?_
          refine r_ialdM S Z (n := 30) ⟨rfl, rfl⟩ (by omega) (by decide) dX8_setUp_82 ?_
          refine lv_aload_n S.1 S.2.1 dX8_setUp_83 rfl (lv_at hl 0 rfl) ?_
          refine r_get (C := RX8) (T := TX8) (N := 19) (ci := 8) S Z (by decide) rfl rfl i_X8_setUp_X8 13 (by decide) m_X8_setUp_f47 rfl (v := .ref (gA G 52)) rfl dX8_setUp_84 ?_
          refine lv_iload S.1 S.2.1 dX8_setUp_87 (lv_at hl 4 rfl) ?_
          refine r_ialdM S Z (n := 30) ⟨rfl, rfl⟩ (by omega) (by decide) dX8_setUp_89 ?_
          refine va_callv (va_runV (As := [.int (nI k), .int (nI (mA (suS μ k i) (10 * k + i))), .int (mI (suS μ k i) 50 (10 * k + i)), .int (mI (suS μ k i) 51 (10 * k + i)), .int (mI (suS μ k i) 52 (10 * k + i))]) (rest := []) S (k_X8_goesTo l G σ (suS μ k i) o k (mA (suS μ k i) (10 * k + i)) (mI (suS μ k i) 50 (10 * k + i)) (mI (suS μ k i) 51 (10 * k + i)) (mI (suS μ k i) 52 (10 * k + i)) (by omega) ((ok_suS hm hk3 i).2.2.2 _ (by omega)) (ok_suS hm hk3 i)) (cwV 5 S.2.2.2.2 gX8_setUp_X8_goesTo rfl rfl rfl ⟨rfl, hy_X8_goesTo⟩ ⟨Nat.le_of_ble_eq_true rfl, Nat.le_of_ble_eq_true rfl⟩) (wPc_V (q := (RX8, TX8, 19)) Z (by decide) rfl rfl) rfl rfl hl.1 rfl (lv_room (Nat.le_of_ble_eq_true rfl)) dX8_setUp_90 ⟨Nat.le_of_ble_eq_true rfl, Nat.le_of_ble_eq_true rfl⟩) Z.2.2.2.2 (fun _ _ h => h) (fun _ h => h) (fun u_11 T9 H1 locs1 hT9 hvm hw hB hz hk9 hS => ?_)
          subst hw
          have Z : wZ G (σ) (goes2 (suS μ k i) k (mA (suS μ k i) (10 * k + i)) (mI (suS μ k i) 50 (10 * k + i)) (mI (suS μ k i) 51 (10 * k + i)) (mI (suS μ k i) 52 (10 * k + i))) o s H1 locs1 := wZ_callP Z hB hT9 hS
          clear hB hT9 hS hk9 hz hvm T9
          revert Z; generalize H1 = H; generalize locs1 = locs; intro Z
          refine W.widen (k := 0) (n := 0) (by decide) (by decide) ?_
          refine lv_iinc (v := nI (10 * k + i + 1)) (lv' := [(4, .int (nI (10 * k + i + 1))), (0, .ref (gA G 39)), (1, .int (nI k)), (2, .int (bi up)), (3, .int (nI (mH μ k)))]) S.1 S.2.1 dX8_setUp_93 hl (k := 4) rfl (nI_inc rfl) (by decide) rfl (fun ls hl => ?_)
          refine lv_goto (tgt := 49) S.1 S.2.1 dX8_setUp_96 (by decide) ?_
          have q_12 : (nI (10 * k + (i + 1)) : Int32) = nI (10 * k + i + 1) := by exact congrArg nI (by omega)
          have hl : lv_has ls 5 [(0, .ref (gA G 39)), (1, .int (nI k)), (2, .int (bi up)), (3, .int (nI (mH μ k))), (4, .int (nI (10 * k + (i + 1))))] := by
            have hl := lv_sub hl [1, 2, 3, 4, 0] rfl
            rw [q_12]; exact hl
          have q8 : (suS μ k (i + 1) : mS) = goes2 (suS μ k i) k (mA (suS μ k i) (10 * k + i)) (mI (suS μ k i) 50 (10 * k + i)) (mI (suS μ k i) 51 (10 * k + i)) (mI (suS μ k i) 52 (10 * k + i)) := by rfl
          rw [← q8] at Z
          exact ih_49 (i + 1) (by assumption) (by omega) (by omega) _ _ Z ls (hl)
    have q_13 : (nI (mH μ k) : Int32) = nI (mH (mU' (thr μ 0) k up) k) := by rfl
    have q_14 : (nI (10 * k + 0) : Int32) = nI (10 * k) := by first | rfl | exact congrArg nI (by omega)
    have hl : lv_has ls 5 [(0, .ref (gA G 39)), (1, .int (nI k)), (2, .int (bi up)), (3, .int (nI (mH μ k))), (4, .int (nI (10 * k + 0)))] := by
      have hl := lv_sub hl [2, 3, 4, 1, 0] rfl
      rw [q_13, q_14]; exact hl
    have q8 : (suS μ k 0 : mS) = mU' (thr μ 0) k up := by first | rfl | (rw [show up = true from by assumption]; rfl)
    rw [← q8] at Z
    exact L_49 (mH μ k - 0 + 1) 0 (by assumption) (by omega) (by omega) _ _ Z ls (hl)

abbrev rm_k_X8_setUp_B : Room := { frames := 2, cells := 0, slots := 0, locals := 42 }
set_option maxHeartbeats 4000000 in
set_option maxRecDepth 100000 in
theorem k_X8_setUp_B (l : Launch) (G : wG) (σ : cS) (μ : mS) (o : Nat → Int64) (k : Int32) (up : Bool) (hb : isCopyB k = false) : Met l yX8_setUp wsX8_setUp rm_k_X8_setUp_B (wPc G σ μ o [.ref (gA G 39), .int (k), .int (bi up)]) (va_Qi (fun (rr : Int32) (u : cS × mS) => rr = nI (0) ∧ u = (σ, thr μ 1)) (fun u t => wI G u.1 u.2 o t) (gP G)) 0 0 (gP G) := by
  refine Met.ofW (cc := cX8_setUp) (maxL := 5) (ret := (some .int)) (by decide) rfl ?_
  intro p e s m args below meth c s₁ B hml hv
  obtain ⟨hargs, hI⟩ := hv
  have S : CallFix p m c cX8_setUp 5 s args wsX8_setUp RX8 := ⟨B.exec, B.bytes, hml, findClass_of_methodNamed B.named, atoms_spec (ws := wsX8_setUp) B.pre⟩
  have hret := B.returns
  have hlocks := B.notSynchronized
  have Z := wZ_0 hI
  clear hI
  obtain ⟨Q, hQ⟩ : ∃ Q, Q = MQ below (va_Qi (fun (rr : Int32) (u : cS × mS) => rr = nI (0) ∧ u = (σ, thr μ 1)) (fun u t => wI G u.1 u.2 o t) (gP G)) args s 0 0 (gP G) := ⟨_, rfl⟩
  rw [← hQ]
  have hl := lv_entry [.ref (gA G 39), .int (k), .int (bi up)] (n := 5) (Nat.le_of_ble_eq_true rfl)
  rw [show entryFrame m args 5 = entryFrame m ([.ref (gA G 39), .int (k), .int (bi up)] : List Value).toArray 5 from by rw [hargs], lg_entry_eq]
  generalize (lg_sl [.ref (gA G 39), .int (k), .int (bi up)] ++ List.replicate (5 - (lg_sl [.ref (gA G 39), .int (k), .int (bi up)]).length) Slot.unset).toArray = ls at hl ⊢
  have hl : lv_has ls 5 [(0, .ref (gA G 39)), (1, .int (k)), (2, .int (bi up))] := hl
  refine lv_aload_n S.1 S.2.1 dX8_setUp_0 rfl (lv_at hl 0 rfl) ?_
  refine lv_iload_n S.1 S.2.1 dX8_setUp_1 rfl (lv_at hl 1 rfl) ?_
  refine vp_callSi (va_runS (As := [.int (k)]) (rest := [.ref (gA G 39)]) S (k_X8_isCopy l G σ μ o k ) (va_cwS 1 S.2.2.2.2 gX8_setUp_X8_isCopy rfl rfl rfl hy_X8_isCopy ⟨Nat.le_of_ble_eq_true rfl, Nat.le_of_ble_eq_true rfl⟩) (wPc_S Z) rfl rfl hl.1 rfl (lv_room (Nat.le_of_ble_eq_true rfl)) dX8_setUp_2 ⟨Nat.le_of_ble_eq_true rfl, Nat.le_of_ble_eq_true rfl⟩).run (fun r_1 h_2 => ?_)
  rw [h_2]; clear h_2 r_1
  refine r_if_eqB S (tgt := 12) dX8_setUp_5 (by decide) (fun c_3 => ?_) (fun c_3 => absurd c_3 (by rw [hb]; decide))
  refine lv_iconst (v := nI 1) S.1 S.2.1 dX8_setUp_12 (by decide) ?_
  refine va_calli (va_runV (As := [.int (nI 1)]) (rest := []) S (k_X8_can l G σ μ o 1 (by omega)) (cwV 1 S.2.2.2.2 gX8_setUp_X8_can rfl rfl rfl ⟨rfl, hy_X8_can⟩ ⟨Nat.le_of_ble_eq_true rfl, Nat.le_of_ble_eq_true rfl⟩) (wPc_V (q := (RX8, TX8, 19)) Z (by decide) rfl rfl) rfl rfl hl.1 rfl (lv_room (Nat.le_of_ble_eq_true rfl)) dX8_setUp_13 ⟨Nat.le_of_ble_eq_true rfl, Nat.le_of_ble_eq_true rfl⟩) Z.2.2.2.2 (fun _ _ h => h) (fun _ h => h) (fun r_4 u_5 T9 H1 locs1 hT9 hvm hw hB hz hk9 hS => ?_)
  obtain ⟨hr9, rfl⟩ := hw
  rw [hr9]; clear hr9 r_4
  have Z : wZ G (σ) (thr μ 1) o s H1 locs1 := wZ_callP Z hB hT9 hS
  clear hB hT9 hS hk9 hz hvm T9
  revert Z; generalize H1 = H; generalize locs1 = locs; intro Z
  refine W.widen (k := 0) (n := 0) (by decide) (by decide) ?_
  refine r_if_neB S (tgt := 21) dX8_setUp_16 (by decide) (fun c_6 => absurd c_6 (by decide)) (fun c_6 => ?_)
  refine lv_iconst (v := nI 0) S.1 S.2.1 dX8_setUp_19 (by decide) ?_
  rw [hQ]
  exact W.iret (v := nI 0) S.1 S.2.1 hret (fun _ hT9 hW => ⟨⟨_, (σ, thr μ 1), rfl, ⟨rfl, rfl⟩, wZ_P Z hT9 hW⟩, Z.2.2.2.2.F hT9⟩) Z.2.2.2.2.2.2 dX8_setUp_20

theorem i_X8_loseHints_X8 : ∀ w ∈ wsX80, w ∈ wsX8_loseHints := by decide +kernel
theorem m_X8_loseHints_f35 : Cond.fieldLink RX8 35 "WideCellModel" "hints" "[I" ∈ wsX8_loseHints := by decide +kernel
abbrev rm_k_X8_loseHints : Room := { frames := 2, cells := 0, slots := 0, locals := 42 }
set_option maxHeartbeats 4000000 in
set_option maxRecDepth 100000 in
theorem k_X8_loseHints (l : Launch) (G : wG) (σ : cS) (μ : mS) (o : Nat → Int64) (k : Nat) (hk3 : k < 3) : Met l yX8_loseHints wsX8_loseHints rm_k_X8_loseHints (wPc G σ μ o [.ref (gA G 39), .int (nI k)]) (va_Qi (fun (rr : Int32) (u : cS × mS) => rr = nI (mH μ k) ∧ u = (σ, mH' (thr μ 0) k 0)) (fun u t => wI G u.1 u.2 o t) (gP G)) 0 0 (gP G) := by
  refine Met.ofW (cc := cX8_loseHints) (maxL := 3) (ret := (some .int)) (by decide) rfl ?_
  intro p e s m args below meth c s₁ B hml hv
  obtain ⟨hargs, hI⟩ := hv
  have S : CallFix p m c cX8_loseHints 3 s args wsX8_loseHints RX8 := ⟨B.exec, B.bytes, hml, findClass_of_methodNamed B.named, atoms_spec (ws := wsX8_loseHints) B.pre⟩
  have hret := B.returns
  have hlocks := B.notSynchronized
  have Z := wZ_0 hI
  clear hI
  obtain ⟨Q, hQ⟩ : ∃ Q, Q = MQ below (va_Qi (fun (rr : Int32) (u : cS × mS) => rr = nI (mH μ k) ∧ u = (σ, mH' (thr μ 0) k 0)) (fun u t => wI G u.1 u.2 o t) (gP G)) args s 0 0 (gP G) := ⟨_, rfl⟩
  rw [← hQ]
  have hl := lv_entry [.ref (gA G 39), .int (nI k)] (n := 3) (Nat.le_of_ble_eq_true rfl)
  rw [show entryFrame m args 3 = entryFrame m ([.ref (gA G 39), .int (nI k)] : List Value).toArray 3 from by rw [hargs], lg_entry_eq]
  generalize (lg_sl [.ref (gA G 39), .int (nI k)] ++ List.replicate (3 - (lg_sl [.ref (gA G 39), .int (nI k)]).length) Slot.unset).toArray = ls at hl ⊢
  have hl : lv_has ls 3 [(0, .ref (gA G 39)), (1, .int (nI k))] := hl
  refine lv_aload_n S.1 S.2.1 dX8_loseHints_0 rfl (lv_at hl 0 rfl) ?_
  refine lv_iload_n S.1 S.2.1 dX8_loseHints_1 rfl (lv_at hl 1 rfl) ?_
  refine vp_callSi (va_runS (As := [.int (nI k)]) (rest := [.ref (gA G 39)]) S (k_X8_isCopy l G σ μ o (nI k) ) (va_cwS 1 S.2.2.2.2 gX8_loseHints_X8_isCopy rfl rfl rfl hy_X8_isCopy ⟨Nat.le_of_ble_eq_true rfl, Nat.le_of_ble_eq_true rfl⟩) (wPc_S Z) rfl rfl hl.1 rfl (lv_room (Nat.le_of_ble_eq_true rfl)) dX8_loseHints_2 ⟨Nat.le_of_ble_eq_true rfl, Nat.le_of_ble_eq_true rfl⟩).run (fun r_1 h_2 => ?_)
  rw [h_2]; clear h_2 r_1
  refine r_if_eqB S (tgt := 12) dX8_loseHints_5 (by decide) (fun c_3 => absurd c_3 (by rw [isCopyB_ok hk3]; decide)) (fun c_3 => ?_)
  refine lv_iconst (v := nI 0) S.1 S.2.1 dX8_loseHints_8 (by decide) ?_
  refine lv_goto (tgt := 13) S.1 S.2.1 dX8_loseHints_9 (by decide) ?_
  refine va_calli (va_runV (As := [.int (nI 0)]) (rest := []) S (k_X8_can l G σ μ o 0 (by omega)) (cwV 1 S.2.2.2.2 gX8_loseHints_X8_can rfl rfl rfl ⟨rfl, hy_X8_can⟩ ⟨Nat.le_of_ble_eq_true rfl, Nat.le_of_ble_eq_true rfl⟩) (wPc_V (q := (RX8, TX8, 19)) Z (by decide) rfl rfl) rfl rfl hl.1 rfl (lv_room (Nat.le_of_ble_eq_true rfl)) dX8_loseHints_13 ⟨Nat.le_of_ble_eq_true rfl, Nat.le_of_ble_eq_true rfl⟩) Z.2.2.2.2 (fun _ _ h => h) (fun _ h => h) (fun r_4 u_5 T9 H1 locs1 hT9 hvm hw hB hz hk9 hS => ?_)
  obtain ⟨hr9, rfl⟩ := hw
  rw [hr9]; clear hr9 r_4
  have Z : wZ G (σ) (thr μ 0) o s H1 locs1 := wZ_callP Z hB hT9 hS
  clear hB hT9 hS hk9 hz hvm T9
  revert Z; generalize H1 = H; generalize locs1 = locs; intro Z
  refine W.widen (k := 0) (n := 0) (by decide) (by decide) ?_
  refine r_if_neB S (tgt := 21) dX8_loseHints_16 (by decide) (fun c_6 => ?_) (fun c_6 => absurd c_6 (by decide))
  refine lv_aload_n S.1 S.2.1 dX8_loseHints_21 rfl (lv_at hl 0 rfl) ?_
  refine r_get (C := RX8) (T := TX8) (N := 19) (ci := 8) S Z (by decide) rfl rfl i_X8_loseHints_X8 9 (by decide) m_X8_loseHints_f35 rfl (v := .ref (gA G 48)) rfl dX8_loseHints_22 ?_
  refine lv_iload_n S.1 S.2.1 dX8_loseHints_25 rfl (lv_at hl 1 rfl) ?_
  refine r_iald (k := 48) (n := 3) (f := fun j => nI (mH (thr μ 0) j)) S Z (by decide) rfl (by omega) (by decide) dX8_loseHints_26 ?_
  refine lv_istore_n (lv' := [(2, .int (nI (mH (thr μ 0) k))), (0, .ref (gA G 39)), (1, .int (nI k))]) S.1 S.2.1 dX8_loseHints_27 rfl hl (by decide) rfl (fun ls hl => ?_)
  refine lv_aload_n S.1 S.2.1 dX8_loseHints_28 rfl (lv_at hl 1 rfl) ?_
  refine r_get (C := RX8) (T := TX8) (N := 19) (ci := 8) S Z (by decide) rfl rfl i_X8_loseHints_X8 9 (by decide) m_X8_loseHints_f35 rfl (v := .ref (gA G 48)) rfl dX8_loseHints_29 ?_
  refine lv_iload_n S.1 S.2.1 dX8_loseHints_32 rfl (lv_at hl 2 rfl) ?_
  refine lv_iconst (v := nI 0) S.1 S.2.1 dX8_loseHints_33 (by decide) ?_
  refine r_iast (σ' := σ) (μ' := mH' (thr μ 0) k 0) (k := 48) (n := 3) (f := fun j => nI (mH (thr μ 0) j)) S Z (by decide) rfl (upd_nI _ _ _) rfl (sMH _ _) (by omega) (by decide) dX8_loseHints_34 (fun H locs Z => ?_)
  refine lv_iload_n S.1 S.2.1 dX8_loseHints_35 rfl (lv_at hl 0 rfl) ?_
  rw [hQ]
  exact W.iret (v := nI (mH (thr μ 0) k)) S.1 S.2.1 hret (fun _ hT9 hW => ⟨⟨_, (σ, mH' (thr μ 0) k 0), rfl, ⟨rfl, rfl⟩, wZ_P Z hT9 hW⟩, Z.2.2.2.2.F hT9⟩) Z.2.2.2.2.2.2 dX8_loseHints_36

abbrev rm_k_X8_loseHints_B : Room := { frames := 2, cells := 0, slots := 0, locals := 42 }
set_option maxHeartbeats 4000000 in
set_option maxRecDepth 100000 in
theorem k_X8_loseHints_B (l : Launch) (G : wG) (σ : cS) (μ : mS) (o : Nat → Int64) (k : Int32) (hb : isCopyB k = false) : Met l yX8_loseHints wsX8_loseHints rm_k_X8_loseHints_B (wPc G σ μ o [.ref (gA G 39), .int (k)]) (va_Qi (fun (rr : Int32) (u : cS × mS) => rr = nI (0) ∧ u = (σ, thr μ 1)) (fun u t => wI G u.1 u.2 o t) (gP G)) 0 0 (gP G) := by
  refine Met.ofW (cc := cX8_loseHints) (maxL := 3) (ret := (some .int)) (by decide) rfl ?_
  intro p e s m args below meth c s₁ B hml hv
  obtain ⟨hargs, hI⟩ := hv
  have S : CallFix p m c cX8_loseHints 3 s args wsX8_loseHints RX8 := ⟨B.exec, B.bytes, hml, findClass_of_methodNamed B.named, atoms_spec (ws := wsX8_loseHints) B.pre⟩
  have hret := B.returns
  have hlocks := B.notSynchronized
  have Z := wZ_0 hI
  clear hI
  obtain ⟨Q, hQ⟩ : ∃ Q, Q = MQ below (va_Qi (fun (rr : Int32) (u : cS × mS) => rr = nI (0) ∧ u = (σ, thr μ 1)) (fun u t => wI G u.1 u.2 o t) (gP G)) args s 0 0 (gP G) := ⟨_, rfl⟩
  rw [← hQ]
  have hl := lv_entry [.ref (gA G 39), .int (k)] (n := 3) (Nat.le_of_ble_eq_true rfl)
  rw [show entryFrame m args 3 = entryFrame m ([.ref (gA G 39), .int (k)] : List Value).toArray 3 from by rw [hargs], lg_entry_eq]
  generalize (lg_sl [.ref (gA G 39), .int (k)] ++ List.replicate (3 - (lg_sl [.ref (gA G 39), .int (k)]).length) Slot.unset).toArray = ls at hl ⊢
  have hl : lv_has ls 3 [(0, .ref (gA G 39)), (1, .int (k))] := hl
  refine lv_aload_n S.1 S.2.1 dX8_loseHints_0 rfl (lv_at hl 0 rfl) ?_
  refine lv_iload_n S.1 S.2.1 dX8_loseHints_1 rfl (lv_at hl 1 rfl) ?_
  refine vp_callSi (va_runS (As := [.int (k)]) (rest := [.ref (gA G 39)]) S (k_X8_isCopy l G σ μ o k ) (va_cwS 1 S.2.2.2.2 gX8_loseHints_X8_isCopy rfl rfl rfl hy_X8_isCopy ⟨Nat.le_of_ble_eq_true rfl, Nat.le_of_ble_eq_true rfl⟩) (wPc_S Z) rfl rfl hl.1 rfl (lv_room (Nat.le_of_ble_eq_true rfl)) dX8_loseHints_2 ⟨Nat.le_of_ble_eq_true rfl, Nat.le_of_ble_eq_true rfl⟩).run (fun r_1 h_2 => ?_)
  rw [h_2]; clear h_2 r_1
  refine r_if_eqB S (tgt := 12) dX8_loseHints_5 (by decide) (fun c_3 => ?_) (fun c_3 => absurd c_3 (by rw [hb]; decide))
  refine lv_iconst (v := nI 1) S.1 S.2.1 dX8_loseHints_12 (by decide) ?_
  refine va_calli (va_runV (As := [.int (nI 1)]) (rest := []) S (k_X8_can l G σ μ o 1 (by omega)) (cwV 1 S.2.2.2.2 gX8_loseHints_X8_can rfl rfl rfl ⟨rfl, hy_X8_can⟩ ⟨Nat.le_of_ble_eq_true rfl, Nat.le_of_ble_eq_true rfl⟩) (wPc_V (q := (RX8, TX8, 19)) Z (by decide) rfl rfl) rfl rfl hl.1 rfl (lv_room (Nat.le_of_ble_eq_true rfl)) dX8_loseHints_13 ⟨Nat.le_of_ble_eq_true rfl, Nat.le_of_ble_eq_true rfl⟩) Z.2.2.2.2 (fun _ _ h => h) (fun _ h => h) (fun r_4 u_5 T9 H1 locs1 hT9 hvm hw hB hz hk9 hS => ?_)
  obtain ⟨hr9, rfl⟩ := hw
  rw [hr9]; clear hr9 r_4
  have Z : wZ G (σ) (thr μ 1) o s H1 locs1 := wZ_callP Z hB hT9 hS
  clear hB hT9 hS hk9 hz hvm T9
  revert Z; generalize H1 = H; generalize locs1 = locs; intro Z
  refine W.widen (k := 0) (n := 0) (by decide) (by decide) ?_
  refine r_if_neB S (tgt := 21) dX8_loseHints_16 (by decide) (fun c_6 => absurd c_6 (by decide)) (fun c_6 => ?_)
  refine lv_iconst (v := nI 0) S.1 S.2.1 dX8_loseHints_19 (by decide) ?_
  rw [hQ]
  exact W.iret (v := nI 0) S.1 S.2.1 hret (fun _ hT9 hW => ⟨⟨_, (σ, thr μ 1), rfl, ⟨rfl, rfl⟩, wZ_P Z hT9 hW⟩, Z.2.2.2.2.F hT9⟩) Z.2.2.2.2.2.2 dX8_loseHints_20

theorem i_X8_pass_X8 : ∀ w ∈ wsX80, w ∈ wsX8_pass := by decide +kernel
theorem m_X8_pass_f83 : Cond.fieldLink RX8 83 "WideCellModel" "time" "I" ∈ wsX8_pass := by decide +kernel
abbrev rm_k_X8_pass : Room := { frames := 1, cells := 0, slots := 0, locals := 22 }
set_option maxHeartbeats 4000000 in
set_option maxRecDepth 100000 in
theorem k_X8_pass (l : Launch) (G : wG) (σ : cS) (μ : mS) (o : Nat → Int64) (x : Int32)  : Met l yX8_pass wsX8_pass rm_k_X8_pass (wPc G σ μ o [.ref (gA G 39), .int (x)]) (va_Qi (fun (rr : Int32) (u : cS × mS) => rr = paR μ x ∧ u = (σ, paS μ x)) (fun u t => wI G u.1 u.2 o t) (gP G)) 0 0 (gP G) := by
  refine Met.ofW (cc := cX8_pass) (maxL := 2) (ret := (some .int)) (by decide) rfl ?_
  intro p e s m args below meth c s₁ B hml hv
  obtain ⟨hargs, hI⟩ := hv
  have S : CallFix p m c cX8_pass 2 s args wsX8_pass RX8 := ⟨B.exec, B.bytes, hml, findClass_of_methodNamed B.named, atoms_spec (ws := wsX8_pass) B.pre⟩
  have hret := B.returns
  have hlocks := B.notSynchronized
  have Z := wZ_0 hI
  clear hI
  obtain ⟨Q, hQ⟩ : ∃ Q, Q = MQ below (va_Qi (fun (rr : Int32) (u : cS × mS) => rr = paR μ x ∧ u = (σ, paS μ x)) (fun u t => wI G u.1 u.2 o t) (gP G)) args s 0 0 (gP G) := ⟨_, rfl⟩
  rw [← hQ]
  have hl := lv_entry [.ref (gA G 39), .int (x)] (n := 2) (Nat.le_of_ble_eq_true rfl)
  rw [show entryFrame m args 2 = entryFrame m ([.ref (gA G 39), .int (x)] : List Value).toArray 2 from by rw [hargs], lg_entry_eq]
  generalize (lg_sl [.ref (gA G 39), .int (x)] ++ List.replicate (2 - (lg_sl [.ref (gA G 39), .int (x)]).length) Slot.unset).toArray = ls at hl ⊢
  have hl : lv_has ls 2 [(0, .ref (gA G 39)), (1, .int (x))] := hl
  refine lv_aload_n S.1 S.2.1 dX8_pass_0 rfl (lv_at hl 0 rfl) ?_
  refine lv_iload_n S.1 S.2.1 dX8_pass_1 rfl (lv_at hl 1 rfl) ?_
  refine lv_iconst (v := nI 1) S.1 S.2.1 dX8_pass_2 (by decide) ?_
  refine lv_bipush (v := nI 100) S.1 S.2.1 dX8_pass_3 (by decide) ?_
  refine vp_callSi (va_runS (As := [.int (x), .int (nI 1), .int (nI 100)]) (rest := [.ref (gA G 39)]) S (k_X8_isIn l G σ μ o x (nI 1) (nI 100) ) (va_cwS 3 S.2.2.2.2 gX8_pass_X8_isIn rfl rfl rfl hy_X8_isIn ⟨Nat.le_of_ble_eq_true rfl, Nat.le_of_ble_eq_true rfl⟩) (wPc_S Z) rfl rfl hl.1 rfl (lv_room (Nat.le_of_ble_eq_true rfl)) dX8_pass_5 ⟨Nat.le_of_ble_eq_true rfl, Nat.le_of_ble_eq_true rfl⟩).run (fun r_1 h_2 => ?_)
  rw [h_2]; clear h_2 r_1
  refine r_if_neB S (tgt := 15) dX8_pass_8 (by decide) (fun c_3 => ?_) (fun c_3 => ?_)
  · skip
    refine lv_aload_n S.1 S.2.1 dX8_pass_15 rfl (lv_at hl 0 rfl) ?_
    refine r_get (C := RX8) (T := TX8) (N := 19) (ci := 8) S Z (by decide) rfl rfl i_X8_pass_X8 14 (by decide) m_X8_pass_f83 rfl (v := .int (mV μ 14)) rfl dX8_pass_16 ?_
    refine lv_iload_n S.1 S.2.1 dX8_pass_19 rfl (lv_at hl 1 rfl) ?_
    refine lv_iadd S.1 S.2.1 dX8_pass_20 ?_
    refine lv_sipush (v := nI 10000) S.1 S.2.1 dX8_pass_21 (by decide) ?_
    refine lv_icmp_le (tgt := 31) S.1 S.2.1 dX8_pass_24 (by decide) (fun c_4 => ?_) (fun c_4 => ?_)
    · skip
      refine lv_iconst (v := nI 0) S.1 S.2.1 dX8_pass_31 (by decide) ?_
      refine va_calli (va_runV (As := [.int (nI 0)]) (rest := []) S (k_X8_can l G σ μ o 0 (by omega)) (cwV 1 S.2.2.2.2 gX8_pass_X8_can rfl rfl rfl ⟨rfl, hy_X8_can⟩ ⟨Nat.le_of_ble_eq_true rfl, Nat.le_of_ble_eq_true rfl⟩) (wPc_V (q := (RX8, TX8, 19)) Z (by decide) rfl rfl) rfl rfl hl.1 rfl (lv_room (Nat.le_of_ble_eq_true rfl)) dX8_pass_32 ⟨Nat.le_of_ble_eq_true rfl, Nat.le_of_ble_eq_true rfl⟩) Z.2.2.2.2 (fun _ _ h => h) (fun _ h => h) (fun r_5 u_6 T9 H1 locs1 hT9 hvm hw hB hz hk9 hS => ?_)
      obtain ⟨hr9, rfl⟩ := hw
      rw [hr9]; clear hr9 r_5
      have Z : wZ G (σ) (thr μ 0) o s H1 locs1 := wZ_callP Z hB hT9 hS
      clear hB hT9 hS hk9 hz hvm T9
      revert Z; generalize H1 = H; generalize locs1 = locs; intro Z
      refine W.widen (k := 0) (n := 0) (by decide) (by decide) ?_
      refine r_if_neB S (tgt := 40) dX8_pass_35 (by decide) (fun c_7 => ?_) (fun c_7 => absurd c_7 (by decide))
      refine lv_aload_n S.1 S.2.1 dX8_pass_40 rfl (lv_at hl 0 rfl) ?_
      refine lv_dup S.1 S.2.1 dX8_pass_41 rfl ?_
      refine r_get (C := RX8) (T := TX8) (N := 19) (ci := 8) S Z (by decide) rfl rfl i_X8_pass_X8 14 (by decide) m_X8_pass_f83 rfl (v := .int (mV (thr μ 0) 14)) rfl dX8_pass_42 ?_
      refine lv_iload_n S.1 S.2.1 dX8_pass_45 rfl (lv_at hl 1 rfl) ?_
      refine lv_iadd S.1 S.2.1 dX8_pass_46 ?_
      refine r_put (C := RX8) (T := TX8) (N := 19) (ci := 8) (σ' := σ) (μ' := mV' (thr μ 0) 14 ((mV (thr μ 0) 14 + x))) S Z (by decide) rfl rfl i_X8_pass_X8 tyX8 tyX8_ok nmX8 14 (by decide) m_X8_pass_f83 rfl rfl (ty := .int) (v := .int ((mV (thr μ 0) 14 + x))) (by decide +kernel) rfl rfl (Nat.le_of_ble_eq_true rfl) rfl rfl (sMV14 _) dX8_pass_47 (fun H locs Z => ?_)
      refine lv_aload_n S.1 S.2.1 dX8_pass_50 rfl (lv_at hl 0 rfl) ?_
      refine r_get (C := RX8) (T := TX8) (N := 19) (ci := 8) S Z (by decide) rfl rfl i_X8_pass_X8 14 (by decide) m_X8_pass_f83 rfl (v := .int (mV (mV' (thr μ 0) 14 ((mV (thr μ 0) 14 + x))) 14)) rfl dX8_pass_51 ?_
      rw [hQ]
      have q8 : (paS μ x : mS) = mV' (thr μ 0) 14 ((mV (thr μ 0) 14 + x)) := by first | (simp [paR, paS, mV_s, c_3, c_4]; done) | (simp [paR, paS, mV_s, c_3, c_4]; omega) | (simp [paR, paS, mV_s, ← Int32.not_le, c_3, c_4]; done) | rfl
      rw [← q8] at Z
      exact W.iret (v := mV (mV' (thr μ 0) 14 ((mV (thr μ 0) 14 + x))) 14) S.1 S.2.1 hret (fun _ hT9 hW => ⟨⟨_, (σ, paS μ x), rfl, ⟨(by first | (simp [paR, paS, mV_s, c_3, c_4]; done) | (simp [paR, paS, mV_s, c_3, c_4]; omega) | (simp [paR, paS, mV_s, ← Int32.not_le, c_3, c_4]; done)), rfl⟩, wZ_P Z hT9 hW⟩, Z.2.2.2.2.F hT9⟩) Z.2.2.2.2.2.2 dX8_pass_54
    · skip
      refine lv_iconst (v := nI 2) S.1 S.2.1 dX8_pass_27 (by decide) ?_
      refine lv_goto (tgt := 32) S.1 S.2.1 dX8_pass_28 (by decide) ?_
      refine va_calli (va_runV (As := [.int (nI 2)]) (rest := []) S (k_X8_can l G σ μ o 2 (by omega)) (cwV 1 S.2.2.2.2 gX8_pass_X8_can rfl rfl rfl ⟨rfl, hy_X8_can⟩ ⟨Nat.le_of_ble_eq_true rfl, Nat.le_of_ble_eq_true rfl⟩) (wPc_V (q := (RX8, TX8, 19)) Z (by decide) rfl rfl) rfl rfl hl.1 rfl (lv_room (Nat.le_of_ble_eq_true rfl)) dX8_pass_32 ⟨Nat.le_of_ble_eq_true rfl, Nat.le_of_ble_eq_true rfl⟩) Z.2.2.2.2 (fun _ _ h => h) (fun _ h => h) (fun r_8 u_9 T9 H1 locs1 hT9 hvm hw hB hz hk9 hS => ?_)
      obtain ⟨hr9, rfl⟩ := hw
      rw [hr9]; clear hr9 r_8
      have Z : wZ G (σ) (thr μ 2) o s H1 locs1 := wZ_callP Z hB hT9 hS
      clear hB hT9 hS hk9 hz hvm T9
      revert Z; generalize H1 = H; generalize locs1 = locs; intro Z
      refine W.widen (k := 0) (n := 0) (by decide) (by decide) ?_
      refine r_if_neB S (tgt := 40) dX8_pass_35 (by decide) (fun c_10 => absurd c_10 (by decide)) (fun c_10 => ?_)
      refine lv_iconst (v := nI 0) S.1 S.2.1 dX8_pass_38 (by decide) ?_
      rw [hQ]
      have q8 : (paS μ x : mS) = thr μ 2 := by first | (simp [paR, paS, mV_s, c_3, c_4]; done) | (simp [paR, paS, mV_s, c_3, c_4]; omega) | (simp [paR, paS, mV_s, ← Int32.not_le, c_3, c_4]; done) | rfl
      rw [← q8] at Z
      exact W.iret (v := nI 0) S.1 S.2.1 hret (fun _ hT9 hW => ⟨⟨_, (σ, paS μ x), rfl, ⟨(by first | (simp [paR, paS, mV_s, c_3, c_4]; done) | (simp [paR, paS, mV_s, c_3, c_4]; omega) | (simp [paR, paS, mV_s, ← Int32.not_le, c_3, c_4]; done)), rfl⟩, wZ_P Z hT9 hW⟩, Z.2.2.2.2.F hT9⟩) Z.2.2.2.2.2.2 dX8_pass_39
  · skip
    refine lv_iconst (v := nI 1) S.1 S.2.1 dX8_pass_11 (by decide) ?_
    refine lv_goto (tgt := 32) S.1 S.2.1 dX8_pass_12 (by decide) ?_
    refine va_calli (va_runV (As := [.int (nI 1)]) (rest := []) S (k_X8_can l G σ μ o 1 (by omega)) (cwV 1 S.2.2.2.2 gX8_pass_X8_can rfl rfl rfl ⟨rfl, hy_X8_can⟩ ⟨Nat.le_of_ble_eq_true rfl, Nat.le_of_ble_eq_true rfl⟩) (wPc_V (q := (RX8, TX8, 19)) Z (by decide) rfl rfl) rfl rfl hl.1 rfl (lv_room (Nat.le_of_ble_eq_true rfl)) dX8_pass_32 ⟨Nat.le_of_ble_eq_true rfl, Nat.le_of_ble_eq_true rfl⟩) Z.2.2.2.2 (fun _ _ h => h) (fun _ h => h) (fun r_11 u_12 T9 H1 locs1 hT9 hvm hw hB hz hk9 hS => ?_)
    obtain ⟨hr9, rfl⟩ := hw
    rw [hr9]; clear hr9 r_11
    have Z : wZ G (σ) (thr μ 1) o s H1 locs1 := wZ_callP Z hB hT9 hS
    clear hB hT9 hS hk9 hz hvm T9
    revert Z; generalize H1 = H; generalize locs1 = locs; intro Z
    refine W.widen (k := 0) (n := 0) (by decide) (by decide) ?_
    refine r_if_neB S (tgt := 40) dX8_pass_35 (by decide) (fun c_13 => absurd c_13 (by decide)) (fun c_13 => ?_)
    refine lv_iconst (v := nI 0) S.1 S.2.1 dX8_pass_38 (by decide) ?_
    rw [hQ]
    have q8 : (paS μ x : mS) = thr μ 1 := by first | (simp [paR, paS, mV_s, c_3]; done) | (simp [paR, paS, mV_s, c_3]; omega) | (simp [paR, paS, mV_s, ← Int32.not_le, c_3]; done) | (simp [paR, paS, mV_s, eq_true c_3]; done) | rfl
    rw [← q8] at Z
    exact W.iret (v := nI 0) S.1 S.2.1 hret (fun _ hT9 hW => ⟨⟨_, (σ, paS μ x), rfl, ⟨(by first | (simp [paR, paS, mV_s, c_3]; done) | (simp [paR, paS, mV_s, c_3]; omega) | (simp [paR, paS, mV_s, ← Int32.not_le, c_3]; done) | (simp [paR, paS, mV_s, eq_true c_3]; done)), rfl⟩, wZ_P Z hT9 hW⟩, Z.2.2.2.2.F hT9⟩) Z.2.2.2.2.2.2 dX8_pass_39

theorem i_X8_setGrace_X8 : ∀ w ∈ wsX80, w ∈ wsX8_setGrace := by decide +kernel
theorem m_X8_setGrace_f50 : Cond.fieldLink RX8 50 "WideCellModel" "grace" "I" ∈ wsX8_setGrace := by decide +kernel
abbrev rm_k_X8_setGrace : Room := { frames := 1, cells := 0, slots := 0, locals := 22 }
set_option maxHeartbeats 4000000 in
set_option maxRecDepth 100000 in
theorem k_X8_setGrace (l : Launch) (G : wG) (σ : cS) (μ : mS) (o : Nat → Int64) (x : Int32)  : Met l yX8_setGrace wsX8_setGrace rm_k_X8_setGrace (wPc G σ μ o [.ref (gA G 39), .int (x)]) (va_Qi (fun (rr : Int32) (u : cS × mS) => rr = sgR μ x ∧ u = (σ, sgS μ x)) (fun u t => wI G u.1 u.2 o t) (gP G)) 0 0 (gP G) := by
  refine Met.ofW (cc := cX8_setGrace) (maxL := 3) (ret := (some .int)) (by decide) rfl ?_
  intro p e s m args below meth c s₁ B hml hv
  obtain ⟨hargs, hI⟩ := hv
  have S : CallFix p m c cX8_setGrace 3 s args wsX8_setGrace RX8 := ⟨B.exec, B.bytes, hml, findClass_of_methodNamed B.named, atoms_spec (ws := wsX8_setGrace) B.pre⟩
  have hret := B.returns
  have hlocks := B.notSynchronized
  have Z := wZ_0 hI
  clear hI
  obtain ⟨Q, hQ⟩ : ∃ Q, Q = MQ below (va_Qi (fun (rr : Int32) (u : cS × mS) => rr = sgR μ x ∧ u = (σ, sgS μ x)) (fun u t => wI G u.1 u.2 o t) (gP G)) args s 0 0 (gP G) := ⟨_, rfl⟩
  rw [← hQ]
  have hl := lv_entry [.ref (gA G 39), .int (x)] (n := 3) (Nat.le_of_ble_eq_true rfl)
  rw [show entryFrame m args 3 = entryFrame m ([.ref (gA G 39), .int (x)] : List Value).toArray 3 from by rw [hargs], lg_entry_eq]
  generalize (lg_sl [.ref (gA G 39), .int (x)] ++ List.replicate (3 - (lg_sl [.ref (gA G 39), .int (x)]).length) Slot.unset).toArray = ls at hl ⊢
  have hl : lv_has ls 3 [(0, .ref (gA G 39)), (1, .int (x))] := hl
  refine lv_aload_n S.1 S.2.1 dX8_setGrace_0 rfl (lv_at hl 0 rfl) ?_
  refine lv_iload_n S.1 S.2.1 dX8_setGrace_1 rfl (lv_at hl 1 rfl) ?_
  refine lv_iconst (v := nI 0) S.1 S.2.1 dX8_setGrace_2 (by decide) ?_
  refine lv_sipush (v := nI 1000) S.1 S.2.1 dX8_setGrace_3 (by decide) ?_
  refine vp_callSi (va_runS (As := [.int (x), .int (nI 0), .int (nI 1000)]) (rest := [.ref (gA G 39)]) S (k_X8_isIn l G σ μ o x (nI 0) (nI 1000) ) (va_cwS 3 S.2.2.2.2 gX8_setGrace_X8_isIn rfl rfl rfl hy_X8_isIn ⟨Nat.le_of_ble_eq_true rfl, Nat.le_of_ble_eq_true rfl⟩) (wPc_S Z) rfl rfl hl.1 rfl (lv_room (Nat.le_of_ble_eq_true rfl)) dX8_setGrace_6 ⟨Nat.le_of_ble_eq_true rfl, Nat.le_of_ble_eq_true rfl⟩).run (fun r_1 h_2 => ?_)
  rw [h_2]; clear h_2 r_1
  refine r_if_eqB S (tgt := 16) dX8_setGrace_9 (by decide) (fun c_3 => ?_) (fun c_3 => ?_)
  · skip
    refine lv_iconst (v := nI 1) S.1 S.2.1 dX8_setGrace_16 (by decide) ?_
    refine va_calli (va_runV (As := [.int (nI 1)]) (rest := []) S (k_X8_can l G σ μ o 1 (by omega)) (cwV 1 S.2.2.2.2 gX8_setGrace_X8_can rfl rfl rfl ⟨rfl, hy_X8_can⟩ ⟨Nat.le_of_ble_eq_true rfl, Nat.le_of_ble_eq_true rfl⟩) (wPc_V (q := (RX8, TX8, 19)) Z (by decide) rfl rfl) rfl rfl hl.1 rfl (lv_room (Nat.le_of_ble_eq_true rfl)) dX8_setGrace_17 ⟨Nat.le_of_ble_eq_true rfl, Nat.le_of_ble_eq_true rfl⟩) Z.2.2.2.2 (fun _ _ h => h) (fun _ h => h) (fun r_4 u_5 T9 H1 locs1 hT9 hvm hw hB hz hk9 hS => ?_)
    obtain ⟨hr9, rfl⟩ := hw
    rw [hr9]; clear hr9 r_4
    have Z : wZ G (σ) (thr μ 1) o s H1 locs1 := wZ_callP Z hB hT9 hS
    clear hB hT9 hS hk9 hz hvm T9
    revert Z; generalize H1 = H; generalize locs1 = locs; intro Z
    refine W.widen (k := 0) (n := 0) (by decide) (by decide) ?_
    refine r_if_neB S (tgt := 25) dX8_setGrace_20 (by decide) (fun c_6 => absurd c_6 (by decide)) (fun c_6 => ?_)
    refine lv_iconst (v := nI 0) S.1 S.2.1 dX8_setGrace_23 (by decide) ?_
    rw [hQ]
    have q8 : (sgS μ x : mS) = thr μ 1 := by first | (simp [sgR, sgS, c_3]; done) | (simp [sgR, sgS, c_3]; omega) | (simp [sgR, sgS, ← Int32.not_le, c_3]; done) | (simp [sgR, sgS, eq_true c_3]; done) | rfl
    rw [← q8] at Z
    exact W.iret (v := nI 0) S.1 S.2.1 hret (fun _ hT9 hW => ⟨⟨_, (σ, sgS μ x), rfl, ⟨(by first | (simp [sgR, sgS, c_3]; done) | (simp [sgR, sgS, c_3]; omega) | (simp [sgR, sgS, ← Int32.not_le, c_3]; done) | (simp [sgR, sgS, eq_true c_3]; done)), rfl⟩, wZ_P Z hT9 hW⟩, Z.2.2.2.2.F hT9⟩) Z.2.2.2.2.2.2 dX8_setGrace_24
  · skip
    refine lv_iconst (v := nI 0) S.1 S.2.1 dX8_setGrace_12 (by decide) ?_
    refine lv_goto (tgt := 17) S.1 S.2.1 dX8_setGrace_13 (by decide) ?_
    refine va_calli (va_runV (As := [.int (nI 0)]) (rest := []) S (k_X8_can l G σ μ o 0 (by omega)) (cwV 1 S.2.2.2.2 gX8_setGrace_X8_can rfl rfl rfl ⟨rfl, hy_X8_can⟩ ⟨Nat.le_of_ble_eq_true rfl, Nat.le_of_ble_eq_true rfl⟩) (wPc_V (q := (RX8, TX8, 19)) Z (by decide) rfl rfl) rfl rfl hl.1 rfl (lv_room (Nat.le_of_ble_eq_true rfl)) dX8_setGrace_17 ⟨Nat.le_of_ble_eq_true rfl, Nat.le_of_ble_eq_true rfl⟩) Z.2.2.2.2 (fun _ _ h => h) (fun _ h => h) (fun r_7 u_8 T9 H1 locs1 hT9 hvm hw hB hz hk9 hS => ?_)
    obtain ⟨hr9, rfl⟩ := hw
    rw [hr9]; clear hr9 r_7
    have Z : wZ G (σ) (thr μ 0) o s H1 locs1 := wZ_callP Z hB hT9 hS
    clear hB hT9 hS hk9 hz hvm T9
    revert Z; generalize H1 = H; generalize locs1 = locs; intro Z
    refine W.widen (k := 0) (n := 0) (by decide) (by decide) ?_
    refine r_if_neB S (tgt := 25) dX8_setGrace_20 (by decide) (fun c_9 => ?_) (fun c_9 => absurd c_9 (by decide))
    refine lv_aload_n S.1 S.2.1 dX8_setGrace_25 rfl (lv_at hl 0 rfl) ?_
    refine r_get (C := RX8) (T := TX8) (N := 19) (ci := 8) S Z (by decide) rfl rfl i_X8_setGrace_X8 15 (by decide) m_X8_setGrace_f50 rfl (v := .int (mV (thr μ 0) 15)) rfl dX8_setGrace_26 ?_
    refine lv_istore_n (lv' := [(2, .int (mV (thr μ 0) 15)), (0, .ref (gA G 39)), (1, .int (x))]) S.1 S.2.1 dX8_setGrace_29 rfl hl (by decide) rfl (fun ls hl => ?_)
    refine lv_aload_n S.1 S.2.1 dX8_setGrace_30 rfl (lv_at hl 1 rfl) ?_
    refine lv_iload_n S.1 S.2.1 dX8_setGrace_31 rfl (lv_at hl 2 rfl) ?_
    refine r_put (C := RX8) (T := TX8) (N := 19) (ci := 8) (σ' := σ) (μ' := mV' (thr μ 0) 15 (x)) S Z (by decide) rfl rfl i_X8_setGrace_X8 tyX8 tyX8_ok nmX8 15 (by decide) m_X8_setGrace_f50 rfl rfl (ty := .int) (v := .int (x)) (by decide +kernel) rfl rfl (Nat.le_of_ble_eq_true rfl) rfl rfl (sMV15 _) dX8_setGrace_32 (fun H locs Z => ?_)
    refine lv_iload_n S.1 S.2.1 dX8_setGrace_35 rfl (lv_at hl 0 rfl) ?_
    rw [hQ]
    have q8 : (sgS μ x : mS) = mV' (thr μ 0) 15 (x) := by first | (simp [sgR, sgS, c_3]; done) | (simp [sgR, sgS, c_3]; omega) | (simp [sgR, sgS, ← Int32.not_le, c_3]; done) | rfl
    rw [← q8] at Z
    exact W.iret (v := mV (thr μ 0) 15) S.1 S.2.1 hret (fun _ hT9 hW => ⟨⟨_, (σ, sgS μ x), rfl, ⟨(by first | (simp [sgR, sgS, c_3]; done) | (simp [sgR, sgS, c_3]; omega) | (simp [sgR, sgS, ← Int32.not_le, c_3]; done)), rfl⟩, wZ_P Z hT9 hW⟩, Z.2.2.2.2.F hT9⟩) Z.2.2.2.2.2.2 dX8_setGrace_36
