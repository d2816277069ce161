theorem i_X7_requireTwoUp_X3 : ∀ w ∈ wsX30, w ∈ wsX7_requireTwoUp := by decide +kernel
abbrev rm_k_X7_requireTwoUp : Room := { frames := 2, cells := 0, slots := 0, locals := 42 }
set_option maxHeartbeats 4000000 in
set_option maxRecDepth 100000 in
theorem k_X7_requireTwoUp (l : Launch) (G : wG) (σ : cS) (μ : mS) (o : Nat → Int64) (i : Nat) (j : Nat) (hi : i < 3) (hj : j < 3) (hij : i ≠ j) (hui : cU σ i = true) (huj : cU σ j = true) : Met l yX7_requireTwoUp wsX7_requireTwoUp rm_k_X7_requireTwoUp (wPc G σ μ o [.ref (gA G 0), .int (nI i), .int (nI j)]) (va_Sv (fun _ => True)) 0 0 (fun _ => False) := by
  refine Met.ofW (cc := cX7_requireTwoUp) (maxL := 3) (ret := none) (by decide) rfl ?_
  intro p e s m args below meth c s₁ B hml hv
  obtain ⟨hargs, hI⟩ := hv
  have S : CallFix p m c cX7_requireTwoUp 3 s args wsX7_requireTwoUp RX7 := ⟨B.exec, B.bytes, hml, findClass_of_methodNamed B.named, atoms_spec (ws := wsX7_requireTwoUp) B.pre⟩
  have hret := B.returns
  have hlocks := B.notSynchronized
  have Z := wZ_0 hI
  clear hI
  obtain ⟨Q, hQ⟩ : ∃ Q, Q = MQ below (va_Sv (fun _ => True)) args s 0 0 (fun _ => False) := ⟨_, rfl⟩
  rw [← hQ]
  have hl := lv_entry [.ref (gA G 0), .int (nI i), .int (nI j)] (n := 3) (Nat.le_of_ble_eq_true rfl)
  rw [show entryFrame m args 3 = entryFrame m ([.ref (gA G 0), .int (nI i), .int (nI j)] : List Value).toArray 3 from by rw [hargs], lg_entry_eq]
  generalize (lg_sl [.ref (gA G 0), .int (nI i), .int (nI j)] ++ List.replicate (3 - (lg_sl [.ref (gA G 0), .int (nI i), .int (nI j)]).length) Slot.unset).toArray = ls at hl ⊢
  have hl : lv_has ls 3 [(0, .ref (gA G 0)), (1, .int (nI i)), (2, .int (nI j))] := hl
  refine lv_iload_n S.1 S.2.1 dX7_requireTwoUp_0 rfl (lv_at hl 1 rfl) ?_
  refine lv_iload_n S.1 S.2.1 dX7_requireTwoUp_1 rfl (lv_at hl 2 rfl) ?_
  refine r_icmpN_eq S (tgt := 9) (by omega) (by omega) dX7_requireTwoUp_2 (by decide) (fun c_1 => absurd c_1 (by exact hij)) (fun c_1 => ?_)
  refine lv_iconst (v := nI 1) S.1 S.2.1 dX7_requireTwoUp_5 (by decide) ?_
  refine lv_goto (tgt := 10) S.1 S.2.1 dX7_requireTwoUp_6 (by decide) ?_
  refine va_csv (va_runS (As := [.int (bi true)]) (rest := []) S (k_X7_requireArgument l G σ μ o  ) (va_cwS 1 S.2.2.2.2 gX7_requireTwoUp_X7_requireArgument rfl rfl rfl hy_X7_requireArgument ⟨Nat.le_of_ble_eq_true rfl, Nat.le_of_ble_eq_true rfl⟩) (wPc_S Z) rfl rfl hl.1 rfl (lv_room (Nat.le_of_ble_eq_true rfl)) dX7_requireTwoUp_10 ⟨Nat.le_of_ble_eq_true rfl, Nat.le_of_ble_eq_true rfl⟩).run (fun h_3 => ?_)
  refine lv_aload_n S.1 S.2.1 dX7_requireTwoUp_13 rfl (lv_at hl 0 rfl) ?_
  refine lv_iload_n S.1 S.2.1 dX7_requireTwoUp_14 rfl (lv_at hl 1 rfl) ?_
  refine va_csr (va_runV (As := [.int (nI i)]) (rest := []) S (k_X7_keeperOf l G σ μ o i hi) (cwV 1 S.2.2.2.2 gX7_requireTwoUp_X7_keeperOf rfl rfl rfl ⟨rfl, hy_X7_keeperOf⟩ ⟨Nat.le_of_ble_eq_true rfl, Nat.le_of_ble_eq_true rfl⟩) (wPc_V (q := (RX7, TX7, 7)) Z (by decide) rfl rfl) rfl rfl hl.1 rfl (lv_room (Nat.le_of_ble_eq_true rfl)) dX7_requireTwoUp_15 ⟨Nat.le_of_ble_eq_true rfl, Nat.le_of_ble_eq_true rfl⟩).run (fun r_4 h_5 => ?_)
  rw [h_5]; clear h_5 r_4
  refine r_getN (C := RX3) (T := TX3) (N := 3) (ci := 3) S Z (by omega) (eK hi) rfl i_X7_requireTwoUp_X3 2 (by decide) (show Cond.fieldLinkNest RX7 147 "WideCell$Keeper" "isRunning" "Z" "WideCell" ∈ wN from n_RX7_147) rfl (v := .int (bi (cU σ i))) rfl dX7_requireTwoUp_18 ?_
  refine r_if_eqB S (tgt := 39) dX7_requireTwoUp_21 (by decide) (fun c_6 => absurd c_6 (by simp [hui])) (fun c_6 => ?_)
  refine lv_aload_n S.1 S.2.1 dX7_requireTwoUp_24 rfl (lv_at hl 0 rfl) ?_
  refine lv_iload_n S.1 S.2.1 dX7_requireTwoUp_25 rfl (lv_at hl 2 rfl) ?_
  refine va_csr (va_runV (As := [.int (nI j)]) (rest := []) S (k_X7_keeperOf l G σ μ o j hj) (cwV 1 S.2.2.2.2 gX7_requireTwoUp_X7_keeperOf rfl rfl rfl ⟨rfl, hy_X7_keeperOf⟩ ⟨Nat.le_of_ble_eq_true rfl, Nat.le_of_ble_eq_true rfl⟩) (wPc_V (q := (RX7, TX7, 7)) Z (by decide) rfl rfl) rfl rfl hl.1 rfl (lv_room (Nat.le_of_ble_eq_true rfl)) dX7_requireTwoUp_26 ⟨Nat.le_of_ble_eq_true rfl, Nat.le_of_ble_eq_true rfl⟩).run (fun r_7 h_8 => ?_)
  rw [h_8]; clear h_8 r_7
  refine r_getN (C := RX3) (T := TX3) (N := 3) (ci := 3) S Z (by omega) (eK hj) rfl i_X7_requireTwoUp_X3 2 (by decide) (show Cond.fieldLinkNest RX7 147 "WideCell$Keeper" "isRunning" "Z" "WideCell" ∈ wN from n_RX7_147) rfl (v := .int (bi (cU σ j))) rfl dX7_requireTwoUp_29 ?_
  refine r_if_eqB S (tgt := 39) dX7_requireTwoUp_32 (by decide) (fun c_9 => absurd c_9 (by simp [huj])) (fun c_9 => ?_)
  refine lv_iconst (v := nI 1) S.1 S.2.1 dX7_requireTwoUp_35 (by decide) ?_
  refine lv_goto (tgt := 40) S.1 S.2.1 dX7_requireTwoUp_36 (by decide) ?_
  refine va_csv (va_runS (As := [.int (bi true)]) (rest := []) S (k_X7_requireState l G σ μ o  ) (va_cwS 1 S.2.2.2.2 gX7_requireTwoUp_X7_requireState rfl rfl rfl hy_X7_requireState ⟨Nat.le_of_ble_eq_true rfl, Nat.le_of_ble_eq_true rfl⟩) (wPc_S Z) rfl rfl hl.1 rfl (lv_room (Nat.le_of_ble_eq_true rfl)) dX7_requireTwoUp_40 ⟨Nat.le_of_ble_eq_true rfl, Nat.le_of_ble_eq_true rfl⟩).run (fun h_11 => ?_)
  rw [hQ]
  exact W.vret S.1 S.2.1 hret (fun _ hT9 _ => ⟨rfl, trivial, hT9⟩) (fun _ h => nomatch h) dX7_requireTwoUp_43

theorem i_X7_time_X7 : ∀ w ∈ wsX70, w ∈ wsX7_time := by decide +kernel
theorem m_X7_time_f41 : Cond.fieldLink RX7 41 "WideCell" "now" "I" ∈ wsX7_time := by decide +kernel
abbrev rm_k_X7_time : Room := { frames := 0, cells := 0, slots := 0, locals := 0 }
set_option maxHeartbeats 4000000 in
set_option maxRecDepth 100000 in
theorem k_X7_time (l : Launch) (G : wG) (σ : cS) (μ : mS) (o : Nat → Int64)   : Met l yX7_time wsX7_time rm_k_X7_time (wPc G σ μ o [.ref (gA G 0)]) (vp_Si (fun rr => rr = cV σ 4)) 0 0 (fun _ => False) := by
  refine Met.ofW (cc := cX7_time) (maxL := 1) (ret := (some .int)) (by decide) rfl ?_
  intro p e s m args below meth c s₁ B hml hv
  obtain ⟨hargs, hI⟩ := hv
  have S : CallFix p m c cX7_time 1 s args wsX7_time RX7 := ⟨B.exec, B.bytes, hml, findClass_of_methodNamed B.named, atoms_spec (ws := wsX7_time) B.pre⟩
  have hret := B.returns
  have hlocks := B.notSynchronized
  have Z := wZ_0 hI
  clear hI
  obtain ⟨Q, hQ⟩ : ∃ Q, Q = MQ below (vp_Si (fun rr => rr = cV σ 4)) args s 0 0 (fun _ => False) := ⟨_, rfl⟩
  rw [← hQ]
  have hl := lv_entry [.ref (gA G 0)] (n := 1) (Nat.le_of_ble_eq_true rfl)
  rw [show entryFrame m args 1 = entryFrame m ([.ref (gA G 0)] : List Value).toArray 1 from by rw [hargs], lg_entry_eq]
  generalize (lg_sl [.ref (gA G 0)] ++ List.replicate (1 - (lg_sl [.ref (gA G 0)]).length) Slot.unset).toArray = ls at hl ⊢
  have hl : lv_has ls 1 [(0, .ref (gA G 0))] := hl
  refine lv_aload_n S.1 S.2.1 dX7_time_0 rfl (lv_at hl 0 rfl) ?_
  refine r_get (C := RX7) (T := TX7) (N := 7) (ci := 7) S Z (by decide) rfl rfl i_X7_time_X7 4 (by decide) m_X7_time_f41 rfl (v := .int (cV σ 4)) rfl dX7_time_1 ?_
  rw [hQ]
  exact W.iret (v := cV σ 4) S.1 S.2.1 hret (fun _ hT9 _ => ⟨_, rfl, (by first | (simp []; done) | (simp []; omega) | (simp [← Int32.not_le]; done)), hT9⟩) (fun _ h => nomatch h) dX7_time_4

theorem i_X7_repairs_X7 : ∀ w ∈ wsX70, w ∈ wsX7_repairs := by decide +kernel
theorem m_X7_repairs_f48 : Cond.fieldLink RX7 48 "WideCell" "repairCount" "I" ∈ wsX7_repairs := by decide +kernel
abbrev rm_k_X7_repairs : Room := { frames := 0, cells := 0, slots := 0, locals := 0 }
set_option maxHeartbeats 4000000 in
set_option maxRecDepth 100000 in
theorem k_X7_repairs (l : Launch) (G : wG) (σ : cS) (μ : mS) (o : Nat → Int64)   : Met l yX7_repairs wsX7_repairs rm_k_X7_repairs (wPc G σ μ o [.ref (gA G 0)]) (vp_Si (fun rr => rr = cV σ 6)) 0 0 (fun _ => False) := by
  refine Met.ofW (cc := cX7_repairs) (maxL := 1) (ret := (some .int)) (by decide) rfl ?_
  intro p e s m args below meth c s₁ B hml hv
  obtain ⟨hargs, hI⟩ := hv
  have S : CallFix p m c cX7_repairs 1 s args wsX7_repairs RX7 := ⟨B.exec, B.bytes, hml, findClass_of_methodNamed B.named, atoms_spec (ws := wsX7_repairs) B.pre⟩
  have hret := B.returns
  have hlocks := B.notSynchronized
  have Z := wZ_0 hI
  clear hI
  obtain ⟨Q, hQ⟩ : ∃ Q, Q = MQ below (vp_Si (fun rr => rr = cV σ 6)) args s 0 0 (fun _ => False) := ⟨_, rfl⟩
  rw [← hQ]
  have hl := lv_entry [.ref (gA G 0)] (n := 1) (Nat.le_of_ble_eq_true rfl)
  rw [show entryFrame m args 1 = entryFrame m ([.ref (gA G 0)] : List Value).toArray 1 from by rw [hargs], lg_entry_eq]
  generalize (lg_sl [.ref (gA G 0)] ++ List.replicate (1 - (lg_sl [.ref (gA G 0)]).length) Slot.unset).toArray = ls at hl ⊢
  have hl : lv_has ls 1 [(0, .ref (gA G 0))] := hl
  refine lv_aload_n S.1 S.2.1 dX7_repairs_0 rfl (lv_at hl 0 rfl) ?_
  refine r_get (C := RX7) (T := TX7) (N := 7) (ci := 7) S Z (by decide) rfl rfl i_X7_repairs_X7 6 (by decide) m_X7_repairs_f48 rfl (v := .int (cV σ 6)) rfl dX7_repairs_1 ?_
  rw [hQ]
  exact W.iret (v := cV σ 6) S.1 S.2.1 hret (fun _ hT9 _ => ⟨_, rfl, (by first | (simp []; done) | (simp []; omega) | (simp [← Int32.not_le]; done)), hT9⟩) (fun _ h => nomatch h) dX7_repairs_4

theorem i_X7_isUp_X3 : ∀ w ∈ wsX30, w ∈ wsX7_isUp := by decide +kernel
abbrev rm_k_X7_isUp : Room := { frames := 2, cells := 0, slots := 0, locals := 42 }
set_option maxHeartbeats 4000000 in
set_option maxRecDepth 100000 in
theorem k_X7_isUp (l : Launch) (G : wG) (σ : cS) (μ : mS) (o : Nat → Int64) (i : Nat) (hi : i < 3) : Met l yX7_isUp wsX7_isUp rm_k_X7_isUp (wPc G σ μ o [.ref (gA G 0), .int (nI i)]) (vp_Si (fun rr => rr = bi (cU σ i))) 0 0 (fun _ => False) := by
  refine Met.ofW (cc := cX7_isUp) (maxL := 2) (ret := (some .boolean)) (by decide) rfl ?_
  intro p e s m args below meth c s₁ B hml hv
  obtain ⟨hargs, hI⟩ := hv
  have S : CallFix p m c cX7_isUp 2 s args wsX7_isUp RX7 := ⟨B.exec, B.bytes, hml, findClass_of_methodNamed B.named, atoms_spec (ws := wsX7_isUp) B.pre⟩
  have hret := B.returns
  have hlocks := B.notSynchronized
  have Z := wZ_0 hI
  clear hI
  obtain ⟨Q, hQ⟩ : ∃ Q, Q = MQ below (vp_Si (fun rr => rr = bi (cU σ i))) args s 0 0 (fun _ => False) := ⟨_, rfl⟩
  rw [← hQ]
  have hl := lv_entry [.ref (gA G 0), .int (nI i)] (n := 2) (Nat.le_of_ble_eq_true rfl)
  rw [show entryFrame m args 2 = entryFrame m ([.ref (gA G 0), .int (nI i)] : List Value).toArray 2 from by rw [hargs], lg_entry_eq]
  generalize (lg_sl [.ref (gA G 0), .int (nI i)] ++ List.replicate (2 - (lg_sl [.ref (gA G 0), .int (nI i)]).length) Slot.unset).toArray = ls at hl ⊢
  have hl : lv_has ls 2 [(0, .ref (gA G 0)), (1, .int (nI i))] := hl
  refine lv_aload_n S.1 S.2.1 dX7_isUp_0 rfl (lv_at hl 0 rfl) ?_
  refine lv_iload_n S.1 S.2.1 dX7_isUp_1 rfl (lv_at hl 1 rfl) ?_
  refine va_csr (va_runV (As := [.int (nI i)]) (rest := []) S (k_X7_keeperOf l G σ μ o i hi) (cwV 1 S.2.2.2.2 gX7_isUp_X7_keeperOf rfl rfl rfl ⟨rfl, hy_X7_keeperOf⟩ ⟨Nat.le_of_ble_eq_true rfl, Nat.le_of_ble_eq_true rfl⟩) (wPc_V (q := (RX7, TX7, 7)) Z (by decide) rfl rfl) rfl rfl hl.1 rfl (lv_room (Nat.le_of_ble_eq_true rfl)) dX7_isUp_2 ⟨Nat.le_of_ble_eq_true rfl, Nat.le_of_ble_eq_true rfl⟩).run (fun r_1 h_2 => ?_)
  rw [h_2]; clear h_2 r_1
  refine r_getN (C := RX3) (T := TX3) (N := 3) (ci := 3) S Z (by omega) (eK hi) rfl i_X7_isUp_X3 2 (by decide) (show Cond.fieldLinkNest RX7 147 "WideCell$Keeper" "isRunning" "Z" "WideCell" ∈ wN from n_RX7_147) rfl (v := .int (bi (cU σ i))) rfl dX7_isUp_5 ?_
  rw [hQ]
  exact W.zret (v := bi (cU σ i)) S.1 S.2.1 hret (bi_nar _) (fun _ hT9 _ => ⟨_, rfl, (by first | (simp []; done) | (simp []; omega) | (simp [← Int32.not_le]; done)), hT9⟩) (fun _ h => nomatch h) dX7_isUp_8

abbrev rm_k_X7_entries : Room := { frames := 3, cells := 0, slots := 0, locals := 63 }
set_option maxHeartbeats 4000000 in
set_option maxRecDepth 100000 in
theorem k_X7_entries (l : Launch) (G : wG) (σ : cS) (μ : mS) (o : Nat → Int64) (i : Nat) (hi : i < 3) : Met l yX7_entries wsX7_entries rm_k_X7_entries (wPc G σ μ o [.ref (gA G 0), .int (nI i)]) (vp_Si (fun rr => rr = nI (cntE σ i 64))) 0 0 (fun _ => False) := by
  refine Met.ofW (cc := cX7_entries) (maxL := 2) (ret := (some .int)) (by decide) rfl ?_
  intro p e s m args below meth c s₁ B hml hv
  obtain ⟨hargs, hI⟩ := hv
  have S : CallFix p m c cX7_entries 2 s args wsX7_entries RX7 := ⟨B.exec, B.bytes, hml, findClass_of_methodNamed B.named, atoms_spec (ws := wsX7_entries) B.pre⟩
  have hret := B.returns
  have hlocks := B.notSynchronized
  have Z := wZ_0 hI
  clear hI
  obtain ⟨Q, hQ⟩ : ∃ Q, Q = MQ below (vp_Si (fun rr => rr = nI (cntE σ i 64))) args s 0 0 (fun _ => False) := ⟨_, rfl⟩
  rw [← hQ]
  have hl := lv_entry [.ref (gA G 0), .int (nI i)] (n := 2) (Nat.le_of_ble_eq_true rfl)
  rw [show entryFrame m args 2 = entryFrame m ([.ref (gA G 0), .int (nI i)] : List Value).toArray 2 from by rw [hargs], lg_entry_eq]
  generalize (lg_sl [.ref (gA G 0), .int (nI i)] ++ List.replicate (2 - (lg_sl [.ref (gA G 0), .int (nI i)]).length) Slot.unset).toArray = ls at hl ⊢
  have hl : lv_has ls 2 [(0, .ref (gA G 0)), (1, .int (nI i))] := hl
  refine lv_aload_n S.1 S.2.1 dX7_entries_0 rfl (lv_at hl 0 rfl) ?_
  refine lv_iload_n S.1 S.2.1 dX7_entries_1 rfl (lv_at hl 1 rfl) ?_
  refine va_csr (va_runV (As := [.int (nI i)]) (rest := []) S (k_X7_tableOf l G σ μ o i hi) (cwV 1 S.2.2.2.2 gX7_entries_X7_tableOf rfl rfl rfl ⟨rfl, hy_X7_tableOf⟩ ⟨Nat.le_of_ble_eq_true rfl, Nat.le_of_ble_eq_true rfl⟩) (wPc_V (q := (RX7, TX7, 7)) Z (by decide) rfl rfl) rfl rfl hl.1 rfl (lv_room (Nat.le_of_ble_eq_true rfl)) dX7_entries_2 ⟨Nat.le_of_ble_eq_true rfl, Nat.le_of_ble_eq_true rfl⟩).run (fun r_1 h_2 => ?_)
  rw [h_2]; clear h_2 r_1
  refine vp_callSi (va_runV (As := []) (rest := []) S (k_X5_countEntries l G σ μ o i (Nat.lt_trans hi (by decide))) (cwV 0 S.2.2.2.2 gX7_entries_X5_countEntries rfl rfl rfl ⟨rfl, hy_X5_countEntries⟩ ⟨Nat.le_of_ble_eq_true rfl, Nat.le_of_ble_eq_true rfl⟩) (wPc_V (q := (RX5, TX5, 6)) Z (by omega) (eT (Nat.lt_trans hi (by decide))) rfl) rfl rfl hl.1 rfl (lv_room (Nat.le_of_ble_eq_true rfl)) dX7_entries_5 ⟨Nat.le_of_ble_eq_true rfl, Nat.le_of_ble_eq_true rfl⟩).run (fun r_3 h_4 => ?_)
  rw [h_4]; clear h_4 r_3
  rw [hQ]
  exact W.iret (v := nI (cntE σ i 64)) S.1 S.2.1 hret (fun _ hT9 _ => ⟨_, rfl, (by first | (simp []; done) | (simp []; omega) | (simp [← Int32.not_le]; done)), hT9⟩) (fun _ h => nomatch h) dX7_entries_8

abbrev rm_k_X7_tombstones : Room := { frames := 3, cells := 0, slots := 0, locals := 63 }
set_option maxHeartbeats 4000000 in
set_option maxRecDepth 100000 in
theorem k_X7_tombstones (l : Launch) (G : wG) (σ : cS) (μ : mS) (o : Nat → Int64) (i : Nat) (r : Nat) (hi : i < 3) (hr : r < 4) : Met l yX7_tombstones wsX7_tombstones rm_k_X7_tombstones (wPc G σ μ o [.ref (gA G 0), .int (nI i), .int (nI r)]) (vp_Si (fun rr => rr = nI (cntT σ i (fpl r) (fpl (r + 1) - fpl r)))) 0 0 (fun _ => False) := by
  refine Met.ofW (cc := cX7_tombstones) (maxL := 4) (ret := (some .int)) (by decide) rfl ?_
  intro p e s m args below meth c s₁ B hml hv
  obtain ⟨hargs, hI⟩ := hv
  have S : CallFix p m c cX7_tombstones 4 s args wsX7_tombstones RX7 := ⟨B.exec, B.bytes, hml, findClass_of_methodNamed B.named, atoms_spec (ws := wsX7_tombstones) B.pre⟩
  have hret := B.returns
  have hlocks := B.notSynchronized
  have Z := wZ_0 hI
  clear hI
  obtain ⟨Q, hQ⟩ : ∃ Q, Q = MQ below (vp_Si (fun rr => rr = nI (cntT σ i (fpl r) (fpl (r + 1) - fpl r)))) args s 0 0 (fun _ => False) := ⟨_, rfl⟩
  rw [← hQ]
  have hl := lv_entry [.ref (gA G 0), .int (nI i), .int (nI r)] (n := 4) (Nat.le_of_ble_eq_true rfl)
  rw [show entryFrame m args 4 = entryFrame m ([.ref (gA G 0), .int (nI i), .int (nI r)] : List Value).toArray 4 from by rw [hargs], lg_entry_eq]
  generalize (lg_sl [.ref (gA G 0), .int (nI i), .int (nI r)] ++ List.replicate (4 - (lg_sl [.ref (gA G 0), .int (nI i), .int (nI r)]).length) Slot.unset).toArray = ls at hl ⊢
  have hl : lv_has ls 4 [(0, .ref (gA G 0)), (1, .int (nI i)), (2, .int (nI r))] := hl
  refine lv_aload_n S.1 S.2.1 dX7_tombstones_0 rfl (lv_at hl 0 rfl) ?_
  refine lv_iload_n S.1 S.2.1 dX7_tombstones_1 rfl (lv_at hl 1 rfl) ?_
  refine va_csr (va_runV (As := [.int (nI i)]) (rest := []) S (k_X7_tableOf l G σ μ o i hi) (cwV 1 S.2.2.2.2 gX7_tombstones_X7_tableOf rfl rfl rfl ⟨rfl, hy_X7_tableOf⟩ ⟨Nat.le_of_ble_eq_true rfl, Nat.le_of_ble_eq_true rfl⟩) (wPc_V (q := (RX7, TX7, 7)) Z (by decide) rfl rfl) rfl rfl hl.1 rfl (lv_room (Nat.le_of_ble_eq_true rfl)) dX7_tombstones_2 ⟨Nat.le_of_ble_eq_true rfl, Nat.le_of_ble_eq_true rfl⟩).run (fun r_1 h_2 => ?_)
  rw [h_2]; clear h_2 r_1
  refine lv_astore_n (lv' := [(3, .ref (gA G (15 + 6 * i))), (0, .ref (gA G 0)), (1, .int (nI i)), (2, .int (nI r))]) S.1 S.2.1 dX7_tombstones_5 rfl hl (by decide) rfl (fun ls hl => ?_)
  refine lv_iload_n S.1 S.2.1 dX7_tombstones_6 rfl (lv_at hl 3 rfl) ?_
  refine lv_iconst (v := nI 3) S.1 S.2.1 dX7_tombstones_7 (by decide) ?_
  refine vp_callSi (va_runS (As := [.int (nI r), .int (nI 3)]) (rest := []) S (k_X7_isWithin_n l G σ μ o r 3 (by omega) (by omega)) (va_cwS 2 S.2.2.2.2 gX7_tombstones_X7_isWithin rfl rfl rfl hy_X7_isWithin ⟨Nat.le_of_ble_eq_true rfl, Nat.le_of_ble_eq_true rfl⟩) (wPc_S Z) rfl rfl hl.1 rfl (lv_room (Nat.le_of_ble_eq_true rfl)) dX7_tombstones_8 ⟨Nat.le_of_ble_eq_true rfl, Nat.le_of_ble_eq_true rfl⟩).run (fun r_3 h_4 => ?_)
  rw [h_4]; clear h_4 r_3
  refine va_csv (va_runS (As := [.int (bi true)]) (rest := []) S (k_X7_requireArgument l G σ μ o  ) (va_cwS 1 S.2.2.2.2 gX7_tombstones_X7_requireArgument rfl rfl rfl hy_X7_requireArgument ⟨Nat.le_of_ble_eq_true rfl, Nat.le_of_ble_eq_true rfl⟩) (wPc_S Z) rfl rfl hl.1 rfl (lv_room (Nat.le_of_ble_eq_true rfl)) dX7_tombstones_11 ⟨Nat.le_of_ble_eq_true rfl, Nat.le_of_ble_eq_true rfl⟩).run (fun h_6 => ?_)
  refine lv_aload_n S.1 S.2.1 dX7_tombstones_14 rfl (lv_at hl 0 rfl) ?_
  refine lv_iload_n S.1 S.2.1 dX7_tombstones_15 rfl (lv_at hl 3 rfl) ?_
  refine vp_callSi (va_runV (As := [.int (nI r)]) (rest := []) S (k_X5_countTombstones l G σ μ o i r (Nat.lt_trans hi (by decide)) (by omega)) (cwV 1 S.2.2.2.2 gX7_tombstones_X5_countTombstones rfl rfl rfl ⟨rfl, hy_X5_countTombstones⟩ ⟨Nat.le_of_ble_eq_true rfl, Nat.le_of_ble_eq_true rfl⟩) (wPc_V (q := (RX5, TX5, 6)) Z (by omega) (eT (Nat.lt_trans hi (by decide))) rfl) rfl rfl hl.1 rfl (lv_room (Nat.le_of_ble_eq_true rfl)) dX7_tombstones_16 ⟨Nat.le_of_ble_eq_true rfl, Nat.le_of_ble_eq_true rfl⟩).run (fun r_7 h_8 => ?_)
  rw [h_8]; clear h_8 r_7
  rw [hQ]
  exact W.iret (v := nI (cntT σ i (fpl r) (fpl (r + 1) - fpl r))) S.1 S.2.1 hret (fun _ hT9 _ => ⟨_, rfl, (by first | (simp []; done) | (simp []; omega) | (simp [← Int32.not_le]; done)), hT9⟩) (fun _ h => nomatch h) dX7_tombstones_19

theorem i_X7_ideal_X7 : ∀ w ∈ wsX70, w ∈ wsX7_ideal := by decide +kernel
theorem m_X7_ideal_f21 : Cond.fieldLink RX7 21 "WideCell" "idealTable" "LWideCell$Table;" ∈ wsX7_ideal := by decide +kernel
theorem m_X7_ideal_f41 : Cond.fieldLink RX7 41 "WideCell" "now" "I" ∈ wsX7_ideal := by decide +kernel
abbrev rm_k_X7_ideal : Room := { frames := 5, cells := 0, slots := 0, locals := 118 }
set_option maxHeartbeats 4000000 in
set_option maxRecDepth 100000 in
theorem k_X7_ideal (l : Launch) (G : wG) (σ : cS) (μ : mS) (o : Nat → Int64) (row : Nat) (col : Nat) (hrow : row < 16) (hcol : col < 4) : Met l yX7_ideal wsX7_ideal rm_k_X7_ideal (wPc G σ μ o [.ref (gA G 0), .int (nI row), .int (nI col)]) (vp_Si (fun rr => rr = visV σ 3 row col (cV σ 4))) 0 0 (fun _ => False) := by
  refine Met.ofW (cc := cX7_ideal) (maxL := 3) (ret := (some .int)) (by decide) rfl ?_
  intro p e s m args below meth c s₁ B hml hv
  obtain ⟨hargs, hI⟩ := hv
  have S : CallFix p m c cX7_ideal 3 s args wsX7_ideal RX7 := ⟨B.exec, B.bytes, hml, findClass_of_methodNamed B.named, atoms_spec (ws := wsX7_ideal) B.pre⟩
  have hret := B.returns
  have hlocks := B.notSynchronized
  have Z := wZ_0 hI
  clear hI
  obtain ⟨Q, hQ⟩ : ∃ Q, Q = MQ below (vp_Si (fun rr => rr = visV σ 3 row col (cV σ 4))) args s 0 0 (fun _ => False) := ⟨_, rfl⟩
  rw [← hQ]
  have hl := lv_entry [.ref (gA G 0), .int (nI row), .int (nI col)] (n := 3) (Nat.le_of_ble_eq_true rfl)
  rw [show entryFrame m args 3 = entryFrame m ([.ref (gA G 0), .int (nI row), .int (nI col)] : List Value).toArray 3 from by rw [hargs], lg_entry_eq]
  generalize (lg_sl [.ref (gA G 0), .int (nI row), .int (nI col)] ++ List.replicate (3 - (lg_sl [.ref (gA G 0), .int (nI row), .int (nI col)]).length) Slot.unset).toArray = ls at hl ⊢
  have hl : lv_has ls 3 [(0, .ref (gA G 0)), (1, .int (nI row)), (2, .int (nI col))] := hl
  refine lv_iload_n S.1 S.2.1 dX7_ideal_0 rfl (lv_at hl 1 rfl) ?_
  refine va_csv (va_runS (As := [.int (nI row)]) (rest := []) S (k_X7_requireRow l G σ μ o row (by omega)) (va_cwS 1 S.2.2.2.2 gX7_ideal_X7_requireRow rfl rfl rfl hy_X7_requireRow ⟨Nat.le_of_ble_eq_true rfl, Nat.le_of_ble_eq_true rfl⟩) (wPc_S Z) rfl rfl hl.1 rfl (lv_room (Nat.le_of_ble_eq_true rfl)) dX7_ideal_1 ⟨Nat.le_of_ble_eq_true rfl, Nat.le_of_ble_eq_true rfl⟩).run (fun h_2 => ?_)
  refine lv_iload_n S.1 S.2.1 dX7_ideal_4 rfl (lv_at hl 2 rfl) ?_
  refine va_csv (va_runS (As := [.int (nI col)]) (rest := []) S (k_X7_requireColumn l G σ μ o col (by omega)) (va_cwS 1 S.2.2.2.2 gX7_ideal_X7_requireColumn rfl rfl rfl hy_X7_requireColumn ⟨Nat.le_of_ble_eq_true rfl, Nat.le_of_ble_eq_true rfl⟩) (wPc_S Z) rfl rfl hl.1 rfl (lv_room (Nat.le_of_ble_eq_true rfl)) dX7_ideal_5 ⟨Nat.le_of_ble_eq_true rfl, Nat.le_of_ble_eq_true rfl⟩).run (fun h_4 => ?_)
  refine lv_aload_n S.1 S.2.1 dX7_ideal_8 rfl (lv_at hl 0 rfl) ?_
  refine r_get (C := RX7) (T := TX7) (N := 7) (ci := 7) S Z (by decide) rfl rfl i_X7_ideal_X7 1 (by decide) m_X7_ideal_f21 rfl (v := .ref (gA G (15 + 6 * 3))) rfl dX7_ideal_9 ?_
  refine lv_iload_n S.1 S.2.1 dX7_ideal_12 rfl (lv_at hl 1 rfl) ?_
  refine lv_iload_n S.1 S.2.1 dX7_ideal_13 rfl (lv_at hl 2 rfl) ?_
  refine lv_aload_n S.1 S.2.1 dX7_ideal_14 rfl (lv_at hl 0 rfl) ?_
  refine r_get (C := RX7) (T := TX7) (N := 7) (ci := 7) S Z (by decide) rfl rfl i_X7_ideal_X7 4 (by decide) m_X7_ideal_f41 rfl (v := .int (cV σ 4)) rfl dX7_ideal_15 ?_
  refine vp_callSi (va_runV (As := [.int (nI row), .int (nI col), .int (cV σ 4)]) (rest := []) S (k_X5_visibleValue l G σ μ o 3 row col (cV σ 4) (by decide) (by omega) (by omega)) (cwV 3 S.2.2.2.2 gX7_ideal_X5_visibleValue rfl rfl rfl ⟨rfl, hy_X5_visibleValue⟩ ⟨Nat.le_of_ble_eq_true rfl, Nat.le_of_ble_eq_true rfl⟩) (wPc_V (q := (RX5, TX5, 6)) Z (by omega) (eT (by decide)) rfl) rfl rfl hl.1 rfl (lv_room (Nat.le_of_ble_eq_true rfl)) dX7_ideal_18 ⟨Nat.le_of_ble_eq_true rfl, Nat.le_of_ble_eq_true rfl⟩).run (fun r_5 h_6 => ?_)
  rw [h_6]; clear h_6 r_5
  rw [hQ]
  exact W.iret (v := visV σ 3 row col (cV σ 4)) S.1 S.2.1 hret (fun _ hT9 _ => ⟨_, rfl, (by first | (simp []; done) | (simp []; omega) | (simp [← Int32.not_le]; done)), hT9⟩) (fun _ h => nomatch h) dX7_ideal_21

theorem i_X7_valueAt_X7 : ∀ w ∈ wsX70, w ∈ wsX7_valueAt := by decide +kernel
theorem m_X7_valueAt_f41 : Cond.fieldLink RX7 41 "WideCell" "now" "I" ∈ wsX7_valueAt := by decide +kernel
abbrev rm_k_X7_valueAt : Room := { frames := 5, cells := 0, slots := 0, locals := 118 }
set_option maxHeartbeats 4000000 in
set_option maxRecDepth 100000 in
theorem k_X7_valueAt (l : Launch) (G : wG) (σ : cS) (μ : mS) (o : Nat → Int64) (i : Nat) (row : Nat) (col : Nat) (hi : i < 3) (hrow : row < 16) (hcol : col < 4) : Met l yX7_valueAt wsX7_valueAt rm_k_X7_valueAt (wPc G σ μ o [.ref (gA G 0), .int (nI i), .int (nI row), .int (nI col)]) (vp_Si (fun rr => rr = visV σ i row col (cV σ 4))) 0 0 (fun _ => False) := by
  refine Met.ofW (cc := cX7_valueAt) (maxL := 5) (ret := (some .int)) (by decide) rfl ?_
  intro p e s m args below meth c s₁ B hml hv
  obtain ⟨hargs, hI⟩ := hv
  have S : CallFix p m c cX7_valueAt 5 s args wsX7_valueAt RX7 := ⟨B.exec, B.bytes, hml, findClass_of_methodNamed B.named, atoms_spec (ws := wsX7_valueAt) B.pre⟩
  have hret := B.returns
  have hlocks := B.notSynchronized
  have Z := wZ_0 hI
  clear hI
  obtain ⟨Q, hQ⟩ : ∃ Q, Q = MQ below (vp_Si (fun rr => rr = visV σ i row col (cV σ 4))) args s 0 0 (fun _ => False) := ⟨_, rfl⟩
  rw [← hQ]
  have hl := lv_entry [.ref (gA G 0), .int (nI i), .int (nI row), .int (nI col)] (n := 5) (Nat.le_of_ble_eq_true rfl)
  rw [show entryFrame m args 5 = entryFrame m ([.ref (gA G 0), .int (nI i), .int (nI row), .int (nI col)] : List Value).toArray 5 from by rw [hargs], lg_entry_eq]
  generalize (lg_sl [.ref (gA G 0), .int (nI i), .int (nI row), .int (nI col)] ++ List.replicate (5 - (lg_sl [.ref (gA G 0), .int (nI i), .int (nI row), .int (nI col)]).length) Slot.unset).toArray = ls at hl ⊢
  have hl : lv_has ls 5 [(0, .ref (gA G 0)), (1, .int (nI i)), (2, .int (nI row)), (3, .int (nI col))] := hl
  refine lv_aload_n S.1 S.2.1 dX7_valueAt_0 rfl (lv_at hl 0 rfl) ?_
  refine lv_iload_n S.1 S.2.1 dX7_valueAt_1 rfl (lv_at hl 1 rfl) ?_
  refine va_csr (va_runV (As := [.int (nI i)]) (rest := []) S (k_X7_tableOf l G σ μ o i hi) (cwV 1 S.2.2.2.2 gX7_valueAt_X7_tableOf rfl rfl rfl ⟨rfl, hy_X7_tableOf⟩ ⟨Nat.le_of_ble_eq_true rfl, Nat.le_of_ble_eq_true rfl⟩) (wPc_V (q := (RX7, TX7, 7)) Z (by decide) rfl rfl) rfl rfl hl.1 rfl (lv_room (Nat.le_of_ble_eq_true rfl)) dX7_valueAt_2 ⟨Nat.le_of_ble_eq_true rfl, Nat.le_of_ble_eq_true rfl⟩).run (fun r_1 h_2 => ?_)
  rw [h_2]; clear h_2 r_1
  refine lv_astore (lv' := [(4, .ref (gA G (15 + 6 * i))), (0, .ref (gA G 0)), (1, .int (nI i)), (2, .int (nI row)), (3, .int (nI col))]) S.1 S.2.1 dX7_valueAt_5 hl (by decide) rfl (fun ls hl => ?_)
  refine lv_iload_n S.1 S.2.1 dX7_valueAt_7 rfl (lv_at hl 3 rfl) ?_
  refine va_csv (va_runS (As := [.int (nI row)]) (rest := []) S (k_X7_requireRow l G σ μ o row (by omega)) (va_cwS 1 S.2.2.2.2 gX7_valueAt_X7_requireRow rfl rfl rfl hy_X7_requireRow ⟨Nat.le_of_ble_eq_true rfl, Nat.le_of_ble_eq_true rfl⟩) (wPc_S Z) rfl rfl hl.1 rfl (lv_room (Nat.le_of_ble_eq_true rfl)) dX7_valueAt_8 ⟨Nat.le_of_ble_eq_true rfl, Nat.le_of_ble_eq_true rfl⟩).run (fun h_4 => ?_)
  refine lv_iload_n S.1 S.2.1 dX7_valueAt_11 rfl (lv_at hl 4 rfl) ?_
  refine va_csv (va_runS (As := [.int (nI col)]) (rest := []) S (k_X7_requireColumn l G σ μ o col (by omega)) (va_cwS 1 S.2.2.2.2 gX7_valueAt_X7_requireColumn rfl rfl rfl hy_X7_requireColumn ⟨Nat.le_of_ble_eq_true rfl, Nat.le_of_ble_eq_true rfl⟩) (wPc_S Z) rfl rfl hl.1 rfl (lv_room (Nat.le_of_ble_eq_true rfl)) dX7_valueAt_12 ⟨Nat.le_of_ble_eq_true rfl, Nat.le_of_ble_eq_true rfl⟩).run (fun h_6 => ?_)
  refine lv_aload S.1 S.2.1 dX7_valueAt_15 (lv_at hl 0 rfl) ?_
  refine lv_iload_n S.1 S.2.1 dX7_valueAt_17 rfl (lv_at hl 3 rfl) ?_
  refine lv_iload_n S.1 S.2.1 dX7_valueAt_18 rfl (lv_at hl 4 rfl) ?_
  refine lv_aload_n S.1 S.2.1 dX7_valueAt_19 rfl (lv_at hl 1 rfl) ?_
  refine r_get (C := RX7) (T := TX7) (N := 7) (ci := 7) S Z (by decide) rfl rfl i_X7_valueAt_X7 4 (by decide) m_X7_valueAt_f41 rfl (v := .int (cV σ 4)) rfl dX7_valueAt_20 ?_
  refine vp_callSi (va_runV (As := [.int (nI row), .int (nI col), .int (cV σ 4)]) (rest := []) S (k_X5_visibleValue l G σ μ o i row col (cV σ 4) (Nat.lt_trans hi (by decide)) (by omega) (by omega)) (cwV 3 S.2.2.2.2 gX7_valueAt_X5_visibleValue rfl rfl rfl ⟨rfl, hy_X5_visibleValue⟩ ⟨Nat.le_of_ble_eq_true rfl, Nat.le_of_ble_eq_true rfl⟩) (wPc_V (q := (RX5, TX5, 6)) Z (by omega) (eT (Nat.lt_trans hi (by decide))) rfl) rfl rfl hl.1 rfl (lv_room (Nat.le_of_ble_eq_true rfl)) dX7_valueAt_23 ⟨Nat.le_of_ble_eq_true rfl, Nat.le_of_ble_eq_true rfl⟩).run (fun r_7 h_8 => ?_)
  rw [h_8]; clear h_8 r_7
  rw [hQ]
  exact W.iret (v := visV σ i row col (cV σ 4)) S.1 S.2.1 hret (fun _ hT9 _ => ⟨_, rfl, (by first | (simp []; done) | (simp []; omega) | (simp [← Int32.not_le]; done)), hT9⟩) (fun _ h => nomatch h) dX7_valueAt_26

theorem i_X7_stampAt_X5 : ∀ w ∈ wsX50, w ∈ wsX7_stampAt := by decide +kernel
abbrev rm_k_X7_stampAt : Room := { frames := 3, cells := 0, slots := 0, locals := 63 }
set_option maxHeartbeats 4000000 in
set_option maxRecDepth 100000 in
theorem k_X7_stampAt (l : Launch) (G : wG) (σ : cS) (μ : mS) (o : Nat → Int64) (i : Nat) (row : Nat) (col : Nat) (hi : i < 3) (hrow : row < 16) (hcol : col < 4) : Met l yX7_stampAt wsX7_stampAt rm_k_X7_stampAt (wPc G σ μ o [.ref (gA G 0), .int (nI i), .int (nI row), .int (nI col)]) (vp_Si (fun rr => rr = cI σ (15 + 6 * i + 1) (row * 4 + col))) 0 0 (fun _ => False) := by
  refine Met.ofW (cc := cX7_stampAt) (maxL := 5) (ret := (some .int)) (by decide) rfl ?_
  intro p e s m args below meth c s₁ B hml hv
  obtain ⟨hargs, hI⟩ := hv
  have S : CallFix p m c cX7_stampAt 5 s args wsX7_stampAt RX7 := ⟨B.exec, B.bytes, hml, findClass_of_methodNamed B.named, atoms_spec (ws := wsX7_stampAt) B.pre⟩
  have hret := B.returns
  have hlocks := B.notSynchronized
  have Z := wZ_0 hI
  clear hI
  obtain ⟨Q, hQ⟩ : ∃ Q, Q = MQ below (vp_Si (fun rr => rr = cI σ (15 + 6 * i + 1) (row * 4 + col))) args s 0 0 (fun _ => False) := ⟨_, rfl⟩
  rw [← hQ]
  have hl := lv_entry [.ref (gA G 0), .int (nI i), .int (nI row), .int (nI col)] (n := 5) (Nat.le_of_ble_eq_true rfl)
  rw [show entryFrame m args 5 = entryFrame m ([.ref (gA G 0), .int (nI i), .int (nI row), .int (nI col)] : List Value).toArray 5 from by rw [hargs], lg_entry_eq]
  generalize (lg_sl [.ref (gA G 0), .int (nI i), .int (nI row), .int (nI col)] ++ List.replicate (5 - (lg_sl [.ref (gA G 0), .int (nI i), .int (nI row), .int (nI col)]).length) Slot.unset).toArray = ls at hl ⊢
  have hl : lv_has ls 5 [(0, .ref (gA G 0)), (1, .int (nI i)), (2, .int (nI row)), (3, .int (nI col))] := hl
  refine lv_aload_n S.1 S.2.1 dX7_stampAt_0 rfl (lv_at hl 0 rfl) ?_
  refine lv_iload_n S.1 S.2.1 dX7_stampAt_1 rfl (lv_at hl 1 rfl) ?_
  refine va_csr (va_runV (As := [.int (nI i)]) (rest := []) S (k_X7_tableOf l G σ μ o i hi) (cwV 1 S.2.2.2.2 gX7_stampAt_X7_tableOf rfl rfl rfl ⟨rfl, hy_X7_tableOf⟩ ⟨Nat.le_of_ble_eq_true rfl, Nat.le_of_ble_eq_true rfl⟩) (wPc_V (q := (RX7, TX7, 7)) Z (by decide) rfl rfl) rfl rfl hl.1 rfl (lv_room (Nat.le_of_ble_eq_true rfl)) dX7_stampAt_2 ⟨Nat.le_of_ble_eq_true rfl, Nat.le_of_ble_eq_true rfl⟩).run (fun r_1 h_2 => ?_)
  rw [h_2]; clear h_2 r_1
  refine lv_astore (lv' := [(4, .ref (gA G (15 + 6 * i))), (0, .ref (gA G 0)), (1, .int (nI i)), (2, .int (nI row)), (3, .int (nI col))]) S.1 S.2.1 dX7_stampAt_5 hl (by decide) rfl (fun ls hl => ?_)
  refine lv_iload_n S.1 S.2.1 dX7_stampAt_7 rfl (lv_at hl 3 rfl) ?_
  refine va_csv (va_runS (As := [.int (nI row)]) (rest := []) S (k_X7_requireRow l G σ μ o row (by omega)) (va_cwS 1 S.2.2.2.2 gX7_stampAt_X7_requireRow rfl rfl rfl hy_X7_requireRow ⟨Nat.le_of_ble_eq_true rfl, Nat.le_of_ble_eq_true rfl⟩) (wPc_S Z) rfl rfl hl.1 rfl (lv_room (Nat.le_of_ble_eq_true rfl)) dX7_stampAt_8 ⟨Nat.le_of_ble_eq_true rfl, Nat.le_of_ble_eq_true rfl⟩).run (fun h_4 => ?_)
  refine lv_iload_n S.1 S.2.1 dX7_stampAt_11 rfl (lv_at hl 4 rfl) ?_
  refine va_csv (va_runS (As := [.int (nI col)]) (rest := []) S (k_X7_requireColumn l G σ μ o col (by omega)) (va_cwS 1 S.2.2.2.2 gX7_stampAt_X7_requireColumn rfl rfl rfl hy_X7_requireColumn ⟨Nat.le_of_ble_eq_true rfl, Nat.le_of_ble_eq_true rfl⟩) (wPc_S Z) rfl rfl hl.1 rfl (lv_room (Nat.le_of_ble_eq_true rfl)) dX7_stampAt_12 ⟨Nat.le_of_ble_eq_true rfl, Nat.le_of_ble_eq_true rfl⟩).run (fun h_6 => ?_)
  refine lv_aload S.1 S.2.1 dX7_stampAt_15 (lv_at hl 0 rfl) ?_
  refine r_getN (C := RX5) (T := TX5) (N := 6) (ci := 5) S Z (by omega) (eT (Nat.lt_trans hi (by decide))) rfl i_X7_stampAt_X5 1 (by decide) (show Cond.fieldLinkNest RX7 172 "WideCell$Table" "stamps" "[I" "WideCell" ∈ wN from n_RX7_172) rfl (v := .ref (gA G (15 + 6 * i + 1))) rfl dX7_stampAt_17 ?_
  refine lv_iload_n S.1 S.2.1 dX7_stampAt_20 rfl (lv_at hl 3 rfl) ?_
  refine lv_iload_n S.1 S.2.1 dX7_stampAt_21 rfl (lv_at hl 4 rfl) ?_
  refine vp_callSi (va_runS (As := [.int (nI row), .int (nI col)]) (rest := [.ref (gA G (15 + 6 * i + 1))]) S (k_X7_cellAt l G σ μ o row col ) (va_cwS 2 S.2.2.2.2 gX7_stampAt_X7_cellAt rfl rfl rfl hy_X7_cellAt ⟨Nat.le_of_ble_eq_true rfl, Nat.le_of_ble_eq_true rfl⟩) (wPc_S Z) rfl rfl hl.1 rfl (lv_room (Nat.le_of_ble_eq_true rfl)) dX7_stampAt_22 ⟨Nat.le_of_ble_eq_true rfl, Nat.le_of_ble_eq_true rfl⟩).run (fun r_7 h_8 => ?_)
  rw [h_8]; clear h_8 r_7
  refine r_ialdC S Z (n := 64) (pT (Nat.lt_trans hi (by decide)) (by decide) (by decide)) (by omega) (by decide) dX7_stampAt_25 ?_
  rw [hQ]
  exact W.iret (v := cI σ (15 + 6 * i + 1) (row * 4 + col)) S.1 S.2.1 hret (fun _ hT9 _ => ⟨_, rfl, (by first | (simp []; done) | (simp []; omega) | (simp [← Int32.not_le]; done)), hT9⟩) (fun _ h => nomatch h) dX7_stampAt_26

abbrev rm_k_X7_buriedBy : Room := { frames := 3, cells := 0, slots := 0, locals := 71 }
set_option maxHeartbeats 4000000 in
set_option maxRecDepth 100000 in
theorem k_X7_buriedBy (l : Launch) (G : wG) (σ : cS) (μ : mS) (o : Nat → Int64) (i : Nat) (row : Nat) (col : Nat) (hi : i < 3) (hrow : row < 16) (hcol : col < 4) : Met l yX7_buriedBy wsX7_buriedBy rm_k_X7_buriedBy (wPc G σ μ o [.ref (gA G 0), .int (nI i), .int (nI row), .int (nI col)]) (vp_Si (fun rr => rr = gB σ i row col)) 0 0 (fun _ => False) := by
  refine Met.ofW (cc := cX7_buriedBy) (maxL := 5) (ret := (some .int)) (by decide) rfl ?_
  intro p e s m args below meth c s₁ B hml hv
  obtain ⟨hargs, hI⟩ := hv
  have S : CallFix p m c cX7_buriedBy 5 s args wsX7_buriedBy RX7 := ⟨B.exec, B.bytes, hml, findClass_of_methodNamed B.named, atoms_spec (ws := wsX7_buriedBy) B.pre⟩
  have hret := B.returns
  have hlocks := B.notSynchronized
  have Z := wZ_0 hI
  clear hI
  obtain ⟨Q, hQ⟩ : ∃ Q, Q = MQ below (vp_Si (fun rr => rr = gB σ i row col)) args s 0 0 (fun _ => False) := ⟨_, rfl⟩
  rw [← hQ]
  have hl := lv_entry [.ref (gA G 0), .int (nI i), .int (nI row), .int (nI col)] (n := 5) (Nat.le_of_ble_eq_true rfl)
  rw [show entryFrame m args 5 = entryFrame m ([.ref (gA G 0), .int (nI i), .int (nI row), .int (nI col)] : List Value).toArray 5 from by rw [hargs], lg_entry_eq]
  generalize (lg_sl [.ref (gA G 0), .int (nI i), .int (nI row), .int (nI col)] ++ List.replicate (5 - (lg_sl [.ref (gA G 0), .int (nI i), .int (nI row), .int (nI col)]).length) Slot.unset).toArray = ls at hl ⊢
  have hl : lv_has ls 5 [(0, .ref (gA G 0)), (1, .int (nI i)), (2, .int (nI row)), (3, .int (nI col))] := hl
  refine lv_aload_n S.1 S.2.1 dX7_buriedBy_0 rfl (lv_at hl 0 rfl) ?_
  refine lv_iload_n S.1 S.2.1 dX7_buriedBy_1 rfl (lv_at hl 1 rfl) ?_
  refine va_csr (va_runV (As := [.int (nI i)]) (rest := []) S (k_X7_tableOf l G σ μ o i hi) (cwV 1 S.2.2.2.2 gX7_buriedBy_X7_tableOf rfl rfl rfl ⟨rfl, hy_X7_tableOf⟩ ⟨Nat.le_of_ble_eq_true rfl, Nat.le_of_ble_eq_true rfl⟩) (wPc_V (q := (RX7, TX7, 7)) Z (by decide) rfl rfl) rfl rfl hl.1 rfl (lv_room (Nat.le_of_ble_eq_true rfl)) dX7_buriedBy_2 ⟨Nat.le_of_ble_eq_true rfl, Nat.le_of_ble_eq_true rfl⟩).run (fun r_1 h_2 => ?_)
  rw [h_2]; clear h_2 r_1
  refine lv_astore (lv' := [(4, .ref (gA G (15 + 6 * i))), (0, .ref (gA G 0)), (1, .int (nI i)), (2, .int (nI row)), (3, .int (nI col))]) S.1 S.2.1 dX7_buriedBy_5 hl (by decide) rfl (fun ls hl => ?_)
  refine lv_iload_n S.1 S.2.1 dX7_buriedBy_7 rfl (lv_at hl 3 rfl) ?_
  refine va_csv (va_runS (As := [.int (nI row)]) (rest := []) S (k_X7_requireRow l G σ μ o row (by omega)) (va_cwS 1 S.2.2.2.2 gX7_buriedBy_X7_requireRow rfl rfl rfl hy_X7_requireRow ⟨Nat.le_of_ble_eq_true rfl, Nat.le_of_ble_eq_true rfl⟩) (wPc_S Z) rfl rfl hl.1 rfl (lv_room (Nat.le_of_ble_eq_true rfl)) dX7_buriedBy_8 ⟨Nat.le_of_ble_eq_true rfl, Nat.le_of_ble_eq_true rfl⟩).run (fun h_4 => ?_)
  refine lv_iload_n S.1 S.2.1 dX7_buriedBy_11 rfl (lv_at hl 4 rfl) ?_
  refine va_csv (va_runS (As := [.int (nI col)]) (rest := []) S (k_X7_requireColumn l G σ μ o col (by omega)) (va_cwS 1 S.2.2.2.2 gX7_buriedBy_X7_requireColumn rfl rfl rfl hy_X7_requireColumn ⟨Nat.le_of_ble_eq_true rfl, Nat.le_of_ble_eq_true rfl⟩) (wPc_S Z) rfl rfl hl.1 rfl (lv_room (Nat.le_of_ble_eq_true rfl)) dX7_buriedBy_12 ⟨Nat.le_of_ble_eq_true rfl, Nat.le_of_ble_eq_true rfl⟩).run (fun h_6 => ?_)
  refine lv_aload S.1 S.2.1 dX7_buriedBy_15 (lv_at hl 0 rfl) ?_
  refine lv_iload_n S.1 S.2.1 dX7_buriedBy_17 rfl (lv_at hl 3 rfl) ?_
  refine lv_iload_n S.1 S.2.1 dX7_buriedBy_18 rfl (lv_at hl 4 rfl) ?_
  refine vp_callSi (va_runV (As := [.int (nI row), .int (nI col)]) (rest := []) S (k_X5_greatestBurial l G σ μ o i row col (Nat.lt_trans hi (by decide)) (by omega) (by omega)) (cwV 2 S.2.2.2.2 gX7_buriedBy_X5_greatestBurial rfl rfl rfl ⟨rfl, hy_X5_greatestBurial⟩ ⟨Nat.le_of_ble_eq_true rfl, Nat.le_of_ble_eq_true rfl⟩) (wPc_V (q := (RX5, TX5, 6)) Z (by omega) (eT (Nat.lt_trans hi (by decide))) rfl) rfl rfl hl.1 rfl (lv_room (Nat.le_of_ble_eq_true rfl)) dX7_buriedBy_19 ⟨Nat.le_of_ble_eq_true rfl, Nat.le_of_ble_eq_true rfl⟩).run (fun r_7 h_8 => ?_)
  rw [h_8]; clear h_8 r_7
  rw [hQ]
  exact W.iret (v := gB σ i row col) S.1 S.2.1 hret (fun _ hT9 _ => ⟨_, rfl, (by first | (simp []; done) | (simp []; omega) | (simp [← Int32.not_le]; done)), hT9⟩) (fun _ h => nomatch h) dX7_buriedBy_22

theorem i_X7_compared_X7 : ∀ w ∈ wsX70, w ∈ wsX7_compared := by decide +kernel
theorem m_X7_compared_f37 : Cond.fieldLink RX7 37 "WideCell" "comparison" "LWideCell$Comparison;" ∈ wsX7_compared := by decide +kernel
abbrev rm_k_X7_compared : Room := { frames := 4, cells := 0, slots := 0, locals := 94 }
set_option maxHeartbeats 4000000 in
set_option maxRecDepth 100000 in
theorem k_X7_compared (l : Launch) (G : wG) (σ : cS) (μ : mS) (o : Nat → Int64) (i : Nat) (j : Nat) (hi : i < 3) (hj : j < 3) : Met l yX7_compared wsX7_compared rm_k_X7_compared (wPc G σ μ o [.ref (gA G 0), .int (nI i), .int (nI j)]) (va_Qi (fun (rr : Int32) (u : cS × mS) => rr = nI (cmN σ i j 31) ∧ u = (cmp σ i j, μ)) (fun u t => wI G u.1 u.2 o t) (gP G)) 0 0 (gP G) := by
  refine Met.ofW (cc := cX7_compared) (maxL := 3) (ret := (some .int)) (by decide) rfl ?_
  intro p e s m args below meth c s₁ B hml hv
  obtain ⟨hargs, hI⟩ := hv
  have S : CallFix p m c cX7_compared 3 s args wsX7_compared RX7 := ⟨B.exec, B.bytes, hml, findClass_of_methodNamed B.named, atoms_spec (ws := wsX7_compared) B.pre⟩
  have hret := B.returns
  have hlocks := B.notSynchronized
  have Z := wZ_0 hI
  clear hI
  obtain ⟨Q, hQ⟩ : ∃ Q, Q = MQ below (va_Qi (fun (rr : Int32) (u : cS × mS) => rr = nI (cmN σ i j 31) ∧ u = (cmp σ i j, μ)) (fun u t => wI G u.1 u.2 o t) (gP G)) args s 0 0 (gP G) := ⟨_, rfl⟩
  rw [← hQ]
  have hl := lv_entry [.ref (gA G 0), .int (nI i), .int (nI j)] (n := 3) (Nat.le_of_ble_eq_true rfl)
  rw [show entryFrame m args 3 = entryFrame m ([.ref (gA G 0), .int (nI i), .int (nI j)] : List Value).toArray 3 from by rw [hargs], lg_entry_eq]
  generalize (lg_sl [.ref (gA G 0), .int (nI i), .int (nI j)] ++ List.replicate (3 - (lg_sl [.ref (gA G 0), .int (nI i), .int (nI j)]).length) Slot.unset).toArray = ls at hl ⊢
  have hl : lv_has ls 3 [(0, .ref (gA G 0)), (1, .int (nI i)), (2, .int (nI j))] := hl
  refine lv_aload_n S.1 S.2.1 dX7_compared_0 rfl (lv_at hl 0 rfl) ?_
  refine r_get (C := RX7) (T := TX7) (N := 7) (ci := 7) S Z (by decide) rfl rfl i_X7_compared_X7 3 (by decide) m_X7_compared_f37 rfl (v := .ref (gA G 5)) rfl dX7_compared_1 ?_
  refine lv_aload_n S.1 S.2.1 dX7_compared_4 rfl (lv_at hl 0 rfl) ?_
  refine lv_iload_n S.1 S.2.1 dX7_compared_5 rfl (lv_at hl 1 rfl) ?_
  refine va_csr (va_runV (As := [.int (nI i)]) (rest := [.ref (gA G 5)]) S (k_X7_tableOf l G σ μ o i hi) (cwV 1 S.2.2.2.2 gX7_compared_X7_tableOf rfl rfl rfl ⟨rfl, hy_X7_tableOf⟩ ⟨Nat.le_of_ble_eq_true rfl, Nat.le_of_ble_eq_true rfl⟩) (wPc_V (q := (RX7, TX7, 7)) Z (by decide) rfl rfl) rfl rfl hl.1 rfl (lv_room (Nat.le_of_ble_eq_true rfl)) dX7_compared_6 ⟨Nat.le_of_ble_eq_true rfl, Nat.le_of_ble_eq_true rfl⟩).run (fun r_1 h_2 => ?_)
  rw [h_2]; clear h_2 r_1
  refine lv_aload_n S.1 S.2.1 dX7_compared_9 rfl (lv_at hl 0 rfl) ?_
  refine lv_iload_n S.1 S.2.1 dX7_compared_10 rfl (lv_at hl 2 rfl) ?_
  refine va_csr (va_runV (As := [.int (nI j)]) (rest := [.ref (gA G (15 + 6 * i)), .ref (gA G 5)]) S (k_X7_tableOf l G σ μ o j hj) (cwV 1 S.2.2.2.2 gX7_compared_X7_tableOf rfl rfl rfl ⟨rfl, hy_X7_tableOf⟩ ⟨Nat.le_of_ble_eq_true rfl, Nat.le_of_ble_eq_true rfl⟩) (wPc_V (q := (RX7, TX7, 7)) Z (by decide) rfl rfl) rfl rfl hl.1 rfl (lv_room (Nat.le_of_ble_eq_true rfl)) dX7_compared_11 ⟨Nat.le_of_ble_eq_true rfl, Nat.le_of_ble_eq_true rfl⟩).run (fun r_3 h_4 => ?_)
  rw [h_4]; clear h_4 r_3
  refine va_calli (va_runV (As := [.ref (gA G (15 + 6 * i)), .ref (gA G (15 + 6 * j))]) (rest := []) S (k_X1_compareNodes l G σ μ o i j (Nat.lt_trans hi (by decide)) (Nat.lt_trans hj (by decide))) (cwV 2 S.2.2.2.2 gX7_compared_X1_compareNodes rfl rfl rfl ⟨rfl, hy_X1_compareNodes⟩ ⟨Nat.le_of_ble_eq_true rfl, Nat.le_of_ble_eq_true rfl⟩) (wPc_V (q := (RX1, TX1, 3)) Z (by decide) rfl rfl) rfl rfl hl.1 rfl (lv_room (Nat.le_of_ble_eq_true rfl)) dX7_compared_14 ⟨Nat.le_of_ble_eq_true rfl, Nat.le_of_ble_eq_true rfl⟩) Z.2.2.2.2 (fun _ _ h => h) (fun _ h => h) (fun r_5 u_6 T9 H1 locs1 hT9 hvm hw hB hz hk9 hS => ?_)
  obtain ⟨hr9, rfl⟩ := hw
  rw [hr9]; clear hr9 r_5
  have Z : wZ G (cmp σ i j) (μ) o s H1 locs1 := wZ_callP Z hB hT9 hS
  clear hB hT9 hS hk9 hz hvm T9
  revert Z; generalize H1 = H; generalize locs1 = locs; intro Z
  refine W.widen (k := 0) (n := 0) (by decide) (by decide) ?_
  rw [hQ]
  exact W.iret (v := nI (cmN σ i j 31)) S.1 S.2.1 hret (fun _ hT9 hW => ⟨⟨_, (cmp σ i j, μ), rfl, ⟨(by first | (simp []; done) | (simp []; omega) | (simp [← Int32.not_le]; done)), rfl⟩, wZ_P Z hT9 hW⟩, Z.2.2.2.2.F hT9⟩) Z.2.2.2.2.2.2 dX7_compared_17

theorem i_X7_unlike_X7 : ∀ w ∈ wsX70, w ∈ wsX7_unlike := by decide +kernel
theorem m_X7_unlike_f37 : Cond.fieldLink RX7 37 "WideCell" "comparison" "LWideCell$Comparison;" ∈ wsX7_unlike := by decide +kernel
abbrev rm_k_X7_unlike : Room := { frames := 4, cells := 0, slots := 0, locals := 94 }
set_option maxHeartbeats 4000000 in
set_option maxRecDepth 100000 in
theorem k_X7_unlike (l : Launch) (G : wG) (σ : cS) (μ : mS) (o : Nat → Int64) (i : Nat) (j : Nat) (hi : i < 3) (hj : j < 3) : Met l yX7_unlike wsX7_unlike rm_k_X7_unlike (wPc G σ μ o [.ref (gA G 0), .int (nI i), .int (nI j)]) (va_Qi (fun (rr : Int32) (u : cS × mS) => rr = urn (cmp σ i j) 16 ∧ u = (cmp σ i j, μ)) (fun u t => wI G u.1 u.2 o t) (gP G)) 0 0 (gP G) := by
  refine Met.ofW (cc := cX7_unlike) (maxL := 3) (ret := (some .int)) (by decide) rfl ?_
  intro p e s m args below meth c s₁ B hml hv
  obtain ⟨hargs, hI⟩ := hv
  have S : CallFix p m c cX7_unlike 3 s args wsX7_unlike RX7 := ⟨B.exec, B.bytes, hml, findClass_of_methodNamed B.named, atoms_spec (ws := wsX7_unlike) B.pre⟩
  have hret := B.returns
  have hlocks := B.notSynchronized
  have Z := wZ_0 hI
  clear hI
  obtain ⟨Q, hQ⟩ : ∃ Q, Q = MQ below (va_Qi (fun (rr : Int32) (u : cS × mS) => rr = urn (cmp σ i j) 16 ∧ u = (cmp σ i j, μ)) (fun u t => wI G u.1 u.2 o t) (gP G)) args s 0 0 (gP G) := ⟨_, rfl⟩
  rw [← hQ]
  have hl := lv_entry [.ref (gA G 0), .int (nI i), .int (nI j)] (n := 3) (Nat.le_of_ble_eq_true rfl)
  rw [show entryFrame m args 3 = entryFrame m ([.ref (gA G 0), .int (nI i), .int (nI j)] : List Value).toArray 3 from by rw [hargs], lg_entry_eq]
  generalize (lg_sl [.ref (gA G 0), .int (nI i), .int (nI j)] ++ List.replicate (3 - (lg_sl [.ref (gA G 0), .int (nI i), .int (nI j)]).length) Slot.unset).toArray = ls at hl ⊢
  have hl : lv_has ls 3 [(0, .ref (gA G 0)), (1, .int (nI i)), (2, .int (nI j))] := hl
  refine lv_aload_n S.1 S.2.1 dX7_unlike_0 rfl (lv_at hl 0 rfl) ?_
  refine r_get (C := RX7) (T := TX7) (N := 7) (ci := 7) S Z (by decide) rfl rfl i_X7_unlike_X7 3 (by decide) m_X7_unlike_f37 rfl (v := .ref (gA G 5)) rfl dX7_unlike_1 ?_
  refine lv_aload_n S.1 S.2.1 dX7_unlike_4 rfl (lv_at hl 0 rfl) ?_
  refine lv_iload_n S.1 S.2.1 dX7_unlike_5 rfl (lv_at hl 1 rfl) ?_
  refine va_csr (va_runV (As := [.int (nI i)]) (rest := [.ref (gA G 5)]) S (k_X7_tableOf l G σ μ o i hi) (cwV 1 S.2.2.2.2 gX7_unlike_X7_tableOf rfl rfl rfl ⟨rfl, hy_X7_tableOf⟩ ⟨Nat.le_of_ble_eq_true rfl, Nat.le_of_ble_eq_true rfl⟩) (wPc_V (q := (RX7, TX7, 7)) Z (by decide) rfl rfl) rfl rfl hl.1 rfl (lv_room (Nat.le_of_ble_eq_true rfl)) dX7_unlike_6 ⟨Nat.le_of_ble_eq_true rfl, Nat.le_of_ble_eq_true rfl⟩).run (fun r_1 h_2 => ?_)
  rw [h_2]; clear h_2 r_1
  refine lv_aload_n S.1 S.2.1 dX7_unlike_9 rfl (lv_at hl 0 rfl) ?_
  refine lv_iload_n S.1 S.2.1 dX7_unlike_10 rfl (lv_at hl 2 rfl) ?_
  refine va_csr (va_runV (As := [.int (nI j)]) (rest := [.ref (gA G (15 + 6 * i)), .ref (gA G 5)]) S (k_X7_tableOf l G σ μ o j hj) (cwV 1 S.2.2.2.2 gX7_unlike_X7_tableOf rfl rfl rfl ⟨rfl, hy_X7_tableOf⟩ ⟨Nat.le_of_ble_eq_true rfl, Nat.le_of_ble_eq_true rfl⟩) (wPc_V (q := (RX7, TX7, 7)) Z (by decide) rfl rfl) rfl rfl hl.1 rfl (lv_room (Nat.le_of_ble_eq_true rfl)) dX7_unlike_11 ⟨Nat.le_of_ble_eq_true rfl, Nat.le_of_ble_eq_true rfl⟩).run (fun r_3 h_4 => ?_)
  rw [h_4]; clear h_4 r_3
  refine va_calli (va_runV (As := [.ref (gA G (15 + 6 * i)), .ref (gA G (15 + 6 * j))]) (rest := []) S (k_X1_compareNodes l G σ μ o i j (Nat.lt_trans hi (by decide)) (Nat.lt_trans hj (by decide))) (cwV 2 S.2.2.2.2 gX7_unlike_X1_compareNodes rfl rfl rfl ⟨rfl, hy_X1_compareNodes⟩ ⟨Nat.le_of_ble_eq_true rfl, Nat.le_of_ble_eq_true rfl⟩) (wPc_V (q := (RX1, TX1, 3)) Z (by decide) rfl rfl) rfl rfl hl.1 rfl (lv_room (Nat.le_of_ble_eq_true rfl)) dX7_unlike_14 ⟨Nat.le_of_ble_eq_true rfl, Nat.le_of_ble_eq_true rfl⟩) Z.2.2.2.2 (fun _ _ h => h) (fun _ h => h) (fun r_5 u_6 T9 H1 locs1 hT9 hvm hw hB hz hk9 hS => ?_)
  obtain ⟨hr9, rfl⟩ := hw
  rw [hr9]; clear hr9 r_5
  have Z : wZ G (cmp σ i j) (μ) o s H1 locs1 := wZ_callP Z hB hT9 hS
  clear hB hT9 hS hk9 hz hvm T9
  revert Z; generalize H1 = H; generalize locs1 = locs; intro Z
  refine W.widen (k := 0) (n := 0) (by decide) (by decide) ?_
  refine lv_pop S.1 S.2.1 dX7_unlike_17 rfl ?_
  refine lv_aload_n S.1 S.2.1 dX7_unlike_18 rfl (lv_at hl 0 rfl) ?_
  refine r_get (C := RX7) (T := TX7) (N := 7) (ci := 7) S Z (by decide) rfl rfl i_X7_unlike_X7 3 (by decide) m_X7_unlike_f37 rfl (v := .ref (gA G 5)) rfl dX7_unlike_19 ?_
  refine vp_callSi (va_runV (As := []) (rest := []) S (k_X1_unlikeRows l G (cmp σ i j) μ o  ) (cwV 0 S.2.2.2.2 gX7_unlike_X1_unlikeRows rfl rfl rfl ⟨rfl, hy_X1_unlikeRows⟩ ⟨Nat.le_of_ble_eq_true rfl, Nat.le_of_ble_eq_true rfl⟩) (wPc_V (q := (RX1, TX1, 3)) Z (by decide) rfl rfl) rfl rfl hl.1 rfl (lv_room (Nat.le_of_ble_eq_true rfl)) dX7_unlike_22 ⟨Nat.le_of_ble_eq_true rfl, Nat.le_of_ble_eq_true rfl⟩).run (fun r_7 h_8 => ?_)
  rw [h_8]; clear h_8 r_7
  rw [hQ]
  exact W.iret (v := urn (cmp σ i j) 16) S.1 S.2.1 hret (fun _ hT9 hW => ⟨⟨_, (cmp σ i j, μ), rfl, ⟨(by first | (simp []; done) | (simp []; omega) | (simp [← Int32.not_le]; done)), rfl⟩, wZ_P Z hT9 hW⟩, Z.2.2.2.2.F hT9⟩) Z.2.2.2.2.2.2 dX7_unlike_25

abbrev rm_k_X7_areAlike : Room := { frames := 3, cells := 0, slots := 0, locals := 63 }
set_option maxHeartbeats 4000000 in
set_option maxRecDepth 100000 in
theorem k_X7_areAlike (l : Launch) (G : wG) (σ : cS) (μ : mS) (o : Nat → Int64) (i : Nat) (j : Nat) (hi : i < 3) (hj : j < 3) : Met l yX7_areAlike wsX7_areAlike rm_k_X7_areAlike (wPc G σ μ o [.ref (gA G 0), .int (nI i), .int (nI j)]) (vp_Si (fun rr => rr = bi (sEn σ i j 64 && sTn σ i j 92))) 0 0 (fun _ => False) := by
  refine Met.ofW (cc := cX7_areAlike) (maxL := 3) (ret := (some .boolean)) (by decide) rfl ?_
  intro p e s m args below meth c s₁ B hml hv
  obtain ⟨hargs, hI⟩ := hv
  have S : CallFix p m c cX7_areAlike 3 s args wsX7_areAlike RX7 := ⟨B.exec, B.bytes, hml, findClass_of_methodNamed B.named, atoms_spec (ws := wsX7_areAlike) B.pre⟩
  have hret := B.returns
  have hlocks := B.notSynchronized
  have Z := wZ_0 hI
  clear hI
  obtain ⟨Q, hQ⟩ : ∃ Q, Q = MQ below (vp_Si (fun rr => rr = bi (sEn σ i j 64 && sTn σ i j 92))) args s 0 0 (fun _ => False) := ⟨_, rfl⟩
  rw [← hQ]
  have hl := lv_entry [.ref (gA G 0), .int (nI i), .int (nI j)] (n := 3) (Nat.le_of_ble_eq_true rfl)
  rw [show entryFrame m args 3 = entryFrame m ([.ref (gA G 0), .int (nI i), .int (nI j)] : List Value).toArray 3 from by rw [hargs], lg_entry_eq]
  generalize (lg_sl [.ref (gA G 0), .int (nI i), .int (nI j)] ++ List.replicate (3 - (lg_sl [.ref (gA G 0), .int (nI i), .int (nI j)]).length) Slot.unset).toArray = ls at hl ⊢
  have hl : lv_has ls 3 [(0, .ref (gA G 0)), (1, .int (nI i)), (2, .int (nI j))] := hl
  refine lv_aload_n S.1 S.2.1 dX7_areAlike_0 rfl (lv_at hl 0 rfl) ?_
  refine lv_iload_n S.1 S.2.1 dX7_areAlike_1 rfl (lv_at hl 1 rfl) ?_
  refine va_csr (va_runV (As := [.int (nI i)]) (rest := []) S (k_X7_tableOf l G σ μ o i hi) (cwV 1 S.2.2.2.2 gX7_areAlike_X7_tableOf rfl rfl rfl ⟨rfl, hy_X7_tableOf⟩ ⟨Nat.le_of_ble_eq_true rfl, Nat.le_of_ble_eq_true rfl⟩) (wPc_V (q := (RX7, TX7, 7)) Z (by decide) rfl rfl) rfl rfl hl.1 rfl (lv_room (Nat.le_of_ble_eq_true rfl)) dX7_areAlike_2 ⟨Nat.le_of_ble_eq_true rfl, Nat.le_of_ble_eq_true rfl⟩).run (fun r_1 h_2 => ?_)
  rw [h_2]; clear h_2 r_1
  refine lv_aload_n S.1 S.2.1 dX7_areAlike_5 rfl (lv_at hl 0 rfl) ?_
  refine lv_iload_n S.1 S.2.1 dX7_areAlike_6 rfl (lv_at hl 2 rfl) ?_
  refine va_csr (va_runV (As := [.int (nI j)]) (rest := [.ref (gA G (15 + 6 * i))]) S (k_X7_tableOf l G σ μ o j hj) (cwV 1 S.2.2.2.2 gX7_areAlike_X7_tableOf rfl rfl rfl ⟨rfl, hy_X7_tableOf⟩ ⟨Nat.le_of_ble_eq_true rfl, Nat.le_of_ble_eq_true rfl⟩) (wPc_V (q := (RX7, TX7, 7)) Z (by decide) rfl rfl) rfl rfl hl.1 rfl (lv_room (Nat.le_of_ble_eq_true rfl)) dX7_areAlike_7 ⟨Nat.le_of_ble_eq_true rfl, Nat.le_of_ble_eq_true rfl⟩).run (fun r_3 h_4 => ?_)
  rw [h_4]; clear h_4 r_3
  refine vp_callSi (va_runV (As := [.ref (gA G (15 + 6 * j))]) (rest := []) S (k_X5_hasSameAs l G σ μ o i j (Nat.lt_trans hi (by decide)) (Nat.lt_trans hj (by decide))) (cwV 1 S.2.2.2.2 gX7_areAlike_X5_hasSameAs rfl rfl rfl ⟨rfl, hy_X5_hasSameAs⟩ ⟨Nat.le_of_ble_eq_true rfl, Nat.le_of_ble_eq_true rfl⟩) (wPc_V (q := (RX5, TX5, 6)) Z (by omega) (eT (Nat.lt_trans hi (by decide))) rfl) rfl rfl hl.1 rfl (lv_room (Nat.le_of_ble_eq_true rfl)) dX7_areAlike_10 ⟨Nat.le_of_ble_eq_true rfl, Nat.le_of_ble_eq_true rfl⟩).run (fun r_5 h_6 => ?_)
  rw [h_6]; clear h_6 r_5
  rw [hQ]
  exact W.zret (v := bi (sEn σ i j 64 && sTn σ i j 92)) S.1 S.2.1 hret (bi_nar _) (fun _ hT9 _ => ⟨_, rfl, (by first | (simp []; done) | (simp []; omega) | (simp [← Int32.not_le]; done)), hT9⟩) (fun _ h => nomatch h) dX7_areAlike_13

theorem i_X7_setGrace_X7 : ∀ w ∈ wsX70, w ∈ wsX7_setGrace := by decide +kernel
theorem m_X7_setGrace_f45 : Cond.fieldLink RX7 45 "WideCell" "grace" "I" ∈ wsX7_setGrace := by decide +kernel
abbrev rm_k_X7_setGrace : Room := { frames := 1, cells := 0, slots := 0, locals := 21 }
set_option maxHeartbeats 4000000 in
set_option maxRecDepth 100000 in
theorem k_X7_setGrace (l : Launch) (G : wG) (σ : cS) (μ : mS) (o : Nat → Int64) (g : Nat) (hg : g ≤ 1000) : Met l yX7_setGrace wsX7_setGrace rm_k_X7_setGrace (wPc G σ μ o [.ref (gA G 0), .int (nI g)]) (va_Qi (fun (rr : Int32) (u : cS × mS) => rr = cV σ 5 ∧ u = (cV' σ 5 (nI g), μ)) (fun u t => wI G u.1 u.2 o t) (gP G)) 0 0 (gP G) := by
  refine Met.ofW (cc := cX7_setGrace) (maxL := 3) (ret := (some .int)) (by decide) rfl ?_
  intro p e s m args below meth c s₁ B hml hv
  obtain ⟨hargs, hI⟩ := hv
  have S : CallFix p m c cX7_setGrace 3 s args wsX7_setGrace RX7 := ⟨B.exec, B.bytes, hml, findClass_of_methodNamed B.named, atoms_spec (ws := wsX7_setGrace) B.pre⟩
  have hret := B.returns
  have hlocks := B.notSynchronized
  have Z := wZ_0 hI
  clear hI
  obtain ⟨Q, hQ⟩ : ∃ Q, Q = MQ below (va_Qi (fun (rr : Int32) (u : cS × mS) => rr = cV σ 5 ∧ u = (cV' σ 5 (nI g), μ)) (fun u t => wI G u.1 u.2 o t) (gP G)) args s 0 0 (gP G) := ⟨_, rfl⟩
  rw [← hQ]
  have hl := lv_entry [.ref (gA G 0), .int (nI g)] (n := 3) (Nat.le_of_ble_eq_true rfl)
  rw [show entryFrame m args 3 = entryFrame m ([.ref (gA G 0), .int (nI g)] : List Value).toArray 3 from by rw [hargs], lg_entry_eq]
  generalize (lg_sl [.ref (gA G 0), .int (nI g)] ++ List.replicate (3 - (lg_sl [.ref (gA G 0), .int (nI g)]).length) Slot.unset).toArray = ls at hl ⊢
  have hl : lv_has ls 3 [(0, .ref (gA G 0)), (1, .int (nI g))] := hl
  refine lv_iload_n S.1 S.2.1 dX7_setGrace_0 rfl (lv_at hl 1 rfl) ?_
  refine lv_sipush (v := nI 1000) S.1 S.2.1 dX7_setGrace_1 (by decide) ?_
  refine vp_callSi (va_runS (As := [.int (nI g), .int (nI 1000)]) (rest := []) S (k_X7_isWithin_n l G σ μ o g 1000 hg (by omega)) (va_cwS 2 S.2.2.2.2 gX7_setGrace_X7_isWithin rfl rfl rfl hy_X7_isWithin ⟨Nat.le_of_ble_eq_true rfl, Nat.le_of_ble_eq_true rfl⟩) (wPc_S Z) rfl rfl hl.1 rfl (lv_room (Nat.le_of_ble_eq_true rfl)) dX7_setGrace_4 ⟨Nat.le_of_ble_eq_true rfl, Nat.le_of_ble_eq_true rfl⟩).run (fun r_1 h_2 => ?_)
  rw [h_2]; clear h_2 r_1
  refine va_csv (va_runS (As := [.int (bi true)]) (rest := []) S (k_X7_requireArgument l G σ μ o  ) (va_cwS 1 S.2.2.2.2 gX7_setGrace_X7_requireArgument rfl rfl rfl hy_X7_requireArgument ⟨Nat.le_of_ble_eq_true rfl, Nat.le_of_ble_eq_true rfl⟩) (wPc_S Z) rfl rfl hl.1 rfl (lv_room (Nat.le_of_ble_eq_true rfl)) dX7_setGrace_7 ⟨Nat.le_of_ble_eq_true rfl, Nat.le_of_ble_eq_true rfl⟩).run (fun h_4 => ?_)
  refine lv_aload_n S.1 S.2.1 dX7_setGrace_10 rfl (lv_at hl 0 rfl) ?_
  refine r_get (C := RX7) (T := TX7) (N := 7) (ci := 7) S Z (by decide) rfl rfl i_X7_setGrace_X7 5 (by decide) m_X7_setGrace_f45 rfl (v := .int (cV σ 5)) rfl dX7_setGrace_11 ?_
  refine lv_istore_n (lv' := [(2, .int (cV σ 5)), (0, .ref (gA G 0)), (1, .int (nI g))]) S.1 S.2.1 dX7_setGrace_14 rfl hl (by decide) rfl (fun ls hl => ?_)
  refine lv_aload_n S.1 S.2.1 dX7_setGrace_15 rfl (lv_at hl 1 rfl) ?_
  refine lv_iload_n S.1 S.2.1 dX7_setGrace_16 rfl (lv_at hl 2 rfl) ?_
  refine r_put (C := RX7) (T := TX7) (N := 7) (ci := 7) (σ' := cV' σ 5 (nI g)) (μ' := μ) S Z (by decide) rfl rfl i_X7_setGrace_X7 tyX7 tyX7_ok nmX7 5 (by decide) m_X7_setGrace_f45 rfl rfl (ty := .int) (v := .int (nI g)) (by decide +kernel) rfl rfl (Nat.le_of_ble_eq_true rfl) rfl rfl (sV5 _) dX7_setGrace_17 (fun H locs Z => ?_)
  refine lv_iload_n S.1 S.2.1 dX7_setGrace_20 rfl (lv_at hl 0 rfl) ?_
  rw [hQ]
  exact W.iret (v := cV σ 5) S.1 S.2.1 hret (fun _ hT9 hW => ⟨⟨_, (cV' σ 5 (nI g), μ), rfl, ⟨(by first | (simp []; done) | (simp []; omega) | (simp [← Int32.not_le]; done)), rfl⟩, wZ_P Z hT9 hW⟩, Z.2.2.2.2.F hT9⟩) Z.2.2.2.2.2.2 dX7_setGrace_21

theorem i_X7_pass_X7 : ∀ w ∈ wsX70, w ∈ wsX7_pass := by decide +kernel
theorem m_X7_pass_f41 : Cond.fieldLink RX7 41 "WideCell" "now" "I" ∈ wsX7_pass := by decide +kernel
abbrev rm_k_X7_pass : Room := { frames := 1, cells := 0, slots := 0, locals := 20 }
set_option maxHeartbeats 4000000 in
set_option maxRecDepth 100000 in
theorem k_X7_pass (l : Launch) (G : wG) (σ : cS) (μ : mS) (o : Nat → Int64) (a : Nat) (ha : 1 ≤ a) (hb : a ≤ 100) (hd : ¬ (nI 10000 < cV σ 4 + nI a)) : Met l yX7_pass wsX7_pass rm_k_X7_pass (wPc G σ μ o [.ref (gA G 0), .int (nI a)]) (va_Qi (fun (rr : Int32) (u : cS × mS) => rr = cV σ 4 + nI a ∧ u = (cV' σ 4 (cV σ 4 + nI a), μ)) (fun u t => wI G u.1 u.2 o t) (gP G)) 0 0 (gP G) := by
  refine Met.ofW (cc := cX7_pass) (maxL := 2) (ret := (some .int)) (by decide) rfl ?_
  intro p e s m args below meth c s₁ B hml hv
  obtain ⟨hargs, hI⟩ := hv
  have S : CallFix p m c cX7_pass 2 s args wsX7_pass RX7 := ⟨B.exec, B.bytes, hml, findClass_of_methodNamed B.named, atoms_spec (ws := wsX7_pass) B.pre⟩
  have hret := B.returns
  have hlocks := B.notSynchronized
  have Z := wZ_0 hI
  clear hI
  obtain ⟨Q, hQ⟩ : ∃ Q, Q = MQ below (va_Qi (fun (rr : Int32) (u : cS × mS) => rr = cV σ 4 + nI a ∧ u = (cV' σ 4 (cV σ 4 + nI a), μ)) (fun u t => wI G u.1 u.2 o t) (gP G)) args s 0 0 (gP G) := ⟨_, rfl⟩
  rw [← hQ]
  have hl := lv_entry [.ref (gA G 0), .int (nI a)] (n := 2) (Nat.le_of_ble_eq_true rfl)
  rw [show entryFrame m args 2 = entryFrame m ([.ref (gA G 0), .int (nI a)] : List Value).toArray 2 from by rw [hargs], lg_entry_eq]
  generalize (lg_sl [.ref (gA G 0), .int (nI a)] ++ List.replicate (2 - (lg_sl [.ref (gA G 0), .int (nI a)]).length) Slot.unset).toArray = ls at hl ⊢
  have hl : lv_has ls 2 [(0, .ref (gA G 0)), (1, .int (nI a))] := hl
  refine lv_iload_n S.1 S.2.1 dX7_pass_0 rfl (lv_at hl 1 rfl) ?_
  refine lv_iconst (v := nI 1) S.1 S.2.1 dX7_pass_1 (by decide) ?_
  refine r_icmpN_lt S (tgt := 15) (by omega) (by omega) dX7_pass_2 (by decide) (fun c_1 => absurd c_1 (by omega)) (fun c_1 => ?_)
  refine lv_iload_n S.1 S.2.1 dX7_pass_5 rfl (lv_at hl 1 rfl) ?_
  refine lv_bipush (v := nI 100) S.1 S.2.1 dX7_pass_6 (by decide) ?_
  refine r_icmpN_gt S (tgt := 15) (by omega) (by omega) dX7_pass_8 (by decide) (fun c_2 => absurd c_2 (by omega)) (fun c_2 => ?_)
  refine lv_iconst (v := nI 1) S.1 S.2.1 dX7_pass_11 (by decide) ?_
  refine lv_goto (tgt := 16) S.1 S.2.1 dX7_pass_12 (by decide) ?_
  refine va_csv (va_runS (As := [.int (bi true)]) (rest := []) S (k_X7_requireArgument l G σ μ o  ) (va_cwS 1 S.2.2.2.2 gX7_pass_X7_requireArgument rfl rfl rfl hy_X7_requireArgument ⟨Nat.le_of_ble_eq_true rfl, Nat.le_of_ble_eq_true rfl⟩) (wPc_S Z) rfl rfl hl.1 rfl (lv_room (Nat.le_of_ble_eq_true rfl)) dX7_pass_16 ⟨Nat.le_of_ble_eq_true rfl, Nat.le_of_ble_eq_true rfl⟩).run (fun h_4 => ?_)
  refine lv_aload_n S.1 S.2.1 dX7_pass_19 rfl (lv_at hl 0 rfl) ?_
  refine r_get (C := RX7) (T := TX7) (N := 7) (ci := 7) S Z (by decide) rfl rfl i_X7_pass_X7 4 (by decide) m_X7_pass_f41 rfl (v := .int (cV σ 4)) rfl dX7_pass_20 ?_
  refine lv_iload_n S.1 S.2.1 dX7_pass_23 rfl (lv_at hl 1 rfl) ?_
  refine lv_iadd S.1 S.2.1 dX7_pass_24 ?_
  refine lv_sipush (v := nI 10000) S.1 S.2.1 dX7_pass_25 (by decide) ?_
  refine lv_icmp_gt (tgt := 35) S.1 S.2.1 dX7_pass_28 (by decide) (fun c_5 => absurd c_5 (by exact hd)) (fun c_5 => ?_)
  refine lv_iconst (v := nI 1) S.1 S.2.1 dX7_pass_31 (by decide) ?_
  refine lv_goto (tgt := 36) S.1 S.2.1 dX7_pass_32 (by decide) ?_
  refine va_csv (va_runS (As := [.int (bi true)]) (rest := []) S (k_X7_requireState l G σ μ o  ) (va_cwS 1 S.2.2.2.2 gX7_pass_X7_requireState rfl rfl rfl hy_X7_requireState ⟨Nat.le_of_ble_eq_true rfl, Nat.le_of_ble_eq_true rfl⟩) (wPc_S Z) rfl rfl hl.1 rfl (lv_room (Nat.le_of_ble_eq_true rfl)) dX7_pass_36 ⟨Nat.le_of_ble_eq_true rfl, Nat.le_of_ble_eq_true rfl⟩).run (fun h_7 => ?_)
  refine lv_aload_n S.1 S.2.1 dX7_pass_39 rfl (lv_at hl 0 rfl) ?_
  refine lv_dup S.1 S.2.1 dX7_pass_40 rfl ?_
  refine r_get (C := RX7) (T := TX7) (N := 7) (ci := 7) S Z (by decide) rfl rfl i_X7_pass_X7 4 (by decide) m_X7_pass_f41 rfl (v := .int (cV σ 4)) rfl dX7_pass_41 ?_
  refine lv_iload_n S.1 S.2.1 dX7_pass_44 rfl (lv_at hl 1 rfl) ?_
  refine lv_iadd S.1 S.2.1 dX7_pass_45 ?_
  refine r_put (C := RX7) (T := TX7) (N := 7) (ci := 7) (σ' := cV' σ 4 ((cV σ 4 + nI a))) (μ' := μ) S Z (by decide) rfl rfl i_X7_pass_X7 tyX7 tyX7_ok nmX7 4 (by decide) m_X7_pass_f41 rfl rfl (ty := .int) (v := .int ((cV σ 4 + nI a))) (by decide +kernel) rfl rfl (Nat.le_of_ble_eq_true rfl) rfl rfl (sV4 _) dX7_pass_46 (fun H locs Z => ?_)
  refine lv_aload_n S.1 S.2.1 dX7_pass_49 rfl (lv_at hl 0 rfl) ?_
  refine r_get (C := RX7) (T := TX7) (N := 7) (ci := 7) S Z (by decide) rfl rfl i_X7_pass_X7 4 (by decide) m_X7_pass_f41 rfl (v := .int (cV (cV' σ 4 ((cV σ 4 + nI a))) 4)) rfl dX7_pass_50 ?_
  rw [hQ]
  have q9 : (cV' σ 4 (cV σ 4 + nI a) : cS) = cV' σ 4 ((cV σ 4 + nI a)) := by first | (simp [c_1, c_2, c_5, Nat.not_lt.mpr c_1, Nat.not_lt.mpr c_2]; done) | (simp [c_1, c_2, c_5, Nat.not_lt.mpr c_1, Nat.not_lt.mpr c_2]; omega) | (simp [← Int32.not_le, c_1, c_2, c_5, Nat.not_lt.mpr c_1, Nat.not_lt.mpr c_2]; done) | with_reducible rfl
  rw [← q9] at Z
  exact W.iret (v := cV (cV' σ 4 ((cV σ 4 + nI a))) 4) S.1 S.2.1 hret (fun _ hT9 hW => ⟨⟨_, (cV' σ 4 (cV σ 4 + nI a), μ), rfl, ⟨rfl, rfl⟩, wZ_P Z hT9 hW⟩, Z.2.2.2.2.F hT9⟩) Z.2.2.2.2.2.2 dX7_pass_53

theorem i_X7_clean_X3 : ∀ w ∈ wsX30, w ∈ wsX7_clean := by decide +kernel
theorem i_X7_clean_X7 : ∀ w ∈ wsX70, w ∈ wsX7_clean := by decide +kernel
theorem m_X7_clean_f41 : Cond.fieldLink RX7 41 "WideCell" "now" "I" ∈ wsX7_clean := by decide +kernel
theorem m_X7_clean_f45 : Cond.fieldLink RX7 45 "WideCell" "grace" "I" ∈ wsX7_clean := by decide +kernel
abbrev rm_k_X7_clean : Room := { frames := 5, cells := 0, slots := 0, locals := 117 }
set_option maxHeartbeats 4000000 in
set_option maxRecDepth 100000 in
theorem k_X7_clean (l : Launch) (G : wG) (σ : cS) (μ : mS) (o : Nat → Int64) (i : Nat) (hi : i < 3) (hu : cU σ i = true) : Met l yX7_clean wsX7_clean rm_k_X7_clean (wPc G σ μ o [.ref (gA G 0), .int (nI i)]) (va_Qi (fun (rr : Int32) (u : cS × mS) => rr = nI ((dcs σ i 64).2 + (dts (dcs σ i 64).1 i (cV (dcs σ i 64).1 4 - cV (dcs σ i 64).1 5) 92).2 + (des (dts (dcs σ i 64).1 i (cV (dcs σ i 64).1 4 - cV (dcs σ i 64).1 5) 92).1 i (cV (dts (dcs σ i 64).1 i (cV (dcs σ i 64).1 4 - cV (dcs σ i 64).1 5) 92).1 4 - cV (dts (dcs σ i 64).1 i (cV (dcs σ i 64).1 4 - cV (dcs σ i 64).1 5) 92).1 5) 64).2) ∧ u = ((des (dts (dcs σ i 64).1 i (cV (dcs σ i 64).1 4 - cV (dcs σ i 64).1 5) 92).1 i (cV (dts (dcs σ i 64).1 i (cV (dcs σ i 64).1 4 - cV (dcs σ i 64).1 5) 92).1 4 - cV (dts (dcs σ i 64).1 i (cV (dcs σ i 64).1 4 - cV (dcs σ i 64).1 5) 92).1 5) 64).1, μ)) (fun u t => wI G u.1 u.2 o t) (gP G)) 0 0 (gP G) := by
  refine Met.ofW (cc := cX7_clean) (maxL := 6) (ret := (some .int)) (by decide) rfl ?_
  intro p e s m args below meth c s₁ B hml hv
  obtain ⟨hargs, hI⟩ := hv
  have S : CallFix p m c cX7_clean 6 s args wsX7_clean RX7 := ⟨B.exec, B.bytes, hml, findClass_of_methodNamed B.named, atoms_spec (ws := wsX7_clean) B.pre⟩
  have hret := B.returns
  have hlocks := B.notSynchronized
  have Z := wZ_0 hI
  clear hI
  obtain ⟨Q, hQ⟩ : ∃ Q, Q = MQ below (va_Qi (fun (rr : Int32) (u : cS × mS) => rr = nI ((dcs σ i 64).2 + (dts (dcs σ i 64).1 i (cV (dcs σ i 64).1 4 - cV (dcs σ i 64).1 5) 92).2 + (des (dts (dcs σ i 64).1 i (cV (dcs σ i 64).1 4 - cV (dcs σ i 64).1 5) 92).1 i (cV (dts (dcs σ i 64).1 i (cV (dcs σ i 64).1 4 - cV (dcs σ i 64).1 5) 92).1 4 - cV (dts (dcs σ i 64).1 i (cV (dcs σ i 64).1 4 - cV (dcs σ i 64).1 5) 92).1 5) 64).2) ∧ u = ((des (dts (dcs σ i 64).1 i (cV (dcs σ i 64).1 4 - cV (dcs σ i 64).1 5) 92).1 i (cV (dts (dcs σ i 64).1 i (cV (dcs σ i 64).1 4 - cV (dcs σ i 64).1 5) 92).1 4 - cV (dts (dcs σ i 64).1 i (cV (dcs σ i 64).1 4 - cV (dcs σ i 64).1 5) 92).1 5) 64).1, μ)) (fun u t => wI G u.1 u.2 o t) (gP G)) args s 0 0 (gP G) := ⟨_, rfl⟩
  rw [← hQ]
  have hl := lv_entry [.ref (gA G 0), .int (nI i)] (n := 6) (Nat.le_of_ble_eq_true rfl)
  rw [show entryFrame m args 6 = entryFrame m ([.ref (gA G 0), .int (nI i)] : List Value).toArray 6 from by rw [hargs], lg_entry_eq]
  generalize (lg_sl [.ref (gA G 0), .int (nI i)] ++ List.replicate (6 - (lg_sl [.ref (gA G 0), .int (nI i)]).length) Slot.unset).toArray = ls at hl ⊢
  have hl : lv_has ls 6 [(0, .ref (gA G 0)), (1, .int (nI i))] := hl
  refine lv_aload_n S.1 S.2.1 dX7_clean_0 rfl (lv_at hl 0 rfl) ?_
  refine lv_iload_n S.1 S.2.1 dX7_clean_1 rfl (lv_at hl 1 rfl) ?_
  refine va_csr (va_runV (As := [.int (nI i)]) (rest := []) S (k_X7_keeperOf l G σ μ o i hi) (cwV 1 S.2.2.2.2 gX7_clean_X7_keeperOf rfl rfl rfl ⟨rfl, hy_X7_keeperOf⟩ ⟨Nat.le_of_ble_eq_true rfl, Nat.le_of_ble_eq_true rfl⟩) (wPc_V (q := (RX7, TX7, 7)) Z (by decide) rfl rfl) rfl rfl hl.1 rfl (lv_room (Nat.le_of_ble_eq_true rfl)) dX7_clean_2 ⟨Nat.le_of_ble_eq_true rfl, Nat.le_of_ble_eq_true rfl⟩).run (fun r_1 h_2 => ?_)
  rw [h_2]; clear h_2 r_1
  refine lv_astore_n (lv' := [(2, .ref (gA G (9 + i))), (0, .ref (gA G 0)), (1, .int (nI i))]) S.1 S.2.1 dX7_clean_5 rfl hl (by decide) rfl (fun ls hl => ?_)
  refine lv_aload_n S.1 S.2.1 dX7_clean_6 rfl (lv_at hl 0 rfl) ?_
  refine r_getN (C := RX3) (T := TX3) (N := 3) (ci := 3) S Z (by omega) (eK hi) rfl i_X7_clean_X3 2 (by decide) (show Cond.fieldLinkNest RX7 147 "WideCell$Keeper" "isRunning" "Z" "WideCell" ∈ wN from n_RX7_147) rfl (v := .int (bi (cU σ i))) rfl dX7_clean_7 ?_
  rw [show (cU σ i) = true from hu]
  refine va_csv (va_runS (As := [.int (bi true)]) (rest := []) S (k_X7_requireState l G σ μ o  ) (va_cwS 1 S.2.2.2.2 gX7_clean_X7_requireState rfl rfl rfl hy_X7_requireState ⟨Nat.le_of_ble_eq_true rfl, Nat.le_of_ble_eq_true rfl⟩) (wPc_S Z) rfl rfl hl.1 rfl (lv_room (Nat.le_of_ble_eq_true rfl)) dX7_clean_10 ⟨Nat.le_of_ble_eq_true rfl, Nat.le_of_ble_eq_true rfl⟩).run (fun h_4 => ?_)
  refine lv_aload_n S.1 S.2.1 dX7_clean_13 rfl (lv_at hl 0 rfl) ?_
  refine r_getN (C := RX3) (T := TX3) (N := 3) (ci := 3) S Z (by omega) (eK hi) rfl i_X7_clean_X3 0 (by decide) (show Cond.fieldLinkNest RX7 151 "WideCell$Keeper" "table" "LWideCell$Table;" "WideCell" ∈ wN from n_RX7_151) rfl (v := .ref (gA G (15 + 6 * i))) rfl dX7_clean_14 ?_
  refine va_calli (va_runV (As := []) (rest := []) S (k_X5_dropCovered l G σ μ o i (Nat.lt_trans hi (by decide))) (cwV 0 S.2.2.2.2 gX7_clean_X5_dropCovered rfl rfl rfl ⟨rfl, hy_X5_dropCovered⟩ ⟨Nat.le_of_ble_eq_true rfl, Nat.le_of_ble_eq_true rfl⟩) (wPc_V (q := (RX5, TX5, 6)) Z (by omega) (eT (Nat.lt_trans hi (by decide))) rfl) rfl rfl hl.1 rfl (lv_room (Nat.le_of_ble_eq_true rfl)) dX7_clean_17 ⟨Nat.le_of_ble_eq_true rfl, Nat.le_of_ble_eq_true rfl⟩) Z.2.2.2.2 (fun _ _ h => h) (fun _ h => h) (fun r_5 u_6 T9 H1 locs1 hT9 hvm hw hB hz hk9 hS => ?_)
  obtain ⟨hr9, rfl⟩ := hw
  rw [hr9]; clear hr9 r_5
  have Z : wZ G ((dcs σ i 64).1) (μ) o s H1 locs1 := wZ_callP Z hB hT9 hS
  clear hB hT9 hS hk9 hz hvm T9
  revert Z; generalize H1 = H; generalize locs1 = locs; intro Z
  refine W.widen (k := 0) (n := 0) (by decide) (by decide) ?_
  refine lv_istore_n (lv' := [(3, .int (nI ((dcs σ i 64).2))), (2, .ref (gA G (9 + i))), (0, .ref (gA G 0)), (1, .int (nI i))]) S.1 S.2.1 dX7_clean_20 rfl hl (by decide) rfl (fun ls hl => ?_)
  refine lv_aload_n S.1 S.2.1 dX7_clean_21 rfl (lv_at hl 1 rfl) ?_
  refine r_getN (C := RX3) (T := TX3) (N := 3) (ci := 3) S Z (by omega) (eK hi) rfl i_X7_clean_X3 0 (by decide) (show Cond.fieldLinkNest RX7 151 "WideCell$Keeper" "table" "LWideCell$Table;" "WideCell" ∈ wN from n_RX7_151) rfl (v := .ref (gA G (15 + 6 * i))) rfl dX7_clean_22 ?_
  refine lv_aload_n S.1 S.2.1 dX7_clean_25 rfl (lv_at hl 2 rfl) ?_
  refine r_get (C := RX7) (T := TX7) (N := 7) (ci := 7) S Z (by decide) rfl rfl i_X7_clean_X7 4 (by decide) m_X7_clean_f41 rfl (v := .int (cV ((dcs σ i 64).1) 4)) rfl dX7_clean_26 ?_
  refine lv_aload_n S.1 S.2.1 dX7_clean_29 rfl (lv_at hl 2 rfl) ?_
  refine r_get (C := RX7) (T := TX7) (N := 7) (ci := 7) S Z (by decide) rfl rfl i_X7_clean_X7 5 (by decide) m_X7_clean_f45 rfl (v := .int (cV ((dcs σ i 64).1) 5)) rfl dX7_clean_30 ?_
  refine lv_isub S.1 S.2.1 dX7_clean_33 ?_
  refine va_calli (va_runV (As := [.int ((cV ((dcs σ i 64).1) 4 - cV ((dcs σ i 64).1) 5))]) (rest := []) S (k_X5_dropTombstonesMadeBy l G ((dcs σ i 64).1) μ o i ((cV ((dcs σ i 64).1) 4 - cV ((dcs σ i 64).1) 5)) (Nat.lt_trans hi (by decide))) (cwV 1 S.2.2.2.2 gX7_clean_X5_dropTombstonesMadeBy rfl rfl rfl ⟨rfl, hy_X5_dropTombstonesMadeBy⟩ ⟨Nat.le_of_ble_eq_true rfl, Nat.le_of_ble_eq_true rfl⟩) (wPc_V (q := (RX5, TX5, 6)) Z (by omega) (eT (Nat.lt_trans hi (by decide))) rfl) rfl rfl hl.1 rfl (lv_room (Nat.le_of_ble_eq_true rfl)) dX7_clean_34 ⟨Nat.le_of_ble_eq_true rfl, Nat.le_of_ble_eq_true rfl⟩) Z.2.2.2.2 (fun _ _ h => h) (fun _ h => h) (fun r_7 u_8 T9 H1 locs1 hT9 hvm hw hB hz hk9 hS => ?_)
  obtain ⟨hr9, rfl⟩ := hw
  rw [hr9]; clear hr9 r_7
  have Z : wZ G ((dts ((dcs σ i 64).1) i ((cV ((dcs σ i 64).1) 4 - cV ((dcs σ i 64).1) 5)) 92).1) (μ) o s H1 locs1 := wZ_callP Z hB hT9 hS
  clear hB hT9 hS hk9 hz hvm T9
  revert Z; generalize H1 = H; generalize locs1 = locs; intro Z
  refine W.widen (k := 0) (n := 0) (by decide) (by decide) ?_
  refine lv_istore (lv' := [(4, .int (nI ((dts ((dcs σ i 64).1) i ((cV ((dcs σ i 64).1) 4 - cV ((dcs σ i 64).1) 5)) 92).2))), (3, .int (nI ((dcs σ i 64).2))), (2, .ref (gA G (9 + i))), (0, .ref (gA G 0)), (1, .int (nI i))]) S.1 S.2.1 dX7_clean_37 hl (by decide) rfl (fun ls hl => ?_)
  refine lv_aload_n S.1 S.2.1 dX7_clean_39 rfl (lv_at hl 2 rfl) ?_
  refine r_getN (C := RX3) (T := TX3) (N := 3) (ci := 3) S Z (by omega) (eK hi) rfl i_X7_clean_X3 0 (by decide) (show Cond.fieldLinkNest RX7 151 "WideCell$Keeper" "table" "LWideCell$Table;" "WideCell" ∈ wN from n_RX7_151) rfl (v := .ref (gA G (15 + 6 * i))) rfl dX7_clean_40 ?_
  refine lv_aload_n S.1 S.2.1 dX7_clean_43 rfl (lv_at hl 3 rfl) ?_
  refine r_get (C := RX7) (T := TX7) (N := 7) (ci := 7) S Z (by decide) rfl rfl i_X7_clean_X7 4 (by decide) m_X7_clean_f41 rfl (v := .int (cV ((dts ((dcs σ i 64).1) i ((cV ((dcs σ i 64).1) 4 - cV ((dcs σ i 64).1) 5)) 92).1) 4)) rfl dX7_clean_44 ?_
  refine lv_aload_n S.1 S.2.1 dX7_clean_47 rfl (lv_at hl 3 rfl) ?_
  refine r_get (C := RX7) (T := TX7) (N := 7) (ci := 7) S Z (by decide) rfl rfl i_X7_clean_X7 5 (by decide) m_X7_clean_f45 rfl (v := .int (cV ((dts ((dcs σ i 64).1) i ((cV ((dcs σ i 64).1) 4 - cV ((dcs σ i 64).1) 5)) 92).1) 5)) rfl dX7_clean_48 ?_
  refine lv_isub S.1 S.2.1 dX7_clean_51 ?_
  refine va_calli (va_runV (As := [.int ((cV ((dts ((dcs σ i 64).1) i ((cV ((dcs σ i 64).1) 4 - cV ((dcs σ i 64).1) 5)) 92).1) 4 - cV ((dts ((dcs σ i 64).1) i ((cV ((dcs σ i 64).1) 4 - cV ((dcs σ i 64).1) 5)) 92).1) 5))]) (rest := []) S (k_X5_dropEntriesEndedBy l G ((dts ((dcs σ i 64).1) i ((cV ((dcs σ i 64).1) 4 - cV ((dcs σ i 64).1) 5)) 92).1) μ o i ((cV ((dts ((dcs σ i 64).1) i ((cV ((dcs σ i 64).1) 4 - cV ((dcs σ i 64).1) 5)) 92).1) 4 - cV ((dts ((dcs σ i 64).1) i ((cV ((dcs σ i 64).1) 4 - cV ((dcs σ i 64).1) 5)) 92).1) 5)) (Nat.lt_trans hi (by decide))) (cwV 1 S.2.2.2.2 gX7_clean_X5_dropEntriesEndedBy rfl rfl rfl ⟨rfl, hy_X5_dropEntriesEndedBy⟩ ⟨Nat.le_of_ble_eq_true rfl, Nat.le_of_ble_eq_true rfl⟩) (wPc_V (q := (RX5, TX5, 6)) Z (by omega) (eT (Nat.lt_trans hi (by decide))) rfl) rfl rfl hl.1 rfl (lv_room (Nat.le_of_ble_eq_true rfl)) dX7_clean_52 ⟨Nat.le_of_ble_eq_true rfl, Nat.le_of_ble_eq_true rfl⟩) Z.2.2.2.2 (fun _ _ h => h) (fun _ h => h) (fun r_9 u_10 T9 H1 locs1 hT9 hvm hw hB hz hk9 hS => ?_)
  obtain ⟨hr9, rfl⟩ := hw
  rw [hr9]; clear hr9 r_9
  have Z : wZ G ((des ((dts ((dcs σ i 64).1) i ((cV ((dcs σ i 64).1) 4 - cV ((dcs σ i 64).1) 5)) 92).1) i ((cV ((dts ((dcs σ i 64).1) i ((cV ((dcs σ i 64).1) 4 - cV ((dcs σ i 64).1) 5)) 92).1) 4 - cV ((dts ((dcs σ i 64).1) i ((cV ((dcs σ i 64).1) 4 - cV ((dcs σ i 64).1) 5)) 92).1) 5)) 64).1) (μ) o s H1 locs1 := wZ_callP Z hB hT9 hS
  clear hB hT9 hS hk9 hz hvm T9
  revert Z; generalize H1 = H; generalize locs1 = locs; intro Z
  refine W.widen (k := 0) (n := 0) (by decide) (by decide) ?_
  refine lv_istore (lv' := [(5, .int (nI ((des ((dts ((dcs σ i 64).1) i ((cV ((dcs σ i 64).1) 4 - cV ((dcs σ i 64).1) 5)) 92).1) i ((cV ((dts ((dcs σ i 64).1) i ((cV ((dcs σ i 64).1) 4 - cV ((dcs σ i 64).1) 5)) 92).1) 4 - cV ((dts ((dcs σ i 64).1) i ((cV ((dcs σ i 64).1) 4 - cV ((dcs σ i 64).1) 5)) 92).1) 5)) 64).2))), (4, .int (nI ((dts ((dcs σ i 64).1) i ((cV ((dcs σ i 64).1) 4 - cV ((dcs σ i 64).1) 5)) 92).2))), (3, .int (nI ((dcs σ i 64).2))), (2, .ref (gA G (9 + i))), (0, .ref (gA G 0)), (1, .int (nI i))]) S.1 S.2.1 dX7_clean_55 hl (by decide) rfl (fun ls hl => ?_)
  refine lv_iload_n S.1 S.2.1 dX7_clean_57 rfl (lv_at hl 2 rfl) ?_
  refine lv_iload S.1 S.2.1 dX7_clean_58 (lv_at hl 1 rfl) ?_
  refine r_addN S dX7_clean_60 ?_
  refine lv_iload S.1 S.2.1 dX7_clean_61 (lv_at hl 0 rfl) ?_
  refine r_addN S dX7_clean_63 ?_
  rw [hQ]
  have q9 : ((des (dts (dcs σ i 64).1 i (cV (dcs σ i 64).1 4 - cV (dcs σ i 64).1 5) 92).1 i (cV (dts (dcs σ i 64).1 i (cV (dcs σ i 64).1 4 - cV (dcs σ i 64).1 5) 92).1 4 - cV (dts (dcs σ i 64).1 i (cV (dcs σ i 64).1 4 - cV (dcs σ i 64).1 5) 92).1 5) 64).1 : cS) = (des ((dts ((dcs σ i 64).1) i ((cV ((dcs σ i 64).1) 4 - cV ((dcs σ i 64).1) 5)) 92).1) i ((cV ((dts ((dcs σ i 64).1) i ((cV ((dcs σ i 64).1) 4 - cV ((dcs σ i 64).1) 5)) 92).1) 4 - cV ((dts ((dcs σ i 64).1) i ((cV ((dcs σ i 64).1) 4 - cV ((dcs σ i 64).1) 5)) 92).1) 5)) 64).1 := by first | (simp []; done) | (simp []; omega) | (simp [← Int32.not_le]; done) | with_reducible rfl
  rw [← q9] at Z
  exact W.iret (v := nI ((((dcs σ i 64).2) + ((dts ((dcs σ i 64).1) i ((cV ((dcs σ i 64).1) 4 - cV ((dcs σ i 64).1) 5)) 92).2)) + ((des ((dts ((dcs σ i 64).1) i ((cV ((dcs σ i 64).1) 4 - cV ((dcs σ i 64).1) 5)) 92).1) i ((cV ((dts ((dcs σ i 64).1) i ((cV ((dcs σ i 64).1) 4 - cV ((dcs σ i 64).1) 5)) 92).1) 4 - cV ((dts ((dcs σ i 64).1) i ((cV ((dcs σ i 64).1) 4 - cV ((dcs σ i 64).1) 5)) 92).1) 5)) 64).2))) S.1 S.2.1 hret (fun _ hT9 hW => ⟨⟨_, ((des (dts (dcs σ i 64).1 i (cV (dcs σ i 64).1 4 - cV (dcs σ i 64).1 5) 92).1 i (cV (dts (dcs σ i 64).1 i (cV (dcs σ i 64).1 4 - cV (dcs σ i 64).1 5) 92).1 4 - cV (dts (dcs σ i 64).1 i (cV (dcs σ i 64).1 4 - cV (dcs σ i 64).1 5) 92).1 5) 64).1, μ), rfl, ⟨rfl, rfl⟩, wZ_P Z hT9 hW⟩, Z.2.2.2.2.F hT9⟩) Z.2.2.2.2.2.2 dX7_clean_64
