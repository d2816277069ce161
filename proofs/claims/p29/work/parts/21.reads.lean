abbrev rm_k_X7_cellAt : Room := { frames := 0, cells := 0, slots := 0, locals := 0 }
set_option maxHeartbeats 4000000 in
set_option maxRecDepth 100000 in
theorem k_X7_cellAt (l : Launch) (G : wG) (σ : cS) (μ : mS) (o : Nat → Int64) (row : Nat) (col : Nat)  : Met l yX7_cellAt wsX7_cellAt rm_k_X7_cellAt (wPc G σ μ o [.int (nI row), .int (nI col)]) (vp_Si (fun rr => rr = nI (row * 4 + col))) 0 0 (fun _ => False) := by
  refine Met.ofW (cc := cX7_cellAt) (maxL := 2) (ret := (some .int)) (by decide) rfl ?_
  intro p e s m args below meth c s₁ B hml hv
  obtain ⟨hargs, hI⟩ := hv
  have S : CallFix p m c cX7_cellAt 2 s args wsX7_cellAt RX7 := ⟨B.exec, B.bytes, hml, findClass_of_methodNamed B.named, atoms_spec (ws := wsX7_cellAt) B.pre⟩
  have hret := B.returns
  have hlocks := B.notSynchronized
  have Z := wZ_0 hI
  clear hI
  obtain ⟨Q, hQ⟩ : ∃ Q, Q = MQ below (vp_Si (fun rr => rr = nI (row * 4 + col))) args s 0 0 (fun _ => False) := ⟨_, rfl⟩
  rw [← hQ]
  have hl := lv_entry [.int (nI row), .int (nI col)] (n := 2) (Nat.le_of_ble_eq_true rfl)
  rw [show entryFrame m args 2 = entryFrame m ([.int (nI row), .int (nI col)] : List Value).toArray 2 from by rw [hargs], lg_entry_eq]
  generalize (lg_sl [.int (nI row), .int (nI col)] ++ List.replicate (2 - (lg_sl [.int (nI row), .int (nI col)]).length) Slot.unset).toArray = ls at hl ⊢
  have hl : lv_has ls 2 [(0, .int (nI row)), (1, .int (nI col))] := hl
  refine lv_iload_n S.1 S.2.1 dX7_cellAt_0 rfl (lv_at hl 0 rfl) ?_
  refine lv_iconst (v := nI 4) S.1 S.2.1 dX7_cellAt_1 (by decide) ?_
  refine r_mulN S dX7_cellAt_2 ?_
  refine lv_iload_n S.1 S.2.1 dX7_cellAt_3 rfl (lv_at hl 1 rfl) ?_
  refine r_addN S dX7_cellAt_4 ?_
  rw [hQ]
  exact W.iret (v := nI ((row * 4) + col)) S.1 S.2.1 hret (fun _ hT9 _ => ⟨_, rfl, rfl, hT9⟩) (fun _ h => nomatch h) dX7_cellAt_5

abbrev rm_k_X7_isWithin : Room := { frames := 0, cells := 0, slots := 0, locals := 0 }
set_option maxHeartbeats 4000000 in
set_option maxRecDepth 100000 in
theorem k_X7_isWithin (l : Launch) (G : wG) (σ : cS) (μ : mS) (o : Nat → Int64) (x : Int32) (y : Int32)  : Met l yX7_isWithin wsX7_isWithin rm_k_X7_isWithin (wPc G σ μ o [.int (x), .int (y)]) (vp_Si (fun rr => rr = bi (!decide (x < 0) && !decide (y < x)))) 0 0 (fun _ => False) := by
  refine Met.ofW (cc := cX7_isWithin) (maxL := 2) (ret := (some .boolean)) (by decide) rfl ?_
  intro p e s m args below meth c s₁ B hml hv
  obtain ⟨hargs, hI⟩ := hv
  have S : CallFix p m c cX7_isWithin 2 s args wsX7_isWithin RX7 := ⟨B.exec, B.bytes, hml, findClass_of_methodNamed B.named, atoms_spec (ws := wsX7_isWithin) B.pre⟩
  have hret := B.returns
  have hlocks := B.notSynchronized
  have Z := wZ_0 hI
  clear hI
  obtain ⟨Q, hQ⟩ : ∃ Q, Q = MQ below (vp_Si (fun rr => rr = bi (!decide (x < 0) && !decide (y < x)))) args s 0 0 (fun _ => False) := ⟨_, rfl⟩
  rw [← hQ]
  have hl := lv_entry [.int (x), .int (y)] (n := 2) (Nat.le_of_ble_eq_true rfl)
  rw [show entryFrame m args 2 = entryFrame m ([.int (x), .int (y)] : List Value).toArray 2 from by rw [hargs], lg_entry_eq]
  generalize (lg_sl [.int (x), .int (y)] ++ List.replicate (2 - (lg_sl [.int (x), .int (y)]).length) Slot.unset).toArray = ls at hl ⊢
  have hl : lv_has ls 2 [(0, .int (x)), (1, .int (y))] := hl
  refine lv_iload_n S.1 S.2.1 dX7_isWithin_0 rfl (lv_at hl 0 rfl) ?_
  refine lv_if_lt (tgt := 13) S.1 S.2.1 dX7_isWithin_1 (by decide) (fun c_1 => ?_) (fun c_1 => ?_)
  · skip
    refine lv_iconst (v := nI 0) S.1 S.2.1 dX7_isWithin_13 (by decide) ?_
    rw [hQ]
    exact W.zret (v := nI 0) S.1 S.2.1 hret rfl (fun _ hT9 _ => ⟨_, rfl, (by first | (simp [bi, c_1]; done) | (simp [bi, c_1]; omega) | (simp [bi, ← Int32.not_le, c_1]; done)), hT9⟩) (fun _ h => nomatch h) dX7_isWithin_14
  · skip
    refine lv_iload_n S.1 S.2.1 dX7_isWithin_4 rfl (lv_at hl 0 rfl) ?_
    refine lv_iload_n S.1 S.2.1 dX7_isWithin_5 rfl (lv_at hl 1 rfl) ?_
    refine lv_icmp_gt (tgt := 13) S.1 S.2.1 dX7_isWithin_6 (by decide) (fun c_2 => ?_) (fun c_2 => ?_)
    · skip
      refine lv_iconst (v := nI 0) S.1 S.2.1 dX7_isWithin_13 (by decide) ?_
      rw [hQ]
      exact W.zret (v := nI 0) S.1 S.2.1 hret rfl (fun _ hT9 _ => ⟨_, rfl, (by first | (simp [bi, c_1, c_2]; done) | (simp [bi, c_1, c_2]; omega) | (simp [bi, ← Int32.not_le, c_1, c_2]; done)), hT9⟩) (fun _ h => nomatch h) dX7_isWithin_14
    · skip
      refine lv_iconst (v := nI 1) S.1 S.2.1 dX7_isWithin_9 (by decide) ?_
      refine lv_goto (tgt := 14) S.1 S.2.1 dX7_isWithin_10 (by decide) ?_
      rw [hQ]
      exact W.zret (v := nI 1) S.1 S.2.1 hret rfl (fun _ hT9 _ => ⟨_, rfl, (by first | (simp [bi, c_1, c_2]; done) | (simp [bi, c_1, c_2]; omega) | (simp [bi, ← Int32.not_le, c_1, c_2]; done)), hT9⟩) (fun _ h => nomatch h) dX7_isWithin_14

abbrev rm_k_X7_isInSet : Room := { frames := 0, cells := 0, slots := 0, locals := 0 }
set_option maxHeartbeats 4000000 in
set_option maxRecDepth 100000 in
theorem k_X7_isInSet (l : Launch) (G : wG) (σ : cS) (μ : mS) (o : Nat → Int64) (k : Nat) (x : Int32)  : Met l yX7_isInSet wsX7_isInSet rm_k_X7_isInSet (wPc G σ μ o [.int (nI k), .int (x)]) (vp_Si (fun rr => rr = bi (decide ((x >>> (nI k &&& 31)) &&& nI 1 = nI 1)))) 0 0 (fun _ => False) := by
  refine Met.ofW (cc := cX7_isInSet) (maxL := 2) (ret := (some .boolean)) (by decide) rfl ?_
  intro p e s m args below meth c s₁ B hml hv
  obtain ⟨hargs, hI⟩ := hv
  have S : CallFix p m c cX7_isInSet 2 s args wsX7_isInSet RX7 := ⟨B.exec, B.bytes, hml, findClass_of_methodNamed B.named, atoms_spec (ws := wsX7_isInSet) B.pre⟩
  have hret := B.returns
  have hlocks := B.notSynchronized
  have Z := wZ_0 hI
  clear hI
  obtain ⟨Q, hQ⟩ : ∃ Q, Q = MQ below (vp_Si (fun rr => rr = bi (decide ((x >>> (nI k &&& 31)) &&& nI 1 = nI 1)))) args s 0 0 (fun _ => False) := ⟨_, rfl⟩
  rw [← hQ]
  have hl := lv_entry [.int (nI k), .int (x)] (n := 2) (Nat.le_of_ble_eq_true rfl)
  rw [show entryFrame m args 2 = entryFrame m ([.int (nI k), .int (x)] : List Value).toArray 2 from by rw [hargs], lg_entry_eq]
  generalize (lg_sl [.int (nI k), .int (x)] ++ List.replicate (2 - (lg_sl [.int (nI k), .int (x)]).length) Slot.unset).toArray = ls at hl ⊢
  have hl : lv_has ls 2 [(0, .int (nI k)), (1, .int (x))] := hl
  refine lv_iload_n S.1 S.2.1 dX7_isInSet_0 rfl (lv_at hl 1 rfl) ?_
  refine lv_iload_n S.1 S.2.1 dX7_isInSet_1 rfl (lv_at hl 0 rfl) ?_
  refine lv_ishr S.1 S.2.1 dX7_isInSet_2 ?_
  refine lv_iconst (v := nI 1) S.1 S.2.1 dX7_isInSet_3 (by decide) ?_
  refine lv_iand S.1 S.2.1 dX7_isInSet_4 ?_
  refine lv_iconst (v := nI 1) S.1 S.2.1 dX7_isInSet_5 (by decide) ?_
  refine lv_icmp_ne (tgt := 13) S.1 S.2.1 dX7_isInSet_6 (by decide) (fun c_1 => ?_) (fun c_1 => ?_)
  · skip
    refine lv_iconst (v := nI 0) S.1 S.2.1 dX7_isInSet_13 (by decide) ?_
    rw [hQ]
    exact W.zret (v := nI 0) S.1 S.2.1 hret rfl (fun _ hT9 _ => ⟨_, rfl, (by first | (simp [bi, c_1]; done) | (simp [bi, c_1]; omega) | (simp [bi, ← Int32.not_le, c_1]; done)), hT9⟩) (fun _ h => nomatch h) dX7_isInSet_14
  · skip
    refine lv_iconst (v := nI 1) S.1 S.2.1 dX7_isInSet_9 (by decide) ?_
    refine lv_goto (tgt := 14) S.1 S.2.1 dX7_isInSet_10 (by decide) ?_
    rw [hQ]
    exact W.zret (v := nI 1) S.1 S.2.1 hret rfl (fun _ hT9 _ => ⟨_, rfl, (by first | (simp [bi, c_1]; done) | (simp [bi, c_1]; omega) | (simp [bi, ← Int32.not_le, c_1]; done) | (simp [bi, eq_true c_1]; done)), hT9⟩) (fun _ h => nomatch h) dX7_isInSet_14

theorem i_X4_has_X4 : ∀ w ∈ wsX40, w ∈ wsX4_has := by decide +kernel
theorem m_X4_has_f9 : Cond.fieldLink RX4 9 "WideCell$Ranges" "firsts" "[I" ∈ wsX4_has := by decide +kernel
theorem m_X4_has_f15 : Cond.fieldLink RX4 15 "WideCell$Ranges" "lasts" "[I" ∈ wsX4_has := by decide +kernel
abbrev rm_k_X4_has : Room := { frames := 0, cells := 0, slots := 0, locals := 0 }
set_option maxHeartbeats 4000000 in
set_option maxRecDepth 100000 in
theorem k_X4_has (l : Launch) (G : wG) (σ : cS) (μ : mS) (o : Nat → Int64) (r : Nat) (row : Nat) (hr : r < 8) : Met l yX4_has wsX4_has rm_k_X4_has (wPc G σ μ o [.ref (gA G 1), .int (nI r), .int (nI row)]) (vp_Si (fun rr => rr = bi (hasB σ r row))) 0 0 (fun _ => False) := by
  refine Met.ofW (cc := cX4_has) (maxL := 3) (ret := (some .boolean)) (by decide) rfl ?_
  intro p e s m args below meth c s₁ B hml hv
  obtain ⟨hargs, hI⟩ := hv
  have S : CallFix p m c cX4_has 3 s args wsX4_has RX4 := ⟨B.exec, B.bytes, hml, findClass_of_methodNamed B.named, atoms_spec (ws := wsX4_has) B.pre⟩
  have hret := B.returns
  have hlocks := B.notSynchronized
  have Z := wZ_0 hI
  clear hI
  obtain ⟨Q, hQ⟩ : ∃ Q, Q = MQ below (vp_Si (fun rr => rr = bi (hasB σ r row))) args s 0 0 (fun _ => False) := ⟨_, rfl⟩
  rw [← hQ]
  have hl := lv_entry [.ref (gA G 1), .int (nI r), .int (nI row)] (n := 3) (Nat.le_of_ble_eq_true rfl)
  rw [show entryFrame m args 3 = entryFrame m ([.ref (gA G 1), .int (nI r), .int (nI row)] : List Value).toArray 3 from by rw [hargs], lg_entry_eq]
  generalize (lg_sl [.ref (gA G 1), .int (nI r), .int (nI row)] ++ List.replicate (3 - (lg_sl [.ref (gA G 1), .int (nI r), .int (nI row)]).length) Slot.unset).toArray = ls at hl ⊢
  have hl : lv_has ls 3 [(0, .ref (gA G 1)), (1, .int (nI r)), (2, .int (nI row))] := hl
  refine lv_aload_n S.1 S.2.1 dX4_has_0 rfl (lv_at hl 0 rfl) ?_
  refine r_get (C := RX4) (T := TX4) (N := 2) (ci := 4) S Z (by decide) rfl rfl i_X4_has_X4 0 (by decide) m_X4_has_f9 rfl (v := .ref (gA G 2)) rfl dX4_has_1 ?_
  refine lv_iload_n S.1 S.2.1 dX4_has_4 rfl (lv_at hl 1 rfl) ?_
  refine r_ialdC S Z (n := 8) ⟨rfl, rfl⟩ (by omega) (by decide) dX4_has_5 ?_
  refine lv_iload_n S.1 S.2.1 dX4_has_6 rfl (lv_at hl 2 rfl) ?_
  refine lv_icmp_gt (tgt := 24) S.1 S.2.1 dX4_has_7 (by decide) (fun c_1 => ?_) (fun c_1 => ?_)
  · skip
    refine lv_iconst (v := nI 0) S.1 S.2.1 dX4_has_24 (by decide) ?_
    rw [hQ]
    exact W.zret (v := nI 0) S.1 S.2.1 hret rfl (fun _ hT9 _ => ⟨_, rfl, (by first | (simp [bi, hasB, c_1]; done) | (simp [bi, hasB, c_1]; omega) | (simp [bi, hasB, ← Int32.not_le, c_1]; done)), hT9⟩) (fun _ h => nomatch h) dX4_has_25
  · skip
    refine lv_iload_n S.1 S.2.1 dX4_has_10 rfl (lv_at hl 2 rfl) ?_
    refine lv_aload_n S.1 S.2.1 dX4_has_11 rfl (lv_at hl 0 rfl) ?_
    refine r_get (C := RX4) (T := TX4) (N := 2) (ci := 4) S Z (by decide) rfl rfl i_X4_has_X4 1 (by decide) m_X4_has_f15 rfl (v := .ref (gA G 3)) rfl dX4_has_12 ?_
    refine lv_iload_n S.1 S.2.1 dX4_has_15 rfl (lv_at hl 1 rfl) ?_
    refine r_ialdC S Z (n := 8) ⟨rfl, rfl⟩ (by omega) (by decide) dX4_has_16 ?_
    refine lv_icmp_gt (tgt := 24) S.1 S.2.1 dX4_has_17 (by decide) (fun c_2 => ?_) (fun c_2 => ?_)
    · skip
      refine lv_iconst (v := nI 0) S.1 S.2.1 dX4_has_24 (by decide) ?_
      rw [hQ]
      exact W.zret (v := nI 0) S.1 S.2.1 hret rfl (fun _ hT9 _ => ⟨_, rfl, (by first | (simp [bi, hasB, c_1, c_2]; done) | (simp [bi, hasB, c_1, c_2]; omega) | (simp [bi, hasB, ← Int32.not_le, c_1, c_2]; done)), hT9⟩) (fun _ h => nomatch h) dX4_has_25
    · skip
      refine lv_iconst (v := nI 1) S.1 S.2.1 dX4_has_20 (by decide) ?_
      refine lv_goto (tgt := 25) S.1 S.2.1 dX4_has_21 (by decide) ?_
      rw [hQ]
      exact W.zret (v := nI 1) S.1 S.2.1 hret rfl (fun _ hT9 _ => ⟨_, rfl, (by first | (simp [bi, hasB, c_1, c_2]; done) | (simp [bi, hasB, c_1, c_2]; omega) | (simp [bi, hasB, ← Int32.not_le, c_1, c_2]; done)), hT9⟩) (fun _ h => nomatch h) dX4_has_25

theorem i_X4_partOfSum_X4 : ∀ w ∈ wsX40, w ∈ wsX4_partOfSum := by decide +kernel
theorem m_X4_partOfSum_f9 : Cond.fieldLink RX4 9 "WideCell$Ranges" "firsts" "[I" ∈ wsX4_partOfSum := by decide +kernel
theorem m_X4_partOfSum_f15 : Cond.fieldLink RX4 15 "WideCell$Ranges" "lasts" "[I" ∈ wsX4_partOfSum := by decide +kernel
abbrev rm_k_X4_partOfSum : Room := { frames := 0, cells := 0, slots := 0, locals := 0 }
set_option maxHeartbeats 4000000 in
set_option maxRecDepth 100000 in
theorem k_X4_partOfSum (l : Launch) (G : wG) (σ : cS) (μ : mS) (o : Nat → Int64) (r : Nat) (hr : r < 8) : Met l yX4_partOfSum wsX4_partOfSum rm_k_X4_partOfSum (wPc G σ μ o [.ref (gA G 1), .int (nI r)]) (vp_Si (fun rr => rr = parS σ r)) 0 0 (fun _ => False) := by
  refine Met.ofW (cc := cX4_partOfSum) (maxL := 2) (ret := (some .int)) (by decide) rfl ?_
  intro p e s m args below meth c s₁ B hml hv
  obtain ⟨hargs, hI⟩ := hv
  have S : CallFix p m c cX4_partOfSum 2 s args wsX4_partOfSum RX4 := ⟨B.exec, B.bytes, hml, findClass_of_methodNamed B.named, atoms_spec (ws := wsX4_partOfSum) B.pre⟩
  have hret := B.returns
  have hlocks := B.notSynchronized
  have Z := wZ_0 hI
  clear hI
  obtain ⟨Q, hQ⟩ : ∃ Q, Q = MQ below (vp_Si (fun rr => rr = parS σ r)) args s 0 0 (fun _ => False) := ⟨_, rfl⟩
  rw [← hQ]
  have hl := lv_entry [.ref (gA G 1), .int (nI r)] (n := 2) (Nat.le_of_ble_eq_true rfl)
  rw [show entryFrame m args 2 = entryFrame m ([.ref (gA G 1), .int (nI r)] : List Value).toArray 2 from by rw [hargs], lg_entry_eq]
  generalize (lg_sl [.ref (gA G 1), .int (nI r)] ++ List.replicate (2 - (lg_sl [.ref (gA G 1), .int (nI r)]).length) Slot.unset).toArray = ls at hl ⊢
  have hl : lv_has ls 2 [(0, .ref (gA G 1)), (1, .int (nI r))] := hl
  refine lv_bipush (v := nI 17) S.1 S.2.1 dX4_partOfSum_0 (by decide) ?_
  refine lv_aload_n S.1 S.2.1 dX4_partOfSum_2 rfl (lv_at hl 0 rfl) ?_
  refine r_get (C := RX4) (T := TX4) (N := 2) (ci := 4) S Z (by decide) rfl rfl i_X4_partOfSum_X4 0 (by decide) m_X4_partOfSum_f9 rfl (v := .ref (gA G 2)) rfl dX4_partOfSum_3 ?_
  refine lv_iload_n S.1 S.2.1 dX4_partOfSum_6 rfl (lv_at hl 1 rfl) ?_
  refine r_ialdC S Z (n := 8) ⟨rfl, rfl⟩ (by omega) (by decide) dX4_partOfSum_7 ?_
  refine lv_imul S.1 S.2.1 dX4_partOfSum_8 ?_
  refine lv_bipush (v := nI 19) S.1 S.2.1 dX4_partOfSum_9 (by decide) ?_
  refine lv_aload_n S.1 S.2.1 dX4_partOfSum_11 rfl (lv_at hl 0 rfl) ?_
  refine r_get (C := RX4) (T := TX4) (N := 2) (ci := 4) S Z (by decide) rfl rfl i_X4_partOfSum_X4 1 (by decide) m_X4_partOfSum_f15 rfl (v := .ref (gA G 3)) rfl dX4_partOfSum_12 ?_
  refine lv_iload_n S.1 S.2.1 dX4_partOfSum_15 rfl (lv_at hl 1 rfl) ?_
  refine r_ialdC S Z (n := 8) ⟨rfl, rfl⟩ (by omega) (by decide) dX4_partOfSum_16 ?_
  refine lv_imul S.1 S.2.1 dX4_partOfSum_17 ?_
  refine lv_iadd S.1 S.2.1 dX4_partOfSum_18 ?_
  rw [hQ]
  exact W.iret (v := ((nI 17 * cI σ 2 r) + (nI 19 * cI σ 3 r))) S.1 S.2.1 hret (fun _ hT9 _ => ⟨_, rfl, rfl, hT9⟩) (fun _ h => nomatch h) dX4_partOfSum_19

abbrev rm_k_X5_endRank : Room := { frames := 0, cells := 0, slots := 0, locals := 0 }
set_option maxHeartbeats 4000000 in
set_option maxRecDepth 100000 in
theorem k_X5_endRank (l : Launch) (G : wG) (σ : cS) (μ : mS) (o : Nat → Int64) (e1 : Int32)  : Met l yX5_endRank wsX5_endRank rm_k_X5_endRank (wPc G σ μ o [.int (e1)]) (vp_Si (fun rr => rr = endR e1)) 0 0 (fun _ => False) := by
  refine Met.ofW (cc := cX5_endRank) (maxL := 1) (ret := (some .int)) (by decide) rfl ?_
  intro p e s m args below meth c s₁ B hml hv
  obtain ⟨hargs, hI⟩ := hv
  have S : CallFix p m c cX5_endRank 1 s args wsX5_endRank RX5 := ⟨B.exec, B.bytes, hml, findClass_of_methodNamed B.named, atoms_spec (ws := wsX5_endRank) B.pre⟩
  have hret := B.returns
  have hlocks := B.notSynchronized
  have Z := wZ_0 hI
  clear hI
  obtain ⟨Q, hQ⟩ : ∃ Q, Q = MQ below (vp_Si (fun rr => rr = endR e1)) args s 0 0 (fun _ => False) := ⟨_, rfl⟩
  rw [← hQ]
  have hl := lv_entry [.int (e1)] (n := 1) (Nat.le_of_ble_eq_true rfl)
  rw [show entryFrame m args 1 = entryFrame m ([.int (e1)] : List Value).toArray 1 from by rw [hargs], lg_entry_eq]
  generalize (lg_sl [.int (e1)] ++ List.replicate (1 - (lg_sl [.int (e1)]).length) Slot.unset).toArray = ls at hl ⊢
  have hl : lv_has ls 1 [(0, .int (e1))] := hl
  refine lv_iload_n S.1 S.2.1 dX5_endRank_0 rfl (lv_at hl 0 rfl) ?_
  refine lv_iconst (v := -1) S.1 S.2.1 dX5_endRank_1 (by decide) ?_
  refine lv_icmp_ne (tgt := 11) S.1 S.2.1 dX5_endRank_2 (by decide) (fun c_1 => ?_) (fun c_1 => ?_)
  · skip
    refine lv_iload_n S.1 S.2.1 dX5_endRank_11 rfl (lv_at hl 0 rfl) ?_
    rw [hQ]
    exact W.iret (v := e1) S.1 S.2.1 hret (fun _ hT9 _ => ⟨_, rfl, (by first | (simp [bi, endR, c_1]; done) | (simp [bi, endR, c_1]; omega) | (simp [bi, endR, ← Int32.not_le, c_1]; done)), hT9⟩) (fun _ h => nomatch h) dX5_endRank_12
  · skip
    refine lv_sipush (v := nI 11001) S.1 S.2.1 dX5_endRank_5 (by decide) ?_
    refine lv_goto (tgt := 12) S.1 S.2.1 dX5_endRank_8 (by decide) ?_
    rw [hQ]
    exact W.iret (v := nI 11001) S.1 S.2.1 hret (fun _ hT9 _ => ⟨_, rfl, (by first | (simp [bi, endR, c_1]; done) | (simp [bi, endR, c_1]; omega) | (simp [bi, endR, ← Int32.not_le, c_1]; done) | (simp [bi, endR, eq_true c_1]; done)), hT9⟩) (fun _ h => nomatch h) dX5_endRank_12

theorem m_X5_coverPlace_s53 : Cond.static yX7_cellAt ∈ wsX5_coverPlace := by decide +kernel
theorem m_X5_coverPlace_zRX7 : Cond.initialized RX7 ∈ wsX5_coverPlace := by decide +kernel
theorem i_X5_coverPlace_X5 : ∀ w ∈ wsX50, w ∈ wsX5_coverPlace := by decide +kernel
theorem m_X5_coverPlace_f27 : Cond.fieldLink RX5 27 "WideCell$Table" "ranges" "LWideCell$Ranges;" ∈ wsX5_coverPlace := by decide +kernel
abbrev rm_k_X5_coverPlace : Room := { frames := 1, cells := 0, slots := 0, locals := 22 }
set_option maxHeartbeats 4000000 in
set_option maxRecDepth 100000 in
theorem k_X5_coverPlace (l : Launch) (G : wG) (σ : cS) (μ : mS) (o : Nat → Int64) (t : Nat) (row : Nat) (col : Nat) (cover : Nat) (ht : t < 4) (hrow : row < 16) (hcol : col < 4) (hcov : cover < 11) : Met l yX5_coverPlace wsX5_coverPlace rm_k_X5_coverPlace (wPc G σ μ o [.ref (gA G (15 + 6 * t)), .int (nI row), .int (nI col), .int (nI cover)]) (vp_Si (fun rr => (cpO σ row col cover = none ∧ rr = -1) ∨ (∃ q : Nat, cpO σ row col cover = some q ∧ q < 92 ∧ rr = nI q))) 0 0 (fun _ => False) := by
  refine Met.ofW (cc := cX5_coverPlace) (maxL := 5) (ret := (some .int)) (by decide) rfl ?_
  intro p e s m args below meth c s₁ B hml hv
  obtain ⟨hargs, hI⟩ := hv
  have S : CallFix p m c cX5_coverPlace 5 s args wsX5_coverPlace RX5 := ⟨B.exec, B.bytes, hml, findClass_of_methodNamed B.named, atoms_spec (ws := wsX5_coverPlace) B.pre⟩
  have hret := B.returns
  have hlocks := B.notSynchronized
  have Z := wZ_0 hI
  clear hI
  obtain ⟨Q, hQ⟩ : ∃ Q, Q = MQ below (vp_Si (fun rr => (cpO σ row col cover = none ∧ rr = -1) ∨ (∃ q : Nat, cpO σ row col cover = some q ∧ q < 92 ∧ rr = nI q))) args s 0 0 (fun _ => False) := ⟨_, rfl⟩
  rw [← hQ]
  have hl := lv_entry [.ref (gA G (15 + 6 * t)), .int (nI row), .int (nI col), .int (nI cover)] (n := 5) (Nat.le_of_ble_eq_true rfl)
  rw [show entryFrame m args 5 = entryFrame m ([.ref (gA G (15 + 6 * t)), .int (nI row), .int (nI col), .int (nI cover)] : List Value).toArray 5 from by rw [hargs], lg_entry_eq]
  generalize (lg_sl [.ref (gA G (15 + 6 * t)), .int (nI row), .int (nI col), .int (nI cover)] ++ List.replicate (5 - (lg_sl [.ref (gA G (15 + 6 * t)), .int (nI row), .int (nI col), .int (nI cover)]).length) Slot.unset).toArray = ls at hl ⊢
  have hl : lv_has ls 5 [(0, .ref (gA G (15 + 6 * t))), (1, .int (nI row)), (2, .int (nI col)), (3, .int (nI cover))] := hl
  refine lv_iload_n S.1 S.2.1 dX5_coverPlace_0 rfl (lv_at hl 3 rfl) ?_
  rcases (show cover = 0 ∨ cover = 1 ∨ cover = 2 ∨ 3 ≤ cover by omega) with c_1 | c_1 | c_1 | c_1
  · skip
    refine r_tswIn S (off := 27) (tgt := 28) (by omega) dX5_coverPlace_1 (by omega) (by omega) (by rw [c_1]; decide) (by decide) ?_
    refine lv_iload_n S.1 S.2.1 dX5_coverPlace_28 rfl (lv_at hl 1 rfl) ?_
    refine lv_iload_n S.1 S.2.1 dX5_coverPlace_29 rfl (lv_at hl 2 rfl) ?_
    refine vp_callSi (va_runSN (As := [.int (nI row), .int (nI col)]) (rest := []) S (k_X7_cellAt l G σ μ o row col ) ⟨va_cnB 2 S.2.2.2.2 gX5_coverPlace_X7_cellAt_n53 rfl rfl rfl (Z.2.1.2.1 _ n_RX5_53) (S.2.2.2.2 _ m_X5_coverPlace_zRX7) hy_X7_cellAt ⟨Nat.le_of_ble_eq_true rfl, Nat.le_of_ble_eq_true rfl⟩, S.2.2.2.2 _ m_X5_coverPlace_s53, trivial⟩ (wPc_S Z) rfl rfl hl.1 rfl (lv_room (Nat.le_of_ble_eq_true rfl)) dX5_coverPlace_30 ⟨Nat.le_of_ble_eq_true rfl, Nat.le_of_ble_eq_true rfl⟩).run (fun r_2 h_3 => ?_)
    subst h_3
    rw [hQ]
    exact W.iret (v := nI (row * 4 + col)) S.1 S.2.1 hret (fun _ hT9 _ => ⟨_, rfl, (by first | (simp [bi, cpO, c_1]; done) | (simp [bi, cpO, c_1]; omega) | (simp [bi, cpO, ← Int32.not_le, c_1]; done)), hT9⟩) (fun _ h => nomatch h) dX5_coverPlace_33
  · skip
    refine r_tswIn S (off := 33) (tgt := 34) (by omega) dX5_coverPlace_1 (by omega) (by omega) (by rw [c_1]; decide) (by decide) ?_
    refine lv_bipush (v := nI 64) S.1 S.2.1 dX5_coverPlace_34 (by decide) ?_
    refine lv_iload_n S.1 S.2.1 dX5_coverPlace_36 rfl (lv_at hl 2 rfl) ?_
    refine r_addN S dX5_coverPlace_37 ?_
    rw [hQ]
    exact W.iret (v := nI (64 + col)) S.1 S.2.1 hret (fun _ hT9 _ => ⟨_, rfl, (by first | (simp [bi, cpO, c_1]; done) | (simp [bi, cpO, c_1]; omega) | (simp [bi, cpO, ← Int32.not_le, c_1]; done)), hT9⟩) (fun _ h => nomatch h) dX5_coverPlace_38
  · skip
    refine r_tswIn S (off := 38) (tgt := 39) (by omega) dX5_coverPlace_1 (by omega) (by omega) (by rw [c_1]; decide) (by decide) ?_
    refine lv_bipush (v := nI 68) S.1 S.2.1 dX5_coverPlace_39 (by decide) ?_
    refine lv_iload_n S.1 S.2.1 dX5_coverPlace_41 rfl (lv_at hl 1 rfl) ?_
    refine r_addN S dX5_coverPlace_42 ?_
    rw [hQ]
    exact W.iret (v := nI (68 + row)) S.1 S.2.1 hret (fun _ hT9 _ => ⟨_, rfl, (by first | (simp [bi, cpO, c_1]; done) | (simp [bi, cpO, c_1]; omega) | (simp [bi, cpO, ← Int32.not_le, c_1]; done)), hT9⟩) (fun _ h => nomatch h) dX5_coverPlace_43
  · skip
    refine r_tswOut S (tgt := 44) (by omega) dX5_coverPlace_1 (by omega) (by decide) ?_
    have e_4_0 : ¬ cover = 0 := by omega
    have e_4_1 : ¬ cover = 1 := by omega
    have e_4_2 : ¬ cover = 2 := by omega
    refine lv_iload_n S.1 S.2.1 dX5_coverPlace_44 rfl (lv_at hl 3 rfl) ?_
    refine lv_iconst (v := nI 3) S.1 S.2.1 dX5_coverPlace_45 (by decide) ?_
    refine r_subN S (by omega) dX5_coverPlace_46 ?_
    refine lv_istore (lv' := [(4, .int (nI (cover - 3))), (0, .ref (gA G (15 + 6 * t))), (1, .int (nI row)), (2, .int (nI col)), (3, .int (nI cover))]) S.1 S.2.1 dX5_coverPlace_47 hl (by decide) rfl (fun ls hl => ?_)
    refine lv_aload_n S.1 S.2.1 dX5_coverPlace_49 rfl (lv_at hl 1 rfl) ?_
    refine r_get (C := RX5) (T := TX5) (N := 6) (ci := 5) S Z (by omega) (eT ht) rfl i_X5_coverPlace_X5 0 (by decide) m_X5_coverPlace_f27 rfl (v := .ref (gA G 1)) rfl dX5_coverPlace_50 ?_
    refine lv_iload S.1 S.2.1 dX5_coverPlace_53 (lv_at hl 0 rfl) ?_
    refine lv_iload_n S.1 S.2.1 dX5_coverPlace_55 rfl (lv_at hl 2 rfl) ?_
    refine vp_callSi (va_runV (As := [.int (nI (cover - 3)), .int (nI row)]) (rest := []) S (k_X4_has l G σ μ o (cover - 3) row (by omega)) (cwV 2 S.2.2.2.2 gX5_coverPlace_X4_has rfl rfl rfl ⟨rfl, hy_X4_has⟩ ⟨Nat.le_of_ble_eq_true rfl, Nat.le_of_ble_eq_true rfl⟩) (wPc_V (q := (RX4, TX4, 2)) Z (by decide) rfl rfl) rfl rfl hl.1 rfl (lv_room (Nat.le_of_ble_eq_true rfl)) dX5_coverPlace_56 ⟨Nat.le_of_ble_eq_true rfl, Nat.le_of_ble_eq_true rfl⟩).run (fun r_5 h_6 => ?_)
    subst h_6
    refine r_if_eqB S (tgt := 70) dX5_coverPlace_59 (by decide) (fun c_7 => ?_) (fun c_7 => ?_)
    · skip
      refine lv_iconst (v := -1) S.1 S.2.1 dX5_coverPlace_70 (by decide) ?_
      rw [hQ]
      exact W.iret (v := -1) S.1 S.2.1 hret (fun _ hT9 _ => ⟨_, rfl, (by first | (simp [bi, cpO, c_1, e_4_0, e_4_1, e_4_2, c_7]; done) | (simp [bi, cpO, c_1, e_4_0, e_4_1, e_4_2, c_7]; omega) | (simp [bi, cpO, ← Int32.not_le, c_1, e_4_0, e_4_1, e_4_2, c_7]; done) | (simp [bi, cpO, c_1, e_4_0, e_4_1, e_4_2, eq_true c_7]; done)), hT9⟩) (fun _ h => nomatch h) dX5_coverPlace_71
    · skip
      refine lv_bipush (v := nI 84) S.1 S.2.1 dX5_coverPlace_62 (by decide) ?_
      refine lv_iload S.1 S.2.1 dX5_coverPlace_64 (lv_at hl 0 rfl) ?_
      refine r_addN S dX5_coverPlace_66 ?_
      refine lv_goto (tgt := 71) S.1 S.2.1 dX5_coverPlace_67 (by decide) ?_
      rw [hQ]
      exact W.iret (v := nI (84 + (cover - 3))) S.1 S.2.1 hret (fun _ hT9 _ => ⟨_, rfl, (by first | (simp [bi, cpO, c_1, e_4_0, e_4_1, e_4_2, c_7]; done) | (simp [bi, cpO, c_1, e_4_0, e_4_1, e_4_2, c_7]; omega) | (simp [bi, cpO, ← Int32.not_le, c_1, e_4_0, e_4_1, e_4_2, c_7]; done)), hT9⟩) (fun _ h => nomatch h) dX5_coverPlace_71

theorem i_X5_greatestBurial_X5 : ∀ w ∈ wsX50, w ∈ wsX5_greatestBurial := by decide +kernel
theorem m_X5_greatestBurial_f21 : Cond.fieldLink RX5 21 "WideCell$Table" "burials" "[I" ∈ wsX5_greatestBurial := by decide +kernel
theorem m_X5_greatestBurial_mx67 : Cond.methodLink RX5 67 Lib.Math.max.name ∈ wsX5_greatestBurial := by decide +kernel
theorem m_X5_greatestBurial_mxs : Cond.static Lib.Math.max.name ∈ wsX5_greatestBurial := by decide +kernel
theorem m_X5_greatestBurial_mxi : Cond.initialized "java/lang/Math" ∈ wsX5_greatestBurial := by decide +kernel
theorem m_X5_greatestBurial_mxc : Cond.code Lib.Math.max.name Lib.Math.max.code 2 (some .int) ∈ wsX5_greatestBurial := by decide +kernel
abbrev rm_k_X5_greatestBurial : Room := { frames := 2, cells := 0, slots := 0, locals := 46 }
set_option maxHeartbeats 4000000 in
set_option maxRecDepth 100000 in
theorem k_X5_greatestBurial (l : Launch) (G : wG) (σ : cS) (μ : mS) (o : Nat → Int64) (t : Nat) (row : Nat) (col : Nat) (ht : t < 4) (hrow : row < 16) (hcol : col < 4) : Met l yX5_greatestBurial wsX5_greatestBurial rm_k_X5_greatestBurial (wPc G σ μ o [.ref (gA G (15 + 6 * t)), .int (nI row), .int (nI col)]) (vp_Si (fun rr => rr = gB σ t row col)) 0 0 (fun _ => False) := by
  refine Met.ofW (cc := cX5_greatestBurial) (maxL := 6) (ret := (some .int)) (by decide) rfl ?_
  intro p e s m args below meth c s₁ B hml hv
  obtain ⟨hargs, hI⟩ := hv
  have S : CallFix p m c cX5_greatestBurial 6 s args wsX5_greatestBurial RX5 := ⟨B.exec, B.bytes, hml, findClass_of_methodNamed B.named, atoms_spec (ws := wsX5_greatestBurial) B.pre⟩
  have hret := B.returns
  have hlocks := B.notSynchronized
  have Z := wZ_0 hI
  clear hI
  obtain ⟨Q, hQ⟩ : ∃ Q, Q = MQ below (vp_Si (fun rr => rr = gB σ t row col)) args s 0 0 (fun _ => False) := ⟨_, rfl⟩
  rw [← hQ]
  have hl := lv_entry [.ref (gA G (15 + 6 * t)), .int (nI row), .int (nI col)] (n := 6) (Nat.le_of_ble_eq_true rfl)
  rw [show entryFrame m args 6 = entryFrame m ([.ref (gA G (15 + 6 * t)), .int (nI row), .int (nI col)] : List Value).toArray 6 from by rw [hargs], lg_entry_eq]
  generalize (lg_sl [.ref (gA G (15 + 6 * t)), .int (nI row), .int (nI col)] ++ List.replicate (6 - (lg_sl [.ref (gA G (15 + 6 * t)), .int (nI row), .int (nI col)]).length) Slot.unset).toArray = ls at hl ⊢
  have hl : lv_has ls 6 [(0, .ref (gA G (15 + 6 * t))), (1, .int (nI row)), (2, .int (nI col))] := hl
  refine lv_iconst (v := -1) S.1 S.2.1 dX5_greatestBurial_0 (by decide) ?_
  refine lv_istore_n (lv' := [(3, .int (-1)), (0, .ref (gA G (15 + 6 * t))), (1, .int (nI row)), (2, .int (nI col))]) S.1 S.2.1 dX5_greatestBurial_1 rfl hl (by decide) rfl (fun ls hl => ?_)
  refine lv_iconst (v := nI 0) S.1 S.2.1 dX5_greatestBurial_2 (by decide) ?_
  refine lv_istore (lv' := [(4, .int (nI 0)), (3, .int (-1)), (0, .ref (gA G (15 + 6 * t))), (1, .int (nI row)), (2, .int (nI col))]) S.1 S.2.1 dX5_greatestBurial_3 hl (by decide) rfl (fun ls hl => ?_)
  have L_5 : ∀ (n : Nat) (i : Nat) (hi : i ≤ 11) (hn : 11 - i < n) (ls : Array Slot) (hl : lv_has ls 6 [(0, .ref (gA G (15 + 6 * t))), (1, .int (nI row)), (2, .int (nI col)), (3, .int (gBn σ t row col i)), (4, .int (nI i))]), W p l e (headSpec wsX5_greatestBurial rm_k_X5_greatestBurial).room s m args below meth c s.heap [] 0 0 Q (F0 m 5 ls []) := by
    intro n
    induction n with
    | zero => intro i hi hn; omega
    | succ n ih_5 =>
      intro i hi hn ls hl
      refine lv_iload S.1 S.2.1 dX5_greatestBurial_5 (lv_at hl 4 rfl) ?_
      refine lv_bipush (v := nI 11) S.1 S.2.1 dX5_greatestBurial_7 (by decide) ?_
      refine r_icmpN_ge S (tgt := 46) (by omega) (by omega) dX5_greatestBurial_9 (by decide) (fun c_1 => ?_) (fun c_1 => ?_)
      · skip
        obtain rfl : i = 11 := by omega
        refine lv_iload_n S.1 S.2.1 dX5_greatestBurial_46 rfl (lv_at hl 3 rfl) ?_
        rw [hQ]
        exact W.iret (v := gBn σ t row col 11) S.1 S.2.1 hret (fun _ hT9 _ => ⟨_, rfl, rfl, hT9⟩) (fun _ h => nomatch h) dX5_greatestBurial_47
      · skip
        refine lv_aload_n S.1 S.2.1 dX5_greatestBurial_12 rfl (lv_at hl 0 rfl) ?_
        refine lv_iload_n S.1 S.2.1 dX5_greatestBurial_13 rfl (lv_at hl 1 rfl) ?_
        refine lv_iload_n S.1 S.2.1 dX5_greatestBurial_14 rfl (lv_at hl 2 rfl) ?_
        refine lv_iload S.1 S.2.1 dX5_greatestBurial_15 (lv_at hl 4 rfl) ?_
        refine vp_callSi (va_runV (As := [.int (nI row), .int (nI col), .int (nI i)]) (rest := []) S (k_X5_coverPlace l G σ μ o t row col i ht (by omega) (by omega) (by omega)) (cwV 3 S.2.2.2.2 gX5_greatestBurial_X5_coverPlace rfl rfl rfl ⟨rfl, hy_X5_coverPlace⟩ ⟨Nat.le_of_ble_eq_true rfl, Nat.le_of_ble_eq_true rfl⟩) (wPc_V (q := (RX5, TX5, 6)) Z (by omega) (eT ht) rfl) rfl rfl hl.1 rfl (lv_room (Nat.le_of_ble_eq_true rfl)) dX5_greatestBurial_17 ⟨Nat.le_of_ble_eq_true rfl, Nat.le_of_ble_eq_true rfl⟩).run (fun r_2 h_3 => ?_)
        rcases h_3 with ⟨q0_4, rfl⟩ | ⟨pl_7, q0_4, q1_6, rfl⟩
        · skip
          refine lv_istore (lv' := [(5, .int (-1)), (0, .ref (gA G (15 + 6 * t))), (1, .int (nI row)), (2, .int (nI col)), (3, .int (gBn σ t row col i)), (4, .int (nI i))]) S.1 S.2.1 dX5_greatestBurial_20 hl (by decide) rfl (fun ls hl => ?_)
          refine lv_iload S.1 S.2.1 dX5_greatestBurial_22 (lv_at hl 0 rfl) ?_
          refine lv_iconst (v := -1) S.1 S.2.1 dX5_greatestBurial_24 (by decide) ?_
          refine lv_icmp_eq (tgt := 40) S.1 S.2.1 dX5_greatestBurial_25 (by decide) (fun c_8 => ?_) (fun c_8 => absurd rfl c_8)
          refine lv_iinc (v := nI (i + 1)) (lv' := [(4, .int (nI (i + 1))), (5, .int (-1)), (0, .ref (gA G (15 + 6 * t))), (1, .int (nI row)), (2, .int (nI col)), (3, .int (gBn σ t row col i))]) S.1 S.2.1 dX5_greatestBurial_40 hl (k := 5) rfl (nI_inc rfl) (by decide) rfl (fun ls hl => ?_)
          refine lv_goto (tgt := 5) S.1 S.2.1 dX5_greatestBurial_43 (by decide) ?_
          have q_9 : (gBn σ t row col (i + 1) : Int32) = gBn σ t row col i := by first | (first | (simp [bi, gB, gBn, hi, c_1, q0_4]; done) | (simp [bi, gB, gBn, hi, c_1, q0_4]; omega) | (simp [bi, gB, gBn, ← Int32.not_le, hi, c_1, q0_4]; done)) | rfl
          have hl : lv_has ls 6 [(0, .ref (gA G (15 + 6 * t))), (1, .int (nI row)), (2, .int (nI col)), (3, .int (gBn σ t row col (i + 1))), (4, .int (nI (i + 1)))] := by
            have hl := lv_sub hl [2, 3, 4, 5, 0] rfl
            rw [q_9]; exact hl
          exact ih_5 (i + 1) (by omega) (by omega) ls (hl)
        · skip
          refine lv_istore (lv' := [(5, .int (nI pl_7)), (0, .ref (gA G (15 + 6 * t))), (1, .int (nI row)), (2, .int (nI col)), (3, .int (gBn σ t row col i)), (4, .int (nI i))]) S.1 S.2.1 dX5_greatestBurial_20 hl (by decide) rfl (fun ls hl => ?_)
          refine lv_iload S.1 S.2.1 dX5_greatestBurial_22 (lv_at hl 0 rfl) ?_
          refine lv_iconst (v := -1) S.1 S.2.1 dX5_greatestBurial_24 (by decide) ?_
          refine lv_icmp_eq (tgt := 40) S.1 S.2.1 dX5_greatestBurial_25 (by decide) (fun c_10 => absurd c_10 (nI_nm1 (by omega))) (fun c_10 => ?_)
          refine lv_iload_n S.1 S.2.1 dX5_greatestBurial_28 rfl (lv_at hl 4 rfl) ?_
          refine lv_aload_n S.1 S.2.1 dX5_greatestBurial_29 rfl (lv_at hl 1 rfl) ?_
          refine r_get (C := RX5) (T := TX5) (N := 6) (ci := 5) S Z (by omega) (eT ht) rfl i_X5_greatestBurial_X5 4 (by decide) m_X5_greatestBurial_f21 rfl (v := .ref (gA G (15 + 6 * t + 4))) rfl dX5_greatestBurial_30 ?_
          refine lv_iload S.1 S.2.1 dX5_greatestBurial_33 (lv_at hl 0 rfl) ?_
          refine r_ialdC S Z (n := 92) (pB ht (by decide) (by decide)) (by omega) (by decide) dX5_greatestBurial_35 ?_
          refine va_mmax S.1 S.2.1 (by rw [S.2.2.1]; exact hl.1.symm) S.2.2.2.1 (S.2.2.2.2 _ m_X5_greatestBurial_mx67) (S.2.2.2.2 _ m_X5_greatestBurial_mxs) (S.2.2.2.2 _ m_X5_greatestBurial_mxi) (S.2.2.2.2 _ m_X5_greatestBurial_mxc) (Nat.le_of_ble_eq_true rfl) (Nat.le_of_ble_eq_true rfl) (Nat.le_of_ble_eq_true rfl) (Nat.le_of_ble_eq_true rfl) dX5_greatestBurial_36 ?_
          refine lv_istore_n (lv' := [(3, .int ((if gBn σ t row col i < cI σ (15 + 6 * t + 4) pl_7 then cI σ (15 + 6 * t + 4) pl_7 else gBn σ t row col i))), (5, .int (nI pl_7)), (0, .ref (gA G (15 + 6 * t))), (1, .int (nI row)), (2, .int (nI col)), (4, .int (nI i))]) S.1 S.2.1 dX5_greatestBurial_39 rfl hl (by decide) rfl (fun ls hl => ?_)
          refine lv_iinc (v := nI (i + 1)) (lv' := [(4, .int (nI (i + 1))), (3, .int ((if gBn σ t row col i < cI σ (15 + 6 * t + 4) pl_7 then cI σ (15 + 6 * t + 4) pl_7 else gBn σ t row col i))), (5, .int (nI pl_7)), (0, .ref (gA G (15 + 6 * t))), (1, .int (nI row)), (2, .int (nI col))]) S.1 S.2.1 dX5_greatestBurial_40 hl (k := 5) rfl (nI_inc rfl) (by decide) rfl (fun ls hl => ?_)
          refine lv_goto (tgt := 5) S.1 S.2.1 dX5_greatestBurial_43 (by decide) ?_
          have q_11 : (gBn σ t row col (i + 1) : Int32) = (if gBn σ t row col i < cI σ (15 + 6 * t + 4) pl_7 then cI σ (15 + 6 * t + 4) pl_7 else gBn σ t row col i) := by first | (first | (simp [bi, gB, gBn, hi, c_1, q0_4, q1_6]; done) | (simp [bi, gB, gBn, hi, c_1, q0_4, q1_6]; omega) | (simp [bi, gB, gBn, ← Int32.not_le, hi, c_1, q0_4, q1_6]; done)) | rfl
          have hl : lv_has ls 6 [(0, .ref (gA G (15 + 6 * t))), (1, .int (nI row)), (2, .int (nI col)), (3, .int (gBn σ t row col (i + 1))), (4, .int (nI (i + 1)))] := by
            have hl := lv_sub hl [3, 4, 5, 1, 0] rfl
            rw [q_11]; exact hl
          exact ih_5 (i + 1) (by omega) (by omega) ls (hl)
  have q_12 : (gBn σ t row col 0 : Int32) = -1 := by first | rfl | (first | (simp [bi, gB, gBn]; done) | (simp [bi, gB, gBn]; omega) | (simp [bi, gB, gBn, ← Int32.not_le]; done))
  have hl : lv_has ls 6 [(0, .ref (gA G (15 + 6 * t))), (1, .int (nI row)), (2, .int (nI col)), (3, .int (gBn σ t row col 0)), (4, .int (nI 0))] := by
    have hl := lv_sub hl [2, 3, 4, 1, 0] rfl
    rw [q_12]; exact hl
  exact L_5 (11 - 0 + 1) 0 (by omega) (by omega) ls (hl)

theorem i_X5_isCovered_X5 : ∀ w ∈ wsX50, w ∈ wsX5_isCovered := by decide +kernel
theorem m_X5_isCovered_f9 : Cond.fieldLink RX5 9 "WideCell$Table" "stamps" "[I" ∈ wsX5_isCovered := by decide +kernel
theorem m_X5_isCovered_s53 : Cond.static yX7_cellAt ∈ wsX5_isCovered := by decide +kernel
theorem m_X5_isCovered_zRX7 : Cond.initialized RX7 ∈ wsX5_isCovered := by decide +kernel
abbrev rm_k_X5_isCovered : Room := { frames := 3, cells := 0, slots := 0, locals := 71 }
set_option maxHeartbeats 4000000 in
set_option maxRecDepth 100000 in
theorem k_X5_isCovered (l : Launch) (G : wG) (σ : cS) (μ : mS) (o : Nat → Int64) (t : Nat) (row : Nat) (col : Nat) (ht : t < 4) (hrow : row < 16) (hcol : col < 4) : Met l yX5_isCovered wsX5_isCovered rm_k_X5_isCovered (wPc G σ μ o [.ref (gA G (15 + 6 * t)), .int (nI row), .int (nI col)]) (vp_Si (fun rr => rr = bi (covB σ t row col))) 0 0 (fun _ => False) := by
  refine Met.ofW (cc := cX5_isCovered) (maxL := 3) (ret := (some .boolean)) (by decide) rfl ?_
  intro p e s m args below meth c s₁ B hml hv
  obtain ⟨hargs, hI⟩ := hv
  have S : CallFix p m c cX5_isCovered 3 s args wsX5_isCovered RX5 := ⟨B.exec, B.bytes, hml, findClass_of_methodNamed B.named, atoms_spec (ws := wsX5_isCovered) B.pre⟩
  have hret := B.returns
  have hlocks := B.notSynchronized
  have Z := wZ_0 hI
  clear hI
  obtain ⟨Q, hQ⟩ : ∃ Q, Q = MQ below (vp_Si (fun rr => rr = bi (covB σ t row col))) args s 0 0 (fun _ => False) := ⟨_, rfl⟩
  rw [← hQ]
  have hl := lv_entry [.ref (gA G (15 + 6 * t)), .int (nI row), .int (nI col)] (n := 3) (Nat.le_of_ble_eq_true rfl)
  rw [show entryFrame m args 3 = entryFrame m ([.ref (gA G (15 + 6 * t)), .int (nI row), .int (nI col)] : List Value).toArray 3 from by rw [hargs], lg_entry_eq]
  generalize (lg_sl [.ref (gA G (15 + 6 * t)), .int (nI row), .int (nI col)] ++ List.replicate (3 - (lg_sl [.ref (gA G (15 + 6 * t)), .int (nI row), .int (nI col)]).length) Slot.unset).toArray = ls at hl ⊢
  have hl : lv_has ls 3 [(0, .ref (gA G (15 + 6 * t))), (1, .int (nI row)), (2, .int (nI col))] := hl
  refine lv_aload_n S.1 S.2.1 dX5_isCovered_0 rfl (lv_at hl 0 rfl) ?_
  refine lv_iload_n S.1 S.2.1 dX5_isCovered_1 rfl (lv_at hl 1 rfl) ?_
  refine lv_iload_n S.1 S.2.1 dX5_isCovered_2 rfl (lv_at hl 2 rfl) ?_
  refine vp_callSi (va_runV (As := [.int (nI row), .int (nI col)]) (rest := []) S (k_X5_greatestBurial l G σ μ o t row col ht (by omega) (by omega)) (cwV 2 S.2.2.2.2 gX5_isCovered_X5_greatestBurial rfl rfl rfl ⟨rfl, hy_X5_greatestBurial⟩ ⟨Nat.le_of_ble_eq_true rfl, Nat.le_of_ble_eq_true rfl⟩) (wPc_V (q := (RX5, TX5, 6)) Z (by omega) (eT ht) rfl) rfl rfl hl.1 rfl (lv_room (Nat.le_of_ble_eq_true rfl)) dX5_isCovered_3 ⟨Nat.le_of_ble_eq_true rfl, Nat.le_of_ble_eq_true rfl⟩).run (fun r_1 h_2 => ?_)
  subst h_2
  refine lv_aload_n S.1 S.2.1 dX5_isCovered_6 rfl (lv_at hl 0 rfl) ?_
  refine r_get (C := RX5) (T := TX5) (N := 6) (ci := 5) S Z (by omega) (eT ht) rfl i_X5_isCovered_X5 1 (by decide) m_X5_isCovered_f9 rfl (v := .ref (gA G (15 + 6 * t + 1))) rfl dX5_isCovered_7 ?_
  refine lv_iload_n S.1 S.2.1 dX5_isCovered_10 rfl (lv_at hl 1 rfl) ?_
  refine lv_iload_n S.1 S.2.1 dX5_isCovered_11 rfl (lv_at hl 2 rfl) ?_
  refine vp_callSi (va_runSN (As := [.int (nI row), .int (nI col)]) (rest := [.ref (gA G (15 + 6 * t + 1)), .int (gB σ t row col)]) S (k_X7_cellAt l G σ μ o row col ) ⟨va_cnB 2 S.2.2.2.2 gX5_isCovered_X7_cellAt_n53 rfl rfl rfl (Z.2.1.2.1 _ n_RX5_53) (S.2.2.2.2 _ m_X5_isCovered_zRX7) hy_X7_cellAt ⟨Nat.le_of_ble_eq_true rfl, Nat.le_of_ble_eq_true rfl⟩, S.2.2.2.2 _ m_X5_isCovered_s53, trivial⟩ (wPc_S Z) rfl rfl hl.1 rfl (lv_room (Nat.le_of_ble_eq_true rfl)) dX5_isCovered_12 ⟨Nat.le_of_ble_eq_true rfl, Nat.le_of_ble_eq_true rfl⟩).run (fun r_3 h_4 => ?_)
  subst h_4
  refine r_ialdC S Z (n := 64) (pT ht (by decide) (by decide)) (by omega) (by decide) dX5_isCovered_15 ?_
  refine lv_icmp_lt (tgt := 23) S.1 S.2.1 dX5_isCovered_16 (by decide) (fun c_5 => ?_) (fun c_5 => ?_)
  · skip
    refine lv_iconst (v := nI 0) S.1 S.2.1 dX5_isCovered_23 (by decide) ?_
    rw [hQ]
    exact W.zret (v := nI 0) S.1 S.2.1 hret rfl (fun _ hT9 _ => ⟨_, rfl, (by first | (simp [bi, covB, c_5]; done) | (simp [bi, covB, c_5]; omega) | (simp [bi, covB, ← Int32.not_le, c_5]; done)), hT9⟩) (fun _ h => nomatch h) dX5_isCovered_24
  · skip
    refine lv_iconst (v := nI 1) S.1 S.2.1 dX5_isCovered_19 (by decide) ?_
    refine lv_goto (tgt := 24) S.1 S.2.1 dX5_isCovered_20 (by decide) ?_
    rw [hQ]
    exact W.zret (v := nI 1) S.1 S.2.1 hret rfl (fun _ hT9 _ => ⟨_, rfl, (by first | (simp [bi, covB, c_5]; done) | (simp [bi, covB, c_5]; omega) | (simp [bi, covB, ← Int32.not_le, c_5]; done)), hT9⟩) (fun _ h => nomatch h) dX5_isCovered_24

theorem m_X5_visibleValue_s53 : Cond.static yX7_cellAt ∈ wsX5_visibleValue := by decide +kernel
theorem m_X5_visibleValue_zRX7 : Cond.initialized RX7 ∈ wsX5_visibleValue := by decide +kernel
theorem i_X5_visibleValue_X5 : ∀ w ∈ wsX50, w ∈ wsX5_visibleValue := by decide +kernel
theorem m_X5_visibleValue_f9 : Cond.fieldLink RX5 9 "WideCell$Table" "stamps" "[I" ∈ wsX5_visibleValue := by decide +kernel
theorem m_X5_visibleValue_f18 : Cond.fieldLink RX5 18 "WideCell$Table" "ends" "[I" ∈ wsX5_visibleValue := by decide +kernel
theorem m_X5_visibleValue_f15 : Cond.fieldLink RX5 15 "WideCell$Table" "values" "[I" ∈ wsX5_visibleValue := by decide +kernel
abbrev rm_k_X5_visibleValue : Room := { frames := 4, cells := 0, slots := 0, locals := 93 }
set_option maxHeartbeats 4000000 in
set_option maxRecDepth 100000 in
theorem k_X5_visibleValue (l : Launch) (G : wG) (σ : cS) (μ : mS) (o : Nat → Int64) (t : Nat) (row : Nat) (col : Nat) (now : Int32) (ht : t < 4) (hrow : row < 16) (hcol : col < 4) : Met l yX5_visibleValue wsX5_visibleValue rm_k_X5_visibleValue (wPc G σ μ o [.ref (gA G (15 + 6 * t)), .int (nI row), .int (nI col), .int (now)]) (vp_Si (fun rr => rr = visV σ t row col now)) 0 0 (fun _ => False) := by
  refine Met.ofW (cc := cX5_visibleValue) (maxL := 6) (ret := (some .int)) (by decide) rfl ?_
  intro p e s m args below meth c s₁ B hml hv
  obtain ⟨hargs, hI⟩ := hv
  have S : CallFix p m c cX5_visibleValue 6 s args wsX5_visibleValue RX5 := ⟨B.exec, B.bytes, hml, findClass_of_methodNamed B.named, atoms_spec (ws := wsX5_visibleValue) B.pre⟩
  have hret := B.returns
  have hlocks := B.notSynchronized
  have Z := wZ_0 hI
  clear hI
  obtain ⟨Q, hQ⟩ : ∃ Q, Q = MQ below (vp_Si (fun rr => rr = visV σ t row col now)) args s 0 0 (fun _ => False) := ⟨_, rfl⟩
  rw [← hQ]
  have hl := lv_entry [.ref (gA G (15 + 6 * t)), .int (nI row), .int (nI col), .int (now)] (n := 6) (Nat.le_of_ble_eq_true rfl)
  rw [show entryFrame m args 6 = entryFrame m ([.ref (gA G (15 + 6 * t)), .int (nI row), .int (nI col), .int (now)] : List Value).toArray 6 from by rw [hargs], lg_entry_eq]
  generalize (lg_sl [.ref (gA G (15 + 6 * t)), .int (nI row), .int (nI col), .int (now)] ++ List.replicate (6 - (lg_sl [.ref (gA G (15 + 6 * t)), .int (nI row), .int (nI col), .int (now)]).length) Slot.unset).toArray = ls at hl ⊢
  have hl : lv_has ls 6 [(0, .ref (gA G (15 + 6 * t))), (1, .int (nI row)), (2, .int (nI col)), (3, .int (now))] := hl
  refine lv_iload_n S.1 S.2.1 dX5_visibleValue_0 rfl (lv_at hl 1 rfl) ?_
  refine lv_iload_n S.1 S.2.1 dX5_visibleValue_1 rfl (lv_at hl 2 rfl) ?_
  refine vp_callSi (va_runSN (As := [.int (nI row), .int (nI col)]) (rest := []) S (k_X7_cellAt l G σ μ o row col ) ⟨va_cnB 2 S.2.2.2.2 gX5_visibleValue_X7_cellAt_n53 rfl rfl rfl (Z.2.1.2.1 _ n_RX5_53) (S.2.2.2.2 _ m_X5_visibleValue_zRX7) hy_X7_cellAt ⟨Nat.le_of_ble_eq_true rfl, Nat.le_of_ble_eq_true rfl⟩, S.2.2.2.2 _ m_X5_visibleValue_s53, trivial⟩ (wPc_S Z) rfl rfl hl.1 rfl (lv_room (Nat.le_of_ble_eq_true rfl)) dX5_visibleValue_2 ⟨Nat.le_of_ble_eq_true rfl, Nat.le_of_ble_eq_true rfl⟩).run (fun r_1 h_2 => ?_)
  subst h_2
  refine lv_istore (lv' := [(4, .int (nI (row * 4 + col))), (0, .ref (gA G (15 + 6 * t))), (1, .int (nI row)), (2, .int (nI col)), (3, .int (now))]) S.1 S.2.1 dX5_visibleValue_5 hl (by decide) rfl (fun ls hl => ?_)
  refine lv_aload_n S.1 S.2.1 dX5_visibleValue_7 rfl (lv_at hl 1 rfl) ?_
  refine r_get (C := RX5) (T := TX5) (N := 6) (ci := 5) S Z (by omega) (eT ht) rfl i_X5_visibleValue_X5 1 (by decide) m_X5_visibleValue_f9 rfl (v := .ref (gA G (15 + 6 * t + 1))) rfl dX5_visibleValue_8 ?_
  refine lv_iload S.1 S.2.1 dX5_visibleValue_11 (lv_at hl 0 rfl) ?_
  refine r_ialdC S Z (n := 64) (pT ht (by decide) (by decide)) (by omega) (by decide) dX5_visibleValue_13 ?_
  refine lv_iconst (v := -1) S.1 S.2.1 dX5_visibleValue_14 (by decide) ?_
  refine lv_icmp_eq (tgt := 36) S.1 S.2.1 dX5_visibleValue_15 (by decide) (fun c_3 => ?_) (fun c_3 => ?_)
  · skip
    refine lv_iconst (v := nI 0) S.1 S.2.1 dX5_visibleValue_36 (by decide) ?_
    refine lv_istore (lv' := [(5, .int (nI 0)), (4, .int (nI (row * 4 + col))), (0, .ref (gA G (15 + 6 * t))), (1, .int (nI row)), (2, .int (nI col)), (3, .int (now))]) S.1 S.2.1 dX5_visibleValue_37 hl (by decide) rfl (fun ls hl => ?_)
    refine lv_iload S.1 S.2.1 dX5_visibleValue_39 (lv_at hl 0 rfl) ?_
    refine r_if_eqN S (tgt := 63) (by decide) dX5_visibleValue_41 (by decide) (fun c_4 => ?_) (fun c_4 => absurd c_4 (by decide))
    refine lv_iconst (v := -1) S.1 S.2.1 dX5_visibleValue_63 (by decide) ?_
    rw [hQ]
    exact W.iret (v := -1) S.1 S.2.1 hret (fun _ hT9 _ => ⟨_, rfl, (by first | (simp [bi, visV, c_3]; done) | (simp [bi, visV, c_3]; omega) | (simp [bi, visV, ← Int32.not_le, c_3]; done) | (simp [bi, visV, eq_true c_3]; done)), hT9⟩) (fun _ h => nomatch h) dX5_visibleValue_64
  · skip
    refine lv_aload_n S.1 S.2.1 dX5_visibleValue_18 rfl (lv_at hl 1 rfl) ?_
    refine r_get (C := RX5) (T := TX5) (N := 6) (ci := 5) S Z (by omega) (eT ht) rfl i_X5_visibleValue_X5 3 (by decide) m_X5_visibleValue_f18 rfl (v := .ref (gA G (15 + 6 * t + 3))) rfl dX5_visibleValue_19 ?_
    refine lv_iload S.1 S.2.1 dX5_visibleValue_22 (lv_at hl 0 rfl) ?_
    refine r_ialdC S Z (n := 64) (pT ht (by decide) (by decide)) (by omega) (by decide) dX5_visibleValue_24 ?_
    refine vp_callSi (va_runS (As := [.int (cI σ (15 + 6 * t + 3) (row * 4 + col))]) (rest := []) S (k_X5_endRank l G σ μ o (cI σ (15 + 6 * t + 3) (row * 4 + col)) ) (va_cwS 1 S.2.2.2.2 gX5_visibleValue_X5_endRank rfl rfl rfl hy_X5_endRank ⟨Nat.le_of_ble_eq_true rfl, Nat.le_of_ble_eq_true rfl⟩) (wPc_S Z) rfl rfl hl.1 rfl (lv_room (Nat.le_of_ble_eq_true rfl)) dX5_visibleValue_25 ⟨Nat.le_of_ble_eq_true rfl, Nat.le_of_ble_eq_true rfl⟩).run (fun r_5 h_6 => ?_)
    subst h_6
    refine lv_iload_n S.1 S.2.1 dX5_visibleValue_28 rfl (lv_at hl 4 rfl) ?_
    refine lv_icmp_le (tgt := 36) S.1 S.2.1 dX5_visibleValue_29 (by decide) (fun c_7 => ?_) (fun c_7 => ?_)
    · skip
      refine lv_iconst (v := nI 0) S.1 S.2.1 dX5_visibleValue_36 (by decide) ?_
      refine lv_istore (lv' := [(5, .int (nI 0)), (4, .int (nI (row * 4 + col))), (0, .ref (gA G (15 + 6 * t))), (1, .int (nI row)), (2, .int (nI col)), (3, .int (now))]) S.1 S.2.1 dX5_visibleValue_37 hl (by decide) rfl (fun ls hl => ?_)
      refine lv_iload S.1 S.2.1 dX5_visibleValue_39 (lv_at hl 0 rfl) ?_
      refine r_if_eqN S (tgt := 63) (by decide) dX5_visibleValue_41 (by decide) (fun c_8 => ?_) (fun c_8 => absurd c_8 (by decide))
      refine lv_iconst (v := -1) S.1 S.2.1 dX5_visibleValue_63 (by decide) ?_
      rw [hQ]
      exact W.iret (v := -1) S.1 S.2.1 hret (fun _ hT9 _ => ⟨_, rfl, (by first | (simp [bi, visV, c_3, c_7]; done) | (simp [bi, visV, c_3, c_7]; omega) | (simp [bi, visV, ← Int32.not_le, c_3, c_7]; done)), hT9⟩) (fun _ h => nomatch h) dX5_visibleValue_64
    · skip
      refine lv_iconst (v := nI 1) S.1 S.2.1 dX5_visibleValue_32 (by decide) ?_
      refine lv_goto (tgt := 37) S.1 S.2.1 dX5_visibleValue_33 (by decide) ?_
      refine lv_istore (lv' := [(5, .int (nI 1)), (4, .int (nI (row * 4 + col))), (0, .ref (gA G (15 + 6 * t))), (1, .int (nI row)), (2, .int (nI col)), (3, .int (now))]) S.1 S.2.1 dX5_visibleValue_37 hl (by decide) rfl (fun ls hl => ?_)
      refine lv_iload S.1 S.2.1 dX5_visibleValue_39 (lv_at hl 0 rfl) ?_
      refine r_if_eqN S (tgt := 63) (by decide) dX5_visibleValue_41 (by decide) (fun c_9 => absurd c_9 (by decide)) (fun c_9 => ?_)
      refine lv_aload_n S.1 S.2.1 dX5_visibleValue_44 rfl (lv_at hl 2 rfl) ?_
      refine lv_iload_n S.1 S.2.1 dX5_visibleValue_45 rfl (lv_at hl 3 rfl) ?_
      refine lv_iload_n S.1 S.2.1 dX5_visibleValue_46 rfl (lv_at hl 4 rfl) ?_
      refine vp_callSi (va_runV (As := [.int (nI row), .int (nI col)]) (rest := []) S (k_X5_isCovered l G σ μ o t row col ht (by omega) (by omega)) (cwV 2 S.2.2.2.2 gX5_visibleValue_X5_isCovered rfl rfl rfl ⟨rfl, hy_X5_isCovered⟩ ⟨Nat.le_of_ble_eq_true rfl, Nat.le_of_ble_eq_true rfl⟩) (wPc_V (q := (RX5, TX5, 6)) Z (by omega) (eT ht) rfl) rfl rfl hl.1 rfl (lv_room (Nat.le_of_ble_eq_true rfl)) dX5_visibleValue_47 ⟨Nat.le_of_ble_eq_true rfl, Nat.le_of_ble_eq_true rfl⟩).run (fun r_10 h_11 => ?_)
      subst h_11
      refine r_if_neB S (tgt := 63) dX5_visibleValue_50 (by decide) (fun c_12 => ?_) (fun c_12 => ?_)
      · skip
        refine lv_iconst (v := -1) S.1 S.2.1 dX5_visibleValue_63 (by decide) ?_
        rw [hQ]
        exact W.iret (v := -1) S.1 S.2.1 hret (fun _ hT9 _ => ⟨_, rfl, (by first | (simp [bi, visV, c_3, c_7, c_12]; done) | (simp [bi, visV, c_3, c_7, c_12]; omega) | (simp [bi, visV, ← Int32.not_le, c_3, c_7, c_12]; done)), hT9⟩) (fun _ h => nomatch h) dX5_visibleValue_64
      · skip
        refine lv_aload_n S.1 S.2.1 dX5_visibleValue_53 rfl (lv_at hl 2 rfl) ?_
        refine r_get (C := RX5) (T := TX5) (N := 6) (ci := 5) S Z (by omega) (eT ht) rfl i_X5_visibleValue_X5 2 (by decide) m_X5_visibleValue_f15 rfl (v := .ref (gA G (15 + 6 * t + 2))) rfl dX5_visibleValue_54 ?_
        refine lv_iload S.1 S.2.1 dX5_visibleValue_57 (lv_at hl 1 rfl) ?_
        refine r_ialdC S Z (n := 64) (pT ht (by decide) (by decide)) (by omega) (by decide) dX5_visibleValue_59 ?_
        refine lv_goto (tgt := 64) S.1 S.2.1 dX5_visibleValue_60 (by decide) ?_
        rw [hQ]
        exact W.iret (v := cI σ (15 + 6 * t + 2) (row * 4 + col)) S.1 S.2.1 hret (fun _ hT9 _ => ⟨_, rfl, (by first | (simp [bi, visV, c_3, c_7, c_12]; done) | (simp [bi, visV, c_3, c_7, c_12]; omega) | (simp [bi, visV, ← Int32.not_le, c_3, c_7, c_12]; done) | (simp [bi, visV, c_3, c_7, eq_true c_12]; done)), hT9⟩) (fun _ h => nomatch h) dX5_visibleValue_64

theorem i_X5_hasSameEntry_X5 : ∀ w ∈ wsX50, w ∈ wsX5_hasSameEntry := by decide +kernel
theorem m_X5_hasSameEntry_f9 : Cond.fieldLink RX5 9 "WideCell$Table" "stamps" "[I" ∈ wsX5_hasSameEntry := by decide +kernel
theorem m_X5_hasSameEntry_f15 : Cond.fieldLink RX5 15 "WideCell$Table" "values" "[I" ∈ wsX5_hasSameEntry := by decide +kernel
theorem m_X5_hasSameEntry_f18 : Cond.fieldLink RX5 18 "WideCell$Table" "ends" "[I" ∈ wsX5_hasSameEntry := by decide +kernel
abbrev rm_k_X5_hasSameEntry : Room := { frames := 0, cells := 0, slots := 0, locals := 0 }
set_option maxHeartbeats 4000000 in
set_option maxRecDepth 100000 in
theorem k_X5_hasSameEntry (l : Launch) (G : wG) (σ : cS) (μ : mS) (o : Nat → Int64) (t : Nat) (k : Nat) (t2 : Nat) (ht : t < 4) (hk : k < 64) (ht2 : t2 < 4) : Met l yX5_hasSameEntry wsX5_hasSameEntry rm_k_X5_hasSameEntry (wPc G σ μ o [.ref (gA G (15 + 6 * t)), .int (nI k), .ref (gA G (15 + 6 * t2))]) (vp_Si (fun rr => rr = bi (sameE σ t t2 k))) 0 0 (fun _ => False) := by
  refine Met.ofW (cc := cX5_hasSameEntry) (maxL := 3) (ret := (some .boolean)) (by decide) rfl ?_
  intro p e s m args below meth c s₁ B hml hv
  obtain ⟨hargs, hI⟩ := hv
  have S : CallFix p m c cX5_hasSameEntry 3 s args wsX5_hasSameEntry RX5 := ⟨B.exec, B.bytes, hml, findClass_of_methodNamed B.named, atoms_spec (ws := wsX5_hasSameEntry) B.pre⟩
  have hret := B.returns
  have hlocks := B.notSynchronized
  have Z := wZ_0 hI
  clear hI
  obtain ⟨Q, hQ⟩ : ∃ Q, Q = MQ below (vp_Si (fun rr => rr = bi (sameE σ t t2 k))) args s 0 0 (fun _ => False) := ⟨_, rfl⟩
  rw [← hQ]
  have hl := lv_entry [.ref (gA G (15 + 6 * t)), .int (nI k), .ref (gA G (15 + 6 * t2))] (n := 3) (Nat.le_of_ble_eq_true rfl)
  rw [show entryFrame m args 3 = entryFrame m ([.ref (gA G (15 + 6 * t)), .int (nI k), .ref (gA G (15 + 6 * t2))] : List Value).toArray 3 from by rw [hargs], lg_entry_eq]
  generalize (lg_sl [.ref (gA G (15 + 6 * t)), .int (nI k), .ref (gA G (15 + 6 * t2))] ++ List.replicate (3 - (lg_sl [.ref (gA G (15 + 6 * t)), .int (nI k), .ref (gA G (15 + 6 * t2))]).length) Slot.unset).toArray = ls at hl ⊢
  have hl : lv_has ls 3 [(0, .ref (gA G (15 + 6 * t))), (1, .int (nI k)), (2, .ref (gA G (15 + 6 * t2)))] := hl
  refine lv_aload_n S.1 S.2.1 dX5_hasSameEntry_0 rfl (lv_at hl 0 rfl) ?_
  refine r_get (C := RX5) (T := TX5) (N := 6) (ci := 5) S Z (by omega) (eT ht) rfl i_X5_hasSameEntry_X5 1 (by decide) m_X5_hasSameEntry_f9 rfl (v := .ref (gA G (15 + 6 * t + 1))) rfl dX5_hasSameEntry_1 ?_
  refine lv_iload_n S.1 S.2.1 dX5_hasSameEntry_4 rfl (lv_at hl 1 rfl) ?_
  refine r_ialdC S Z (n := 64) (pT ht (by decide) (by decide)) (by omega) (by decide) dX5_hasSameEntry_5 ?_
  refine lv_aload_n S.1 S.2.1 dX5_hasSameEntry_6 rfl (lv_at hl 2 rfl) ?_
  refine r_get (C := RX5) (T := TX5) (N := 6) (ci := 5) S Z (by omega) (eT ht2) rfl i_X5_hasSameEntry_X5 1 (by decide) m_X5_hasSameEntry_f9 rfl (v := .ref (gA G (15 + 6 * t2 + 1))) rfl dX5_hasSameEntry_7 ?_
  refine lv_iload_n S.1 S.2.1 dX5_hasSameEntry_10 rfl (lv_at hl 1 rfl) ?_
  refine r_ialdC S Z (n := 64) (pT ht2 (by decide) (by decide)) (by omega) (by decide) dX5_hasSameEntry_11 ?_
  refine lv_icmp_ne (tgt := 49) S.1 S.2.1 dX5_hasSameEntry_12 (by decide) (fun c_1 => ?_) (fun c_1 => ?_)
  · skip
    refine lv_iconst (v := nI 0) S.1 S.2.1 dX5_hasSameEntry_49 (by decide) ?_
    rw [hQ]
    exact W.zret (v := nI 0) S.1 S.2.1 hret rfl (fun _ hT9 _ => ⟨_, rfl, (by first | (simp [bi, sameE, c_1]; done) | (simp [bi, sameE, c_1]; omega) | (simp [bi, sameE, ← Int32.not_le, c_1]; done)), hT9⟩) (fun _ h => nomatch h) dX5_hasSameEntry_50
  · skip
    refine lv_aload_n S.1 S.2.1 dX5_hasSameEntry_15 rfl (lv_at hl 0 rfl) ?_
    refine r_get (C := RX5) (T := TX5) (N := 6) (ci := 5) S Z (by omega) (eT ht) rfl i_X5_hasSameEntry_X5 2 (by decide) m_X5_hasSameEntry_f15 rfl (v := .ref (gA G (15 + 6 * t + 2))) rfl dX5_hasSameEntry_16 ?_
    refine lv_iload_n S.1 S.2.1 dX5_hasSameEntry_19 rfl (lv_at hl 1 rfl) ?_
    refine r_ialdC S Z (n := 64) (pT ht (by decide) (by decide)) (by omega) (by decide) dX5_hasSameEntry_20 ?_
    refine lv_aload_n S.1 S.2.1 dX5_hasSameEntry_21 rfl (lv_at hl 2 rfl) ?_
    refine r_get (C := RX5) (T := TX5) (N := 6) (ci := 5) S Z (by omega) (eT ht2) rfl i_X5_hasSameEntry_X5 2 (by decide) m_X5_hasSameEntry_f15 rfl (v := .ref (gA G (15 + 6 * t2 + 2))) rfl dX5_hasSameEntry_22 ?_
    refine lv_iload_n S.1 S.2.1 dX5_hasSameEntry_25 rfl (lv_at hl 1 rfl) ?_
    refine r_ialdC S Z (n := 64) (pT ht2 (by decide) (by decide)) (by omega) (by decide) dX5_hasSameEntry_26 ?_
    refine lv_icmp_ne (tgt := 49) S.1 S.2.1 dX5_hasSameEntry_27 (by decide) (fun c_2 => ?_) (fun c_2 => ?_)
    · skip
      refine lv_iconst (v := nI 0) S.1 S.2.1 dX5_hasSameEntry_49 (by decide) ?_
      rw [hQ]
      exact W.zret (v := nI 0) S.1 S.2.1 hret rfl (fun _ hT9 _ => ⟨_, rfl, (by first | (simp [bi, sameE, c_1, c_2]; done) | (simp [bi, sameE, c_1, c_2]; omega) | (simp [bi, sameE, ← Int32.not_le, c_1, c_2]; done) | (simp [bi, sameE, eq_true c_1, c_2]; done)), hT9⟩) (fun _ h => nomatch h) dX5_hasSameEntry_50
    · skip
      refine lv_aload_n S.1 S.2.1 dX5_hasSameEntry_30 rfl (lv_at hl 0 rfl) ?_
      refine r_get (C := RX5) (T := TX5) (N := 6) (ci := 5) S Z (by omega) (eT ht) rfl i_X5_hasSameEntry_X5 3 (by decide) m_X5_hasSameEntry_f18 rfl (v := .ref (gA G (15 + 6 * t + 3))) rfl dX5_hasSameEntry_31 ?_
      refine lv_iload_n S.1 S.2.1 dX5_hasSameEntry_34 rfl (lv_at hl 1 rfl) ?_
      refine r_ialdC S Z (n := 64) (pT ht (by decide) (by decide)) (by omega) (by decide) dX5_hasSameEntry_35 ?_
      refine lv_aload_n S.1 S.2.1 dX5_hasSameEntry_36 rfl (lv_at hl 2 rfl) ?_
      refine r_get (C := RX5) (T := TX5) (N := 6) (ci := 5) S Z (by omega) (eT ht2) rfl i_X5_hasSameEntry_X5 3 (by decide) m_X5_hasSameEntry_f18 rfl (v := .ref (gA G (15 + 6 * t2 + 3))) rfl dX5_hasSameEntry_37 ?_
      refine lv_iload_n S.1 S.2.1 dX5_hasSameEntry_40 rfl (lv_at hl 1 rfl) ?_
      refine r_ialdC S Z (n := 64) (pT ht2 (by decide) (by decide)) (by omega) (by decide) dX5_hasSameEntry_41 ?_
      refine lv_icmp_ne (tgt := 49) S.1 S.2.1 dX5_hasSameEntry_42 (by decide) (fun c_3 => ?_) (fun c_3 => ?_)
      · skip
        refine lv_iconst (v := nI 0) S.1 S.2.1 dX5_hasSameEntry_49 (by decide) ?_
        rw [hQ]
        exact W.zret (v := nI 0) S.1 S.2.1 hret rfl (fun _ hT9 _ => ⟨_, rfl, (by first | (simp [bi, sameE, c_1, c_2, c_3]; done) | (simp [bi, sameE, c_1, c_2, c_3]; omega) | (simp [bi, sameE, ← Int32.not_le, c_1, c_2, c_3]; done) | (simp [bi, sameE, eq_true c_1, eq_true c_2, c_3]; done)), hT9⟩) (fun _ h => nomatch h) dX5_hasSameEntry_50
      · skip
        refine lv_iconst (v := nI 1) S.1 S.2.1 dX5_hasSameEntry_45 (by decide) ?_
        refine lv_goto (tgt := 50) S.1 S.2.1 dX5_hasSameEntry_46 (by decide) ?_
        rw [hQ]
        exact W.zret (v := nI 1) S.1 S.2.1 hret rfl (fun _ hT9 _ => ⟨_, rfl, (by first | (simp [bi, sameE, c_1, c_2, c_3]; done) | (simp [bi, sameE, c_1, c_2, c_3]; omega) | (simp [bi, sameE, ← Int32.not_le, c_1, c_2, c_3]; done) | (simp [bi, sameE, eq_true c_1, eq_true c_2, eq_true c_3]; done)), hT9⟩) (fun _ h => nomatch h) dX5_hasSameEntry_50

theorem i_X5_hasSameTombstone_X5 : ∀ w ∈ wsX50, w ∈ wsX5_hasSameTombstone := by decide +kernel
theorem m_X5_hasSameTombstone_f21 : Cond.fieldLink RX5 21 "WideCell$Table" "burials" "[I" ∈ wsX5_hasSameTombstone := by decide +kernel
theorem m_X5_hasSameTombstone_f24 : Cond.fieldLink RX5 24 "WideCell$Table" "madeAts" "[I" ∈ wsX5_hasSameTombstone := by decide +kernel
abbrev rm_k_X5_hasSameTombstone : Room := { frames := 0, cells := 0, slots := 0, locals := 0 }
set_option maxHeartbeats 4000000 in
set_option maxRecDepth 100000 in
theorem k_X5_hasSameTombstone (l : Launch) (G : wG) (σ : cS) (μ : mS) (o : Nat → Int64) (t : Nat) (k : Nat) (t2 : Nat) (ht : t < 4) (hk : k < 92) (ht2 : t2 < 4) : Met l yX5_hasSameTombstone wsX5_hasSameTombstone rm_k_X5_hasSameTombstone (wPc G σ μ o [.ref (gA G (15 + 6 * t)), .int (nI k), .ref (gA G (15 + 6 * t2))]) (vp_Si (fun rr => rr = bi (sameT σ t t2 k))) 0 0 (fun _ => False) := by
  refine Met.ofW (cc := cX5_hasSameTombstone) (maxL := 3) (ret := (some .boolean)) (by decide) rfl ?_
  intro p e s m args below meth c s₁ B hml hv
  obtain ⟨hargs, hI⟩ := hv
  have S : CallFix p m c cX5_hasSameTombstone 3 s args wsX5_hasSameTombstone RX5 := ⟨B.exec, B.bytes, hml, findClass_of_methodNamed B.named, atoms_spec (ws := wsX5_hasSameTombstone) B.pre⟩
  have hret := B.returns
  have hlocks := B.notSynchronized
  have Z := wZ_0 hI
  clear hI
  obtain ⟨Q, hQ⟩ : ∃ Q, Q = MQ below (vp_Si (fun rr => rr = bi (sameT σ t t2 k))) args s 0 0 (fun _ => False) := ⟨_, rfl⟩
  rw [← hQ]
  have hl := lv_entry [.ref (gA G (15 + 6 * t)), .int (nI k), .ref (gA G (15 + 6 * t2))] (n := 3) (Nat.le_of_ble_eq_true rfl)
  rw [show entryFrame m args 3 = entryFrame m ([.ref (gA G (15 + 6 * t)), .int (nI k), .ref (gA G (15 + 6 * t2))] : List Value).toArray 3 from by rw [hargs], lg_entry_eq]
  generalize (lg_sl [.ref (gA G (15 + 6 * t)), .int (nI k), .ref (gA G (15 + 6 * t2))] ++ List.replicate (3 - (lg_sl [.ref (gA G (15 + 6 * t)), .int (nI k), .ref (gA G (15 + 6 * t2))]).length) Slot.unset).toArray = ls at hl ⊢
  have hl : lv_has ls 3 [(0, .ref (gA G (15 + 6 * t))), (1, .int (nI k)), (2, .ref (gA G (15 + 6 * t2)))] := hl
  refine lv_aload_n S.1 S.2.1 dX5_hasSameTombstone_0 rfl (lv_at hl 0 rfl) ?_
  refine r_get (C := RX5) (T := TX5) (N := 6) (ci := 5) S Z (by omega) (eT ht) rfl i_X5_hasSameTombstone_X5 4 (by decide) m_X5_hasSameTombstone_f21 rfl (v := .ref (gA G (15 + 6 * t + 4))) rfl dX5_hasSameTombstone_1 ?_
  refine lv_iload_n S.1 S.2.1 dX5_hasSameTombstone_4 rfl (lv_at hl 1 rfl) ?_
  refine r_ialdC S Z (n := 92) (pB ht (by decide) (by decide)) (by omega) (by decide) dX5_hasSameTombstone_5 ?_
  refine lv_aload_n S.1 S.2.1 dX5_hasSameTombstone_6 rfl (lv_at hl 2 rfl) ?_
  refine r_get (C := RX5) (T := TX5) (N := 6) (ci := 5) S Z (by omega) (eT ht2) rfl i_X5_hasSameTombstone_X5 4 (by decide) m_X5_hasSameTombstone_f21 rfl (v := .ref (gA G (15 + 6 * t2 + 4))) rfl dX5_hasSameTombstone_7 ?_
  refine lv_iload_n S.1 S.2.1 dX5_hasSameTombstone_10 rfl (lv_at hl 1 rfl) ?_
  refine r_ialdC S Z (n := 92) (pB ht2 (by decide) (by decide)) (by omega) (by decide) dX5_hasSameTombstone_11 ?_
  refine lv_icmp_ne (tgt := 34) S.1 S.2.1 dX5_hasSameTombstone_12 (by decide) (fun c_1 => ?_) (fun c_1 => ?_)
  · skip
    refine lv_iconst (v := nI 0) S.1 S.2.1 dX5_hasSameTombstone_34 (by decide) ?_
    rw [hQ]
    exact W.zret (v := nI 0) S.1 S.2.1 hret rfl (fun _ hT9 _ => ⟨_, rfl, (by first | (simp [bi, sameT, c_1]; done) | (simp [bi, sameT, c_1]; omega) | (simp [bi, sameT, ← Int32.not_le, c_1]; done)), hT9⟩) (fun _ h => nomatch h) dX5_hasSameTombstone_35
  · skip
    refine lv_aload_n S.1 S.2.1 dX5_hasSameTombstone_15 rfl (lv_at hl 0 rfl) ?_
    refine r_get (C := RX5) (T := TX5) (N := 6) (ci := 5) S Z (by omega) (eT ht) rfl i_X5_hasSameTombstone_X5 5 (by decide) m_X5_hasSameTombstone_f24 rfl (v := .ref (gA G (15 + 6 * t + 5))) rfl dX5_hasSameTombstone_16 ?_
    refine lv_iload_n S.1 S.2.1 dX5_hasSameTombstone_19 rfl (lv_at hl 1 rfl) ?_
    refine r_ialdC S Z (n := 92) (pB ht (by decide) (by decide)) (by omega) (by decide) dX5_hasSameTombstone_20 ?_
    refine lv_aload_n S.1 S.2.1 dX5_hasSameTombstone_21 rfl (lv_at hl 2 rfl) ?_
    refine r_get (C := RX5) (T := TX5) (N := 6) (ci := 5) S Z (by omega) (eT ht2) rfl i_X5_hasSameTombstone_X5 5 (by decide) m_X5_hasSameTombstone_f24 rfl (v := .ref (gA G (15 + 6 * t2 + 5))) rfl dX5_hasSameTombstone_22 ?_
    refine lv_iload_n S.1 S.2.1 dX5_hasSameTombstone_25 rfl (lv_at hl 1 rfl) ?_
    refine r_ialdC S Z (n := 92) (pB ht2 (by decide) (by decide)) (by omega) (by decide) dX5_hasSameTombstone_26 ?_
    refine lv_icmp_ne (tgt := 34) S.1 S.2.1 dX5_hasSameTombstone_27 (by decide) (fun c_2 => ?_) (fun c_2 => ?_)
    · skip
      refine lv_iconst (v := nI 0) S.1 S.2.1 dX5_hasSameTombstone_34 (by decide) ?_
      rw [hQ]
      exact W.zret (v := nI 0) S.1 S.2.1 hret rfl (fun _ hT9 _ => ⟨_, rfl, (by first | (simp [bi, sameT, c_1, c_2]; done) | (simp [bi, sameT, c_1, c_2]; omega) | (simp [bi, sameT, ← Int32.not_le, c_1, c_2]; done) | (simp [bi, sameT, eq_true c_1, c_2]; done)), hT9⟩) (fun _ h => nomatch h) dX5_hasSameTombstone_35
    · skip
      refine lv_iconst (v := nI 1) S.1 S.2.1 dX5_hasSameTombstone_30 (by decide) ?_
      refine lv_goto (tgt := 35) S.1 S.2.1 dX5_hasSameTombstone_31 (by decide) ?_
      rw [hQ]
      exact W.zret (v := nI 1) S.1 S.2.1 hret rfl (fun _ hT9 _ => ⟨_, rfl, (by first | (simp [bi, sameT, c_1, c_2]; done) | (simp [bi, sameT, c_1, c_2]; omega) | (simp [bi, sameT, ← Int32.not_le, c_1, c_2]; done) | (simp [bi, sameT, eq_true c_1, eq_true c_2]; done)), hT9⟩) (fun _ h => nomatch h) dX5_hasSameTombstone_35

theorem m_X5_hasSameFor_s53 : Cond.static yX7_cellAt ∈ wsX5_hasSameFor := by decide +kernel
theorem m_X5_hasSameFor_zRX7 : Cond.initialized RX7 ∈ wsX5_hasSameFor := by decide +kernel
abbrev rm_k_X5_hasSameFor : Room := { frames := 2, cells := 0, slots := 0, locals := 46 }
set_option maxHeartbeats 4000000 in
set_option maxRecDepth 100000 in
theorem k_X5_hasSameFor (l : Launch) (G : wG) (σ : cS) (μ : mS) (o : Nat → Int64) (t : Nat) (row : Nat) (col : Nat) (t2 : Nat) (ht : t < 4) (hrow : row < 16) (hcol : col < 4) (ht2 : t2 < 4) : Met l yX5_hasSameFor wsX5_hasSameFor rm_k_X5_hasSameFor (wPc G σ μ o [.ref (gA G (15 + 6 * t)), .int (nI row), .int (nI col), .ref (gA G (15 + 6 * t2))]) (vp_Si (fun rr => rr = bi (sFn σ t t2 row col 11))) 0 0 (fun _ => False) := by
  refine Met.ofW (cc := cX5_hasSameFor) (maxL := 7) (ret := (some .boolean)) (by decide) rfl ?_
  intro p e s m args below meth c s₁ B hml hv
  obtain ⟨hargs, hI⟩ := hv
  have S : CallFix p m c cX5_hasSameFor 7 s args wsX5_hasSameFor RX5 := ⟨B.exec, B.bytes, hml, findClass_of_methodNamed B.named, atoms_spec (ws := wsX5_hasSameFor) B.pre⟩
  have hret := B.returns
  have hlocks := B.notSynchronized
  have Z := wZ_0 hI
  clear hI
  obtain ⟨Q, hQ⟩ : ∃ Q, Q = MQ below (vp_Si (fun rr => rr = bi (sFn σ t t2 row col 11))) args s 0 0 (fun _ => False) := ⟨_, rfl⟩
  rw [← hQ]
  have hl := lv_entry [.ref (gA G (15 + 6 * t)), .int (nI row), .int (nI col), .ref (gA G (15 + 6 * t2))] (n := 7) (Nat.le_of_ble_eq_true rfl)
  rw [show entryFrame m args 7 = entryFrame m ([.ref (gA G (15 + 6 * t)), .int (nI row), .int (nI col), .ref (gA G (15 + 6 * t2))] : List Value).toArray 7 from by rw [hargs], lg_entry_eq]
  generalize (lg_sl [.ref (gA G (15 + 6 * t)), .int (nI row), .int (nI col), .ref (gA G (15 + 6 * t2))] ++ List.replicate (7 - (lg_sl [.ref (gA G (15 + 6 * t)), .int (nI row), .int (nI col), .ref (gA G (15 + 6 * t2))]).length) Slot.unset).toArray = ls at hl ⊢
  have hl : lv_has ls 7 [(0, .ref (gA G (15 + 6 * t))), (1, .int (nI row)), (2, .int (nI col)), (3, .ref (gA G (15 + 6 * t2)))] := hl
  refine lv_aload_n S.1 S.2.1 dX5_hasSameFor_0 rfl (lv_at hl 0 rfl) ?_
  refine lv_iload_n S.1 S.2.1 dX5_hasSameFor_1 rfl (lv_at hl 1 rfl) ?_
  refine lv_iload_n S.1 S.2.1 dX5_hasSameFor_2 rfl (lv_at hl 2 rfl) ?_
  refine vp_callSi (va_runSN (As := [.int (nI row), .int (nI col)]) (rest := [.ref (gA G (15 + 6 * t))]) S (k_X7_cellAt l G σ μ o row col ) ⟨va_cnB 2 S.2.2.2.2 gX5_hasSameFor_X7_cellAt_n53 rfl rfl rfl (Z.2.1.2.1 _ n_RX5_53) (S.2.2.2.2 _ m_X5_hasSameFor_zRX7) hy_X7_cellAt ⟨Nat.le_of_ble_eq_true rfl, Nat.le_of_ble_eq_true rfl⟩, S.2.2.2.2 _ m_X5_hasSameFor_s53, trivial⟩ (wPc_S Z) rfl rfl hl.1 rfl (lv_room (Nat.le_of_ble_eq_true rfl)) dX5_hasSameFor_3 ⟨Nat.le_of_ble_eq_true rfl, Nat.le_of_ble_eq_true rfl⟩).run (fun r_1 h_2 => ?_)
  subst h_2
  refine lv_aload_n S.1 S.2.1 dX5_hasSameFor_6 rfl (lv_at hl 3 rfl) ?_
  refine vp_callSi (va_runV (As := [.int (nI (row * 4 + col)), .ref (gA G (15 + 6 * t2))]) (rest := []) S (k_X5_hasSameEntry l G σ μ o t (row * 4 + col) t2 ht (by omega) ht2) (cwV 2 S.2.2.2.2 gX5_hasSameFor_X5_hasSameEntry rfl rfl rfl ⟨rfl, hy_X5_hasSameEntry⟩ ⟨Nat.le_of_ble_eq_true rfl, Nat.le_of_ble_eq_true rfl⟩) (wPc_V (q := (RX5, TX5, 6)) Z (by omega) (eT ht) rfl) rfl rfl hl.1 rfl (lv_room (Nat.le_of_ble_eq_true rfl)) dX5_hasSameFor_7 ⟨Nat.le_of_ble_eq_true rfl, Nat.le_of_ble_eq_true rfl⟩).run (fun r_3 h_4 => ?_)
  subst h_4
  refine lv_istore (lv' := [(4, .int (bi (sameE σ t t2 (row * 4 + col)))), (0, .ref (gA G (15 + 6 * t))), (1, .int (nI row)), (2, .int (nI col)), (3, .ref (gA G (15 + 6 * t2)))]) S.1 S.2.1 dX5_hasSameFor_10 hl (by decide) rfl (fun ls hl => ?_)
  refine lv_iconst (v := nI 0) S.1 S.2.1 dX5_hasSameFor_12 (by decide) ?_
  refine lv_istore (lv' := [(5, .int (nI 0)), (4, .int (bi (sameE σ t t2 (row * 4 + col)))), (0, .ref (gA G (15 + 6 * t))), (1, .int (nI row)), (2, .int (nI col)), (3, .ref (gA G (15 + 6 * t2)))]) S.1 S.2.1 dX5_hasSameFor_13 hl (by decide) rfl (fun ls hl => ?_)
  have L_15 : ∀ (n : Nat) (i : Nat) (hi : i ≤ 11) (hn : 11 - i < n) (ls : Array Slot) (hl : lv_has ls 7 [(0, .ref (gA G (15 + 6 * t))), (1, .int (nI row)), (2, .int (nI col)), (3, .ref (gA G (15 + 6 * t2))), (4, .int (bi (sFn σ t t2 row col i))), (5, .int (nI i))]), W p l e (headSpec wsX5_hasSameFor rm_k_X5_hasSameFor).room s m args below meth c s.heap [] 0 0 Q (F0 m 15 ls []) := by
    intro n
    induction n with
    | zero => intro i hi hn; omega
    | succ n ih_15 =>
      intro i hi hn ls hl
      refine lv_iload S.1 S.2.1 dX5_hasSameFor_15 (lv_at hl 5 rfl) ?_
      refine lv_bipush (v := nI 11) S.1 S.2.1 dX5_hasSameFor_17 (by decide) ?_
      refine r_icmpN_ge S (tgt := 66) (by omega) (by omega) dX5_hasSameFor_19 (by decide) (fun c_5 => ?_) (fun c_5 => ?_)
      · skip
        obtain rfl : i = 11 := by omega
        refine lv_iload S.1 S.2.1 dX5_hasSameFor_66 (lv_at hl 4 rfl) ?_
        rw [hQ]
        exact W.zret (v := bi (sFn σ t t2 row col 11)) S.1 S.2.1 hret (bi_nar _) (fun _ hT9 _ => ⟨_, rfl, rfl, hT9⟩) (fun _ h => nomatch h) dX5_hasSameFor_68
      · skip
        refine lv_aload_n S.1 S.2.1 dX5_hasSameFor_22 rfl (lv_at hl 0 rfl) ?_
        refine lv_iload_n S.1 S.2.1 dX5_hasSameFor_23 rfl (lv_at hl 1 rfl) ?_
        refine lv_iload_n S.1 S.2.1 dX5_hasSameFor_24 rfl (lv_at hl 2 rfl) ?_
        refine lv_iload S.1 S.2.1 dX5_hasSameFor_25 (lv_at hl 5 rfl) ?_
        refine vp_callSi (va_runV (As := [.int (nI row), .int (nI col), .int (nI i)]) (rest := []) S (k_X5_coverPlace l G σ μ o t row col i ht (by omega) (by omega) (by omega)) (cwV 3 S.2.2.2.2 gX5_hasSameFor_X5_coverPlace rfl rfl rfl ⟨rfl, hy_X5_coverPlace⟩ ⟨Nat.le_of_ble_eq_true rfl, Nat.le_of_ble_eq_true rfl⟩) (wPc_V (q := (RX5, TX5, 6)) Z (by omega) (eT ht) rfl) rfl rfl hl.1 rfl (lv_room (Nat.le_of_ble_eq_true rfl)) dX5_hasSameFor_27 ⟨Nat.le_of_ble_eq_true rfl, Nat.le_of_ble_eq_true rfl⟩).run (fun r_6 h_7 => ?_)
        rcases h_7 with ⟨q0_8, rfl⟩ | ⟨pl_11, q0_8, q1_10, rfl⟩
        · skip
          refine lv_istore (lv' := [(6, .int (-1)), (0, .ref (gA G (15 + 6 * t))), (1, .int (nI row)), (2, .int (nI col)), (3, .ref (gA G (15 + 6 * t2))), (4, .int (bi (sFn σ t t2 row col i))), (5, .int (nI i))]) S.1 S.2.1 dX5_hasSameFor_30 hl (by decide) rfl (fun ls hl => ?_)
          refine lv_iload S.1 S.2.1 dX5_hasSameFor_32 (lv_at hl 5 rfl) ?_
          refine r_if_eqB S (tgt := 57) dX5_hasSameFor_34 (by decide) (fun c_12 => ?_) (fun c_12 => ?_)
          · skip
            refine lv_iconst (v := nI 0) S.1 S.2.1 dX5_hasSameFor_57 (by decide) ?_
            refine lv_istore (lv' := [(4, .int (nI 0)), (6, .int (-1)), (0, .ref (gA G (15 + 6 * t))), (1, .int (nI row)), (2, .int (nI col)), (3, .ref (gA G (15 + 6 * t2))), (5, .int (nI i))]) S.1 S.2.1 dX5_hasSameFor_58 hl (by decide) rfl (fun ls hl => ?_)
            refine lv_iinc (v := nI (i + 1)) (lv' := [(5, .int (nI (i + 1))), (4, .int (nI 0)), (6, .int (-1)), (0, .ref (gA G (15 + 6 * t))), (1, .int (nI row)), (2, .int (nI col)), (3, .ref (gA G (15 + 6 * t2)))]) S.1 S.2.1 dX5_hasSameFor_60 hl (k := 6) rfl (nI_inc rfl) (by decide) rfl (fun ls hl => ?_)
            refine lv_goto (tgt := 15) S.1 S.2.1 dX5_hasSameFor_63 (by decide) ?_
            have q_13 : (bi (sFn σ t t2 row col (i + 1)) : Int32) = nI 0 := by first | (first | (simp [bi, sFn, hi, c_5, q0_8, c_12]; done) | (simp [bi, sFn, hi, c_5, q0_8, c_12]; omega) | (simp [bi, sFn, ← Int32.not_le, hi, c_5, q0_8, c_12]; done) | (simp [bi, sFn, hi, c_5, q0_8, eq_true c_12]; done)) | rfl
            have hl : lv_has ls 7 [(0, .ref (gA G (15 + 6 * t))), (1, .int (nI row)), (2, .int (nI col)), (3, .ref (gA G (15 + 6 * t2))), (4, .int (bi (sFn σ t t2 row col (i + 1)))), (5, .int (nI (i + 1)))] := by
              have hl := lv_sub hl [3, 4, 5, 6, 1, 0] rfl
              rw [q_13]; exact hl
            exact ih_15 (i + 1) (by omega) (by omega) ls (hl)
          · skip
            refine lv_iload S.1 S.2.1 dX5_hasSameFor_37 (lv_at hl 0 rfl) ?_
            refine lv_iconst (v := -1) S.1 S.2.1 dX5_hasSameFor_39 (by decide) ?_
            refine lv_icmp_eq (tgt := 53) S.1 S.2.1 dX5_hasSameFor_40 (by decide) (fun c_14 => ?_) (fun c_14 => absurd rfl c_14)
            refine lv_iconst (v := nI 1) S.1 S.2.1 dX5_hasSameFor_53 (by decide) ?_
            refine lv_goto (tgt := 58) S.1 S.2.1 dX5_hasSameFor_54 (by decide) ?_
            refine lv_istore (lv' := [(4, .int (nI 1)), (6, .int (-1)), (0, .ref (gA G (15 + 6 * t))), (1, .int (nI row)), (2, .int (nI col)), (3, .ref (gA G (15 + 6 * t2))), (5, .int (nI i))]) S.1 S.2.1 dX5_hasSameFor_58 hl (by decide) rfl (fun ls hl => ?_)
            refine lv_iinc (v := nI (i + 1)) (lv' := [(5, .int (nI (i + 1))), (4, .int (nI 1)), (6, .int (-1)), (0, .ref (gA G (15 + 6 * t))), (1, .int (nI row)), (2, .int (nI col)), (3, .ref (gA G (15 + 6 * t2)))]) S.1 S.2.1 dX5_hasSameFor_60 hl (k := 6) rfl (nI_inc rfl) (by decide) rfl (fun ls hl => ?_)
            refine lv_goto (tgt := 15) S.1 S.2.1 dX5_hasSameFor_63 (by decide) ?_
            have q_15 : (bi (sFn σ t t2 row col (i + 1)) : Int32) = nI 1 := by first | (first | (simp [bi, sFn, hi, c_5, q0_8, c_12]; done) | (simp [bi, sFn, hi, c_5, q0_8, c_12]; omega) | (simp [bi, sFn, ← Int32.not_le, hi, c_5, q0_8, c_12]; done)) | rfl
            have hl : lv_has ls 7 [(0, .ref (gA G (15 + 6 * t))), (1, .int (nI row)), (2, .int (nI col)), (3, .ref (gA G (15 + 6 * t2))), (4, .int (bi (sFn σ t t2 row col (i + 1)))), (5, .int (nI (i + 1)))] := by
              have hl := lv_sub hl [3, 4, 5, 6, 1, 0] rfl
              rw [q_15]; exact hl
            exact ih_15 (i + 1) (by omega) (by omega) ls (hl)
        · skip
          refine lv_istore (lv' := [(6, .int (nI pl_11)), (0, .ref (gA G (15 + 6 * t))), (1, .int (nI row)), (2, .int (nI col)), (3, .ref (gA G (15 + 6 * t2))), (4, .int (bi (sFn σ t t2 row col i))), (5, .int (nI i))]) S.1 S.2.1 dX5_hasSameFor_30 hl (by decide) rfl (fun ls hl => ?_)
          refine lv_iload S.1 S.2.1 dX5_hasSameFor_32 (lv_at hl 5 rfl) ?_
          refine r_if_eqB S (tgt := 57) dX5_hasSameFor_34 (by decide) (fun c_16 => ?_) (fun c_16 => ?_)
          · skip
            refine lv_iconst (v := nI 0) S.1 S.2.1 dX5_hasSameFor_57 (by decide) ?_
            refine lv_istore (lv' := [(4, .int (nI 0)), (6, .int (nI pl_11)), (0, .ref (gA G (15 + 6 * t))), (1, .int (nI row)), (2, .int (nI col)), (3, .ref (gA G (15 + 6 * t2))), (5, .int (nI i))]) S.1 S.2.1 dX5_hasSameFor_58 hl (by decide) rfl (fun ls hl => ?_)
            refine lv_iinc (v := nI (i + 1)) (lv' := [(5, .int (nI (i + 1))), (4, .int (nI 0)), (6, .int (nI pl_11)), (0, .ref (gA G (15 + 6 * t))), (1, .int (nI row)), (2, .int (nI col)), (3, .ref (gA G (15 + 6 * t2)))]) S.1 S.2.1 dX5_hasSameFor_60 hl (k := 6) rfl (nI_inc rfl) (by decide) rfl (fun ls hl => ?_)
            refine lv_goto (tgt := 15) S.1 S.2.1 dX5_hasSameFor_63 (by decide) ?_
            have q_17 : (bi (sFn σ t t2 row col (i + 1)) : Int32) = nI 0 := by first | (first | (simp [bi, sFn, hi, c_5, q0_8, q1_10, c_16]; done) | (simp [bi, sFn, hi, c_5, q0_8, q1_10, c_16]; omega) | (simp [bi, sFn, ← Int32.not_le, hi, c_5, q0_8, q1_10, c_16]; done) | (simp [bi, sFn, hi, c_5, q0_8, q1_10, eq_true c_16]; done)) | rfl
            have hl : lv_has ls 7 [(0, .ref (gA G (15 + 6 * t))), (1, .int (nI row)), (2, .int (nI col)), (3, .ref (gA G (15 + 6 * t2))), (4, .int (bi (sFn σ t t2 row col (i + 1)))), (5, .int (nI (i + 1)))] := by
              have hl := lv_sub hl [3, 4, 5, 6, 1, 0] rfl
              rw [q_17]; exact hl
            exact ih_15 (i + 1) (by omega) (by omega) ls (hl)
          · skip
            refine lv_iload S.1 S.2.1 dX5_hasSameFor_37 (lv_at hl 0 rfl) ?_
            refine lv_iconst (v := -1) S.1 S.2.1 dX5_hasSameFor_39 (by decide) ?_
            refine lv_icmp_eq (tgt := 53) S.1 S.2.1 dX5_hasSameFor_40 (by decide) (fun c_18 => absurd c_18 (nI_nm1 (by omega))) (fun c_18 => ?_)
            refine lv_aload_n S.1 S.2.1 dX5_hasSameFor_43 rfl (lv_at hl 1 rfl) ?_
            refine lv_iload S.1 S.2.1 dX5_hasSameFor_44 (lv_at hl 0 rfl) ?_
            refine lv_aload_n S.1 S.2.1 dX5_hasSameFor_46 rfl (lv_at hl 4 rfl) ?_
            refine vp_callSi (va_runV (As := [.int (nI pl_11), .ref (gA G (15 + 6 * t2))]) (rest := []) S (k_X5_hasSameTombstone l G σ μ o t pl_11 t2 ht (by omega) ht2) (cwV 2 S.2.2.2.2 gX5_hasSameFor_X5_hasSameTombstone rfl rfl rfl ⟨rfl, hy_X5_hasSameTombstone⟩ ⟨Nat.le_of_ble_eq_true rfl, Nat.le_of_ble_eq_true rfl⟩) (wPc_V (q := (RX5, TX5, 6)) Z (by omega) (eT ht) rfl) rfl rfl hl.1 rfl (lv_room (Nat.le_of_ble_eq_true rfl)) dX5_hasSameFor_47 ⟨Nat.le_of_ble_eq_true rfl, Nat.le_of_ble_eq_true rfl⟩).run (fun r_19 h_20 => ?_)
            subst h_20
            refine r_if_eqB S (tgt := 57) dX5_hasSameFor_50 (by decide) (fun c_21 => ?_) (fun c_21 => ?_)
            · skip
              refine lv_iconst (v := nI 0) S.1 S.2.1 dX5_hasSameFor_57 (by decide) ?_
              refine lv_istore (lv' := [(4, .int (nI 0)), (6, .int (nI pl_11)), (0, .ref (gA G (15 + 6 * t))), (1, .int (nI row)), (2, .int (nI col)), (3, .ref (gA G (15 + 6 * t2))), (5, .int (nI i))]) S.1 S.2.1 dX5_hasSameFor_58 hl (by decide) rfl (fun ls hl => ?_)
              refine lv_iinc (v := nI (i + 1)) (lv' := [(5, .int (nI (i + 1))), (4, .int (nI 0)), (6, .int (nI pl_11)), (0, .ref (gA G (15 + 6 * t))), (1, .int (nI row)), (2, .int (nI col)), (3, .ref (gA G (15 + 6 * t2)))]) S.1 S.2.1 dX5_hasSameFor_60 hl (k := 6) rfl (nI_inc rfl) (by decide) rfl (fun ls hl => ?_)
              refine lv_goto (tgt := 15) S.1 S.2.1 dX5_hasSameFor_63 (by decide) ?_
              have q_22 : (bi (sFn σ t t2 row col (i + 1)) : Int32) = nI 0 := by first | (first | (simp [bi, sFn, hi, c_5, q0_8, q1_10, c_16, c_21]; done) | (simp [bi, sFn, hi, c_5, q0_8, q1_10, c_16, c_21]; omega) | (simp [bi, sFn, ← Int32.not_le, hi, c_5, q0_8, q1_10, c_16, c_21]; done) | (simp [bi, sFn, hi, c_5, q0_8, q1_10, c_16, eq_true c_21]; done)) | rfl
              have hl : lv_has ls 7 [(0, .ref (gA G (15 + 6 * t))), (1, .int (nI row)), (2, .int (nI col)), (3, .ref (gA G (15 + 6 * t2))), (4, .int (bi (sFn σ t t2 row col (i + 1)))), (5, .int (nI (i + 1)))] := by
                have hl := lv_sub hl [3, 4, 5, 6, 1, 0] rfl
                rw [q_22]; exact hl
              exact ih_15 (i + 1) (by omega) (by omega) ls (hl)
            · skip
              refine lv_iconst (v := nI 1) S.1 S.2.1 dX5_hasSameFor_53 (by decide) ?_
              refine lv_goto (tgt := 58) S.1 S.2.1 dX5_hasSameFor_54 (by decide) ?_
              refine lv_istore (lv' := [(4, .int (nI 1)), (6, .int (nI pl_11)), (0, .ref (gA G (15 + 6 * t))), (1, .int (nI row)), (2, .int (nI col)), (3, .ref (gA G (15 + 6 * t2))), (5, .int (nI i))]) S.1 S.2.1 dX5_hasSameFor_58 hl (by decide) rfl (fun ls hl => ?_)
              refine lv_iinc (v := nI (i + 1)) (lv' := [(5, .int (nI (i + 1))), (4, .int (nI 1)), (6, .int (nI pl_11)), (0, .ref (gA G (15 + 6 * t))), (1, .int (nI row)), (2, .int (nI col)), (3, .ref (gA G (15 + 6 * t2)))]) S.1 S.2.1 dX5_hasSameFor_60 hl (k := 6) rfl (nI_inc rfl) (by decide) rfl (fun ls hl => ?_)
              refine lv_goto (tgt := 15) S.1 S.2.1 dX5_hasSameFor_63 (by decide) ?_
              have q_23 : (bi (sFn σ t t2 row col (i + 1)) : Int32) = nI 1 := by first | (first | (simp [bi, sFn, hi, c_5, q0_8, q1_10, c_16, c_21]; done) | (simp [bi, sFn, hi, c_5, q0_8, q1_10, c_16, c_21]; omega) | (simp [bi, sFn, ← Int32.not_le, hi, c_5, q0_8, q1_10, c_16, c_21]; done)) | rfl
              have hl : lv_has ls 7 [(0, .ref (gA G (15 + 6 * t))), (1, .int (nI row)), (2, .int (nI col)), (3, .ref (gA G (15 + 6 * t2))), (4, .int (bi (sFn σ t t2 row col (i + 1)))), (5, .int (nI (i + 1)))] := by
                have hl := lv_sub hl [3, 4, 5, 6, 1, 0] rfl
                rw [q_23]; exact hl
              exact ih_15 (i + 1) (by omega) (by omega) ls (hl)
  have q_24 : (bi (sFn σ t t2 row col 0) : Int32) = bi (sameE σ t t2 (row * 4 + col)) := by first | rfl | (first | (simp [bi, sFn]; done) | (simp [bi, sFn]; omega) | (simp [bi, sFn, ← Int32.not_le]; done))
  have hl : lv_has ls 7 [(0, .ref (gA G (15 + 6 * t))), (1, .int (nI row)), (2, .int (nI col)), (3, .ref (gA G (15 + 6 * t2))), (4, .int (bi (sFn σ t t2 row col 0))), (5, .int (nI 0))] := by
    have hl := lv_sub hl [2, 3, 4, 5, 1, 0] rfl
    rw [q_24]; exact hl
  exact L_15 (11 - 0 + 1) 0 (by omega) (by omega) ls (hl)

abbrev rm_k_X5_hasSameAs : Room := { frames := 1, cells := 0, slots := 0, locals := 22 }
set_option maxHeartbeats 4000000 in
set_option maxRecDepth 100000 in
theorem k_X5_hasSameAs (l : Launch) (G : wG) (σ : cS) (μ : mS) (o : Nat → Int64) (t : Nat) (t2 : Nat) (ht : t < 4) (ht2 : t2 < 4) : Met l yX5_hasSameAs wsX5_hasSameAs rm_k_X5_hasSameAs (wPc G σ μ o [.ref (gA G (15 + 6 * t)), .ref (gA G (15 + 6 * t2))]) (vp_Si (fun rr => rr = bi (sEn σ t t2 64 && sTn σ t t2 92))) 0 0 (fun _ => False) := by
  refine Met.ofW (cc := cX5_hasSameAs) (maxL := 4) (ret := (some .boolean)) (by decide) rfl ?_
  intro p e s m args below meth c s₁ B hml hv
  obtain ⟨hargs, hI⟩ := hv
  have S : CallFix p m c cX5_hasSameAs 4 s args wsX5_hasSameAs RX5 := ⟨B.exec, B.bytes, hml, findClass_of_methodNamed B.named, atoms_spec (ws := wsX5_hasSameAs) B.pre⟩
  have hret := B.returns
  have hlocks := B.notSynchronized
  have Z := wZ_0 hI
  clear hI
  obtain ⟨Q, hQ⟩ : ∃ Q, Q = MQ below (vp_Si (fun rr => rr = bi (sEn σ t t2 64 && sTn σ t t2 92))) args s 0 0 (fun _ => False) := ⟨_, rfl⟩
  rw [← hQ]
  have hl := lv_entry [.ref (gA G (15 + 6 * t)), .ref (gA G (15 + 6 * t2))] (n := 4) (Nat.le_of_ble_eq_true rfl)
  rw [show entryFrame m args 4 = entryFrame m ([.ref (gA G (15 + 6 * t)), .ref (gA G (15 + 6 * t2))] : List Value).toArray 4 from by rw [hargs], lg_entry_eq]
  generalize (lg_sl [.ref (gA G (15 + 6 * t)), .ref (gA G (15 + 6 * t2))] ++ List.replicate (4 - (lg_sl [.ref (gA G (15 + 6 * t)), .ref (gA G (15 + 6 * t2))]).length) Slot.unset).toArray = ls at hl ⊢
  have hl : lv_has ls 4 [(0, .ref (gA G (15 + 6 * t))), (1, .ref (gA G (15 + 6 * t2)))] := hl
  refine lv_iconst (v := nI 1) S.1 S.2.1 dX5_hasSameAs_0 (by decide) ?_
  refine lv_istore_n (lv' := [(2, .int (nI 1)), (0, .ref (gA G (15 + 6 * t))), (1, .ref (gA G (15 + 6 * t2)))]) S.1 S.2.1 dX5_hasSameAs_1 rfl hl (by decide) rfl (fun ls hl => ?_)
  refine lv_iconst (v := nI 0) S.1 S.2.1 dX5_hasSameAs_2 (by decide) ?_
  refine lv_istore_n (lv' := [(3, .int (nI 0)), (2, .int (nI 1)), (0, .ref (gA G (15 + 6 * t))), (1, .ref (gA G (15 + 6 * t2)))]) S.1 S.2.1 dX5_hasSameAs_3 rfl hl (by decide) rfl (fun ls hl => ?_)
  have L_4 : ∀ (n : Nat) (i : Nat) (hi : i ≤ 64) (hn : 64 - i < n) (ls : Array Slot) (hl : lv_has ls 4 [(0, .ref (gA G (15 + 6 * t))), (1, .ref (gA G (15 + 6 * t2))), (2, .int (bi (sEn σ t t2 i))), (3, .int (nI i))]), W p l e (headSpec wsX5_hasSameAs rm_k_X5_hasSameAs).room s m args below meth c s.heap [] 0 0 Q (F0 m 4 ls []) := by
    intro n
    induction n with
    | zero => intro i hi hn; omega
    | succ n ih_4 =>
      intro i hi hn ls hl
      refine lv_iload_n S.1 S.2.1 dX5_hasSameAs_4 rfl (lv_at hl 3 rfl) ?_
      refine lv_bipush (v := nI 64) S.1 S.2.1 dX5_hasSameAs_5 (by decide) ?_
      refine r_icmpN_ge S (tgt := 35) (by omega) (by omega) dX5_hasSameAs_7 (by decide) (fun c_1 => ?_) (fun c_1 => ?_)
      · skip
        obtain rfl : i = 64 := by omega
        refine lv_iconst (v := nI 0) S.1 S.2.1 dX5_hasSameAs_35 (by decide) ?_
        refine lv_istore_n (lv' := [(3, .int (nI 0)), (0, .ref (gA G (15 + 6 * t))), (1, .ref (gA G (15 + 6 * t2))), (2, .int (bi (sEn σ t t2 64)))]) S.1 S.2.1 dX5_hasSameAs_36 rfl hl (by decide) rfl (fun ls hl => ?_)
        have L_37 : ∀ (n : Nat) (j : Nat) (hj : j ≤ 92) (hn : 92 - j < n) (ls : Array Slot) (hl : lv_has ls 4 [(0, .ref (gA G (15 + 6 * t))), (1, .ref (gA G (15 + 6 * t2))), (2, .int (bi (sEn σ t t2 64 && sTn σ t t2 j))), (3, .int (nI j))]), W p l e (headSpec wsX5_hasSameAs rm_k_X5_hasSameAs).room s m args below meth c s.heap [] 0 0 Q (F0 m 37 ls []) := by
          intro n
          induction n with
          | zero => intro j hj hn; omega
          | succ n ih_37 =>
            intro j hj hn ls hl
            refine lv_iload_n S.1 S.2.1 dX5_hasSameAs_37 rfl (lv_at hl 3 rfl) ?_
            refine lv_bipush (v := nI 92) S.1 S.2.1 dX5_hasSameAs_38 (by decide) ?_
            refine r_icmpN_ge S (tgt := 68) (by omega) (by omega) dX5_hasSameAs_40 (by decide) (fun c_2 => ?_) (fun c_2 => ?_)
            · skip
              obtain rfl : j = 92 := by omega
              refine lv_iload_n S.1 S.2.1 dX5_hasSameAs_68 rfl (lv_at hl 2 rfl) ?_
              rw [hQ]
              exact W.zret (v := bi (sEn σ t t2 64 && sTn σ t t2 92)) S.1 S.2.1 hret (bi_nar _) (fun _ hT9 _ => ⟨_, rfl, rfl, hT9⟩) (fun _ h => nomatch h) dX5_hasSameAs_69
            · skip
              refine lv_iload_n S.1 S.2.1 dX5_hasSameAs_43 rfl (lv_at hl 2 rfl) ?_
              refine r_if_eqB S (tgt := 60) dX5_hasSameAs_44 (by decide) (fun c_3 => ?_) (fun c_3 => ?_)
              · skip
                refine lv_iconst (v := nI 0) S.1 S.2.1 dX5_hasSameAs_60 (by decide) ?_
                refine lv_istore_n (lv' := [(2, .int (nI 0)), (0, .ref (gA G (15 + 6 * t))), (1, .ref (gA G (15 + 6 * t2))), (3, .int (nI j))]) S.1 S.2.1 dX5_hasSameAs_61 rfl hl (by decide) rfl (fun ls hl => ?_)
                refine lv_iinc (v := nI (j + 1)) (lv' := [(3, .int (nI (j + 1))), (2, .int (nI 0)), (0, .ref (gA G (15 + 6 * t))), (1, .ref (gA G (15 + 6 * t2)))]) S.1 S.2.1 dX5_hasSameAs_62 hl (k := 3) rfl (nI_inc rfl) (by decide) rfl (fun ls hl => ?_)
                refine lv_goto (tgt := 37) S.1 S.2.1 dX5_hasSameAs_65 (by decide) ?_
                have q_4 : (bi (sEn σ t t2 64 && sTn σ t t2 (j + 1)) : Int32) = nI 0 := by (clear Z S hl ih_37 B hret; cases h1 : sEn σ t t2 64 <;> cases h2 : sTn σ t t2 j <;> simp_all [bi, sTn])
                have hl : lv_has ls 4 [(0, .ref (gA G (15 + 6 * t))), (1, .ref (gA G (15 + 6 * t2))), (2, .int (bi (sEn σ t t2 64 && sTn σ t t2 (j + 1)))), (3, .int (nI (j + 1)))] := by
                  have hl := lv_sub hl [2, 3, 1, 0] rfl
                  rw [q_4]; exact hl
                exact ih_37 (j + 1) (by omega) (by omega) ls (hl)
              · skip
                refine lv_aload_n S.1 S.2.1 dX5_hasSameAs_47 rfl (lv_at hl 0 rfl) ?_
                refine lv_iload_n S.1 S.2.1 dX5_hasSameAs_48 rfl (lv_at hl 3 rfl) ?_
                refine lv_aload_n S.1 S.2.1 dX5_hasSameAs_49 rfl (lv_at hl 1 rfl) ?_
                refine vp_callSi (va_runV (As := [.int (nI j), .ref (gA G (15 + 6 * t2))]) (rest := []) S (k_X5_hasSameTombstone l G σ μ o t j t2 ht (by omega) ht2) (cwV 2 S.2.2.2.2 gX5_hasSameAs_X5_hasSameTombstone rfl rfl rfl ⟨rfl, hy_X5_hasSameTombstone⟩ ⟨Nat.le_of_ble_eq_true rfl, Nat.le_of_ble_eq_true rfl⟩) (wPc_V (q := (RX5, TX5, 6)) Z (by omega) (eT ht) rfl) rfl rfl hl.1 rfl (lv_room (Nat.le_of_ble_eq_true rfl)) dX5_hasSameAs_50 ⟨Nat.le_of_ble_eq_true rfl, Nat.le_of_ble_eq_true rfl⟩).run (fun r_5 h_6 => ?_)
                subst h_6
                refine r_if_eqB S (tgt := 60) dX5_hasSameAs_53 (by decide) (fun c_7 => ?_) (fun c_7 => ?_)
                · skip
                  refine lv_iconst (v := nI 0) S.1 S.2.1 dX5_hasSameAs_60 (by decide) ?_
                  refine lv_istore_n (lv' := [(2, .int (nI 0)), (0, .ref (gA G (15 + 6 * t))), (1, .ref (gA G (15 + 6 * t2))), (3, .int (nI j))]) S.1 S.2.1 dX5_hasSameAs_61 rfl hl (by decide) rfl (fun ls hl => ?_)
                  refine lv_iinc (v := nI (j + 1)) (lv' := [(3, .int (nI (j + 1))), (2, .int (nI 0)), (0, .ref (gA G (15 + 6 * t))), (1, .ref (gA G (15 + 6 * t2)))]) S.1 S.2.1 dX5_hasSameAs_62 hl (k := 3) rfl (nI_inc rfl) (by decide) rfl (fun ls hl => ?_)
                  refine lv_goto (tgt := 37) S.1 S.2.1 dX5_hasSameAs_65 (by decide) ?_
                  have q_8 : (bi (sEn σ t t2 64 && sTn σ t t2 (j + 1)) : Int32) = nI 0 := by (clear Z S hl ih_37 B hret; cases h1 : sEn σ t t2 64 <;> cases h2 : sTn σ t t2 j <;> simp_all [bi, sTn])
                  have hl : lv_has ls 4 [(0, .ref (gA G (15 + 6 * t))), (1, .ref (gA G (15 + 6 * t2))), (2, .int (bi (sEn σ t t2 64 && sTn σ t t2 (j + 1)))), (3, .int (nI (j + 1)))] := by
                    have hl := lv_sub hl [2, 3, 1, 0] rfl
                    rw [q_8]; exact hl
                  exact ih_37 (j + 1) (by omega) (by omega) ls (hl)
                · skip
                  refine lv_iconst (v := nI 1) S.1 S.2.1 dX5_hasSameAs_56 (by decide) ?_
                  refine lv_goto (tgt := 61) S.1 S.2.1 dX5_hasSameAs_57 (by decide) ?_
                  refine lv_istore_n (lv' := [(2, .int (nI 1)), (0, .ref (gA G (15 + 6 * t))), (1, .ref (gA G (15 + 6 * t2))), (3, .int (nI j))]) S.1 S.2.1 dX5_hasSameAs_61 rfl hl (by decide) rfl (fun ls hl => ?_)
                  refine lv_iinc (v := nI (j + 1)) (lv' := [(3, .int (nI (j + 1))), (2, .int (nI 1)), (0, .ref (gA G (15 + 6 * t))), (1, .ref (gA G (15 + 6 * t2)))]) S.1 S.2.1 dX5_hasSameAs_62 hl (k := 3) rfl (nI_inc rfl) (by decide) rfl (fun ls hl => ?_)
                  refine lv_goto (tgt := 37) S.1 S.2.1 dX5_hasSameAs_65 (by decide) ?_
                  have q_9 : (bi (sEn σ t t2 64 && sTn σ t t2 (j + 1)) : Int32) = nI 1 := by (clear Z S hl ih_37 B hret; cases h1 : sEn σ t t2 64 <;> cases h2 : sTn σ t t2 j <;> simp_all [bi, sTn])
                  have hl : lv_has ls 4 [(0, .ref (gA G (15 + 6 * t))), (1, .ref (gA G (15 + 6 * t2))), (2, .int (bi (sEn σ t t2 64 && sTn σ t t2 (j + 1)))), (3, .int (nI (j + 1)))] := by
                    have hl := lv_sub hl [2, 3, 1, 0] rfl
                    rw [q_9]; exact hl
                  exact ih_37 (j + 1) (by omega) (by omega) ls (hl)
        have q_10 : (bi (sEn σ t t2 64 && sTn σ t t2 0) : Int32) = bi (sEn σ t t2 64) := by first | rfl | (first | (simp [bi, sTn, hi, c_1]; done) | (simp [bi, sTn, hi, c_1]; omega) | (simp [bi, sTn, ← Int32.not_le, hi, c_1]; done))
        have hl : lv_has ls 4 [(0, .ref (gA G (15 + 6 * t))), (1, .ref (gA G (15 + 6 * t2))), (2, .int (bi (sEn σ t t2 64 && sTn σ t t2 0))), (3, .int (nI 0))] := by
          have hl := lv_sub hl [1, 2, 3, 0] rfl
          rw [q_10]; exact hl
        exact L_37 (92 - 0 + 1) 0 (by omega) (by omega) ls (hl)
      · skip
        refine lv_iload_n S.1 S.2.1 dX5_hasSameAs_10 rfl (lv_at hl 2 rfl) ?_
        refine r_if_eqB S (tgt := 27) dX5_hasSameAs_11 (by decide) (fun c_11 => ?_) (fun c_11 => ?_)
        · skip
          refine lv_iconst (v := nI 0) S.1 S.2.1 dX5_hasSameAs_27 (by decide) ?_
          refine lv_istore_n (lv' := [(2, .int (nI 0)), (0, .ref (gA G (15 + 6 * t))), (1, .ref (gA G (15 + 6 * t2))), (3, .int (nI i))]) S.1 S.2.1 dX5_hasSameAs_28 rfl hl (by decide) rfl (fun ls hl => ?_)
          refine lv_iinc (v := nI (i + 1)) (lv' := [(3, .int (nI (i + 1))), (2, .int (nI 0)), (0, .ref (gA G (15 + 6 * t))), (1, .ref (gA G (15 + 6 * t2)))]) S.1 S.2.1 dX5_hasSameAs_29 hl (k := 3) rfl (nI_inc rfl) (by decide) rfl (fun ls hl => ?_)
          refine lv_goto (tgt := 4) S.1 S.2.1 dX5_hasSameAs_32 (by decide) ?_
          have q_12 : (bi (sEn σ t t2 (i + 1)) : Int32) = nI 0 := by first | (first | (simp [bi, sEn, hi, c_1, c_11]; done) | (simp [bi, sEn, hi, c_1, c_11]; omega) | (simp [bi, sEn, ← Int32.not_le, hi, c_1, c_11]; done) | (simp [bi, sEn, hi, c_1, eq_true c_11]; done)) | rfl
          have hl : lv_has ls 4 [(0, .ref (gA G (15 + 6 * t))), (1, .ref (gA G (15 + 6 * t2))), (2, .int (bi (sEn σ t t2 (i + 1)))), (3, .int (nI (i + 1)))] := by
            have hl := lv_sub hl [2, 3, 1, 0] rfl
            rw [q_12]; exact hl
          exact ih_4 (i + 1) (by omega) (by omega) ls (hl)
        · skip
          refine lv_aload_n S.1 S.2.1 dX5_hasSameAs_14 rfl (lv_at hl 0 rfl) ?_
          refine lv_iload_n S.1 S.2.1 dX5_hasSameAs_15 rfl (lv_at hl 3 rfl) ?_
          refine lv_aload_n S.1 S.2.1 dX5_hasSameAs_16 rfl (lv_at hl 1 rfl) ?_
          refine vp_callSi (va_runV (As := [.int (nI i), .ref (gA G (15 + 6 * t2))]) (rest := []) S (k_X5_hasSameEntry l G σ μ o t i t2 ht (by omega) ht2) (cwV 2 S.2.2.2.2 gX5_hasSameAs_X5_hasSameEntry rfl rfl rfl ⟨rfl, hy_X5_hasSameEntry⟩ ⟨Nat.le_of_ble_eq_true rfl, Nat.le_of_ble_eq_true rfl⟩) (wPc_V (q := (RX5, TX5, 6)) Z (by omega) (eT ht) rfl) rfl rfl hl.1 rfl (lv_room (Nat.le_of_ble_eq_true rfl)) dX5_hasSameAs_17 ⟨Nat.le_of_ble_eq_true rfl, Nat.le_of_ble_eq_true rfl⟩).run (fun r_13 h_14 => ?_)
          subst h_14
          refine r_if_eqB S (tgt := 27) dX5_hasSameAs_20 (by decide) (fun c_15 => ?_) (fun c_15 => ?_)
          · skip
            refine lv_iconst (v := nI 0) S.1 S.2.1 dX5_hasSameAs_27 (by decide) ?_
            refine lv_istore_n (lv' := [(2, .int (nI 0)), (0, .ref (gA G (15 + 6 * t))), (1, .ref (gA G (15 + 6 * t2))), (3, .int (nI i))]) S.1 S.2.1 dX5_hasSameAs_28 rfl hl (by decide) rfl (fun ls hl => ?_)
            refine lv_iinc (v := nI (i + 1)) (lv' := [(3, .int (nI (i + 1))), (2, .int (nI 0)), (0, .ref (gA G (15 + 6 * t))), (1, .ref (gA G (15 + 6 * t2)))]) S.1 S.2.1 dX5_hasSameAs_29 hl (k := 3) rfl (nI_inc rfl) (by decide) rfl (fun ls hl => ?_)
            refine lv_goto (tgt := 4) S.1 S.2.1 dX5_hasSameAs_32 (by decide) ?_
            have q_16 : (bi (sEn σ t t2 (i + 1)) : Int32) = nI 0 := by first | (first | (simp [bi, sEn, hi, c_1, c_11, c_15]; done) | (simp [bi, sEn, hi, c_1, c_11, c_15]; omega) | (simp [bi, sEn, ← Int32.not_le, hi, c_1, c_11, c_15]; done) | (simp [bi, sEn, hi, c_1, c_11, eq_true c_15]; done)) | rfl
            have hl : lv_has ls 4 [(0, .ref (gA G (15 + 6 * t))), (1, .ref (gA G (15 + 6 * t2))), (2, .int (bi (sEn σ t t2 (i + 1)))), (3, .int (nI (i + 1)))] := by
              have hl := lv_sub hl [2, 3, 1, 0] rfl
              rw [q_16]; exact hl
            exact ih_4 (i + 1) (by omega) (by omega) ls (hl)
          · skip
            refine lv_iconst (v := nI 1) S.1 S.2.1 dX5_hasSameAs_23 (by decide) ?_
            refine lv_goto (tgt := 28) S.1 S.2.1 dX5_hasSameAs_24 (by decide) ?_
            refine lv_istore_n (lv' := [(2, .int (nI 1)), (0, .ref (gA G (15 + 6 * t))), (1, .ref (gA G (15 + 6 * t2))), (3, .int (nI i))]) S.1 S.2.1 dX5_hasSameAs_28 rfl hl (by decide) rfl (fun ls hl => ?_)
            refine lv_iinc (v := nI (i + 1)) (lv' := [(3, .int (nI (i + 1))), (2, .int (nI 1)), (0, .ref (gA G (15 + 6 * t))), (1, .ref (gA G (15 + 6 * t2)))]) S.1 S.2.1 dX5_hasSameAs_29 hl (k := 3) rfl (nI_inc rfl) (by decide) rfl (fun ls hl => ?_)
            refine lv_goto (tgt := 4) S.1 S.2.1 dX5_hasSameAs_32 (by decide) ?_
            have q_17 : (bi (sEn σ t t2 (i + 1)) : Int32) = nI 1 := by first | (first | (simp [bi, sEn, hi, c_1, c_11, c_15]; done) | (simp [bi, sEn, hi, c_1, c_11, c_15]; omega) | (simp [bi, sEn, ← Int32.not_le, hi, c_1, c_11, c_15]; done)) | rfl
            have hl : lv_has ls 4 [(0, .ref (gA G (15 + 6 * t))), (1, .ref (gA G (15 + 6 * t2))), (2, .int (bi (sEn σ t t2 (i + 1)))), (3, .int (nI (i + 1)))] := by
              have hl := lv_sub hl [2, 3, 1, 0] rfl
              rw [q_17]; exact hl
            exact ih_4 (i + 1) (by omega) (by omega) ls (hl)
  have q_18 : (bi (sEn σ t t2 0) : Int32) = nI 1 := by first | rfl | (first | (simp [bi, sEn]; done) | (simp [bi, sEn]; omega) | (simp [bi, sEn, ← Int32.not_le]; done))
  have hl : lv_has ls 4 [(0, .ref (gA G (15 + 6 * t))), (1, .ref (gA G (15 + 6 * t2))), (2, .int (bi (sEn σ t t2 0))), (3, .int (nI 0))] := by
    have hl := lv_sub hl [2, 3, 1, 0] rfl
    rw [q_18]; exact hl
  exact L_4 (64 - 0 + 1) 0 (by omega) (by omega) ls (hl)

theorem i_X5_countEntries_X5 : ∀ w ∈ wsX50, w ∈ wsX5_countEntries := by decide +kernel
theorem m_X5_countEntries_f9 : Cond.fieldLink RX5 9 "WideCell$Table" "stamps" "[I" ∈ wsX5_countEntries := by decide +kernel
abbrev rm_k_X5_countEntries : Room := { frames := 0, cells := 0, slots := 0, locals := 0 }
set_option maxHeartbeats 4000000 in
set_option maxRecDepth 100000 in
theorem k_X5_countEntries (l : Launch) (G : wG) (σ : cS) (μ : mS) (o : Nat → Int64) (t : Nat) (ht : t < 4) : Met l yX5_countEntries wsX5_countEntries rm_k_X5_countEntries (wPc G σ μ o [.ref (gA G (15 + 6 * t))]) (vp_Si (fun rr => rr = nI (cntE σ t 64))) 0 0 (fun _ => False) := by
  refine Met.ofW (cc := cX5_countEntries) (maxL := 3) (ret := (some .int)) (by decide) rfl ?_
  intro p e s m args below meth c s₁ B hml hv
  obtain ⟨hargs, hI⟩ := hv
  have S : CallFix p m c cX5_countEntries 3 s args wsX5_countEntries RX5 := ⟨B.exec, B.bytes, hml, findClass_of_methodNamed B.named, atoms_spec (ws := wsX5_countEntries) B.pre⟩
  have hret := B.returns
  have hlocks := B.notSynchronized
  have Z := wZ_0 hI
  clear hI
  obtain ⟨Q, hQ⟩ : ∃ Q, Q = MQ below (vp_Si (fun rr => rr = nI (cntE σ t 64))) args s 0 0 (fun _ => False) := ⟨_, rfl⟩
  rw [← hQ]
  have hl := lv_entry [.ref (gA G (15 + 6 * t))] (n := 3) (Nat.le_of_ble_eq_true rfl)
  rw [show entryFrame m args 3 = entryFrame m ([.ref (gA G (15 + 6 * t))] : List Value).toArray 3 from by rw [hargs], lg_entry_eq]
  generalize (lg_sl [.ref (gA G (15 + 6 * t))] ++ List.replicate (3 - (lg_sl [.ref (gA G (15 + 6 * t))]).length) Slot.unset).toArray = ls at hl ⊢
  have hl : lv_has ls 3 [(0, .ref (gA G (15 + 6 * t)))] := hl
  refine lv_iconst (v := nI 0) S.1 S.2.1 dX5_countEntries_0 (by decide) ?_
  refine lv_istore_n (lv' := [(1, .int (nI 0)), (0, .ref (gA G (15 + 6 * t)))]) S.1 S.2.1 dX5_countEntries_1 rfl hl (by decide) rfl (fun ls hl => ?_)
  refine lv_iconst (v := nI 0) S.1 S.2.1 dX5_countEntries_2 (by decide) ?_
  refine lv_istore_n (lv' := [(2, .int (nI 0)), (1, .int (nI 0)), (0, .ref (gA G (15 + 6 * t)))]) S.1 S.2.1 dX5_countEntries_3 rfl hl (by decide) rfl (fun ls hl => ?_)
  have L_4 : ∀ (n : Nat) (i : Nat) (hi : i ≤ 64) (hn : 64 - i < n) (ls : Array Slot) (hl : lv_has ls 3 [(0, .ref (gA G (15 + 6 * t))), (1, .int (nI (cntE σ t i))), (2, .int (nI i))]), W p l e (headSpec wsX5_countEntries rm_k_X5_countEntries).room s m args below meth c s.heap [] 0 0 Q (F0 m 4 ls []) := by
    intro n
    induction n with
    | zero => intro i hi hn; omega
    | succ n ih_4 =>
      intro i hi hn ls hl
      refine lv_iload_n S.1 S.2.1 dX5_countEntries_4 rfl (lv_at hl 2 rfl) ?_
      refine lv_bipush (v := nI 64) S.1 S.2.1 dX5_countEntries_5 (by decide) ?_
      refine r_icmpN_ge S (tgt := 29) (by omega) (by omega) dX5_countEntries_7 (by decide) (fun c_1 => ?_) (fun c_1 => ?_)
      · skip
        obtain rfl : i = 64 := by omega
        refine lv_iload_n S.1 S.2.1 dX5_countEntries_29 rfl (lv_at hl 1 rfl) ?_
        rw [hQ]
        exact W.iret (v := nI (cntE σ t 64)) S.1 S.2.1 hret (fun _ hT9 _ => ⟨_, rfl, rfl, hT9⟩) (fun _ h => nomatch h) dX5_countEntries_30
      · skip
        refine lv_aload_n S.1 S.2.1 dX5_countEntries_10 rfl (lv_at hl 0 rfl) ?_
        refine r_get (C := RX5) (T := TX5) (N := 6) (ci := 5) S Z (by omega) (eT ht) rfl i_X5_countEntries_X5 1 (by decide) m_X5_countEntries_f9 rfl (v := .ref (gA G (15 + 6 * t + 1))) rfl dX5_countEntries_11 ?_
        refine lv_iload_n S.1 S.2.1 dX5_countEntries_14 rfl (lv_at hl 2 rfl) ?_
        refine r_ialdC S Z (n := 64) (pT ht (by decide) (by decide)) (by omega) (by decide) dX5_countEntries_15 ?_
        refine lv_iconst (v := -1) S.1 S.2.1 dX5_countEntries_16 (by decide) ?_
        refine lv_icmp_eq (tgt := 23) S.1 S.2.1 dX5_countEntries_17 (by decide) (fun c_2 => ?_) (fun c_2 => ?_)
        · skip
          refine lv_iinc (v := nI (i + 1)) (lv' := [(2, .int (nI (i + 1))), (0, .ref (gA G (15 + 6 * t))), (1, .int (nI (cntE σ t i)))]) S.1 S.2.1 dX5_countEntries_23 hl (k := 2) rfl (nI_inc rfl) (by decide) rfl (fun ls hl => ?_)
          refine lv_goto (tgt := 4) S.1 S.2.1 dX5_countEntries_26 (by decide) ?_
          have q_3 : (nI (cntE σ t (i + 1)) : Int32) = nI (cntE σ t i) := by first | (first | (simp [bi, cntE, hi, c_1, c_2]; done) | (simp [bi, cntE, hi, c_1, c_2]; omega) | (simp [bi, cntE, ← Int32.not_le, hi, c_1, c_2]; done) | (simp [bi, cntE, hi, c_1, eq_true c_2]; done)) | exact congrArg nI (by omega) | rfl
          have hl : lv_has ls 3 [(0, .ref (gA G (15 + 6 * t))), (1, .int (nI (cntE σ t (i + 1)))), (2, .int (nI (i + 1)))] := by
            have hl := lv_sub hl [1, 2, 0] rfl
            rw [q_3]; exact hl
          exact ih_4 (i + 1) (by omega) (by omega) ls (hl)
        · skip
          refine lv_iinc (v := nI (cntE σ t i + 1)) (lv' := [(1, .int (nI (cntE σ t i + 1))), (0, .ref (gA G (15 + 6 * t))), (2, .int (nI i))]) S.1 S.2.1 dX5_countEntries_20 hl (k := 1) rfl (nI_inc rfl) (by decide) rfl (fun ls hl => ?_)
          refine lv_iinc (v := nI (i + 1)) (lv' := [(2, .int (nI (i + 1))), (1, .int (nI (cntE σ t i + 1))), (0, .ref (gA G (15 + 6 * t)))]) S.1 S.2.1 dX5_countEntries_23 hl (k := 2) rfl (nI_inc rfl) (by decide) rfl (fun ls hl => ?_)
          refine lv_goto (tgt := 4) S.1 S.2.1 dX5_countEntries_26 (by decide) ?_
          have q_4 : (nI (cntE σ t (i + 1)) : Int32) = nI (cntE σ t i + 1) := by first | (first | (simp [bi, cntE, hi, c_1, c_2]; done) | (simp [bi, cntE, hi, c_1, c_2]; omega) | (simp [bi, cntE, ← Int32.not_le, hi, c_1, c_2]; done)) | exact congrArg nI (by omega) | rfl
          have hl : lv_has ls 3 [(0, .ref (gA G (15 + 6 * t))), (1, .int (nI (cntE σ t (i + 1)))), (2, .int (nI (i + 1)))] := by
            have hl := lv_sub hl [2, 1, 0] rfl
            rw [q_4]; exact hl
          exact ih_4 (i + 1) (by omega) (by omega) ls (hl)
  have q_5 : (nI (cntE σ t 0) : Int32) = nI 0 := by first | rfl | (first | (simp [bi, cntE]; done) | (simp [bi, cntE]; omega) | (simp [bi, cntE, ← Int32.not_le]; done)) | exact congrArg nI (by omega)
  have hl : lv_has ls 3 [(0, .ref (gA G (15 + 6 * t))), (1, .int (nI (cntE σ t 0))), (2, .int (nI 0))] := by
    have hl := lv_sub hl [2, 1, 0] rfl
    rw [q_5]; exact hl
  exact L_4 (64 - 0 + 1) 0 (by omega) (by omega) ls (hl)

abbrev rm_k_X5_firstPlace : Room := { frames := 0, cells := 0, slots := 0, locals := 0 }
set_option maxHeartbeats 4000000 in
set_option maxRecDepth 100000 in
theorem k_X5_firstPlace (l : Launch) (G : wG) (σ : cS) (μ : mS) (o : Nat → Int64) (r : Nat) (hr : r < 5) : Met l yX5_firstPlace wsX5_firstPlace rm_k_X5_firstPlace (wPc G σ μ o [.int (nI r)]) (vp_Si (fun rr => rr = nI (fpl r))) 0 0 (fun _ => False) := by
  refine Met.ofW (cc := cX5_firstPlace) (maxL := 1) (ret := (some .int)) (by decide) rfl ?_
  intro p e s m args below meth c s₁ B hml hv
  obtain ⟨hargs, hI⟩ := hv
  have S : CallFix p m c cX5_firstPlace 1 s args wsX5_firstPlace RX5 := ⟨B.exec, B.bytes, hml, findClass_of_methodNamed B.named, atoms_spec (ws := wsX5_firstPlace) B.pre⟩
  have hret := B.returns
  have hlocks := B.notSynchronized
  have Z := wZ_0 hI
  clear hI
  obtain ⟨Q, hQ⟩ : ∃ Q, Q = MQ below (vp_Si (fun rr => rr = nI (fpl r))) args s 0 0 (fun _ => False) := ⟨_, rfl⟩
  rw [← hQ]
  have hl := lv_entry [.int (nI r)] (n := 1) (Nat.le_of_ble_eq_true rfl)
  rw [show entryFrame m args 1 = entryFrame m ([.int (nI r)] : List Value).toArray 1 from by rw [hargs], lg_entry_eq]
  generalize (lg_sl [.int (nI r)] ++ List.replicate (1 - (lg_sl [.int (nI r)]).length) Slot.unset).toArray = ls at hl ⊢
  have hl : lv_has ls 1 [(0, .int (nI r))] := hl
  refine lv_iload_n S.1 S.2.1 dX5_firstPlace_0 rfl (lv_at hl 0 rfl) ?_
  rcases (show r = 0 ∨ r = 1 ∨ r = 2 ∨ r = 3 ∨ 4 ≤ r by omega) with c_1 | c_1 | c_1 | c_1 | c_1
  · skip
    refine r_tswIn S (off := 31) (tgt := 32) (by omega) dX5_firstPlace_1 (by omega) (by omega) (by rw [c_1]; decide) (by decide) ?_
    refine lv_iconst (v := nI 0) S.1 S.2.1 dX5_firstPlace_32 (by decide) ?_
    rw [hQ]
    exact W.iret (v := nI 0) S.1 S.2.1 hret (fun _ hT9 _ => ⟨_, rfl, (by first | (simp [bi, fpl, c_1]; done) | (simp [bi, fpl, c_1]; omega) | (simp [bi, fpl, ← Int32.not_le, c_1]; done)), hT9⟩) (fun _ h => nomatch h) dX5_firstPlace_33
  · skip
    refine r_tswIn S (off := 33) (tgt := 34) (by omega) dX5_firstPlace_1 (by omega) (by omega) (by rw [c_1]; decide) (by decide) ?_
    refine lv_bipush (v := nI 64) S.1 S.2.1 dX5_firstPlace_34 (by decide) ?_
    rw [hQ]
    exact W.iret (v := nI 64) S.1 S.2.1 hret (fun _ hT9 _ => ⟨_, rfl, (by first | (simp [bi, fpl, c_1]; done) | (simp [bi, fpl, c_1]; omega) | (simp [bi, fpl, ← Int32.not_le, c_1]; done)), hT9⟩) (fun _ h => nomatch h) dX5_firstPlace_36
  · skip
    refine r_tswIn S (off := 36) (tgt := 37) (by omega) dX5_firstPlace_1 (by omega) (by omega) (by rw [c_1]; decide) (by decide) ?_
    refine lv_bipush (v := nI 68) S.1 S.2.1 dX5_firstPlace_37 (by decide) ?_
    rw [hQ]
    exact W.iret (v := nI 68) S.1 S.2.1 hret (fun _ hT9 _ => ⟨_, rfl, (by first | (simp [bi, fpl, c_1]; done) | (simp [bi, fpl, c_1]; omega) | (simp [bi, fpl, ← Int32.not_le, c_1]; done)), hT9⟩) (fun _ h => nomatch h) dX5_firstPlace_39
  · skip
    refine r_tswIn S (off := 39) (tgt := 40) (by omega) dX5_firstPlace_1 (by omega) (by omega) (by rw [c_1]; decide) (by decide) ?_
    refine lv_bipush (v := nI 84) S.1 S.2.1 dX5_firstPlace_40 (by decide) ?_
    rw [hQ]
    exact W.iret (v := nI 84) S.1 S.2.1 hret (fun _ hT9 _ => ⟨_, rfl, (by first | (simp [bi, fpl, c_1]; done) | (simp [bi, fpl, c_1]; omega) | (simp [bi, fpl, ← Int32.not_le, c_1]; done)), hT9⟩) (fun _ h => nomatch h) dX5_firstPlace_42
  · skip
    refine r_tswOut S (tgt := 43) (by omega) dX5_firstPlace_1 (by omega) (by decide) ?_
    have e_2_0 : ¬ r = 0 := by omega
    have e_2_1 : ¬ r = 1 := by omega
    have e_2_2 : ¬ r = 2 := by omega
    have e_2_3 : ¬ r = 3 := by omega
    refine lv_bipush (v := nI 92) S.1 S.2.1 dX5_firstPlace_43 (by decide) ?_
    rw [hQ]
    exact W.iret (v := nI 92) S.1 S.2.1 hret (fun _ hT9 _ => ⟨_, rfl, (by first | (simp [bi, fpl, c_1, e_2_0, e_2_1, e_2_2, e_2_3]; done) | (simp [bi, fpl, c_1, e_2_0, e_2_1, e_2_2, e_2_3]; omega) | (simp [bi, fpl, ← Int32.not_le, c_1, e_2_0, e_2_1, e_2_2, e_2_3]; done)), hT9⟩) (fun _ h => nomatch h) dX5_firstPlace_45

theorem i_X5_countTombstones_X5 : ∀ w ∈ wsX50, w ∈ wsX5_countTombstones := by decide +kernel
theorem m_X5_countTombstones_f21 : Cond.fieldLink RX5 21 "WideCell$Table" "burials" "[I" ∈ wsX5_countTombstones := by decide +kernel
abbrev rm_k_X5_countTombstones : Room := { frames := 1, cells := 0, slots := 0, locals := 20 }
set_option maxHeartbeats 4000000 in
set_option maxRecDepth 100000 in
theorem k_X5_countTombstones (l : Launch) (G : wG) (σ : cS) (μ : mS) (o : Nat → Int64) (t : Nat) (r : Nat) (ht : t < 4) (hr : r < 4) : Met l yX5_countTombstones wsX5_countTombstones rm_k_X5_countTombstones (wPc G σ μ o [.ref (gA G (15 + 6 * t)), .int (nI r)]) (vp_Si (fun rr => rr = nI (cntT σ t (fpl r) (fpl (r + 1) - fpl r)))) 0 0 (fun _ => False) := by
  refine Met.ofW (cc := cX5_countTombstones) (maxL := 6) (ret := (some .int)) (by decide) rfl ?_
  intro p e s m args below meth c s₁ B hml hv
  obtain ⟨hargs, hI⟩ := hv
  have S : CallFix p m c cX5_countTombstones 6 s args wsX5_countTombstones RX5 := ⟨B.exec, B.bytes, hml, findClass_of_methodNamed B.named, atoms_spec (ws := wsX5_countTombstones) B.pre⟩
  have hret := B.returns
  have hlocks := B.notSynchronized
  have Z := wZ_0 hI
  clear hI
  obtain ⟨Q, hQ⟩ : ∃ Q, Q = MQ below (vp_Si (fun rr => rr = nI (cntT σ t (fpl r) (fpl (r + 1) - fpl r)))) args s 0 0 (fun _ => False) := ⟨_, rfl⟩
  rw [← hQ]
  have hl := lv_entry [.ref (gA G (15 + 6 * t)), .int (nI r)] (n := 6) (Nat.le_of_ble_eq_true rfl)
  rw [show entryFrame m args 6 = entryFrame m ([.ref (gA G (15 + 6 * t)), .int (nI r)] : List Value).toArray 6 from by rw [hargs], lg_entry_eq]
  generalize (lg_sl [.ref (gA G (15 + 6 * t)), .int (nI r)] ++ List.replicate (6 - (lg_sl [.ref (gA G (15 + 6 * t)), .int (nI r)]).length) Slot.unset).toArray = ls at hl ⊢
  have hl : lv_has ls 6 [(0, .ref (gA G (15 + 6 * t))), (1, .int (nI r))] := hl
  have hf1 := fpl_le (r + 1)
  have hf2 := fpl_mono r
  refine lv_iload_n S.1 S.2.1 dX5_countTombstones_0 rfl (lv_at hl 1 rfl) ?_
  refine vp_callSi (va_runS (As := [.int (nI r)]) (rest := []) S (k_X5_firstPlace l G σ μ o r (by omega)) (va_cwS 1 S.2.2.2.2 gX5_countTombstones_X5_firstPlace rfl rfl rfl hy_X5_firstPlace ⟨Nat.le_of_ble_eq_true rfl, Nat.le_of_ble_eq_true rfl⟩) (wPc_S Z) rfl rfl hl.1 rfl (lv_room (Nat.le_of_ble_eq_true rfl)) dX5_countTombstones_1 ⟨Nat.le_of_ble_eq_true rfl, Nat.le_of_ble_eq_true rfl⟩).run (fun r_1 h_2 => ?_)
  subst h_2
  refine lv_istore_n (lv' := [(2, .int (nI (fpl r))), (0, .ref (gA G (15 + 6 * t))), (1, .int (nI r))]) S.1 S.2.1 dX5_countTombstones_4 rfl hl (by decide) rfl (fun ls hl => ?_)
  refine lv_iload_n S.1 S.2.1 dX5_countTombstones_5 rfl (lv_at hl 2 rfl) ?_
  refine lv_iconst (v := nI 1) S.1 S.2.1 dX5_countTombstones_6 (by decide) ?_
  refine r_addN S dX5_countTombstones_7 ?_
  refine vp_callSi (va_runS (As := [.int (nI (r + 1))]) (rest := []) S (k_X5_firstPlace l G σ μ o (r + 1) (by omega)) (va_cwS 1 S.2.2.2.2 gX5_countTombstones_X5_firstPlace rfl rfl rfl hy_X5_firstPlace ⟨Nat.le_of_ble_eq_true rfl, Nat.le_of_ble_eq_true rfl⟩) (wPc_S Z) rfl rfl hl.1 rfl (lv_room (Nat.le_of_ble_eq_true rfl)) dX5_countTombstones_8 ⟨Nat.le_of_ble_eq_true rfl, Nat.le_of_ble_eq_true rfl⟩).run (fun r_3 h_4 => ?_)
  subst h_4
  refine lv_istore_n (lv' := [(3, .int (nI (fpl (r + 1)))), (2, .int (nI (fpl r))), (0, .ref (gA G (15 + 6 * t))), (1, .int (nI r))]) S.1 S.2.1 dX5_countTombstones_11 rfl hl (by decide) rfl (fun ls hl => ?_)
  refine lv_iconst (v := nI 0) S.1 S.2.1 dX5_countTombstones_12 (by decide) ?_
  refine lv_istore (lv' := [(4, .int (nI 0)), (3, .int (nI (fpl (r + 1)))), (2, .int (nI (fpl r))), (0, .ref (gA G (15 + 6 * t))), (1, .int (nI r))]) S.1 S.2.1 dX5_countTombstones_13 hl (by decide) rfl (fun ls hl => ?_)
  refine lv_iload_n S.1 S.2.1 dX5_countTombstones_15 rfl (lv_at hl 2 rfl) ?_
  refine lv_istore (lv' := [(5, .int (nI (fpl r))), (4, .int (nI 0)), (3, .int (nI (fpl (r + 1)))), (2, .int (nI (fpl r))), (0, .ref (gA G (15 + 6 * t))), (1, .int (nI r))]) S.1 S.2.1 dX5_countTombstones_16 hl (by decide) rfl (fun ls hl => ?_)
  have L_18 : ∀ (n : Nat) (i : Nat) (hi : fpl r + i ≤ fpl (r + 1)) (hn : 92 - i < n) (ls : Array Slot) (hl : lv_has ls 6 [(0, .ref (gA G (15 + 6 * t))), (3, .int (nI (fpl (r + 1)))), (4, .int (nI (cntT σ t (fpl r) i))), (5, .int (nI (fpl r + i)))]), W p l e (headSpec wsX5_countTombstones rm_k_X5_countTombstones).room s m args below meth c s.heap [] 0 0 Q (F0 m 18 ls []) := by
    intro n
    induction n with
    | zero => intro i hi hn; omega
    | succ n ih_18 =>
      intro i hi hn ls hl
      refine lv_iload S.1 S.2.1 dX5_countTombstones_18 (lv_at hl 3 rfl) ?_
      refine lv_iload_n S.1 S.2.1 dX5_countTombstones_20 rfl (lv_at hl 1 rfl) ?_
      refine r_icmpN_ge S (tgt := 44) (by omega) (by omega) dX5_countTombstones_21 (by decide) (fun c_5 => ?_) (fun c_5 => ?_)
      · skip
        refine lv_iload S.1 S.2.1 dX5_countTombstones_44 (lv_at hl 2 rfl) ?_
        rw [hQ]
        exact W.iret (v := nI (cntT σ t (fpl r) i)) S.1 S.2.1 hret (fun _ hT9 _ => ⟨_, rfl, (by rw [show fpl (r + 1) - fpl r = i from by omega]), hT9⟩) (fun _ h => nomatch h) dX5_countTombstones_46
      · skip
        refine lv_aload_n S.1 S.2.1 dX5_countTombstones_24 rfl (lv_at hl 0 rfl) ?_
        refine r_get (C := RX5) (T := TX5) (N := 6) (ci := 5) S Z (by omega) (eT ht) rfl i_X5_countTombstones_X5 4 (by decide) m_X5_countTombstones_f21 rfl (v := .ref (gA G (15 + 6 * t + 4))) rfl dX5_countTombstones_25 ?_
        refine lv_iload S.1 S.2.1 dX5_countTombstones_28 (lv_at hl 3 rfl) ?_
        refine r_ialdC S Z (n := 92) (pB ht (by decide) (by decide)) (by omega) (by decide) dX5_countTombstones_30 ?_
        refine lv_iconst (v := -1) S.1 S.2.1 dX5_countTombstones_31 (by decide) ?_
        refine lv_icmp_eq (tgt := 38) S.1 S.2.1 dX5_countTombstones_32 (by decide) (fun c_6 => ?_) (fun c_6 => ?_)
        · skip
          refine lv_iinc (v := nI (fpl r + i + 1)) (lv' := [(5, .int (nI (fpl r + i + 1))), (0, .ref (gA G (15 + 6 * t))), (3, .int (nI (fpl (r + 1)))), (4, .int (nI (cntT σ t (fpl r) i)))]) S.1 S.2.1 dX5_countTombstones_38 hl (k := 3) rfl (nI_inc rfl) (by decide) rfl (fun ls hl => ?_)
          refine lv_goto (tgt := 18) S.1 S.2.1 dX5_countTombstones_41 (by decide) ?_
          have q_7 : (nI (cntT σ t (fpl r) (i + 1)) : Int32) = nI (cntT σ t (fpl r) i) := by first | (first | (simp [bi, cntT, hi, c_5, c_6]; done) | (simp [bi, cntT, hi, c_5, c_6]; omega) | (simp [bi, cntT, ← Int32.not_le, hi, c_5, c_6]; done) | (simp [bi, cntT, hi, c_5, eq_true c_6]; done)) | exact congrArg nI (by omega) | rfl
          have q_8 : (nI (fpl r + (i + 1)) : Int32) = nI (fpl r + i + 1) := by first | (first | (simp [bi, cntT, hi, c_5, c_6]; done) | (simp [bi, cntT, hi, c_5, c_6]; omega) | (simp [bi, cntT, ← Int32.not_le, hi, c_5, c_6]; done) | (simp [bi, cntT, hi, c_5, eq_true c_6]; done)) | exact congrArg nI (by omega) | rfl
          have hl : lv_has ls 6 [(0, .ref (gA G (15 + 6 * t))), (3, .int (nI (fpl (r + 1)))), (4, .int (nI (cntT σ t (fpl r) (i + 1)))), (5, .int (nI (fpl r + (i + 1))))] := by
            have hl := lv_sub hl [1, 2, 3, 0] rfl
            rw [q_7, q_8]; exact hl
          exact ih_18 (i + 1) (by omega) (by omega) ls (hl)
        · skip
          refine lv_iinc (v := nI (cntT σ t (fpl r) i + 1)) (lv' := [(4, .int (nI (cntT σ t (fpl r) i + 1))), (0, .ref (gA G (15 + 6 * t))), (3, .int (nI (fpl (r + 1)))), (5, .int (nI (fpl r + i)))]) S.1 S.2.1 dX5_countTombstones_35 hl (k := 2) rfl (nI_inc rfl) (by decide) rfl (fun ls hl => ?_)
          refine lv_iinc (v := nI (fpl r + i + 1)) (lv' := [(5, .int (nI (fpl r + i + 1))), (4, .int (nI (cntT σ t (fpl r) i + 1))), (0, .ref (gA G (15 + 6 * t))), (3, .int (nI (fpl (r + 1))))]) S.1 S.2.1 dX5_countTombstones_38 hl (k := 3) rfl (nI_inc rfl) (by decide) rfl (fun ls hl => ?_)
          refine lv_goto (tgt := 18) S.1 S.2.1 dX5_countTombstones_41 (by decide) ?_
          have q_9 : (nI (cntT σ t (fpl r) (i + 1)) : Int32) = nI (cntT σ t (fpl r) i + 1) := by first | (first | (simp [bi, cntT, hi, c_5, c_6]; done) | (simp [bi, cntT, hi, c_5, c_6]; omega) | (simp [bi, cntT, ← Int32.not_le, hi, c_5, c_6]; done)) | exact congrArg nI (by omega) | rfl
          have q_10 : (nI (fpl r + (i + 1)) : Int32) = nI (fpl r + i + 1) := by first | (first | (simp [bi, cntT, hi, c_5, c_6]; done) | (simp [bi, cntT, hi, c_5, c_6]; omega) | (simp [bi, cntT, ← Int32.not_le, hi, c_5, c_6]; done)) | exact congrArg nI (by omega) | rfl
          have hl : lv_has ls 6 [(0, .ref (gA G (15 + 6 * t))), (3, .int (nI (fpl (r + 1)))), (4, .int (nI (cntT σ t (fpl r) (i + 1)))), (5, .int (nI (fpl r + (i + 1))))] := by
            have hl := lv_sub hl [2, 3, 1, 0] rfl
            rw [q_9, q_10]; exact hl
          exact ih_18 (i + 1) (by omega) (by omega) ls (hl)
  have q_11 : (nI (cntT σ t (fpl r) 0) : Int32) = nI 0 := by first | rfl | (first | (simp [bi, cntT]; done) | (simp [bi, cntT]; omega) | (simp [bi, cntT, ← Int32.not_le]; done)) | exact congrArg nI (by omega)
  have q_12 : (nI (fpl r + 0) : Int32) = nI (fpl r) := by first | rfl | (first | (simp [bi, cntT]; done) | (simp [bi, cntT]; omega) | (simp [bi, cntT, ← Int32.not_le]; done)) | exact congrArg nI (by omega)
  have hl : lv_has ls 6 [(0, .ref (gA G (15 + 6 * t))), (3, .int (nI (fpl (r + 1)))), (4, .int (nI (cntT σ t (fpl r) 0))), (5, .int (nI (fpl r + 0)))] := by
    have hl := lv_sub hl [4, 2, 1, 0] rfl
    rw [q_11, q_12]; exact hl
  exact L_18 (92 - 0 + 1) 0 (by omega) (by omega) ls (hl)

theorem i_X5_entryPart_X5 : ∀ w ∈ wsX50, w ∈ wsX5_entryPart := by decide +kernel
theorem m_X5_entryPart_f9 : Cond.fieldLink RX5 9 "WideCell$Table" "stamps" "[I" ∈ wsX5_entryPart := by decide +kernel
theorem m_X5_entryPart_f18 : Cond.fieldLink RX5 18 "WideCell$Table" "ends" "[I" ∈ wsX5_entryPart := by decide +kernel
theorem m_X5_entryPart_f15 : Cond.fieldLink RX5 15 "WideCell$Table" "values" "[I" ∈ wsX5_entryPart := by decide +kernel
abbrev rm_k_X5_entryPart : Room := { frames := 0, cells := 0, slots := 0, locals := 0 }
set_option maxHeartbeats 4000000 in
set_option maxRecDepth 100000 in
theorem k_X5_entryPart (l : Launch) (G : wG) (σ : cS) (μ : mS) (o : Nat → Int64) (t : Nat) (k : Nat) (col : Nat) (ht : t < 4) (hk : k < 64) : Met l yX5_entryPart wsX5_entryPart rm_k_X5_entryPart (wPc G σ μ o [.ref (gA G (15 + 6 * t)), .int (nI k), .int (nI col)]) (vp_Si (fun rr => rr = entP σ t k col)) 0 0 (fun _ => False) := by
  refine Met.ofW (cc := cX5_entryPart) (maxL := 4) (ret := (some .int)) (by decide) rfl ?_
  intro p e s m args below meth c s₁ B hml hv
  obtain ⟨hargs, hI⟩ := hv
  have S : CallFix p m c cX5_entryPart 4 s args wsX5_entryPart RX5 := ⟨B.exec, B.bytes, hml, findClass_of_methodNamed B.named, atoms_spec (ws := wsX5_entryPart) B.pre⟩
  have hret := B.returns
  have hlocks := B.notSynchronized
  have Z := wZ_0 hI
  clear hI
  obtain ⟨Q, hQ⟩ : ∃ Q, Q = MQ below (vp_Si (fun rr => rr = entP σ t k col)) args s 0 0 (fun _ => False) := ⟨_, rfl⟩
  rw [← hQ]
  have hl := lv_entry [.ref (gA G (15 + 6 * t)), .int (nI k), .int (nI col)] (n := 4) (Nat.le_of_ble_eq_true rfl)
  rw [show entryFrame m args 4 = entryFrame m ([.ref (gA G (15 + 6 * t)), .int (nI k), .int (nI col)] : List Value).toArray 4 from by rw [hargs], lg_entry_eq]
  generalize (lg_sl [.ref (gA G (15 + 6 * t)), .int (nI k), .int (nI col)] ++ List.replicate (4 - (lg_sl [.ref (gA G (15 + 6 * t)), .int (nI k), .int (nI col)]).length) Slot.unset).toArray = ls at hl ⊢
  have hl : lv_has ls 4 [(0, .ref (gA G (15 + 6 * t))), (1, .int (nI k)), (2, .int (nI col))] := hl
  refine lv_aload_n S.1 S.2.1 dX5_entryPart_0 rfl (lv_at hl 0 rfl) ?_
  refine r_get (C := RX5) (T := TX5) (N := 6) (ci := 5) S Z (by omega) (eT ht) rfl i_X5_entryPart_X5 1 (by decide) m_X5_entryPart_f9 rfl (v := .ref (gA G (15 + 6 * t + 1))) rfl dX5_entryPart_1 ?_
  refine lv_iload_n S.1 S.2.1 dX5_entryPart_4 rfl (lv_at hl 1 rfl) ?_
  refine r_ialdC S Z (n := 64) (pT ht (by decide) (by decide)) (by omega) (by decide) dX5_entryPart_5 ?_
  refine lv_iconst (v := -1) S.1 S.2.1 dX5_entryPart_6 (by decide) ?_
  refine lv_icmp_ne (tgt := 12) S.1 S.2.1 dX5_entryPart_7 (by decide) (fun c_1 => ?_) (fun c_1 => ?_)
  · skip
    refine lv_aload_n S.1 S.2.1 dX5_entryPart_12 rfl (lv_at hl 0 rfl) ?_
    refine r_get (C := RX5) (T := TX5) (N := 6) (ci := 5) S Z (by omega) (eT ht) rfl i_X5_entryPart_X5 3 (by decide) m_X5_entryPart_f18 rfl (v := .ref (gA G (15 + 6 * t + 3))) rfl dX5_entryPart_13 ?_
    refine lv_iload_n S.1 S.2.1 dX5_entryPart_16 rfl (lv_at hl 1 rfl) ?_
    refine r_ialdC S Z (n := 64) (pT ht (by decide) (by decide)) (by omega) (by decide) dX5_entryPart_17 ?_
    refine lv_iconst (v := -1) S.1 S.2.1 dX5_entryPart_18 (by decide) ?_
    refine lv_icmp_ne (tgt := 28) S.1 S.2.1 dX5_entryPart_19 (by decide) (fun c_2 => ?_) (fun c_2 => ?_)
    · skip
      refine lv_aload_n S.1 S.2.1 dX5_entryPart_28 rfl (lv_at hl 0 rfl) ?_
      refine r_get (C := RX5) (T := TX5) (N := 6) (ci := 5) S Z (by omega) (eT ht) rfl i_X5_entryPart_X5 3 (by decide) m_X5_entryPart_f18 rfl (v := .ref (gA G (15 + 6 * t + 3))) rfl dX5_entryPart_29 ?_
      refine lv_iload_n S.1 S.2.1 dX5_entryPart_32 rfl (lv_at hl 1 rfl) ?_
      refine r_ialdC S Z (n := 64) (pT ht (by decide) (by decide)) (by omega) (by decide) dX5_entryPart_33 ?_
      refine lv_istore_n (lv' := [(3, .int (cI σ (15 + 6 * t + 3) k)), (0, .ref (gA G (15 + 6 * t))), (1, .int (nI k)), (2, .int (nI col))]) S.1 S.2.1 dX5_entryPart_34 rfl hl (by decide) rfl (fun ls hl => ?_)
      refine lv_bipush (v := nI 31) S.1 S.2.1 dX5_entryPart_35 (by decide) ?_
      refine lv_aload_n S.1 S.2.1 dX5_entryPart_37 rfl (lv_at hl 1 rfl) ?_
      refine r_get (C := RX5) (T := TX5) (N := 6) (ci := 5) S Z (by omega) (eT ht) rfl i_X5_entryPart_X5 1 (by decide) m_X5_entryPart_f9 rfl (v := .ref (gA G (15 + 6 * t + 1))) rfl dX5_entryPart_38 ?_
      refine lv_iload_n S.1 S.2.1 dX5_entryPart_41 rfl (lv_at hl 2 rfl) ?_
      refine r_ialdC S Z (n := 64) (pT ht (by decide) (by decide)) (by omega) (by decide) dX5_entryPart_42 ?_
      refine lv_imul S.1 S.2.1 dX5_entryPart_43 ?_
      refine lv_bipush (v := nI 7) S.1 S.2.1 dX5_entryPart_44 (by decide) ?_
      refine lv_aload_n S.1 S.2.1 dX5_entryPart_46 rfl (lv_at hl 1 rfl) ?_
      refine r_get (C := RX5) (T := TX5) (N := 6) (ci := 5) S Z (by omega) (eT ht) rfl i_X5_entryPart_X5 2 (by decide) m_X5_entryPart_f15 rfl (v := .ref (gA G (15 + 6 * t + 2))) rfl dX5_entryPart_47 ?_
      refine lv_iload_n S.1 S.2.1 dX5_entryPart_50 rfl (lv_at hl 2 rfl) ?_
      refine r_ialdC S Z (n := 64) (pT ht (by decide) (by decide)) (by omega) (by decide) dX5_entryPart_51 ?_
      refine lv_imul S.1 S.2.1 dX5_entryPart_52 ?_
      refine lv_iadd S.1 S.2.1 dX5_entryPart_53 ?_
      refine lv_iload_n S.1 S.2.1 dX5_entryPart_54 rfl (lv_at hl 0 rfl) ?_
      refine lv_iadd S.1 S.2.1 dX5_entryPart_55 ?_
      refine lv_iload_n S.1 S.2.1 dX5_entryPart_56 rfl (lv_at hl 3 rfl) ?_
      refine lv_iadd S.1 S.2.1 dX5_entryPart_57 ?_
      refine lv_iconst (v := nI 1) S.1 S.2.1 dX5_entryPart_58 (by decide) ?_
      refine lv_iadd S.1 S.2.1 dX5_entryPart_59 ?_
      rw [hQ]
      exact W.iret (v := (((((nI 31 * cI σ (15 + 6 * t + 1) k) + (nI 7 * cI σ (15 + 6 * t + 2) k)) + cI σ (15 + 6 * t + 3) k) + nI col) + nI 1)) S.1 S.2.1 hret (fun _ hT9 _ => ⟨_, rfl, (by first | (simp [bi, entP, c_1, c_2]; done) | (simp [bi, entP, c_1, c_2]; omega) | (simp [bi, entP, ← Int32.not_le, c_1, c_2]; done)), hT9⟩) (fun _ h => nomatch h) dX5_entryPart_60
    · skip
      refine lv_sipush (v := nI 20000) S.1 S.2.1 dX5_entryPart_22 (by decide) ?_
      refine lv_goto (tgt := 34) S.1 S.2.1 dX5_entryPart_25 (by decide) ?_
      refine lv_istore_n (lv' := [(3, .int (nI 20000)), (0, .ref (gA G (15 + 6 * t))), (1, .int (nI k)), (2, .int (nI col))]) S.1 S.2.1 dX5_entryPart_34 rfl hl (by decide) rfl (fun ls hl => ?_)
      refine lv_bipush (v := nI 31) S.1 S.2.1 dX5_entryPart_35 (by decide) ?_
      refine lv_aload_n S.1 S.2.1 dX5_entryPart_37 rfl (lv_at hl 1 rfl) ?_
      refine r_get (C := RX5) (T := TX5) (N := 6) (ci := 5) S Z (by omega) (eT ht) rfl i_X5_entryPart_X5 1 (by decide) m_X5_entryPart_f9 rfl (v := .ref (gA G (15 + 6 * t + 1))) rfl dX5_entryPart_38 ?_
      refine lv_iload_n S.1 S.2.1 dX5_entryPart_41 rfl (lv_at hl 2 rfl) ?_
      refine r_ialdC S Z (n := 64) (pT ht (by decide) (by decide)) (by omega) (by decide) dX5_entryPart_42 ?_
      refine lv_imul S.1 S.2.1 dX5_entryPart_43 ?_
      refine lv_bipush (v := nI 7) S.1 S.2.1 dX5_entryPart_44 (by decide) ?_
      refine lv_aload_n S.1 S.2.1 dX5_entryPart_46 rfl (lv_at hl 1 rfl) ?_
      refine r_get (C := RX5) (T := TX5) (N := 6) (ci := 5) S Z (by omega) (eT ht) rfl i_X5_entryPart_X5 2 (by decide) m_X5_entryPart_f15 rfl (v := .ref (gA G (15 + 6 * t + 2))) rfl dX5_entryPart_47 ?_
      refine lv_iload_n S.1 S.2.1 dX5_entryPart_50 rfl (lv_at hl 2 rfl) ?_
      refine r_ialdC S Z (n := 64) (pT ht (by decide) (by decide)) (by omega) (by decide) dX5_entryPart_51 ?_
      refine lv_imul S.1 S.2.1 dX5_entryPart_52 ?_
      refine lv_iadd S.1 S.2.1 dX5_entryPart_53 ?_
      refine lv_iload_n S.1 S.2.1 dX5_entryPart_54 rfl (lv_at hl 0 rfl) ?_
      refine lv_iadd S.1 S.2.1 dX5_entryPart_55 ?_
      refine lv_iload_n S.1 S.2.1 dX5_entryPart_56 rfl (lv_at hl 3 rfl) ?_
      refine lv_iadd S.1 S.2.1 dX5_entryPart_57 ?_
      refine lv_iconst (v := nI 1) S.1 S.2.1 dX5_entryPart_58 (by decide) ?_
      refine lv_iadd S.1 S.2.1 dX5_entryPart_59 ?_
      rw [hQ]
      exact W.iret (v := (((((nI 31 * cI σ (15 + 6 * t + 1) k) + (nI 7 * cI σ (15 + 6 * t + 2) k)) + nI 20000) + nI col) + nI 1)) S.1 S.2.1 hret (fun _ hT9 _ => ⟨_, rfl, (by first | (simp [bi, entP, c_1, c_2]; done) | (simp [bi, entP, c_1, c_2]; omega) | (simp [bi, entP, ← Int32.not_le, c_1, c_2]; done) | (simp [bi, entP, c_1, eq_true c_2]; done)), hT9⟩) (fun _ h => nomatch h) dX5_entryPart_60
  · skip
    refine lv_iconst (v := nI 0) S.1 S.2.1 dX5_entryPart_10 (by decide) ?_
    rw [hQ]
    exact W.iret (v := nI 0) S.1 S.2.1 hret (fun _ hT9 _ => ⟨_, rfl, (by first | (simp [bi, entP, c_1]; done) | (simp [bi, entP, c_1]; omega) | (simp [bi, entP, ← Int32.not_le, c_1]; done) | (simp [bi, entP, eq_true c_1]; done)), hT9⟩) (fun _ h => nomatch h) dX5_entryPart_11

theorem i_X5_tombstonePart_X5 : ∀ w ∈ wsX50, w ∈ wsX5_tombstonePart := by decide +kernel
theorem m_X5_tombstonePart_f21 : Cond.fieldLink RX5 21 "WideCell$Table" "burials" "[I" ∈ wsX5_tombstonePart := by decide +kernel
theorem m_X5_tombstonePart_f24 : Cond.fieldLink RX5 24 "WideCell$Table" "madeAts" "[I" ∈ wsX5_tombstonePart := by decide +kernel
abbrev rm_k_X5_tombstonePart : Room := { frames := 0, cells := 0, slots := 0, locals := 0 }
set_option maxHeartbeats 4000000 in
set_option maxRecDepth 100000 in
theorem k_X5_tombstonePart (l : Launch) (G : wG) (σ : cS) (μ : mS) (o : Nat → Int64) (t : Nat) (k : Nat) (x : Int32) (ht : t < 4) (hk : k < 92) : Met l yX5_tombstonePart wsX5_tombstonePart rm_k_X5_tombstonePart (wPc G σ μ o [.ref (gA G (15 + 6 * t)), .int (nI k), .int (x)]) (vp_Si (fun rr => rr = tombP σ t k x)) 0 0 (fun _ => False) := by
  refine Met.ofW (cc := cX5_tombstonePart) (maxL := 3) (ret := (some .int)) (by decide) rfl ?_
  intro p e s m args below meth c s₁ B hml hv
  obtain ⟨hargs, hI⟩ := hv
  have S : CallFix p m c cX5_tombstonePart 3 s args wsX5_tombstonePart RX5 := ⟨B.exec, B.bytes, hml, findClass_of_methodNamed B.named, atoms_spec (ws := wsX5_tombstonePart) B.pre⟩
  have hret := B.returns
  have hlocks := B.notSynchronized
  have Z := wZ_0 hI
  clear hI
  obtain ⟨Q, hQ⟩ : ∃ Q, Q = MQ below (vp_Si (fun rr => rr = tombP σ t k x)) args s 0 0 (fun _ => False) := ⟨_, rfl⟩
  rw [← hQ]
  have hl := lv_entry [.ref (gA G (15 + 6 * t)), .int (nI k), .int (x)] (n := 3) (Nat.le_of_ble_eq_true rfl)
  rw [show entryFrame m args 3 = entryFrame m ([.ref (gA G (15 + 6 * t)), .int (nI k), .int (x)] : List Value).toArray 3 from by rw [hargs], lg_entry_eq]
  generalize (lg_sl [.ref (gA G (15 + 6 * t)), .int (nI k), .int (x)] ++ List.replicate (3 - (lg_sl [.ref (gA G (15 + 6 * t)), .int (nI k), .int (x)]).length) Slot.unset).toArray = ls at hl ⊢
  have hl : lv_has ls 3 [(0, .ref (gA G (15 + 6 * t))), (1, .int (nI k)), (2, .int (x))] := hl
  refine lv_aload_n S.1 S.2.1 dX5_tombstonePart_0 rfl (lv_at hl 0 rfl) ?_
  refine r_get (C := RX5) (T := TX5) (N := 6) (ci := 5) S Z (by omega) (eT ht) rfl i_X5_tombstonePart_X5 4 (by decide) m_X5_tombstonePart_f21 rfl (v := .ref (gA G (15 + 6 * t + 4))) rfl dX5_tombstonePart_1 ?_
  refine lv_iload_n S.1 S.2.1 dX5_tombstonePart_4 rfl (lv_at hl 1 rfl) ?_
  refine r_ialdC S Z (n := 92) (pB ht (by decide) (by decide)) (by omega) (by decide) dX5_tombstonePart_5 ?_
  refine lv_iconst (v := -1) S.1 S.2.1 dX5_tombstonePart_6 (by decide) ?_
  refine lv_icmp_ne (tgt := 14) S.1 S.2.1 dX5_tombstonePart_7 (by decide) (fun c_1 => ?_) (fun c_1 => ?_)
  · skip
    refine lv_bipush (v := nI 13) S.1 S.2.1 dX5_tombstonePart_14 (by decide) ?_
    refine lv_aload_n S.1 S.2.1 dX5_tombstonePart_16 rfl (lv_at hl 0 rfl) ?_
    refine r_get (C := RX5) (T := TX5) (N := 6) (ci := 5) S Z (by omega) (eT ht) rfl i_X5_tombstonePart_X5 4 (by decide) m_X5_tombstonePart_f21 rfl (v := .ref (gA G (15 + 6 * t + 4))) rfl dX5_tombstonePart_17 ?_
    refine lv_iload_n S.1 S.2.1 dX5_tombstonePart_20 rfl (lv_at hl 1 rfl) ?_
    refine r_ialdC S Z (n := 92) (pB ht (by decide) (by decide)) (by omega) (by decide) dX5_tombstonePart_21 ?_
    refine lv_imul S.1 S.2.1 dX5_tombstonePart_22 ?_
    refine lv_iconst (v := nI 5) S.1 S.2.1 dX5_tombstonePart_23 (by decide) ?_
    refine lv_aload_n S.1 S.2.1 dX5_tombstonePart_24 rfl (lv_at hl 0 rfl) ?_
    refine r_get (C := RX5) (T := TX5) (N := 6) (ci := 5) S Z (by omega) (eT ht) rfl i_X5_tombstonePart_X5 5 (by decide) m_X5_tombstonePart_f24 rfl (v := .ref (gA G (15 + 6 * t + 5))) rfl dX5_tombstonePart_25 ?_
    refine lv_iload_n S.1 S.2.1 dX5_tombstonePart_28 rfl (lv_at hl 1 rfl) ?_
    refine r_ialdC S Z (n := 92) (pB ht (by decide) (by decide)) (by omega) (by decide) dX5_tombstonePart_29 ?_
    refine lv_imul S.1 S.2.1 dX5_tombstonePart_30 ?_
    refine lv_iadd S.1 S.2.1 dX5_tombstonePart_31 ?_
    refine lv_iload_n S.1 S.2.1 dX5_tombstonePart_32 rfl (lv_at hl 2 rfl) ?_
    refine lv_iadd S.1 S.2.1 dX5_tombstonePart_33 ?_
    rw [hQ]
    exact W.iret (v := (((nI 13 * cI σ (15 + 6 * t + 4) k) + (nI 5 * cI σ (15 + 6 * t + 5) k)) + x)) S.1 S.2.1 hret (fun _ hT9 _ => ⟨_, rfl, (by first | (simp [bi, tombP, c_1]; done) | (simp [bi, tombP, c_1]; omega) | (simp [bi, tombP, ← Int32.not_le, c_1]; done)), hT9⟩) (fun _ h => nomatch h) dX5_tombstonePart_34
  · skip
    refine lv_iconst (v := nI 0) S.1 S.2.1 dX5_tombstonePart_10 (by decide) ?_
    refine lv_goto (tgt := 34) S.1 S.2.1 dX5_tombstonePart_11 (by decide) ?_
    rw [hQ]
    exact W.iret (v := nI 0) S.1 S.2.1 hret (fun _ hT9 _ => ⟨_, rfl, (by first | (simp [bi, tombP, c_1]; done) | (simp [bi, tombP, c_1]; omega) | (simp [bi, tombP, ← Int32.not_le, c_1]; done) | (simp [bi, tombP, eq_true c_1]; done)), hT9⟩) (fun _ h => nomatch h) dX5_tombstonePart_34

theorem m_X5_rowSum_k115 : Cond.constant RX5 115 (65521) ∈ wsX5_rowSum := by decide +kernel
theorem i_X5_rowSum_X5 : ∀ w ∈ wsX50, w ∈ wsX5_rowSum := by decide +kernel
theorem m_X5_rowSum_f27 : Cond.fieldLink RX5 27 "WideCell$Table" "ranges" "LWideCell$Ranges;" ∈ wsX5_rowSum := by decide +kernel
theorem m_X5_rowSum_s53 : Cond.static yX7_cellAt ∈ wsX5_rowSum := by decide +kernel
theorem m_X5_rowSum_zRX7 : Cond.initialized RX7 ∈ wsX5_rowSum := by decide +kernel
abbrev rm_k_X5_rowSum : Room := { frames := 1, cells := 0, slots := 0, locals := 23 }
set_option maxHeartbeats 4000000 in
set_option maxRecDepth 100000 in
theorem k_X5_rowSum (l : Launch) (G : wG) (σ : cS) (μ : mS) (o : Nat → Int64) (t : Nat) (row : Nat) (ht : t < 4) (hrow : row < 16) : Met l yX5_rowSum wsX5_rowSum rm_k_X5_rowSum (wPc G σ μ o [.ref (gA G (15 + 6 * t)), .int (nI row)]) (vp_Si (fun rr => rr = rowS σ t row)) 0 0 (fun _ => False) := by
  refine Met.ofW (cc := cX5_rowSum) (maxL := 5) (ret := (some .int)) (by decide) rfl ?_
  intro p e s m args below meth c s₁ B hml hv
  obtain ⟨hargs, hI⟩ := hv
  have S : CallFix p m c cX5_rowSum 5 s args wsX5_rowSum RX5 := ⟨B.exec, B.bytes, hml, findClass_of_methodNamed B.named, atoms_spec (ws := wsX5_rowSum) B.pre⟩
  have hret := B.returns
  have hlocks := B.notSynchronized
  have Z := wZ_0 hI
  clear hI
  obtain ⟨Q, hQ⟩ : ∃ Q, Q = MQ below (vp_Si (fun rr => rr = rowS σ t row)) args s 0 0 (fun _ => False) := ⟨_, rfl⟩
  rw [← hQ]
  have hl := lv_entry [.ref (gA G (15 + 6 * t)), .int (nI row)] (n := 5) (Nat.le_of_ble_eq_true rfl)
  rw [show entryFrame m args 5 = entryFrame m ([.ref (gA G (15 + 6 * t)), .int (nI row)] : List Value).toArray 5 from by rw [hargs], lg_entry_eq]
  generalize (lg_sl [.ref (gA G (15 + 6 * t)), .int (nI row)] ++ List.replicate (5 - (lg_sl [.ref (gA G (15 + 6 * t)), .int (nI row)]).length) Slot.unset).toArray = ls at hl ⊢
  have hl : lv_has ls 5 [(0, .ref (gA G (15 + 6 * t))), (1, .int (nI row))] := hl
  refine lv_aload_n S.1 S.2.1 dX5_rowSum_0 rfl (lv_at hl 0 rfl) ?_
  refine lv_bipush (v := nI 68) S.1 S.2.1 dX5_rowSum_1 (by decide) ?_
  refine lv_iload_n S.1 S.2.1 dX5_rowSum_3 rfl (lv_at hl 1 rfl) ?_
  refine r_addN S dX5_rowSum_4 ?_
  refine lv_bipush (v := nI 7) S.1 S.2.1 dX5_rowSum_5 (by decide) ?_
  refine vp_callSi (va_runV (As := [.int (nI (68 + row)), .int (nI 7)]) (rest := []) S (k_X5_tombstonePart l G σ μ o t (68 + row) (nI 7) ht (by omega)) (cwV 2 S.2.2.2.2 gX5_rowSum_X5_tombstonePart rfl rfl rfl ⟨rfl, hy_X5_tombstonePart⟩ ⟨Nat.le_of_ble_eq_true rfl, Nat.le_of_ble_eq_true rfl⟩) (wPc_V (q := (RX5, TX5, 6)) Z (by omega) (eT ht) rfl) rfl rfl hl.1 rfl (lv_room (Nat.le_of_ble_eq_true rfl)) dX5_rowSum_7 ⟨Nat.le_of_ble_eq_true rfl, Nat.le_of_ble_eq_true rfl⟩).run (fun r_1 h_2 => ?_)
  subst h_2
  refine lv_istore_n (lv' := [(2, .int (tombP σ t (68 + row) (nI 7))), (0, .ref (gA G (15 + 6 * t))), (1, .int (nI row))]) S.1 S.2.1 dX5_rowSum_10 rfl hl (by decide) rfl (fun ls hl => ?_)
  refine lv_iconst (v := nI 0) S.1 S.2.1 dX5_rowSum_11 (by decide) ?_
  refine lv_istore_n (lv' := [(3, .int (nI 0)), (2, .int (tombP σ t (68 + row) (nI 7))), (0, .ref (gA G (15 + 6 * t))), (1, .int (nI row))]) S.1 S.2.1 dX5_rowSum_12 rfl hl (by decide) rfl (fun ls hl => ?_)
  have L_13 : ∀ (n : Nat) (i : Nat) (hi : i ≤ 4) (hn : 4 - i < n) (ls : Array Slot) (hl : lv_has ls 5 [(0, .ref (gA G (15 + 6 * t))), (1, .int (nI row)), (2, .int (rs1 σ t row i)), (3, .int (nI i))]), W p l e (headSpec wsX5_rowSum rm_k_X5_rowSum).room s m args below meth c s.heap [] 0 0 Q (F0 m 13 ls []) := by
    intro n
    induction n with
    | zero => intro i hi hn; omega
    | succ n ih_13 =>
      intro i hi hn ls hl
      refine lv_iload_n S.1 S.2.1 dX5_rowSum_13 rfl (lv_at hl 3 rfl) ?_
      refine lv_iconst (v := nI 4) S.1 S.2.1 dX5_rowSum_14 (by decide) ?_
      refine r_icmpN_ge S (tgt := 67) (by omega) (by omega) dX5_rowSum_15 (by decide) (fun c_3 => ?_) (fun c_3 => ?_)
      · skip
        obtain rfl : i = 4 := by omega
        refine lv_iconst (v := nI 0) S.1 S.2.1 dX5_rowSum_67 (by decide) ?_
        refine lv_istore_n (lv' := [(3, .int (nI 0)), (0, .ref (gA G (15 + 6 * t))), (1, .int (nI row)), (2, .int (rs1 σ t row 4))]) S.1 S.2.1 dX5_rowSum_68 rfl hl (by decide) rfl (fun ls hl => ?_)
        have L_69 : ∀ (n : Nat) (j : Nat) (hj : j ≤ 8) (hn : 8 - j < n) (ls : Array Slot) (hl : lv_has ls 5 [(0, .ref (gA G (15 + 6 * t))), (1, .int (nI row)), (2, .int (rs2 σ t row j)), (3, .int (nI j))]), W p l e (headSpec wsX5_rowSum rm_k_X5_rowSum).room s m args below meth c s.heap [] 0 0 Q (F0 m 69 ls []) := by
          intro n
          induction n with
          | zero => intro j hj hn; omega
          | succ n ih_69 =>
            intro j hj hn ls hl
            refine lv_iload_n S.1 S.2.1 dX5_rowSum_69 rfl (lv_at hl 3 rfl) ?_
            refine lv_bipush (v := nI 8) S.1 S.2.1 dX5_rowSum_70 (by decide) ?_
            refine r_icmpN_ge S (tgt := 115) (by omega) (by omega) dX5_rowSum_72 (by decide) (fun c_4 => ?_) (fun c_4 => ?_)
            · skip
              obtain rfl : j = 8 := by omega
              refine lv_iload_n S.1 S.2.1 dX5_rowSum_115 rfl (lv_at hl 2 rfl) ?_
              refine lv_ldc (v := 65521) S.1 S.2.1 S.2.2.2.1 (S.2.2.2.2 _ m_X5_rowSum_k115) dX5_rowSum_116 ?_
              refine r_irem S (by decide) dX5_rowSum_118 ?_
              rw [hQ]
              exact W.iret (v := (jrem (rs2 σ t row 8) ((65521 : Int32)))) S.1 S.2.1 hret (fun _ hT9 _ => ⟨_, rfl, rfl, hT9⟩) (fun _ h => nomatch h) dX5_rowSum_119
            · skip
              refine lv_aload_n S.1 S.2.1 dX5_rowSum_75 rfl (lv_at hl 0 rfl) ?_
              refine r_get (C := RX5) (T := TX5) (N := 6) (ci := 5) S Z (by omega) (eT ht) rfl i_X5_rowSum_X5 0 (by decide) m_X5_rowSum_f27 rfl (v := .ref (gA G 1)) rfl dX5_rowSum_76 ?_
              refine lv_iload_n S.1 S.2.1 dX5_rowSum_79 rfl (lv_at hl 3 rfl) ?_
              refine lv_iload_n S.1 S.2.1 dX5_rowSum_80 rfl (lv_at hl 1 rfl) ?_
              refine vp_callSi (va_runV (As := [.int (nI j), .int (nI row)]) (rest := []) S (k_X4_has l G σ μ o j row (by omega)) (cwV 2 S.2.2.2.2 gX5_rowSum_X4_has rfl rfl rfl ⟨rfl, hy_X4_has⟩ ⟨Nat.le_of_ble_eq_true rfl, Nat.le_of_ble_eq_true rfl⟩) (wPc_V (q := (RX4, TX4, 2)) Z (by decide) rfl rfl) rfl rfl hl.1 rfl (lv_room (Nat.le_of_ble_eq_true rfl)) dX5_rowSum_81 ⟨Nat.le_of_ble_eq_true rfl, Nat.le_of_ble_eq_true rfl⟩).run (fun r_5 h_6 => ?_)
              subst h_6
              refine r_if_eqB S (tgt := 109) dX5_rowSum_84 (by decide) (fun c_7 => ?_) (fun c_7 => ?_)
              · skip
                refine lv_iinc (v := nI (j + 1)) (lv' := [(3, .int (nI (j + 1))), (0, .ref (gA G (15 + 6 * t))), (1, .int (nI row)), (2, .int (rs2 σ t row j))]) S.1 S.2.1 dX5_rowSum_109 hl (k := 3) rfl (nI_inc rfl) (by decide) rfl (fun ls hl => ?_)
                refine lv_goto (tgt := 69) S.1 S.2.1 dX5_rowSum_112 (by decide) ?_
                have q_8 : (rs2 σ t row (j + 1) : Int32) = rs2 σ t row j := by first | (first | (simp [bi, rs1, rs2, rowS, hi, c_3, hj, c_4, c_7]; done) | (simp [bi, rs1, rs2, rowS, hi, c_3, hj, c_4, c_7]; omega) | (simp [bi, rs1, rs2, rowS, ← Int32.not_le, hi, c_3, hj, c_4, c_7]; done) | (simp [bi, rs1, rs2, rowS, hi, c_3, hj, c_4, eq_true c_7]; done)) | rfl
                have hl : lv_has ls 5 [(0, .ref (gA G (15 + 6 * t))), (1, .int (nI row)), (2, .int (rs2 σ t row (j + 1))), (3, .int (nI (j + 1)))] := by
                  have hl := lv_sub hl [1, 2, 3, 0] rfl
                  rw [q_8]; exact hl
                exact ih_69 (j + 1) (by omega) (by omega) ls (hl)
              · skip
                refine lv_iload_n S.1 S.2.1 dX5_rowSum_87 rfl (lv_at hl 2 rfl) ?_
                refine lv_aload_n S.1 S.2.1 dX5_rowSum_88 rfl (lv_at hl 0 rfl) ?_
                refine lv_bipush (v := nI 84) S.1 S.2.1 dX5_rowSum_89 (by decide) ?_
                refine lv_iload_n S.1 S.2.1 dX5_rowSum_91 rfl (lv_at hl 3 rfl) ?_
                refine r_addN S dX5_rowSum_92 ?_
                refine lv_bipush (v := nI 11) S.1 S.2.1 dX5_rowSum_93 (by decide) ?_
                refine lv_aload_n S.1 S.2.1 dX5_rowSum_95 rfl (lv_at hl 0 rfl) ?_
                refine r_get (C := RX5) (T := TX5) (N := 6) (ci := 5) S Z (by omega) (eT ht) rfl i_X5_rowSum_X5 0 (by decide) m_X5_rowSum_f27 rfl (v := .ref (gA G 1)) rfl dX5_rowSum_96 ?_
                refine lv_iload_n S.1 S.2.1 dX5_rowSum_99 rfl (lv_at hl 3 rfl) ?_
                refine vp_callSi (va_runV (As := [.int (nI j)]) (rest := [.int (nI 11), .int (nI (84 + j)), .ref (gA G (15 + 6 * t)), .int (rs2 σ t row j)]) S (k_X4_partOfSum l G σ μ o j (by omega)) (cwV 1 S.2.2.2.2 gX5_rowSum_X4_partOfSum rfl rfl rfl ⟨rfl, hy_X4_partOfSum⟩ ⟨Nat.le_of_ble_eq_true rfl, Nat.le_of_ble_eq_true rfl⟩) (wPc_V (q := (RX4, TX4, 2)) Z (by decide) rfl rfl) rfl rfl hl.1 rfl (lv_room (Nat.le_of_ble_eq_true rfl)) dX5_rowSum_100 ⟨Nat.le_of_ble_eq_true rfl, Nat.le_of_ble_eq_true rfl⟩).run (fun r_9 h_10 => ?_)
                subst h_10
                refine lv_iadd S.1 S.2.1 dX5_rowSum_103 ?_
                refine vp_callSi (va_runV (As := [.int (nI (84 + j)), .int ((nI 11 + parS σ j))]) (rest := [.int (rs2 σ t row j)]) S (k_X5_tombstonePart l G σ μ o t (84 + j) ((nI 11 + parS σ j)) ht (by omega)) (cwV 2 S.2.2.2.2 gX5_rowSum_X5_tombstonePart rfl rfl rfl ⟨rfl, hy_X5_tombstonePart⟩ ⟨Nat.le_of_ble_eq_true rfl, Nat.le_of_ble_eq_true rfl⟩) (wPc_V (q := (RX5, TX5, 6)) Z (by omega) (eT ht) rfl) rfl rfl hl.1 rfl (lv_room (Nat.le_of_ble_eq_true rfl)) dX5_rowSum_104 ⟨Nat.le_of_ble_eq_true rfl, Nat.le_of_ble_eq_true rfl⟩).run (fun r_11 h_12 => ?_)
                subst h_12
                refine lv_iadd S.1 S.2.1 dX5_rowSum_107 ?_
                refine lv_istore_n (lv' := [(2, .int ((rs2 σ t row j + tombP σ t (84 + j) ((nI 11 + parS σ j))))), (0, .ref (gA G (15 + 6 * t))), (1, .int (nI row)), (3, .int (nI j))]) S.1 S.2.1 dX5_rowSum_108 rfl hl (by decide) rfl (fun ls hl => ?_)
                refine lv_iinc (v := nI (j + 1)) (lv' := [(3, .int (nI (j + 1))), (2, .int ((rs2 σ t row j + tombP σ t (84 + j) ((nI 11 + parS σ j))))), (0, .ref (gA G (15 + 6 * t))), (1, .int (nI row))]) S.1 S.2.1 dX5_rowSum_109 hl (k := 3) rfl (nI_inc rfl) (by decide) rfl (fun ls hl => ?_)
                refine lv_goto (tgt := 69) S.1 S.2.1 dX5_rowSum_112 (by decide) ?_
                have q_13 : (rs2 σ t row (j + 1) : Int32) = (rs2 σ t row j + tombP σ t (84 + j) ((nI 11 + parS σ j))) := by first | (first | (simp [bi, rs1, rs2, rowS, hi, c_3, hj, c_4, c_7]; done) | (simp [bi, rs1, rs2, rowS, hi, c_3, hj, c_4, c_7]; omega) | (simp [bi, rs1, rs2, rowS, ← Int32.not_le, hi, c_3, hj, c_4, c_7]; done)) | rfl
                have hl : lv_has ls 5 [(0, .ref (gA G (15 + 6 * t))), (1, .int (nI row)), (2, .int (rs2 σ t row (j + 1))), (3, .int (nI (j + 1)))] := by
                  have hl := lv_sub hl [2, 3, 1, 0] rfl
                  rw [q_13]; exact hl
                exact ih_69 (j + 1) (by omega) (by omega) ls (hl)
        have q_14 : (rs2 σ t row 0 : Int32) = rs1 σ t row 4 := by first | rfl | (first | (simp [bi, rs1, rs2, rowS, hi, c_3]; done) | (simp [bi, rs1, rs2, rowS, hi, c_3]; omega) | (simp [bi, rs1, rs2, rowS, ← Int32.not_le, hi, c_3]; done))
        have hl : lv_has ls 5 [(0, .ref (gA G (15 + 6 * t))), (1, .int (nI row)), (2, .int (rs2 σ t row 0)), (3, .int (nI 0))] := by
          have hl := lv_sub hl [1, 2, 3, 0] rfl
          rw [q_14]; exact hl
        exact L_69 (8 - 0 + 1) 0 (by omega) (by omega) ls (hl)
      · skip
        refine lv_iload_n S.1 S.2.1 dX5_rowSum_18 rfl (lv_at hl 1 rfl) ?_
        refine lv_iload_n S.1 S.2.1 dX5_rowSum_19 rfl (lv_at hl 3 rfl) ?_
        refine vp_callSi (va_runSN (As := [.int (nI row), .int (nI i)]) (rest := []) S (k_X7_cellAt l G σ μ o row i ) ⟨va_cnB 2 S.2.2.2.2 gX5_rowSum_X7_cellAt_n53 rfl rfl rfl (Z.2.1.2.1 _ n_RX5_53) (S.2.2.2.2 _ m_X5_rowSum_zRX7) hy_X7_cellAt ⟨Nat.le_of_ble_eq_true rfl, Nat.le_of_ble_eq_true rfl⟩, S.2.2.2.2 _ m_X5_rowSum_s53, trivial⟩ (wPc_S Z) rfl rfl hl.1 rfl (lv_room (Nat.le_of_ble_eq_true rfl)) dX5_rowSum_20 ⟨Nat.le_of_ble_eq_true rfl, Nat.le_of_ble_eq_true rfl⟩).run (fun r_15 h_16 => ?_)
        subst h_16
        refine lv_istore (lv' := [(4, .int (nI (row * 4 + i))), (0, .ref (gA G (15 + 6 * t))), (1, .int (nI row)), (2, .int (rs1 σ t row i)), (3, .int (nI i))]) S.1 S.2.1 dX5_rowSum_23 hl (by decide) rfl (fun ls hl => ?_)
        refine lv_iload_n S.1 S.2.1 dX5_rowSum_25 rfl (lv_at hl 3 rfl) ?_
        refine lv_aload_n S.1 S.2.1 dX5_rowSum_26 rfl (lv_at hl 1 rfl) ?_
        refine lv_iload S.1 S.2.1 dX5_rowSum_27 (lv_at hl 0 rfl) ?_
        refine lv_iload_n S.1 S.2.1 dX5_rowSum_29 rfl (lv_at hl 4 rfl) ?_
        refine vp_callSi (va_runV (As := [.int (nI (row * 4 + i)), .int (nI i)]) (rest := [.int (rs1 σ t row i)]) S (k_X5_entryPart l G σ μ o t (row * 4 + i) i ht (by omega)) (cwV 2 S.2.2.2.2 gX5_rowSum_X5_entryPart rfl rfl rfl ⟨rfl, hy_X5_entryPart⟩ ⟨Nat.le_of_ble_eq_true rfl, Nat.le_of_ble_eq_true rfl⟩) (wPc_V (q := (RX5, TX5, 6)) Z (by omega) (eT ht) rfl) rfl rfl hl.1 rfl (lv_room (Nat.le_of_ble_eq_true rfl)) dX5_rowSum_30 ⟨Nat.le_of_ble_eq_true rfl, Nat.le_of_ble_eq_true rfl⟩).run (fun r_17 h_18 => ?_)
        subst h_18
        refine lv_iadd S.1 S.2.1 dX5_rowSum_33 ?_
        refine lv_istore_n (lv' := [(2, .int ((rs1 σ t row i + entP σ t (row * 4 + i) i))), (4, .int (nI (row * 4 + i))), (0, .ref (gA G (15 + 6 * t))), (1, .int (nI row)), (3, .int (nI i))]) S.1 S.2.1 dX5_rowSum_34 rfl hl (by decide) rfl (fun ls hl => ?_)
        refine lv_iload_n S.1 S.2.1 dX5_rowSum_35 rfl (lv_at hl 0 rfl) ?_
        refine lv_aload_n S.1 S.2.1 dX5_rowSum_36 rfl (lv_at hl 2 rfl) ?_
        refine lv_iload S.1 S.2.1 dX5_rowSum_37 (lv_at hl 1 rfl) ?_
        refine lv_iconst (v := nI 3) S.1 S.2.1 dX5_rowSum_39 (by decide) ?_
        refine lv_iload_n S.1 S.2.1 dX5_rowSum_40 rfl (lv_at hl 4 rfl) ?_
        refine r_addN S dX5_rowSum_41 ?_
        refine vp_callSi (va_runV (As := [.int (nI (row * 4 + i)), .int (nI (3 + i))]) (rest := [.int ((rs1 σ t row i + entP σ t (row * 4 + i) i))]) S (k_X5_tombstonePart l G σ μ o t (row * 4 + i) (nI (3 + i)) ht (by omega)) (cwV 2 S.2.2.2.2 gX5_rowSum_X5_tombstonePart rfl rfl rfl ⟨rfl, hy_X5_tombstonePart⟩ ⟨Nat.le_of_ble_eq_true rfl, Nat.le_of_ble_eq_true rfl⟩) (wPc_V (q := (RX5, TX5, 6)) Z (by omega) (eT ht) rfl) rfl rfl hl.1 rfl (lv_room (Nat.le_of_ble_eq_true rfl)) dX5_rowSum_42 ⟨Nat.le_of_ble_eq_true rfl, Nat.le_of_ble_eq_true rfl⟩).run (fun r_19 h_20 => ?_)
        subst h_20
        refine lv_iadd S.1 S.2.1 dX5_rowSum_45 ?_
        refine lv_istore_n (lv' := [(2, .int (((rs1 σ t row i + entP σ t (row * 4 + i) i) + tombP σ t (row * 4 + i) (nI (3 + i))))), (4, .int (nI (row * 4 + i))), (0, .ref (gA G (15 + 6 * t))), (1, .int (nI row)), (3, .int (nI i))]) S.1 S.2.1 dX5_rowSum_46 rfl hl (by decide) rfl (fun ls hl => ?_)
        refine lv_iload_n S.1 S.2.1 dX5_rowSum_47 rfl (lv_at hl 0 rfl) ?_
        refine lv_aload_n S.1 S.2.1 dX5_rowSum_48 rfl (lv_at hl 2 rfl) ?_
        refine lv_bipush (v := nI 64) S.1 S.2.1 dX5_rowSum_49 (by decide) ?_
        refine lv_iload_n S.1 S.2.1 dX5_rowSum_51 rfl (lv_at hl 4 rfl) ?_
        refine r_addN S dX5_rowSum_52 ?_
        refine lv_iconst (v := nI 5) S.1 S.2.1 dX5_rowSum_53 (by decide) ?_
        refine lv_iload_n S.1 S.2.1 dX5_rowSum_54 rfl (lv_at hl 4 rfl) ?_
        refine r_addN S dX5_rowSum_55 ?_
        refine vp_callSi (va_runV (As := [.int (nI (64 + i)), .int (nI (5 + i))]) (rest := [.int (((rs1 σ t row i + entP σ t (row * 4 + i) i) + tombP σ t (row * 4 + i) (nI (3 + i))))]) S (k_X5_tombstonePart l G σ μ o t (64 + i) (nI (5 + i)) ht (by omega)) (cwV 2 S.2.2.2.2 gX5_rowSum_X5_tombstonePart rfl rfl rfl ⟨rfl, hy_X5_tombstonePart⟩ ⟨Nat.le_of_ble_eq_true rfl, Nat.le_of_ble_eq_true rfl⟩) (wPc_V (q := (RX5, TX5, 6)) Z (by omega) (eT ht) rfl) rfl rfl hl.1 rfl (lv_room (Nat.le_of_ble_eq_true rfl)) dX5_rowSum_56 ⟨Nat.le_of_ble_eq_true rfl, Nat.le_of_ble_eq_true rfl⟩).run (fun r_21 h_22 => ?_)
        subst h_22
        refine lv_iadd S.1 S.2.1 dX5_rowSum_59 ?_
        refine lv_istore_n (lv' := [(2, .int ((((rs1 σ t row i + entP σ t (row * 4 + i) i) + tombP σ t (row * 4 + i) (nI (3 + i))) + tombP σ t (64 + i) (nI (5 + i))))), (4, .int (nI (row * 4 + i))), (0, .ref (gA G (15 + 6 * t))), (1, .int (nI row)), (3, .int (nI i))]) S.1 S.2.1 dX5_rowSum_60 rfl hl (by decide) rfl (fun ls hl => ?_)
        refine lv_iinc (v := nI (i + 1)) (lv' := [(3, .int (nI (i + 1))), (2, .int ((((rs1 σ t row i + entP σ t (row * 4 + i) i) + tombP σ t (row * 4 + i) (nI (3 + i))) + tombP σ t (64 + i) (nI (5 + i))))), (4, .int (nI (row * 4 + i))), (0, .ref (gA G (15 + 6 * t))), (1, .int (nI row))]) S.1 S.2.1 dX5_rowSum_61 hl (k := 4) rfl (nI_inc rfl) (by decide) rfl (fun ls hl => ?_)
        refine lv_goto (tgt := 13) S.1 S.2.1 dX5_rowSum_64 (by decide) ?_
        have q_23 : (rs1 σ t row (i + 1) : Int32) = (((rs1 σ t row i + entP σ t (row * 4 + i) i) + tombP σ t (row * 4 + i) (nI (3 + i))) + tombP σ t (64 + i) (nI (5 + i))) := by first | (first | (simp [bi, rs1, rs2, rowS, hi, c_3]; done) | (simp [bi, rs1, rs2, rowS, hi, c_3]; omega) | (simp [bi, rs1, rs2, rowS, ← Int32.not_le, hi, c_3]; done)) | rfl
        have hl : lv_has ls 5 [(0, .ref (gA G (15 + 6 * t))), (1, .int (nI row)), (2, .int (rs1 σ t row (i + 1))), (3, .int (nI (i + 1)))] := by
          have hl := lv_sub hl [3, 4, 1, 0] rfl
          rw [q_23]; exact hl
        exact ih_13 (i + 1) (by omega) (by omega) ls (hl)
  have q_24 : (rs1 σ t row 0 : Int32) = tombP σ t (68 + row) (nI 7) := by first | rfl | (first | (simp [bi, rs1, rs2, rowS]; done) | (simp [bi, rs1, rs2, rowS]; omega) | (simp [bi, rs1, rs2, rowS, ← Int32.not_le]; done))
  have hl : lv_has ls 5 [(0, .ref (gA G (15 + 6 * t))), (1, .int (nI row)), (2, .int (rs1 σ t row 0)), (3, .int (nI 0))] := by
    have hl := lv_sub hl [2, 3, 1, 0] rfl
    rw [q_24]; exact hl
  exact L_13 (4 - 0 + 1) 0 (by omega) (by omega) ls (hl)
