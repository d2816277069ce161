abbrev rm_k_X7_isWithin_n : Room := { frames := 0, cells := 0, slots := 0, locals := 0 }
set_option maxHeartbeats 4000000 in
set_option maxRecDepth 100000 in
theorem k_X7_isWithin_n (l : Launch) (G : wG) (σ : cS) (μ : mS) (o : Nat → Int64) (a : Nat) (b : Nat) (hab : a ≤ b) (hb : b < 2 ^ 31) : Met l yX7_isWithin wsX7_isWithin rm_k_X7_isWithin_n (wPc G σ μ o [.int (nI a), .int (nI b)]) (vp_Si (fun rr => rr = bi (true))) 0 0 (fun _ => False) := by
  refine Met.ofW (cc := cX7_isWithin) (maxL := 2) (ret := (some .boolean)) (by decide) rfl ?_
  intro p e s m args below meth c s₁ B hml hv
  obtain ⟨hargs, hI⟩ := hv
  have S : CallFix p m c cX7_isWithin 2 s args wsX7_isWithin RX7 := ⟨B.exec, B.bytes, hml, findClass_of_methodNamed B.named, atoms_spec (ws := wsX7_isWithin) B.pre⟩
  have hret := B.returns
  have hlocks := B.notSynchronized
  have Z := wZ_0 hI
  clear hI
  obtain ⟨Q, hQ⟩ : ∃ Q, Q = MQ below (vp_Si (fun rr => rr = bi (true))) args s 0 0 (fun _ => False) := ⟨_, rfl⟩
  rw [← hQ]
  have hl := lv_entry [.int (nI a), .int (nI b)] (n := 2) (Nat.le_of_ble_eq_true rfl)
  rw [show entryFrame m args 2 = entryFrame m ([.int (nI a), .int (nI b)] : List Value).toArray 2 from by rw [hargs], lg_entry_eq]
  generalize (lg_sl [.int (nI a), .int (nI b)] ++ List.replicate (2 - (lg_sl [.int (nI a), .int (nI b)]).length) Slot.unset).toArray = ls at hl ⊢
  have hl : lv_has ls 2 [(0, .int (nI a)), (1, .int (nI b))] := hl
  have g1 := wi_n1 hab hb
  refine lv_iload_n S.1 S.2.1 dX7_isWithin_0 rfl (lv_at hl 0 rfl) ?_
  refine lv_if_lt (tgt := 13) S.1 S.2.1 dX7_isWithin_1 (by decide) (fun c_1 => absurd c_1 (by exact g1)) (fun c_1 => ?_)
  refine lv_iload_n S.1 S.2.1 dX7_isWithin_4 rfl (lv_at hl 0 rfl) ?_
  refine lv_iload_n S.1 S.2.1 dX7_isWithin_5 rfl (lv_at hl 1 rfl) ?_
  refine r_icmpN_gt S (tgt := 13) (by omega) (by omega) dX7_isWithin_6 (by decide) (fun c_2 => absurd c_2 (by omega)) (fun c_2 => ?_)
  refine lv_iconst (v := nI 1) S.1 S.2.1 dX7_isWithin_9 (by decide) ?_
  refine lv_goto (tgt := 14) S.1 S.2.1 dX7_isWithin_10 (by decide) ?_
  rw [hQ]
  exact W.zret (v := nI 1) S.1 S.2.1 hret rfl (fun _ hT9 _ => ⟨_, rfl, (by first | (simp [bi, c_1, c_2, Nat.not_lt.mpr c_2]; done) | (simp [bi, c_1, c_2, Nat.not_lt.mpr c_2]; omega) | (simp [bi, ← Int32.not_le, c_1, c_2, Nat.not_lt.mpr c_2]; done)), hT9⟩) (fun _ h => nomatch h) dX7_isWithin_14

abbrev rm_k_X7_isWithin_w : Room := { frames := 0, cells := 0, slots := 0, locals := 0 }
set_option maxHeartbeats 4000000 in
set_option maxRecDepth 100000 in
theorem k_X7_isWithin_w (l : Launch) (G : wG) (σ : cS) (μ : mS) (o : Nat → Int64) (x : Int32) (y : Int32)  : Met l yX7_isWithin wsX7_isWithin rm_k_X7_isWithin_w (wPc G σ μ o [.int (x), .int (y)]) (vp_Si (fun rr => rr = bi (wi x y))) 0 0 (fun _ => False) := by
  refine Met.ofW (cc := cX7_isWithin) (maxL := 2) (ret := (some .boolean)) (by decide) rfl ?_
  intro p e s m args below meth c s₁ B hml hv
  obtain ⟨hargs, hI⟩ := hv
  have S : CallFix p m c cX7_isWithin 2 s args wsX7_isWithin RX7 := ⟨B.exec, B.bytes, hml, findClass_of_methodNamed B.named, atoms_spec (ws := wsX7_isWithin) B.pre⟩
  have hret := B.returns
  have hlocks := B.notSynchronized
  have Z := wZ_0 hI
  clear hI
  obtain ⟨Q, hQ⟩ : ∃ Q, Q = MQ below (vp_Si (fun rr => rr = bi (wi x y))) args s 0 0 (fun _ => False) := ⟨_, rfl⟩
  rw [← hQ]
  have hl := lv_entry [.int (x), .int (y)] (n := 2) (Nat.le_of_ble_eq_true rfl)
  rw [show entryFrame m args 2 = entryFrame m ([.int (x), .int (y)] : List Value).toArray 2 from by rw [hargs], lg_entry_eq]
  generalize (lg_sl [.int (x), .int (y)] ++ List.replicate (2 - (lg_sl [.int (x), .int (y)]).length) Slot.unset).toArray = ls at hl ⊢
  have hl : lv_has ls 2 [(0, .int (x)), (1, .int (y))] := hl
  refine lv_iload_n S.1 S.2.1 dX7_isWithin_0 rfl (lv_at hl 0 rfl) ?_
  refine lv_if_lt (tgt := 13) S.1 S.2.1 dX7_isWithin_1 (by decide) (fun c_1 => ?_) (fun c_1 => ?_)
  · skip
    refine lv_iconst (v := nI 0) S.1 S.2.1 dX7_isWithin_13 (by decide) ?_
    rw [hQ]
    exact W.zret (v := nI 0) S.1 S.2.1 hret rfl (fun _ hT9 _ => ⟨_, rfl, (by first | (simp [bi, wi, c_1]; done) | (simp [bi, wi, c_1]; omega) | (simp [bi, wi, ← Int32.not_le, c_1]; done)), hT9⟩) (fun _ h => nomatch h) dX7_isWithin_14
  · skip
    refine lv_iload_n S.1 S.2.1 dX7_isWithin_4 rfl (lv_at hl 0 rfl) ?_
    refine lv_iload_n S.1 S.2.1 dX7_isWithin_5 rfl (lv_at hl 1 rfl) ?_
    refine lv_icmp_gt (tgt := 13) S.1 S.2.1 dX7_isWithin_6 (by decide) (fun c_2 => ?_) (fun c_2 => ?_)
    · skip
      refine lv_iconst (v := nI 0) S.1 S.2.1 dX7_isWithin_13 (by decide) ?_
      rw [hQ]
      exact W.zret (v := nI 0) S.1 S.2.1 hret rfl (fun _ hT9 _ => ⟨_, rfl, (by first | (simp [bi, wi, c_1, c_2]; done) | (simp [bi, wi, c_1, c_2]; omega) | (simp [bi, wi, ← Int32.not_le, c_1, c_2]; done)), hT9⟩) (fun _ h => nomatch h) dX7_isWithin_14
    · skip
      refine lv_iconst (v := nI 1) S.1 S.2.1 dX7_isWithin_9 (by decide) ?_
      refine lv_goto (tgt := 14) S.1 S.2.1 dX7_isWithin_10 (by decide) ?_
      rw [hQ]
      exact W.zret (v := nI 1) S.1 S.2.1 hret rfl (fun _ hT9 _ => ⟨_, rfl, (by first | (simp [bi, wi, c_1, c_2]; done) | (simp [bi, wi, c_1, c_2]; omega) | (simp [bi, wi, ← Int32.not_le, c_1, c_2]; done)), hT9⟩) (fun _ h => nomatch h) dX7_isWithin_14

abbrev rm_k_X7_requireIndex : Room := { frames := 0, cells := 0, slots := 0, locals := 0 }
set_option maxHeartbeats 4000000 in
set_option maxRecDepth 100000 in
theorem k_X7_requireIndex (l : Launch) (G : wG) (σ : cS) (μ : mS) (o : Nat → Int64)   : Met l yX7_requireIndex wsX7_requireIndex rm_k_X7_requireIndex (wPc G σ μ o [.int (bi true)]) (va_Sv (fun _ => True)) 0 0 (fun _ => False) := by
  refine Met.ofW (cc := cX7_requireIndex) (maxL := 1) (ret := none) (by decide) rfl ?_
  intro p e s m args below meth c s₁ B hml hv
  obtain ⟨hargs, hI⟩ := hv
  have S : CallFix p m c cX7_requireIndex 1 s args wsX7_requireIndex RX7 := ⟨B.exec, B.bytes, hml, findClass_of_methodNamed B.named, atoms_spec (ws := wsX7_requireIndex) B.pre⟩
  have hret := B.returns
  have hlocks := B.notSynchronized
  have Z := wZ_0 hI
  clear hI
  obtain ⟨Q, hQ⟩ : ∃ Q, Q = MQ below (va_Sv (fun _ => True)) args s 0 0 (fun _ => False) := ⟨_, rfl⟩
  rw [← hQ]
  have hl := lv_entry [.int (bi true)] (n := 1) (Nat.le_of_ble_eq_true rfl)
  rw [show entryFrame m args 1 = entryFrame m ([.int (bi true)] : List Value).toArray 1 from by rw [hargs], lg_entry_eq]
  generalize (lg_sl [.int (bi true)] ++ List.replicate (1 - (lg_sl [.int (bi true)]).length) Slot.unset).toArray = ls at hl ⊢
  have hl : lv_has ls 1 [(0, .int (bi true))] := hl
  refine lv_iload_n S.1 S.2.1 dX7_requireIndex_0 rfl (lv_at hl 0 rfl) ?_
  refine r_if_neB S (tgt := 14) dX7_requireIndex_1 (by decide) (fun c_1 => ?_) (fun c_1 => absurd c_1 (by decide))
  rw [hQ]
  exact W.vret S.1 S.2.1 hret (fun _ hT9 _ => ⟨rfl, trivial, hT9⟩) (fun _ h => nomatch h) dX7_requireIndex_14

theorem m_X7_requireIndex_c196 : Cond.classLink RX7 196 "java/lang/IndexOutOfBoundsException" ∈ wsX7_requireIndex := by decide +kernel
theorem m_X7_requireIndex_i196 : Cond.initialized "java/lang/IndexOutOfBoundsException" ∈ wsX7_requireIndex := by decide +kernel
theorem m_X7_requireIndex_at : ∀ w ∈ (vx_atS RX7 200 "java/lang/IndexOutOfBoundsException" nmsX).filter goodWord, w ∈ wsX7_requireIndex := by decide +kernel
abbrev rm_k_X7_requireArgument : Room := { frames := 0, cells := 0, slots := 0, locals := 0 }
set_option maxHeartbeats 4000000 in
set_option maxRecDepth 100000 in
theorem k_X7_requireArgument (l : Launch) (G : wG) (σ : cS) (μ : mS) (o : Nat → Int64)   : Met l yX7_requireArgument wsX7_requireArgument rm_k_X7_requireArgument (wPc G σ μ o [.int (bi true)]) (va_Sv (fun _ => True)) 0 0 (fun _ => False) := by
  refine Met.ofW (cc := cX7_requireArgument) (maxL := 1) (ret := none) (by decide) rfl ?_
  intro p e s m args below meth c s₁ B hml hv
  obtain ⟨hargs, hI⟩ := hv
  have S : CallFix p m c cX7_requireArgument 1 s args wsX7_requireArgument RX7 := ⟨B.exec, B.bytes, hml, findClass_of_methodNamed B.named, atoms_spec (ws := wsX7_requireArgument) B.pre⟩
  have hret := B.returns
  have hlocks := B.notSynchronized
  have Z := wZ_0 hI
  clear hI
  obtain ⟨Q, hQ⟩ : ∃ Q, Q = MQ below (va_Sv (fun _ => True)) args s 0 0 (fun _ => False) := ⟨_, rfl⟩
  rw [← hQ]
  have hl := lv_entry [.int (bi true)] (n := 1) (Nat.le_of_ble_eq_true rfl)
  rw [show entryFrame m args 1 = entryFrame m ([.int (bi true)] : List Value).toArray 1 from by rw [hargs], lg_entry_eq]
  generalize (lg_sl [.int (bi true)] ++ List.replicate (1 - (lg_sl [.int (bi true)]).length) Slot.unset).toArray = ls at hl ⊢
  have hl : lv_has ls 1 [(0, .int (bi true))] := hl
  refine lv_iload_n S.1 S.2.1 dX7_requireArgument_0 rfl (lv_at hl 0 rfl) ?_
  refine r_if_neB S (tgt := 14) dX7_requireArgument_1 (by decide) (fun c_1 => ?_) (fun c_1 => absurd c_1 (by decide))
  rw [hQ]
  exact W.vret S.1 S.2.1 hret (fun _ hT9 _ => ⟨rfl, trivial, hT9⟩) (fun _ h => nomatch h) dX7_requireArgument_14

theorem m_X7_requireArgument_c203 : Cond.classLink RX7 203 "java/lang/IllegalArgumentException" ∈ wsX7_requireArgument := by decide +kernel
theorem m_X7_requireArgument_i203 : Cond.initialized "java/lang/IllegalArgumentException" ∈ wsX7_requireArgument := by decide +kernel
theorem m_X7_requireArgument_at : ∀ w ∈ (vx_atS RX7 207 "java/lang/IllegalArgumentException" nmsX).filter goodWord, w ∈ wsX7_requireArgument := by decide +kernel
abbrev rm_k_X7_requireState : Room := { frames := 0, cells := 0, slots := 0, locals := 0 }
set_option maxHeartbeats 4000000 in
set_option maxRecDepth 100000 in
theorem k_X7_requireState (l : Launch) (G : wG) (σ : cS) (μ : mS) (o : Nat → Int64)   : Met l yX7_requireState wsX7_requireState rm_k_X7_requireState (wPc G σ μ o [.int (bi true)]) (va_Sv (fun _ => True)) 0 0 (fun _ => False) := by
  refine Met.ofW (cc := cX7_requireState) (maxL := 1) (ret := none) (by decide) rfl ?_
  intro p e s m args below meth c s₁ B hml hv
  obtain ⟨hargs, hI⟩ := hv
  have S : CallFix p m c cX7_requireState 1 s args wsX7_requireState RX7 := ⟨B.exec, B.bytes, hml, findClass_of_methodNamed B.named, atoms_spec (ws := wsX7_requireState) B.pre⟩
  have hret := B.returns
  have hlocks := B.notSynchronized
  have Z := wZ_0 hI
  clear hI
  obtain ⟨Q, hQ⟩ : ∃ Q, Q = MQ below (va_Sv (fun _ => True)) args s 0 0 (fun _ => False) := ⟨_, rfl⟩
  rw [← hQ]
  have hl := lv_entry [.int (bi true)] (n := 1) (Nat.le_of_ble_eq_true rfl)
  rw [show entryFrame m args 1 = entryFrame m ([.int (bi true)] : List Value).toArray 1 from by rw [hargs], lg_entry_eq]
  generalize (lg_sl [.int (bi true)] ++ List.replicate (1 - (lg_sl [.int (bi true)]).length) Slot.unset).toArray = ls at hl ⊢
  have hl : lv_has ls 1 [(0, .int (bi true))] := hl
  refine lv_iload_n S.1 S.2.1 dX7_requireState_0 rfl (lv_at hl 0 rfl) ?_
  refine r_if_neB S (tgt := 14) dX7_requireState_1 (by decide) (fun c_1 => ?_) (fun c_1 => absurd c_1 (by decide))
  rw [hQ]
  exact W.vret S.1 S.2.1 hret (fun _ hT9 _ => ⟨rfl, trivial, hT9⟩) (fun _ h => nomatch h) dX7_requireState_14

theorem m_X7_requireState_c208 : Cond.classLink RX7 208 "java/lang/IllegalStateException" ∈ wsX7_requireState := by decide +kernel
theorem m_X7_requireState_i208 : Cond.initialized "java/lang/IllegalStateException" ∈ wsX7_requireState := by decide +kernel
theorem m_X7_requireState_at : ∀ w ∈ (vx_atS RX7 212 "java/lang/IllegalStateException" nmsX).filter goodWord, w ∈ wsX7_requireState := by decide +kernel
abbrev rm_k_X7_requireState_X : Room := { frames := 6, cells := 1, slots := 6, locals := 82 }
set_option maxHeartbeats 4000000 in
set_option maxRecDepth 100000 in
theorem k_X7_requireState_X (l : Launch) (hst : l.stackTraces = false) (G : wG) (σ : cS) (μ : mS) (o : Nat → Int64)   : vx_Met l yX7_requireState wsX7_requireState rm_k_X7_requireState_X (wPc G σ μ o [.int (bi false)]) QX (XX G σ μ o "java/lang/IllegalStateException") 1 6 (gP G) := by
  refine vx_ofW (cc := cX7_requireState) (maxL := 1) (ret := none) (by decide) rfl ?_
  intro p e s m args below meth c s₁ B hml hout hv
  obtain ⟨hargs, hI⟩ := hv
  have S : CallFix p m c cX7_requireState 1 s args wsX7_requireState RX7 := ⟨B.exec, B.bytes, hml, findClass_of_methodNamed B.named, atoms_spec (ws := wsX7_requireState) B.pre⟩
  have hret := B.returns
  have hlocks := B.notSynchronized
  have Z := wZ_0 hI
  clear hI
  obtain ⟨Q, hQ⟩ : ∃ Q, Q = vx_MQ below QX (XX G σ μ o "java/lang/IllegalStateException") args s 1 6 (gP G) := ⟨_, rfl⟩
  rw [← hQ]
  have hl := lv_entry [.int (bi false)] (n := 1) (Nat.le_of_ble_eq_true rfl)
  rw [show entryFrame m args 1 = entryFrame m ([.int (bi false)] : List Value).toArray 1 from by rw [hargs], lg_entry_eq]
  generalize (lg_sl [.int (bi false)] ++ List.replicate (1 - (lg_sl [.int (bi false)]).length) Slot.unset).toArray = ls at hl ⊢
  have hl : lv_has ls 1 [(0, .int (bi false))] := hl
  refine lv_iload_n S.1 S.2.1 dX7_requireState_0 rfl (lv_at hl 0 rfl) ?_
  refine r_if_neB S (tgt := 14) dX7_requireState_1 (by decide) (fun c_1 => absurd c_1 (by decide)) (fun c_1 => ?_)
  rw [hQ]
  exact x_throw (own := RX7) (ik := 208) (is := 210) (ic := 212) (text := tC) (sa := gX G 3) hst S Z (by decide +kernel) m_X7_requireState_c208 m_X7_requireState_i208 Z.2.1.2.2.2.2.2.2.1 m_X7_requireState_at x_atC x_otC (by rw [hl.1, S.2.2.1]) dX7_requireState_4 dX7_requireState_7 dX7_requireState_8 dX7_requireState_10 dX7_requireState_13 hout (Nat.le_of_ble_eq_true rfl) (Nat.le_of_ble_eq_true rfl) (Nat.le_of_ble_eq_true rfl) (Nat.le_of_ble_eq_true rfl) hlocks (by decide) (by decide)

abbrev rm_k_X7_requireRow : Room := { frames := 1, cells := 0, slots := 0, locals := 21 }
set_option maxHeartbeats 4000000 in
set_option maxRecDepth 100000 in
theorem k_X7_requireRow (l : Launch) (G : wG) (σ : cS) (μ : mS) (o : Nat → Int64) (a : Nat) (ha : a ≤ 15) : Met l yX7_requireRow wsX7_requireRow rm_k_X7_requireRow (wPc G σ μ o [.int (nI a)]) (va_Sv (fun _ => True)) 0 0 (fun _ => False) := by
  refine Met.ofW (cc := cX7_requireRow) (maxL := 1) (ret := none) (by decide) rfl ?_
  intro p e s m args below meth c s₁ B hml hv
  obtain ⟨hargs, hI⟩ := hv
  have S : CallFix p m c cX7_requireRow 1 s args wsX7_requireRow RX7 := ⟨B.exec, B.bytes, hml, findClass_of_methodNamed B.named, atoms_spec (ws := wsX7_requireRow) B.pre⟩
  have hret := B.returns
  have hlocks := B.notSynchronized
  have Z := wZ_0 hI
  clear hI
  obtain ⟨Q, hQ⟩ : ∃ Q, Q = MQ below (va_Sv (fun _ => True)) args s 0 0 (fun _ => False) := ⟨_, rfl⟩
  rw [← hQ]
  have hl := lv_entry [.int (nI a)] (n := 1) (Nat.le_of_ble_eq_true rfl)
  rw [show entryFrame m args 1 = entryFrame m ([.int (nI a)] : List Value).toArray 1 from by rw [hargs], lg_entry_eq]
  generalize (lg_sl [.int (nI a)] ++ List.replicate (1 - (lg_sl [.int (nI a)]).length) Slot.unset).toArray = ls at hl ⊢
  have hl : lv_has ls 1 [(0, .int (nI a))] := hl
  refine lv_iload_n S.1 S.2.1 dX7_requireRow_0 rfl (lv_at hl 0 rfl) ?_
  refine lv_bipush (v := nI 15) S.1 S.2.1 dX7_requireRow_1 (by decide) ?_
  refine vp_callSi (va_runS (As := [.int (nI a), .int (nI 15)]) (rest := []) S (k_X7_isWithin_n l G σ μ o a 15 ha (by omega)) (va_cwS 2 S.2.2.2.2 gX7_requireRow_X7_isWithin rfl rfl rfl hy_X7_isWithin ⟨Nat.le_of_ble_eq_true rfl, Nat.le_of_ble_eq_true rfl⟩) (wPc_S Z) rfl rfl hl.1 rfl (lv_room (Nat.le_of_ble_eq_true rfl)) dX7_requireRow_3 ⟨Nat.le_of_ble_eq_true rfl, Nat.le_of_ble_eq_true rfl⟩).run (fun r_1 h_2 => ?_)
  rw [h_2]; clear h_2 r_1
  refine va_csv (va_runS (As := [.int (bi true)]) (rest := []) S (k_X7_requireIndex l G σ μ o  ) (va_cwS 1 S.2.2.2.2 gX7_requireRow_X7_requireIndex rfl rfl rfl hy_X7_requireIndex ⟨Nat.le_of_ble_eq_true rfl, Nat.le_of_ble_eq_true rfl⟩) (wPc_S Z) rfl rfl hl.1 rfl (lv_room (Nat.le_of_ble_eq_true rfl)) dX7_requireRow_6 ⟨Nat.le_of_ble_eq_true rfl, Nat.le_of_ble_eq_true rfl⟩).run (fun h_4 => ?_)
  rw [hQ]
  exact W.vret S.1 S.2.1 hret (fun _ hT9 _ => ⟨rfl, trivial, hT9⟩) (fun _ h => nomatch h) dX7_requireRow_9

abbrev rm_k_X7_requireColumn : Room := { frames := 1, cells := 0, slots := 0, locals := 21 }
set_option maxHeartbeats 4000000 in
set_option maxRecDepth 100000 in
theorem k_X7_requireColumn (l : Launch) (G : wG) (σ : cS) (μ : mS) (o : Nat → Int64) (a : Nat) (ha : a ≤ 3) : Met l yX7_requireColumn wsX7_requireColumn rm_k_X7_requireColumn (wPc G σ μ o [.int (nI a)]) (va_Sv (fun _ => True)) 0 0 (fun _ => False) := by
  refine Met.ofW (cc := cX7_requireColumn) (maxL := 1) (ret := none) (by decide) rfl ?_
  intro p e s m args below meth c s₁ B hml hv
  obtain ⟨hargs, hI⟩ := hv
  have S : CallFix p m c cX7_requireColumn 1 s args wsX7_requireColumn RX7 := ⟨B.exec, B.bytes, hml, findClass_of_methodNamed B.named, atoms_spec (ws := wsX7_requireColumn) B.pre⟩
  have hret := B.returns
  have hlocks := B.notSynchronized
  have Z := wZ_0 hI
  clear hI
  obtain ⟨Q, hQ⟩ : ∃ Q, Q = MQ below (va_Sv (fun _ => True)) args s 0 0 (fun _ => False) := ⟨_, rfl⟩
  rw [← hQ]
  have hl := lv_entry [.int (nI a)] (n := 1) (Nat.le_of_ble_eq_true rfl)
  rw [show entryFrame m args 1 = entryFrame m ([.int (nI a)] : List Value).toArray 1 from by rw [hargs], lg_entry_eq]
  generalize (lg_sl [.int (nI a)] ++ List.replicate (1 - (lg_sl [.int (nI a)]).length) Slot.unset).toArray = ls at hl ⊢
  have hl : lv_has ls 1 [(0, .int (nI a))] := hl
  refine lv_iload_n S.1 S.2.1 dX7_requireColumn_0 rfl (lv_at hl 0 rfl) ?_
  refine lv_iconst (v := nI 3) S.1 S.2.1 dX7_requireColumn_1 (by decide) ?_
  refine vp_callSi (va_runS (As := [.int (nI a), .int (nI 3)]) (rest := []) S (k_X7_isWithin_n l G σ μ o a 3 ha (by omega)) (va_cwS 2 S.2.2.2.2 gX7_requireColumn_X7_isWithin rfl rfl rfl hy_X7_isWithin ⟨Nat.le_of_ble_eq_true rfl, Nat.le_of_ble_eq_true rfl⟩) (wPc_S Z) rfl rfl hl.1 rfl (lv_room (Nat.le_of_ble_eq_true rfl)) dX7_requireColumn_2 ⟨Nat.le_of_ble_eq_true rfl, Nat.le_of_ble_eq_true rfl⟩).run (fun r_1 h_2 => ?_)
  rw [h_2]; clear h_2 r_1
  refine va_csv (va_runS (As := [.int (bi true)]) (rest := []) S (k_X7_requireIndex l G σ μ o  ) (va_cwS 1 S.2.2.2.2 gX7_requireColumn_X7_requireIndex rfl rfl rfl hy_X7_requireIndex ⟨Nat.le_of_ble_eq_true rfl, Nat.le_of_ble_eq_true rfl⟩) (wPc_S Z) rfl rfl hl.1 rfl (lv_room (Nat.le_of_ble_eq_true rfl)) dX7_requireColumn_5 ⟨Nat.le_of_ble_eq_true rfl, Nat.le_of_ble_eq_true rfl⟩).run (fun h_4 => ?_)
  rw [hQ]
  exact W.vret S.1 S.2.1 hret (fun _ hT9 _ => ⟨rfl, trivial, hT9⟩) (fun _ h => nomatch h) dX7_requireColumn_8

abbrev rm_k_X7_requireDeletion : Room := { frames := 1, cells := 0, slots := 0, locals := 21 }
set_option maxHeartbeats 4000000 in
set_option maxRecDepth 100000 in
theorem k_X7_requireDeletion (l : Launch) (G : wG) (σ : cS) (μ : mS) (o : Nat → Int64) (a : Nat) (b : Nat) (ha : a ≤ 7) (hb : b ≤ 999) : Met l yX7_requireDeletion wsX7_requireDeletion rm_k_X7_requireDeletion (wPc G σ μ o [.int (nI a), .int (nI b)]) (va_Sv (fun _ => True)) 0 0 (fun _ => False) := by
  refine Met.ofW (cc := cX7_requireDeletion) (maxL := 2) (ret := none) (by decide) rfl ?_
  intro p e s m args below meth c s₁ B hml hv
  obtain ⟨hargs, hI⟩ := hv
  have S : CallFix p m c cX7_requireDeletion 2 s args wsX7_requireDeletion RX7 := ⟨B.exec, B.bytes, hml, findClass_of_methodNamed B.named, atoms_spec (ws := wsX7_requireDeletion) B.pre⟩
  have hret := B.returns
  have hlocks := B.notSynchronized
  have Z := wZ_0 hI
  clear hI
  obtain ⟨Q, hQ⟩ : ∃ Q, Q = MQ below (va_Sv (fun _ => True)) args s 0 0 (fun _ => False) := ⟨_, rfl⟩
  rw [← hQ]
  have hl := lv_entry [.int (nI a), .int (nI b)] (n := 2) (Nat.le_of_ble_eq_true rfl)
  rw [show entryFrame m args 2 = entryFrame m ([.int (nI a), .int (nI b)] : List Value).toArray 2 from by rw [hargs], lg_entry_eq]
  generalize (lg_sl [.int (nI a), .int (nI b)] ++ List.replicate (2 - (lg_sl [.int (nI a), .int (nI b)]).length) Slot.unset).toArray = ls at hl ⊢
  have hl : lv_has ls 2 [(0, .int (nI a)), (1, .int (nI b))] := hl
  refine lv_iload_n S.1 S.2.1 dX7_requireDeletion_0 rfl (lv_at hl 0 rfl) ?_
  refine lv_bipush (v := nI 7) S.1 S.2.1 dX7_requireDeletion_1 (by decide) ?_
  refine vp_callSi (va_runS (As := [.int (nI a), .int (nI 7)]) (rest := []) S (k_X7_isWithin_n l G σ μ o a 7 ha (by omega)) (va_cwS 2 S.2.2.2.2 gX7_requireDeletion_X7_isWithin rfl rfl rfl hy_X7_isWithin ⟨Nat.le_of_ble_eq_true rfl, Nat.le_of_ble_eq_true rfl⟩) (wPc_S Z) rfl rfl hl.1 rfl (lv_room (Nat.le_of_ble_eq_true rfl)) dX7_requireDeletion_3 ⟨Nat.le_of_ble_eq_true rfl, Nat.le_of_ble_eq_true rfl⟩).run (fun r_1 h_2 => ?_)
  rw [h_2]; clear h_2 r_1
  refine va_csv (va_runS (As := [.int (bi true)]) (rest := []) S (k_X7_requireArgument l G σ μ o  ) (va_cwS 1 S.2.2.2.2 gX7_requireDeletion_X7_requireArgument rfl rfl rfl hy_X7_requireArgument ⟨Nat.le_of_ble_eq_true rfl, Nat.le_of_ble_eq_true rfl⟩) (wPc_S Z) rfl rfl hl.1 rfl (lv_room (Nat.le_of_ble_eq_true rfl)) dX7_requireDeletion_6 ⟨Nat.le_of_ble_eq_true rfl, Nat.le_of_ble_eq_true rfl⟩).run (fun h_4 => ?_)
  refine lv_iload_n S.1 S.2.1 dX7_requireDeletion_9 rfl (lv_at hl 1 rfl) ?_
  refine lv_sipush (v := nI 999) S.1 S.2.1 dX7_requireDeletion_10 (by decide) ?_
  refine vp_callSi (va_runS (As := [.int (nI b), .int (nI 999)]) (rest := []) S (k_X7_isWithin_n l G σ μ o b 999 hb (by omega)) (va_cwS 2 S.2.2.2.2 gX7_requireDeletion_X7_isWithin rfl rfl rfl hy_X7_isWithin ⟨Nat.le_of_ble_eq_true rfl, Nat.le_of_ble_eq_true rfl⟩) (wPc_S Z) rfl rfl hl.1 rfl (lv_room (Nat.le_of_ble_eq_true rfl)) dX7_requireDeletion_13 ⟨Nat.le_of_ble_eq_true rfl, Nat.le_of_ble_eq_true rfl⟩).run (fun r_5 h_6 => ?_)
  rw [h_6]; clear h_6 r_5
  refine va_csv (va_runS (As := [.int (bi true)]) (rest := []) S (k_X7_requireArgument l G σ μ o  ) (va_cwS 1 S.2.2.2.2 gX7_requireDeletion_X7_requireArgument rfl rfl rfl hy_X7_requireArgument ⟨Nat.le_of_ble_eq_true rfl, Nat.le_of_ble_eq_true rfl⟩) (wPc_S Z) rfl rfl hl.1 rfl (lv_room (Nat.le_of_ble_eq_true rfl)) dX7_requireDeletion_16 ⟨Nat.le_of_ble_eq_true rfl, Nat.le_of_ble_eq_true rfl⟩).run (fun h_8 => ?_)
  rw [hQ]
  exact W.vret S.1 S.2.1 hret (fun _ hT9 _ => ⟨rfl, trivial, hT9⟩) (fun _ h => nomatch h) dX7_requireDeletion_19

theorem i_X7_keeperOf_X7 : ∀ w ∈ wsX70, w ∈ wsX7_keeperOf := by decide +kernel
theorem m_X7_keeperOf_f27 : Cond.fieldLink RX7 27 "WideCell" "keepers" "[LWideCell$Keeper;" ∈ wsX7_keeperOf := by decide +kernel
abbrev rm_k_X7_keeperOf : Room := { frames := 1, cells := 0, slots := 0, locals := 21 }
set_option maxHeartbeats 4000000 in
set_option maxRecDepth 100000 in
theorem k_X7_keeperOf (l : Launch) (G : wG) (σ : cS) (μ : mS) (o : Nat → Int64) (i : Nat) (hi : i < 3) : Met l yX7_keeperOf wsX7_keeperOf rm_k_X7_keeperOf (wPc G σ μ o [.ref (gA G 0), .int (nI i)]) (va_Sr (fun q => q = gA G (9 + i)) (fun q => .ref q)) 0 0 (fun _ => False) := by
  refine Met.ofW (cc := cX7_keeperOf) (maxL := 2) (ret := (some (.object "WideCell$Keeper"))) (by decide) rfl ?_
  intro p e s m args below meth c s₁ B hml hv
  obtain ⟨hargs, hI⟩ := hv
  have S : CallFix p m c cX7_keeperOf 2 s args wsX7_keeperOf RX7 := ⟨B.exec, B.bytes, hml, findClass_of_methodNamed B.named, atoms_spec (ws := wsX7_keeperOf) B.pre⟩
  have hret := B.returns
  have hlocks := B.notSynchronized
  have Z := wZ_0 hI
  clear hI
  obtain ⟨Q, hQ⟩ : ∃ Q, Q = MQ below (va_Sr (fun q => q = gA G (9 + i)) (fun q => .ref q)) args s 0 0 (fun _ => False) := ⟨_, rfl⟩
  rw [← hQ]
  have hl := lv_entry [.ref (gA G 0), .int (nI i)] (n := 2) (Nat.le_of_ble_eq_true rfl)
  rw [show entryFrame m args 2 = entryFrame m ([.ref (gA G 0), .int (nI i)] : List Value).toArray 2 from by rw [hargs], lg_entry_eq]
  generalize (lg_sl [.ref (gA G 0), .int (nI i)] ++ List.replicate (2 - (lg_sl [.ref (gA G 0), .int (nI i)]).length) Slot.unset).toArray = ls at hl ⊢
  have hl : lv_has ls 2 [(0, .ref (gA G 0)), (1, .int (nI i))] := hl
  refine lv_iload_n S.1 S.2.1 dX7_keeperOf_0 rfl (lv_at hl 1 rfl) ?_
  refine lv_iconst (v := nI 2) S.1 S.2.1 dX7_keeperOf_1 (by decide) ?_
  refine vp_callSi (va_runS (As := [.int (nI i), .int (nI 2)]) (rest := []) S (k_X7_isWithin_n l G σ μ o i 2 (by omega) (by omega)) (va_cwS 2 S.2.2.2.2 gX7_keeperOf_X7_isWithin rfl rfl rfl hy_X7_isWithin ⟨Nat.le_of_ble_eq_true rfl, Nat.le_of_ble_eq_true rfl⟩) (wPc_S Z) rfl rfl hl.1 rfl (lv_room (Nat.le_of_ble_eq_true rfl)) dX7_keeperOf_2 ⟨Nat.le_of_ble_eq_true rfl, Nat.le_of_ble_eq_true rfl⟩).run (fun r_1 h_2 => ?_)
  rw [h_2]; clear h_2 r_1
  refine va_csv (va_runS (As := [.int (bi true)]) (rest := []) S (k_X7_requireIndex l G σ μ o  ) (va_cwS 1 S.2.2.2.2 gX7_keeperOf_X7_requireIndex rfl rfl rfl hy_X7_requireIndex ⟨Nat.le_of_ble_eq_true rfl, Nat.le_of_ble_eq_true rfl⟩) (wPc_S Z) rfl rfl hl.1 rfl (lv_room (Nat.le_of_ble_eq_true rfl)) dX7_keeperOf_5 ⟨Nat.le_of_ble_eq_true rfl, Nat.le_of_ble_eq_true rfl⟩).run (fun h_4 => ?_)
  refine lv_aload_n S.1 S.2.1 dX7_keeperOf_8 rfl (lv_at hl 0 rfl) ?_
  refine r_get (C := RX7) (T := TX7) (N := 7) (ci := 7) S Z (by decide) rfl rfl i_X7_keeperOf_X7 2 (by decide) m_X7_keeperOf_f27 rfl (v := .ref (gA G 4)) rfl dX7_keeperOf_9 ?_
  refine lv_iload_n S.1 S.2.1 dX7_keeperOf_12 rfl (lv_at hl 1 rfl) ?_
  refine r_aldK S Z (by omega) dX7_keeperOf_13 ?_
  rw [hQ]
  exact W.aret S.1 S.2.1 hret (Or.inl ⟨_, rfl⟩) (Or.inr ⟨_, rfl⟩) (fun _ hT9 _ => ⟨_, rfl, rfl, hT9⟩) (fun _ h => nomatch h) dX7_keeperOf_14

theorem i_X7_tableOf_X3 : ∀ w ∈ wsX30, w ∈ wsX7_tableOf := by decide +kernel
abbrev rm_k_X7_tableOf : Room := { frames := 2, cells := 0, slots := 0, locals := 42 }
set_option maxHeartbeats 4000000 in
set_option maxRecDepth 100000 in
theorem k_X7_tableOf (l : Launch) (G : wG) (σ : cS) (μ : mS) (o : Nat → Int64) (i : Nat) (hi : i < 3) : Met l yX7_tableOf wsX7_tableOf rm_k_X7_tableOf (wPc G σ μ o [.ref (gA G 0), .int (nI i)]) (va_Sr (fun q => q = gA G (15 + 6 * i)) (fun q => .ref q)) 0 0 (fun _ => False) := by
  refine Met.ofW (cc := cX7_tableOf) (maxL := 2) (ret := (some (.object "WideCell$Table"))) (by decide) rfl ?_
  intro p e s m args below meth c s₁ B hml hv
  obtain ⟨hargs, hI⟩ := hv
  have S : CallFix p m c cX7_tableOf 2 s args wsX7_tableOf RX7 := ⟨B.exec, B.bytes, hml, findClass_of_methodNamed B.named, atoms_spec (ws := wsX7_tableOf) B.pre⟩
  have hret := B.returns
  have hlocks := B.notSynchronized
  have Z := wZ_0 hI
  clear hI
  obtain ⟨Q, hQ⟩ : ∃ Q, Q = MQ below (va_Sr (fun q => q = gA G (15 + 6 * i)) (fun q => .ref q)) args s 0 0 (fun _ => False) := ⟨_, rfl⟩
  rw [← hQ]
  have hl := lv_entry [.ref (gA G 0), .int (nI i)] (n := 2) (Nat.le_of_ble_eq_true rfl)
  rw [show entryFrame m args 2 = entryFrame m ([.ref (gA G 0), .int (nI i)] : List Value).toArray 2 from by rw [hargs], lg_entry_eq]
  generalize (lg_sl [.ref (gA G 0), .int (nI i)] ++ List.replicate (2 - (lg_sl [.ref (gA G 0), .int (nI i)]).length) Slot.unset).toArray = ls at hl ⊢
  have hl : lv_has ls 2 [(0, .ref (gA G 0)), (1, .int (nI i))] := hl
  refine lv_aload_n S.1 S.2.1 dX7_tableOf_0 rfl (lv_at hl 0 rfl) ?_
  refine lv_iload_n S.1 S.2.1 dX7_tableOf_1 rfl (lv_at hl 1 rfl) ?_
  refine va_csr (va_runV (As := [.int (nI i)]) (rest := []) S (k_X7_keeperOf l G σ μ o i hi) (cwV 1 S.2.2.2.2 gX7_tableOf_X7_keeperOf rfl rfl rfl ⟨rfl, hy_X7_keeperOf⟩ ⟨Nat.le_of_ble_eq_true rfl, Nat.le_of_ble_eq_true rfl⟩) (wPc_V (q := (RX7, TX7, 7)) Z (by decide) rfl rfl) rfl rfl hl.1 rfl (lv_room (Nat.le_of_ble_eq_true rfl)) dX7_tableOf_2 ⟨Nat.le_of_ble_eq_true rfl, Nat.le_of_ble_eq_true rfl⟩).run (fun r_1 h_2 => ?_)
  rw [h_2]; clear h_2 r_1
  refine r_getN (C := RX3) (T := TX3) (N := 3) (ci := 3) S Z (by omega) (eK hi) rfl i_X7_tableOf_X3 0 (by decide) (show Cond.fieldLinkNest RX7 151 "WideCell$Keeper" "table" "LWideCell$Table;" "WideCell" ∈ wN from n_RX7_151) rfl (v := .ref (gA G (15 + 6 * i))) rfl dX7_tableOf_5 ?_
  rw [hQ]
  exact W.aret S.1 S.2.1 hret (Or.inl ⟨_, rfl⟩) (Or.inr ⟨_, rfl⟩) (fun _ hT9 _ => ⟨_, rfl, rfl, hT9⟩) (fun _ h => nomatch h) dX7_tableOf_8
