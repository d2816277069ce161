theorem i_X8_thrown_X8 : ∀ w ∈ wsX80, w ∈ wsX8_thrown := by decide +kernel
theorem m_X8_thrown_f54 : Cond.fieldLink RX8 54 "WideCellModel" "thrown" "I" ∈ wsX8_thrown := by decide +kernel
abbrev rm_k_X8_thrown : Room := { frames := 0, cells := 0, slots := 0, locals := 0 }
set_option maxHeartbeats 4000000 in
set_option maxRecDepth 100000 in
theorem k_X8_thrown (l : Launch) (G : wG) (σ : cS) (μ : mS) (o : Nat → Int64)   : Met l yX8_thrown wsX8_thrown rm_k_X8_thrown (wPc G σ μ o [.ref (gA G 39)]) (vp_Si (fun rr => rr = mV μ 18)) 0 0 (fun _ => False) := by
  refine Met.ofW (cc := cX8_thrown) (maxL := 1) (ret := (some .int)) (by decide) rfl ?_
  intro p e s m args below meth c s₁ B hml hv
  obtain ⟨hargs, hI⟩ := hv
  have S : CallFix p m c cX8_thrown 1 s args wsX8_thrown RX8 := ⟨B.exec, B.bytes, hml, findClass_of_methodNamed B.named, atoms_spec (ws := wsX8_thrown) B.pre⟩
  have hret := B.returns
  have hlocks := B.notSynchronized
  have Z := wZ_0 hI
  clear hI
  obtain ⟨Q, hQ⟩ : ∃ Q, Q = MQ below (vp_Si (fun rr => rr = mV μ 18)) args s 0 0 (fun _ => False) := ⟨_, rfl⟩
  rw [← hQ]
  have hl := lv_entry [.ref (gA G 39)] (n := 1) (Nat.le_of_ble_eq_true rfl)
  rw [show entryFrame m args 1 = entryFrame m ([.ref (gA G 39)] : List Value).toArray 1 from by rw [hargs], lg_entry_eq]
  generalize (lg_sl [.ref (gA G 39)] ++ List.replicate (1 - (lg_sl [.ref (gA G 39)]).length) Slot.unset).toArray = ls at hl ⊢
  have hl : lv_has ls 1 [(0, .ref (gA G 39))] := hl
  refine lv_aload_n S.1 S.2.1 dX8_thrown_0 rfl (lv_at hl 0 rfl) ?_
  refine r_get (C := RX8) (T := TX8) (N := 19) (ci := 8) S Z (by decide) rfl rfl i_X8_thrown_X8 18 (by decide) m_X8_thrown_f54 rfl (v := .int (mV μ 18)) rfl dX8_thrown_1 ?_
  rw [hQ]
  exact W.iret (v := mV μ 18) S.1 S.2.1 hret (fun _ hT9 _ => ⟨_, rfl, rfl, hT9⟩) (fun _ h => nomatch h) dX8_thrown_4

theorem i_X8_can_X8 : ∀ w ∈ wsX80, w ∈ wsX8_can := by decide +kernel
theorem m_X8_can_f54 : Cond.fieldLink RX8 54 "WideCellModel" "thrown" "I" ∈ wsX8_can := by decide +kernel
abbrev rm_k_X8_can : Room := { frames := 0, cells := 0, slots := 0, locals := 0 }
set_option maxHeartbeats 4000000 in
set_option maxRecDepth 100000 in
theorem k_X8_can (l : Launch) (G : wG) (σ : cS) (μ : mS) (o : Nat → Int64) (fl : Nat) (hf : fl < 9) : Met l yX8_can wsX8_can rm_k_X8_can (wPc G σ μ o [.ref (gA G 39), .int (nI fl)]) (va_Qi (fun (rr : Int32) (u : cS × mS) => rr = bi (decide (fl = 0)) ∧ u = (σ, thr μ fl)) (fun u t => wI G u.1 u.2 o t) (gP G)) 0 0 (gP G) := by
  refine Met.ofW (cc := cX8_can) (maxL := 2) (ret := (some .boolean)) (by decide) rfl ?_
  intro p e s m args below meth c s₁ B hml hv
  obtain ⟨hargs, hI⟩ := hv
  have S : CallFix p m c cX8_can 2 s args wsX8_can RX8 := ⟨B.exec, B.bytes, hml, findClass_of_methodNamed B.named, atoms_spec (ws := wsX8_can) B.pre⟩
  have hret := B.returns
  have hlocks := B.notSynchronized
  have Z := wZ_0 hI
  clear hI
  obtain ⟨Q, hQ⟩ : ∃ Q, Q = MQ below (va_Qi (fun (rr : Int32) (u : cS × mS) => rr = bi (decide (fl = 0)) ∧ u = (σ, thr μ fl)) (fun u t => wI G u.1 u.2 o t) (gP G)) args s 0 0 (gP G) := ⟨_, rfl⟩
  rw [← hQ]
  have hl := lv_entry [.ref (gA G 39), .int (nI fl)] (n := 2) (Nat.le_of_ble_eq_true rfl)
  rw [show entryFrame m args 2 = entryFrame m ([.ref (gA G 39), .int (nI fl)] : List Value).toArray 2 from by rw [hargs], lg_entry_eq]
  generalize (lg_sl [.ref (gA G 39), .int (nI fl)] ++ List.replicate (2 - (lg_sl [.ref (gA G 39), .int (nI fl)]).length) Slot.unset).toArray = ls at hl ⊢
  have hl : lv_has ls 2 [(0, .ref (gA G 39)), (1, .int (nI fl))] := hl
  refine lv_aload_n S.1 S.2.1 dX8_can_0 rfl (lv_at hl 0 rfl) ?_
  refine lv_iload_n S.1 S.2.1 dX8_can_1 rfl (lv_at hl 1 rfl) ?_
  refine r_put (C := RX8) (T := TX8) (N := 19) (ci := 8) (σ' := σ) (μ' := mV' μ 18 (nI fl)) S Z (by decide) rfl rfl i_X8_can_X8 tyX8 tyX8_ok nmX8 18 (by decide) m_X8_can_f54 rfl rfl (ty := .int) (v := .int (nI fl)) (by decide +kernel) rfl rfl (Nat.le_of_ble_eq_true rfl) rfl rfl (sMV18 _) dX8_can_2 (fun H locs Z => ?_)
  refine lv_iload_n S.1 S.2.1 dX8_can_5 rfl (lv_at hl 1 rfl) ?_
  refine r_if_neN S (tgt := 13) (by omega) dX8_can_6 (by decide) (fun c_1 => ?_) (fun c_1 => ?_)
  · skip
    refine lv_iconst (v := nI 0) S.1 S.2.1 dX8_can_13 (by decide) ?_
    rw [hQ]
    have q8 : (thr μ fl : mS) = mV' μ 18 (nI fl) := rfl
    rw [← q8] at Z
    exact W.zret (v := nI 0) S.1 S.2.1 hret rfl (fun _ hT9 hW => ⟨⟨_, (σ, thr μ fl), rfl, ⟨(by first | (simp [bi, c_1]; done) | (simp [bi, c_1]; omega) | (simp [bi, ← Int32.not_le, c_1]; done)), rfl⟩, wZ_P Z hT9 hW⟩, Z.2.2.2.2.F hT9⟩) Z.2.2.2.2.2.2 dX8_can_14
  · skip
    refine lv_iconst (v := nI 1) S.1 S.2.1 dX8_can_9 (by decide) ?_
    refine lv_goto (tgt := 14) S.1 S.2.1 dX8_can_10 (by decide) ?_
    rw [hQ]
    have q8 : (thr μ fl : mS) = mV' μ 18 (nI fl) := rfl
    rw [← q8] at Z
    exact W.zret (v := nI 1) S.1 S.2.1 hret rfl (fun _ hT9 hW => ⟨⟨_, (σ, thr μ fl), rfl, ⟨(by first | (simp [bi, c_1]; done) | (simp [bi, c_1]; omega) | (simp [bi, ← Int32.not_le, c_1]; done) | (simp [bi, eq_true c_1]; done)), rfl⟩, wZ_P Z hT9 hW⟩, Z.2.2.2.2.F hT9⟩) Z.2.2.2.2.2.2 dX8_can_14

abbrev rm_k_X8_isIn : Room := { frames := 0, cells := 0, slots := 0, locals := 0 }
set_option maxHeartbeats 4000000 in
set_option maxRecDepth 100000 in
theorem k_X8_isIn (l : Launch) (G : wG) (σ : cS) (μ : mS) (o : Nat → Int64) (x : Int32) (y : Int32) (z : Int32)  : Met l yX8_isIn wsX8_isIn rm_k_X8_isIn (wPc G σ μ o [.int (x), .int (y), .int (z)]) (vp_Si (fun rr => rr = bi (isInB x y z))) 0 0 (fun _ => False) := by
  refine Met.ofW (cc := cX8_isIn) (maxL := 3) (ret := (some .boolean)) (by decide) rfl ?_
  intro p e s m args below meth c s₁ B hml hv
  obtain ⟨hargs, hI⟩ := hv
  have S : CallFix p m c cX8_isIn 3 s args wsX8_isIn RX8 := ⟨B.exec, B.bytes, hml, findClass_of_methodNamed B.named, atoms_spec (ws := wsX8_isIn) B.pre⟩
  have hret := B.returns
  have hlocks := B.notSynchronized
  have Z := wZ_0 hI
  clear hI
  obtain ⟨Q, hQ⟩ : ∃ Q, Q = MQ below (vp_Si (fun rr => rr = bi (isInB x y z))) args s 0 0 (fun _ => False) := ⟨_, rfl⟩
  rw [← hQ]
  have hl := lv_entry [.int (x), .int (y), .int (z)] (n := 3) (Nat.le_of_ble_eq_true rfl)
  rw [show entryFrame m args 3 = entryFrame m ([.int (x), .int (y), .int (z)] : List Value).toArray 3 from by rw [hargs], lg_entry_eq]
  generalize (lg_sl [.int (x), .int (y), .int (z)] ++ List.replicate (3 - (lg_sl [.int (x), .int (y), .int (z)]).length) Slot.unset).toArray = ls at hl ⊢
  have hl : lv_has ls 3 [(0, .int (x)), (1, .int (y)), (2, .int (z))] := hl
  refine lv_iload_n S.1 S.2.1 dX8_isIn_0 rfl (lv_at hl 0 rfl) ?_
  refine lv_iload_n S.1 S.2.1 dX8_isIn_1 rfl (lv_at hl 1 rfl) ?_
  refine lv_icmp_lt (tgt := 14) S.1 S.2.1 dX8_isIn_2 (by decide) (fun c_1 => ?_) (fun c_1 => ?_)
  · skip
    refine lv_iconst (v := nI 0) S.1 S.2.1 dX8_isIn_14 (by decide) ?_
    rw [hQ]
    exact W.zret (v := nI 0) S.1 S.2.1 hret rfl (fun _ hT9 _ => ⟨_, rfl, (by first | (simp [bi, isInB, c_1]; done) | (simp [bi, isInB, c_1]; omega) | (simp [bi, isInB, ← Int32.not_le, c_1]; done)), hT9⟩) (fun _ h => nomatch h) dX8_isIn_15
  · skip
    refine lv_iload_n S.1 S.2.1 dX8_isIn_5 rfl (lv_at hl 0 rfl) ?_
    refine lv_iload_n S.1 S.2.1 dX8_isIn_6 rfl (lv_at hl 2 rfl) ?_
    refine lv_icmp_gt (tgt := 14) S.1 S.2.1 dX8_isIn_7 (by decide) (fun c_2 => ?_) (fun c_2 => ?_)
    · skip
      refine lv_iconst (v := nI 0) S.1 S.2.1 dX8_isIn_14 (by decide) ?_
      rw [hQ]
      exact W.zret (v := nI 0) S.1 S.2.1 hret rfl (fun _ hT9 _ => ⟨_, rfl, (by first | (simp [bi, isInB, c_1, c_2]; done) | (simp [bi, isInB, c_1, c_2]; omega) | (simp [bi, isInB, ← Int32.not_le, c_1, c_2]; done)), hT9⟩) (fun _ h => nomatch h) dX8_isIn_15
    · skip
      refine lv_iconst (v := nI 1) S.1 S.2.1 dX8_isIn_10 (by decide) ?_
      refine lv_goto (tgt := 15) S.1 S.2.1 dX8_isIn_11 (by decide) ?_
      rw [hQ]
      exact W.zret (v := nI 1) S.1 S.2.1 hret rfl (fun _ hT9 _ => ⟨_, rfl, (by first | (simp [bi, isInB, c_1, c_2]; done) | (simp [bi, isInB, c_1, c_2]; omega) | (simp [bi, isInB, ← Int32.not_le, c_1, c_2]; done)), hT9⟩) (fun _ h => nomatch h) dX8_isIn_15

abbrev rm_k_X8_isCopy : Room := { frames := 1, cells := 0, slots := 0, locals := 22 }
set_option maxHeartbeats 4000000 in
set_option maxRecDepth 100000 in
theorem k_X8_isCopy (l : Launch) (G : wG) (σ : cS) (μ : mS) (o : Nat → Int64) (x : Int32)  : Met l yX8_isCopy wsX8_isCopy rm_k_X8_isCopy (wPc G σ μ o [.int (x)]) (vp_Si (fun rr => rr = bi (isCopyB x))) 0 0 (fun _ => False) := by
  refine Met.ofW (cc := cX8_isCopy) (maxL := 1) (ret := (some .boolean)) (by decide) rfl ?_
  intro p e s m args below meth c s₁ B hml hv
  obtain ⟨hargs, hI⟩ := hv
  have S : CallFix p m c cX8_isCopy 1 s args wsX8_isCopy RX8 := ⟨B.exec, B.bytes, hml, findClass_of_methodNamed B.named, atoms_spec (ws := wsX8_isCopy) B.pre⟩
  have hret := B.returns
  have hlocks := B.notSynchronized
  have Z := wZ_0 hI
  clear hI
  obtain ⟨Q, hQ⟩ : ∃ Q, Q = MQ below (vp_Si (fun rr => rr = bi (isCopyB x))) args s 0 0 (fun _ => False) := ⟨_, rfl⟩
  rw [← hQ]
  have hl := lv_entry [.int (x)] (n := 1) (Nat.le_of_ble_eq_true rfl)
  rw [show entryFrame m args 1 = entryFrame m ([.int (x)] : List Value).toArray 1 from by rw [hargs], lg_entry_eq]
  generalize (lg_sl [.int (x)] ++ List.replicate (1 - (lg_sl [.int (x)]).length) Slot.unset).toArray = ls at hl ⊢
  have hl : lv_has ls 1 [(0, .int (x))] := hl
  refine lv_iload_n S.1 S.2.1 dX8_isCopy_0 rfl (lv_at hl 0 rfl) ?_
  refine lv_iconst (v := nI 0) S.1 S.2.1 dX8_isCopy_1 (by decide) ?_
  refine lv_iconst (v := nI 2) S.1 S.2.1 dX8_isCopy_2 (by decide) ?_
  refine vp_callSi (va_runS (As := [.int (x), .int (nI 0), .int (nI 2)]) (rest := []) S (k_X8_isIn l G σ μ o x (nI 0) (nI 2) ) (va_cwS 3 S.2.2.2.2 gX8_isCopy_X8_isIn rfl rfl rfl hy_X8_isIn ⟨Nat.le_of_ble_eq_true rfl, Nat.le_of_ble_eq_true rfl⟩) (wPc_S Z) rfl rfl hl.1 rfl (lv_room (Nat.le_of_ble_eq_true rfl)) dX8_isCopy_3 ⟨Nat.le_of_ble_eq_true rfl, Nat.le_of_ble_eq_true rfl⟩).run (fun r_1 h_2 => ?_)
  subst h_2
  rw [hQ]
  exact W.zret (v := bi (isInB x (nI 0) (nI 2))) S.1 S.2.1 hret (bi_nar _) (fun _ hT9 _ => ⟨_, rfl, rfl, hT9⟩) (fun _ h => nomatch h) dX8_isCopy_6

abbrev rm_k_X8_isCell : Room := { frames := 1, cells := 0, slots := 0, locals := 22 }
set_option maxHeartbeats 4000000 in
set_option maxRecDepth 100000 in
theorem k_X8_isCell (l : Launch) (G : wG) (σ : cS) (μ : mS) (o : Nat → Int64) (x : Int32) (y : Int32)  : Met l yX8_isCell wsX8_isCell rm_k_X8_isCell (wPc G σ μ o [.int (x), .int (y)]) (vp_Si (fun rr => rr = bi (isCellB x y))) 0 0 (fun _ => False) := by
  refine Met.ofW (cc := cX8_isCell) (maxL := 2) (ret := (some .boolean)) (by decide) rfl ?_
  intro p e s m args below meth c s₁ B hml hv
  obtain ⟨hargs, hI⟩ := hv
  have S : CallFix p m c cX8_isCell 2 s args wsX8_isCell RX8 := ⟨B.exec, B.bytes, hml, findClass_of_methodNamed B.named, atoms_spec (ws := wsX8_isCell) B.pre⟩
  have hret := B.returns
  have hlocks := B.notSynchronized
  have Z := wZ_0 hI
  clear hI
  obtain ⟨Q, hQ⟩ : ∃ Q, Q = MQ below (vp_Si (fun rr => rr = bi (isCellB x y))) args s 0 0 (fun _ => False) := ⟨_, rfl⟩
  rw [← hQ]
  have hl := lv_entry [.int (x), .int (y)] (n := 2) (Nat.le_of_ble_eq_true rfl)
  rw [show entryFrame m args 2 = entryFrame m ([.int (x), .int (y)] : List Value).toArray 2 from by rw [hargs], lg_entry_eq]
  generalize (lg_sl [.int (x), .int (y)] ++ List.replicate (2 - (lg_sl [.int (x), .int (y)]).length) Slot.unset).toArray = ls at hl ⊢
  have hl : lv_has ls 2 [(0, .int (x)), (1, .int (y))] := hl
  refine lv_iload_n S.1 S.2.1 dX8_isCell_0 rfl (lv_at hl 0 rfl) ?_
  refine lv_iconst (v := nI 0) S.1 S.2.1 dX8_isCell_1 (by decide) ?_
  refine lv_bipush (v := nI 15) S.1 S.2.1 dX8_isCell_2 (by decide) ?_
  refine vp_callSi (va_runS (As := [.int (x), .int (nI 0), .int (nI 15)]) (rest := []) S (k_X8_isIn l G σ μ o x (nI 0) (nI 15) ) (va_cwS 3 S.2.2.2.2 gX8_isCell_X8_isIn rfl rfl rfl hy_X8_isIn ⟨Nat.le_of_ble_eq_true rfl, Nat.le_of_ble_eq_true rfl⟩) (wPc_S Z) rfl rfl hl.1 rfl (lv_room (Nat.le_of_ble_eq_true rfl)) dX8_isCell_4 ⟨Nat.le_of_ble_eq_true rfl, Nat.le_of_ble_eq_true rfl⟩).run (fun r_1 h_2 => ?_)
  subst h_2
  refine r_if_eqB S (tgt := 23) dX8_isCell_7 (by decide) (fun c_3 => ?_) (fun c_3 => ?_)
  · skip
    refine lv_iconst (v := nI 0) S.1 S.2.1 dX8_isCell_23 (by decide) ?_
    rw [hQ]
    exact W.zret (v := nI 0) S.1 S.2.1 hret rfl (fun _ hT9 _ => ⟨_, rfl, (by first | (simp [bi, isCellB, c_3]; done) | (simp [bi, isCellB, c_3]; omega) | (simp [bi, isCellB, ← Int32.not_le, c_3]; done) | (simp [bi, isCellB, eq_true c_3]; done)), hT9⟩) (fun _ h => nomatch h) dX8_isCell_24
  · skip
    refine lv_iload_n S.1 S.2.1 dX8_isCell_10 rfl (lv_at hl 1 rfl) ?_
    refine lv_iconst (v := nI 0) S.1 S.2.1 dX8_isCell_11 (by decide) ?_
    refine lv_iconst (v := nI 3) S.1 S.2.1 dX8_isCell_12 (by decide) ?_
    refine vp_callSi (va_runS (As := [.int (y), .int (nI 0), .int (nI 3)]) (rest := []) S (k_X8_isIn l G σ μ o y (nI 0) (nI 3) ) (va_cwS 3 S.2.2.2.2 gX8_isCell_X8_isIn rfl rfl rfl hy_X8_isIn ⟨Nat.le_of_ble_eq_true rfl, Nat.le_of_ble_eq_true rfl⟩) (wPc_S Z) rfl rfl hl.1 rfl (lv_room (Nat.le_of_ble_eq_true rfl)) dX8_isCell_13 ⟨Nat.le_of_ble_eq_true rfl, Nat.le_of_ble_eq_true rfl⟩).run (fun r_4 h_5 => ?_)
    subst h_5
    refine r_if_eqB S (tgt := 23) dX8_isCell_16 (by decide) (fun c_6 => ?_) (fun c_6 => ?_)
    · skip
      refine lv_iconst (v := nI 0) S.1 S.2.1 dX8_isCell_23 (by decide) ?_
      rw [hQ]
      exact W.zret (v := nI 0) S.1 S.2.1 hret rfl (fun _ hT9 _ => ⟨_, rfl, (by first | (simp [bi, isCellB, c_3, c_6]; done) | (simp [bi, isCellB, c_3, c_6]; omega) | (simp [bi, isCellB, ← Int32.not_le, c_3, c_6]; done) | (simp [bi, isCellB, c_3, eq_true c_6]; done)), hT9⟩) (fun _ h => nomatch h) dX8_isCell_24
    · skip
      refine lv_iconst (v := nI 1) S.1 S.2.1 dX8_isCell_19 (by decide) ?_
      refine lv_goto (tgt := 24) S.1 S.2.1 dX8_isCell_20 (by decide) ?_
      rw [hQ]
      exact W.zret (v := nI 1) S.1 S.2.1 hret rfl (fun _ hT9 _ => ⟨_, rfl, (by first | (simp [bi, isCellB, c_3, c_6]; done) | (simp [bi, isCellB, c_3, c_6]; omega) | (simp [bi, isCellB, ← Int32.not_le, c_3, c_6]; done)), hT9⟩) (fun _ h => nomatch h) dX8_isCell_24

abbrev rm_k_X8_isLater : Room := { frames := 0, cells := 0, slots := 0, locals := 0 }
set_option maxHeartbeats 4000000 in
set_option maxRecDepth 100000 in
theorem k_X8_isLater (l : Launch) (G : wG) (σ : cS) (μ : mS) (o : Nat → Int64) (en : Int32) (oth : Int32)  : Met l yX8_isLater wsX8_isLater rm_k_X8_isLater (wPc G σ μ o [.int (en), .int (oth)]) (vp_Si (fun rr => rr = bi (laterB en oth))) 0 0 (fun _ => False) := by
  refine Met.ofW (cc := cX8_isLater) (maxL := 2) (ret := (some .boolean)) (by decide) rfl ?_
  intro p e s m args below meth c s₁ B hml hv
  obtain ⟨hargs, hI⟩ := hv
  have S : CallFix p m c cX8_isLater 2 s args wsX8_isLater RX8 := ⟨B.exec, B.bytes, hml, findClass_of_methodNamed B.named, atoms_spec (ws := wsX8_isLater) B.pre⟩
  have hret := B.returns
  have hlocks := B.notSynchronized
  have Z := wZ_0 hI
  clear hI
  obtain ⟨Q, hQ⟩ : ∃ Q, Q = MQ below (vp_Si (fun rr => rr = bi (laterB en oth))) args s 0 0 (fun _ => False) := ⟨_, rfl⟩
  rw [← hQ]
  have hl := lv_entry [.int (en), .int (oth)] (n := 2) (Nat.le_of_ble_eq_true rfl)
  rw [show entryFrame m args 2 = entryFrame m ([.int (en), .int (oth)] : List Value).toArray 2 from by rw [hargs], lg_entry_eq]
  generalize (lg_sl [.int (en), .int (oth)] ++ List.replicate (2 - (lg_sl [.int (en), .int (oth)]).length) Slot.unset).toArray = ls at hl ⊢
  have hl : lv_has ls 2 [(0, .int (en)), (1, .int (oth))] := hl
  refine lv_iload_n S.1 S.2.1 dX8_isLater_0 rfl (lv_at hl 1 rfl) ?_
  refine lv_iconst (v := -1) S.1 S.2.1 dX8_isLater_1 (by decide) ?_
  refine lv_icmp_eq (tgt := 19) S.1 S.2.1 dX8_isLater_2 (by decide) (fun c_1 => ?_) (fun c_1 => ?_)
  · skip
    refine lv_iconst (v := nI 0) S.1 S.2.1 dX8_isLater_19 (by decide) ?_
    rw [hQ]
    exact W.zret (v := nI 0) S.1 S.2.1 hret rfl (fun _ hT9 _ => ⟨_, rfl, (by first | (simp [bi, laterB, c_1]; done) | (simp [bi, laterB, c_1]; omega) | (simp [bi, laterB, ← Int32.not_le, c_1]; done) | (simp [bi, laterB, eq_true c_1]; done)), hT9⟩) (fun _ h => nomatch h) dX8_isLater_20
  · skip
    refine lv_iload_n S.1 S.2.1 dX8_isLater_5 rfl (lv_at hl 0 rfl) ?_
    refine lv_iconst (v := -1) S.1 S.2.1 dX8_isLater_6 (by decide) ?_
    refine lv_icmp_eq (tgt := 15) S.1 S.2.1 dX8_isLater_7 (by decide) (fun c_2 => ?_) (fun c_2 => ?_)
    · skip
      refine lv_iconst (v := nI 1) S.1 S.2.1 dX8_isLater_15 (by decide) ?_
      refine lv_goto (tgt := 20) S.1 S.2.1 dX8_isLater_16 (by decide) ?_
      rw [hQ]
      exact W.zret (v := nI 1) S.1 S.2.1 hret rfl (fun _ hT9 _ => ⟨_, rfl, (by first | (simp [bi, laterB, c_1, c_2]; done) | (simp [bi, laterB, c_1, c_2]; omega) | (simp [bi, laterB, ← Int32.not_le, c_1, c_2]; done) | (simp [bi, laterB, c_1, eq_true c_2]; done)), hT9⟩) (fun _ h => nomatch h) dX8_isLater_20
    · skip
      refine lv_iload_n S.1 S.2.1 dX8_isLater_10 rfl (lv_at hl 0 rfl) ?_
      refine lv_iload_n S.1 S.2.1 dX8_isLater_11 rfl (lv_at hl 1 rfl) ?_
      refine lv_icmp_le (tgt := 19) S.1 S.2.1 dX8_isLater_12 (by decide) (fun c_3 => ?_) (fun c_3 => ?_)
      · skip
        refine lv_iconst (v := nI 0) S.1 S.2.1 dX8_isLater_19 (by decide) ?_
        rw [hQ]
        exact W.zret (v := nI 0) S.1 S.2.1 hret rfl (fun _ hT9 _ => ⟨_, rfl, (by first | (simp [bi, laterB, c_1, c_2, c_3]; done) | (simp [bi, laterB, c_1, c_2, c_3]; omega) | (simp [bi, laterB, ← Int32.not_le, c_1, c_2, c_3]; done)), hT9⟩) (fun _ h => nomatch h) dX8_isLater_20
      · skip
        refine lv_iconst (v := nI 1) S.1 S.2.1 dX8_isLater_15 (by decide) ?_
        refine lv_goto (tgt := 20) S.1 S.2.1 dX8_isLater_16 (by decide) ?_
        rw [hQ]
        exact W.zret (v := nI 1) S.1 S.2.1 hret rfl (fun _ hT9 _ => ⟨_, rfl, (by first | (simp [bi, laterB, c_1, c_2, c_3]; done) | (simp [bi, laterB, c_1, c_2, c_3]; omega) | (simp [bi, laterB, ← Int32.not_le, c_1, c_2, c_3]; done)), hT9⟩) (fun _ h => nomatch h) dX8_isLater_20

theorem i_X8_takeEntry_X8 : ∀ w ∈ wsX80, w ∈ wsX8_takeEntry := by decide +kernel
theorem m_X8_takeEntry_f7 : Cond.fieldLink RX8 7 "WideCellModel" "stamp" "[I" ∈ wsX8_takeEntry := by decide +kernel
theorem m_X8_takeEntry_f13 : Cond.fieldLink RX8 13 "WideCellModel" "value" "[I" ∈ wsX8_takeEntry := by decide +kernel
theorem m_X8_takeEntry_f16 : Cond.fieldLink RX8 16 "WideCellModel" "end" "[I" ∈ wsX8_takeEntry := by decide +kernel
abbrev rm_k_X8_takeEntry : Room := { frames := 1, cells := 0, slots := 0, locals := 21 }
set_option maxHeartbeats 4000000 in
set_option maxRecDepth 100000 in
theorem k_X8_takeEntry (l : Launch) (G : wG) (σ : cS) (μ : mS) (o : Nat → Int64) (k : Nat) (q : Nat) (sp : Int32) (v : Int32) (en : Int32) (hk : k < 4) (hq : q < 64) : Met l yX8_takeEntry wsX8_takeEntry rm_k_X8_takeEntry (wPc G σ μ o [.ref (gA G 39), .int (nI k), .int (nI q), .int (sp), .int (v), .int (en)]) (va_Qv (fun u : cS × mS => u = (σ, takE2 μ (64 * k + q) sp v en)) (fun u t => wI G u.1 u.2 o t) (gP G)) 0 0 (gP G) := by
  refine Met.ofW (cc := cX8_takeEntry) (maxL := 8) (ret := none) (by decide) rfl ?_
  intro p e s m args below meth c s₁ B hml hv
  obtain ⟨hargs, hI⟩ := hv
  have S : CallFix p m c cX8_takeEntry 8 s args wsX8_takeEntry RX8 := ⟨B.exec, B.bytes, hml, findClass_of_methodNamed B.named, atoms_spec (ws := wsX8_takeEntry) B.pre⟩
  have hret := B.returns
  have hlocks := B.notSynchronized
  have Z := wZ_0 hI
  clear hI
  obtain ⟨Q, hQ⟩ : ∃ Q, Q = MQ below (va_Qv (fun u : cS × mS => u = (σ, takE2 μ (64 * k + q) sp v en)) (fun u t => wI G u.1 u.2 o t) (gP G)) args s 0 0 (gP G) := ⟨_, rfl⟩
  rw [← hQ]
  have hl := lv_entry [.ref (gA G 39), .int (nI k), .int (nI q), .int (sp), .int (v), .int (en)] (n := 8) (Nat.le_of_ble_eq_true rfl)
  rw [show entryFrame m args 8 = entryFrame m ([.ref (gA G 39), .int (nI k), .int (nI q), .int (sp), .int (v), .int (en)] : List Value).toArray 8 from by rw [hargs], lg_entry_eq]
  generalize (lg_sl [.ref (gA G 39), .int (nI k), .int (nI q), .int (sp), .int (v), .int (en)] ++ List.replicate (8 - (lg_sl [.ref (gA G 39), .int (nI k), .int (nI q), .int (sp), .int (v), .int (en)]).length) Slot.unset).toArray = ls at hl ⊢
  have hl : lv_has ls 8 [(0, .ref (gA G 39)), (1, .int (nI k)), (2, .int (nI q)), (3, .int (sp)), (4, .int (v)), (5, .int (en))] := hl
  refine lv_bipush (v := nI 64) S.1 S.2.1 dX8_takeEntry_0 (by decide) ?_
  refine lv_iload_n S.1 S.2.1 dX8_takeEntry_2 rfl (lv_at hl 1 rfl) ?_
  refine r_mulN S dX8_takeEntry_3 ?_
  refine lv_iload_n S.1 S.2.1 dX8_takeEntry_4 rfl (lv_at hl 2 rfl) ?_
  refine r_addN S dX8_takeEntry_5 ?_
  refine lv_istore (lv' := [(6, .int (nI ((64 * k) + q))), (0, .ref (gA G 39)), (1, .int (nI k)), (2, .int (nI q)), (3, .int (sp)), (4, .int (v)), (5, .int (en))]) S.1 S.2.1 dX8_takeEntry_6 hl (by decide) rfl (fun ls hl => ?_)
  refine lv_iload_n S.1 S.2.1 dX8_takeEntry_8 rfl (lv_at hl 4 rfl) ?_
  refine lv_aload_n S.1 S.2.1 dX8_takeEntry_9 rfl (lv_at hl 1 rfl) ?_
  refine r_get (C := RX8) (T := TX8) (N := 19) (ci := 8) S Z (by decide) rfl rfl i_X8_takeEntry_X8 0 (by decide) m_X8_takeEntry_f7 rfl (v := .ref (gA G 40)) rfl dX8_takeEntry_10 ?_
  refine lv_iload S.1 S.2.1 dX8_takeEntry_13 (lv_at hl 0 rfl) ?_
  refine r_ialdM S Z (n := 256) ⟨rfl, rfl⟩ (by omega) (by decide) dX8_takeEntry_15 ?_
  refine lv_icmp_gt (tgt := 69) S.1 S.2.1 dX8_takeEntry_16 (by decide) (fun c_1 => ?_) (fun c_1 => ?_)
  · skip
    refine lv_iconst (v := nI 1) S.1 S.2.1 dX8_takeEntry_69 (by decide) ?_
    refine lv_goto (tgt := 74) S.1 S.2.1 dX8_takeEntry_70 (by decide) ?_
    refine lv_istore (lv' := [(7, .int (nI 1)), (6, .int (nI ((64 * k) + q))), (0, .ref (gA G 39)), (1, .int (nI k)), (2, .int (nI q)), (3, .int (sp)), (4, .int (v)), (5, .int (en))]) S.1 S.2.1 dX8_takeEntry_74 hl (by decide) rfl (fun ls hl => ?_)
    refine lv_iload S.1 S.2.1 dX8_takeEntry_76 (lv_at hl 0 rfl) ?_
    refine r_if_eqN S (tgt := 107) (by decide) dX8_takeEntry_78 (by decide) (fun c_2 => absurd c_2 (by decide)) (fun c_2 => ?_)
    refine lv_aload_n S.1 S.2.1 dX8_takeEntry_81 rfl (lv_at hl 2 rfl) ?_
    refine r_get (C := RX8) (T := TX8) (N := 19) (ci := 8) S Z (by decide) rfl rfl i_X8_takeEntry_X8 0 (by decide) m_X8_takeEntry_f7 rfl (v := .ref (gA G 40)) rfl dX8_takeEntry_82 ?_
    refine lv_iload S.1 S.2.1 dX8_takeEntry_85 (lv_at hl 1 rfl) ?_
    refine lv_iload_n S.1 S.2.1 dX8_takeEntry_87 rfl (lv_at hl 5 rfl) ?_
    refine r_wM S Z (n := 256) ⟨rfl, rfl⟩ (by omega) (by decide) dX8_takeEntry_88 (fun H locs Z => ?_)
    refine lv_aload_n S.1 S.2.1 dX8_takeEntry_89 rfl (lv_at hl 2 rfl) ?_
    refine r_get (C := RX8) (T := TX8) (N := 19) (ci := 8) S Z (by decide) rfl rfl i_X8_takeEntry_X8 1 (by decide) m_X8_takeEntry_f13 rfl (v := .ref (gA G 41)) rfl dX8_takeEntry_90 ?_
    refine lv_iload S.1 S.2.1 dX8_takeEntry_93 (lv_at hl 1 rfl) ?_
    refine lv_iload S.1 S.2.1 dX8_takeEntry_95 (lv_at hl 6 rfl) ?_
    refine r_wM S Z (n := 256) ⟨rfl, rfl⟩ (by omega) (by decide) dX8_takeEntry_97 (fun H locs Z => ?_)
    refine lv_aload_n S.1 S.2.1 dX8_takeEntry_98 rfl (lv_at hl 2 rfl) ?_
    refine r_get (C := RX8) (T := TX8) (N := 19) (ci := 8) S Z (by decide) rfl rfl i_X8_takeEntry_X8 2 (by decide) m_X8_takeEntry_f16 rfl (v := .ref (gA G 42)) rfl dX8_takeEntry_99 ?_
    refine lv_iload S.1 S.2.1 dX8_takeEntry_102 (lv_at hl 1 rfl) ?_
    refine lv_iload S.1 S.2.1 dX8_takeEntry_104 (lv_at hl 7 rfl) ?_
    refine r_wM S Z (n := 256) ⟨rfl, rfl⟩ (by omega) (by decide) dX8_takeEntry_106 (fun H locs Z => ?_)
    rw [hQ]
    have q8 : (takE2 μ (64 * k + q) sp v en : mS) = w2 (w2 (w2 μ 40 ((64 * k) + q) sp) 41 ((64 * k) + q) v) 42 ((64 * k) + q) en := by first | (simp [takE2, betE2, putE2, c_1]; done) | (simp [takE2, betE2, putE2, c_1]; omega) | (simp [takE2, betE2, putE2, ← Int32.not_le, c_1]; done) | rfl
    rw [← q8] at Z
    exact W.vret S.1 S.2.1 hret (fun _ hT9 hW => ⟨⟨(σ, takE2 μ (64 * k + q) sp v en), rfl, rfl, wZ_P Z hT9 hW⟩, Z.2.2.2.2.F hT9⟩) Z.2.2.2.2.2.2 dX8_takeEntry_107
  · skip
    refine lv_iload_n S.1 S.2.1 dX8_takeEntry_19 rfl (lv_at hl 4 rfl) ?_
    refine lv_aload_n S.1 S.2.1 dX8_takeEntry_20 rfl (lv_at hl 1 rfl) ?_
    refine r_get (C := RX8) (T := TX8) (N := 19) (ci := 8) S Z (by decide) rfl rfl i_X8_takeEntry_X8 0 (by decide) m_X8_takeEntry_f7 rfl (v := .ref (gA G 40)) rfl dX8_takeEntry_21 ?_
    refine lv_iload S.1 S.2.1 dX8_takeEntry_24 (lv_at hl 0 rfl) ?_
    refine r_ialdM S Z (n := 256) ⟨rfl, rfl⟩ (by omega) (by decide) dX8_takeEntry_26 ?_
    refine lv_icmp_ne (tgt := 73) S.1 S.2.1 dX8_takeEntry_27 (by decide) (fun c_3 => ?_) (fun c_3 => ?_)
    · skip
      refine lv_iconst (v := nI 0) S.1 S.2.1 dX8_takeEntry_73 (by decide) ?_
      refine lv_istore (lv' := [(7, .int (nI 0)), (6, .int (nI ((64 * k) + q))), (0, .ref (gA G 39)), (1, .int (nI k)), (2, .int (nI q)), (3, .int (sp)), (4, .int (v)), (5, .int (en))]) S.1 S.2.1 dX8_takeEntry_74 hl (by decide) rfl (fun ls hl => ?_)
      refine lv_iload S.1 S.2.1 dX8_takeEntry_76 (lv_at hl 0 rfl) ?_
      refine r_if_eqN S (tgt := 107) (by decide) dX8_takeEntry_78 (by decide) (fun c_4 => ?_) (fun c_4 => absurd c_4 (by decide))
      rw [hQ]
      have q8 : (takE2 μ (64 * k + q) sp v en : mS) = μ := by first | (simp [takE2, betE2, putE2, c_1, c_3]; done) | (simp [takE2, betE2, putE2, c_1, c_3]; omega) | (simp [takE2, betE2, putE2, ← Int32.not_le, c_1, c_3]; done) | rfl
      rw [← q8] at Z
      exact W.vret S.1 S.2.1 hret (fun _ hT9 hW => ⟨⟨(σ, takE2 μ (64 * k + q) sp v en), rfl, rfl, wZ_P Z hT9 hW⟩, Z.2.2.2.2.F hT9⟩) Z.2.2.2.2.2.2 dX8_takeEntry_107
    · skip
      refine lv_iload S.1 S.2.1 dX8_takeEntry_30 (lv_at hl 5 rfl) ?_
      refine lv_aload_n S.1 S.2.1 dX8_takeEntry_32 rfl (lv_at hl 1 rfl) ?_
      refine r_get (C := RX8) (T := TX8) (N := 19) (ci := 8) S Z (by decide) rfl rfl i_X8_takeEntry_X8 1 (by decide) m_X8_takeEntry_f13 rfl (v := .ref (gA G 41)) rfl dX8_takeEntry_33 ?_
      refine lv_iload S.1 S.2.1 dX8_takeEntry_36 (lv_at hl 0 rfl) ?_
      refine r_ialdM S Z (n := 256) ⟨rfl, rfl⟩ (by omega) (by decide) dX8_takeEntry_38 ?_
      refine lv_icmp_gt (tgt := 69) S.1 S.2.1 dX8_takeEntry_39 (by decide) (fun c_5 => ?_) (fun c_5 => ?_)
      · skip
        refine lv_iconst (v := nI 1) S.1 S.2.1 dX8_takeEntry_69 (by decide) ?_
        refine lv_goto (tgt := 74) S.1 S.2.1 dX8_takeEntry_70 (by decide) ?_
        refine lv_istore (lv' := [(7, .int (nI 1)), (6, .int (nI ((64 * k) + q))), (0, .ref (gA G 39)), (1, .int (nI k)), (2, .int (nI q)), (3, .int (sp)), (4, .int (v)), (5, .int (en))]) S.1 S.2.1 dX8_takeEntry_74 hl (by decide) rfl (fun ls hl => ?_)
        refine lv_iload S.1 S.2.1 dX8_takeEntry_76 (lv_at hl 0 rfl) ?_
        refine r_if_eqN S (tgt := 107) (by decide) dX8_takeEntry_78 (by decide) (fun c_6 => absurd c_6 (by decide)) (fun c_6 => ?_)
        refine lv_aload_n S.1 S.2.1 dX8_takeEntry_81 rfl (lv_at hl 2 rfl) ?_
        refine r_get (C := RX8) (T := TX8) (N := 19) (ci := 8) S Z (by decide) rfl rfl i_X8_takeEntry_X8 0 (by decide) m_X8_takeEntry_f7 rfl (v := .ref (gA G 40)) rfl dX8_takeEntry_82 ?_
        refine lv_iload S.1 S.2.1 dX8_takeEntry_85 (lv_at hl 1 rfl) ?_
        refine lv_iload_n S.1 S.2.1 dX8_takeEntry_87 rfl (lv_at hl 5 rfl) ?_
        refine r_wM S Z (n := 256) ⟨rfl, rfl⟩ (by omega) (by decide) dX8_takeEntry_88 (fun H locs Z => ?_)
        refine lv_aload_n S.1 S.2.1 dX8_takeEntry_89 rfl (lv_at hl 2 rfl) ?_
        refine r_get (C := RX8) (T := TX8) (N := 19) (ci := 8) S Z (by decide) rfl rfl i_X8_takeEntry_X8 1 (by decide) m_X8_takeEntry_f13 rfl (v := .ref (gA G 41)) rfl dX8_takeEntry_90 ?_
        refine lv_iload S.1 S.2.1 dX8_takeEntry_93 (lv_at hl 1 rfl) ?_
        refine lv_iload S.1 S.2.1 dX8_takeEntry_95 (lv_at hl 6 rfl) ?_
        refine r_wM S Z (n := 256) ⟨rfl, rfl⟩ (by omega) (by decide) dX8_takeEntry_97 (fun H locs Z => ?_)
        refine lv_aload_n S.1 S.2.1 dX8_takeEntry_98 rfl (lv_at hl 2 rfl) ?_
        refine r_get (C := RX8) (T := TX8) (N := 19) (ci := 8) S Z (by decide) rfl rfl i_X8_takeEntry_X8 2 (by decide) m_X8_takeEntry_f16 rfl (v := .ref (gA G 42)) rfl dX8_takeEntry_99 ?_
        refine lv_iload S.1 S.2.1 dX8_takeEntry_102 (lv_at hl 1 rfl) ?_
        refine lv_iload S.1 S.2.1 dX8_takeEntry_104 (lv_at hl 7 rfl) ?_
        refine r_wM S Z (n := 256) ⟨rfl, rfl⟩ (by omega) (by decide) dX8_takeEntry_106 (fun H locs Z => ?_)
        rw [hQ]
        have q8 : (takE2 μ (64 * k + q) sp v en : mS) = w2 (w2 (w2 μ 40 ((64 * k) + q) sp) 41 ((64 * k) + q) v) 42 ((64 * k) + q) en := by first | (simp [takE2, betE2, putE2, c_1, c_3, c_5]; done) | (simp [takE2, betE2, putE2, c_1, c_3, c_5]; omega) | (simp [takE2, betE2, putE2, ← Int32.not_le, c_1, c_3, c_5]; done) | (simp [takE2, betE2, putE2, c_1, eq_true c_3, c_5]; done) | rfl
        rw [← q8] at Z
        exact W.vret S.1 S.2.1 hret (fun _ hT9 hW => ⟨⟨(σ, takE2 μ (64 * k + q) sp v en), rfl, rfl, wZ_P Z hT9 hW⟩, Z.2.2.2.2.F hT9⟩) Z.2.2.2.2.2.2 dX8_takeEntry_107
      · skip
        refine lv_iload S.1 S.2.1 dX8_takeEntry_42 (lv_at hl 5 rfl) ?_
        refine lv_aload_n S.1 S.2.1 dX8_takeEntry_44 rfl (lv_at hl 1 rfl) ?_
        refine r_get (C := RX8) (T := TX8) (N := 19) (ci := 8) S Z (by decide) rfl rfl i_X8_takeEntry_X8 1 (by decide) m_X8_takeEntry_f13 rfl (v := .ref (gA G 41)) rfl dX8_takeEntry_45 ?_
        refine lv_iload S.1 S.2.1 dX8_takeEntry_48 (lv_at hl 0 rfl) ?_
        refine r_ialdM S Z (n := 256) ⟨rfl, rfl⟩ (by omega) (by decide) dX8_takeEntry_50 ?_
        refine lv_icmp_ne (tgt := 73) S.1 S.2.1 dX8_takeEntry_51 (by decide) (fun c_7 => ?_) (fun c_7 => ?_)
        · skip
          refine lv_iconst (v := nI 0) S.1 S.2.1 dX8_takeEntry_73 (by decide) ?_
          refine lv_istore (lv' := [(7, .int (nI 0)), (6, .int (nI ((64 * k) + q))), (0, .ref (gA G 39)), (1, .int (nI k)), (2, .int (nI q)), (3, .int (sp)), (4, .int (v)), (5, .int (en))]) S.1 S.2.1 dX8_takeEntry_74 hl (by decide) rfl (fun ls hl => ?_)
          refine lv_iload S.1 S.2.1 dX8_takeEntry_76 (lv_at hl 0 rfl) ?_
          refine r_if_eqN S (tgt := 107) (by decide) dX8_takeEntry_78 (by decide) (fun c_8 => ?_) (fun c_8 => absurd c_8 (by decide))
          rw [hQ]
          have q8 : (takE2 μ (64 * k + q) sp v en : mS) = μ := by first | (simp [takE2, betE2, putE2, c_1, c_3, c_5, c_7]; done) | (simp [takE2, betE2, putE2, c_1, c_3, c_5, c_7]; omega) | (simp [takE2, betE2, putE2, ← Int32.not_le, c_1, c_3, c_5, c_7]; done) | (simp [takE2, betE2, putE2, c_1, eq_true c_3, c_5, c_7]; done) | rfl
          rw [← q8] at Z
          exact W.vret S.1 S.2.1 hret (fun _ hT9 hW => ⟨⟨(σ, takE2 μ (64 * k + q) sp v en), rfl, rfl, wZ_P Z hT9 hW⟩, Z.2.2.2.2.F hT9⟩) Z.2.2.2.2.2.2 dX8_takeEntry_107
        · skip
          refine lv_iload S.1 S.2.1 dX8_takeEntry_54 (lv_at hl 6 rfl) ?_
          refine lv_aload_n S.1 S.2.1 dX8_takeEntry_56 rfl (lv_at hl 1 rfl) ?_
          refine r_get (C := RX8) (T := TX8) (N := 19) (ci := 8) S Z (by decide) rfl rfl i_X8_takeEntry_X8 2 (by decide) m_X8_takeEntry_f16 rfl (v := .ref (gA G 42)) rfl dX8_takeEntry_57 ?_
          refine lv_iload S.1 S.2.1 dX8_takeEntry_60 (lv_at hl 0 rfl) ?_
          refine r_ialdM S Z (n := 256) ⟨rfl, rfl⟩ (by omega) (by decide) dX8_takeEntry_62 ?_
          refine vp_callSi (va_runS (As := [.int (en), .int (mI μ 42 ((64 * k) + q))]) (rest := []) S (k_X8_isLater l G σ μ o en (mI μ 42 ((64 * k) + q)) ) (va_cwS 2 S.2.2.2.2 gX8_takeEntry_X8_isLater rfl rfl rfl hy_X8_isLater ⟨Nat.le_of_ble_eq_true rfl, Nat.le_of_ble_eq_true rfl⟩) (wPc_S Z) rfl rfl hl.1 rfl (lv_room (Nat.le_of_ble_eq_true rfl)) dX8_takeEntry_63 ⟨Nat.le_of_ble_eq_true rfl, Nat.le_of_ble_eq_true rfl⟩).run (fun r_9 h_10 => ?_)
          subst h_10
          refine r_if_eqB S (tgt := 73) dX8_takeEntry_66 (by decide) (fun c_11 => ?_) (fun c_11 => ?_)
          · skip
            refine lv_iconst (v := nI 0) S.1 S.2.1 dX8_takeEntry_73 (by decide) ?_
            refine lv_istore (lv' := [(7, .int (nI 0)), (6, .int (nI ((64 * k) + q))), (0, .ref (gA G 39)), (1, .int (nI k)), (2, .int (nI q)), (3, .int (sp)), (4, .int (v)), (5, .int (en))]) S.1 S.2.1 dX8_takeEntry_74 hl (by decide) rfl (fun ls hl => ?_)
            refine lv_iload S.1 S.2.1 dX8_takeEntry_76 (lv_at hl 0 rfl) ?_
            refine r_if_eqN S (tgt := 107) (by decide) dX8_takeEntry_78 (by decide) (fun c_12 => ?_) (fun c_12 => absurd c_12 (by decide))
            rw [hQ]
            have q8 : (takE2 μ (64 * k + q) sp v en : mS) = μ := by first | (simp [takE2, betE2, putE2, c_1, c_3, c_5, c_7, c_11]; done) | (simp [takE2, betE2, putE2, c_1, c_3, c_5, c_7, c_11]; omega) | (simp [takE2, betE2, putE2, ← Int32.not_le, c_1, c_3, c_5, c_7, c_11]; done) | (simp [takE2, betE2, putE2, c_1, eq_true c_3, c_5, eq_true c_7, eq_true c_11]; done) | rfl
            rw [← q8] at Z
            exact W.vret S.1 S.2.1 hret (fun _ hT9 hW => ⟨⟨(σ, takE2 μ (64 * k + q) sp v en), rfl, rfl, wZ_P Z hT9 hW⟩, Z.2.2.2.2.F hT9⟩) Z.2.2.2.2.2.2 dX8_takeEntry_107
          · skip
            refine lv_iconst (v := nI 1) S.1 S.2.1 dX8_takeEntry_69 (by decide) ?_
            refine lv_goto (tgt := 74) S.1 S.2.1 dX8_takeEntry_70 (by decide) ?_
            refine lv_istore (lv' := [(7, .int (nI 1)), (6, .int (nI ((64 * k) + q))), (0, .ref (gA G 39)), (1, .int (nI k)), (2, .int (nI q)), (3, .int (sp)), (4, .int (v)), (5, .int (en))]) S.1 S.2.1 dX8_takeEntry_74 hl (by decide) rfl (fun ls hl => ?_)
            refine lv_iload S.1 S.2.1 dX8_takeEntry_76 (lv_at hl 0 rfl) ?_
            refine r_if_eqN S (tgt := 107) (by decide) dX8_takeEntry_78 (by decide) (fun c_13 => absurd c_13 (by decide)) (fun c_13 => ?_)
            refine lv_aload_n S.1 S.2.1 dX8_takeEntry_81 rfl (lv_at hl 2 rfl) ?_
            refine r_get (C := RX8) (T := TX8) (N := 19) (ci := 8) S Z (by decide) rfl rfl i_X8_takeEntry_X8 0 (by decide) m_X8_takeEntry_f7 rfl (v := .ref (gA G 40)) rfl dX8_takeEntry_82 ?_
            refine lv_iload S.1 S.2.1 dX8_takeEntry_85 (lv_at hl 1 rfl) ?_
            refine lv_iload_n S.1 S.2.1 dX8_takeEntry_87 rfl (lv_at hl 5 rfl) ?_
            refine r_wM S Z (n := 256) ⟨rfl, rfl⟩ (by omega) (by decide) dX8_takeEntry_88 (fun H locs Z => ?_)
            refine lv_aload_n S.1 S.2.1 dX8_takeEntry_89 rfl (lv_at hl 2 rfl) ?_
            refine r_get (C := RX8) (T := TX8) (N := 19) (ci := 8) S Z (by decide) rfl rfl i_X8_takeEntry_X8 1 (by decide) m_X8_takeEntry_f13 rfl (v := .ref (gA G 41)) rfl dX8_takeEntry_90 ?_
            refine lv_iload S.1 S.2.1 dX8_takeEntry_93 (lv_at hl 1 rfl) ?_
            refine lv_iload S.1 S.2.1 dX8_takeEntry_95 (lv_at hl 6 rfl) ?_
            refine r_wM S Z (n := 256) ⟨rfl, rfl⟩ (by omega) (by decide) dX8_takeEntry_97 (fun H locs Z => ?_)
            refine lv_aload_n S.1 S.2.1 dX8_takeEntry_98 rfl (lv_at hl 2 rfl) ?_
            refine r_get (C := RX8) (T := TX8) (N := 19) (ci := 8) S Z (by decide) rfl rfl i_X8_takeEntry_X8 2 (by decide) m_X8_takeEntry_f16 rfl (v := .ref (gA G 42)) rfl dX8_takeEntry_99 ?_
            refine lv_iload S.1 S.2.1 dX8_takeEntry_102 (lv_at hl 1 rfl) ?_
            refine lv_iload S.1 S.2.1 dX8_takeEntry_104 (lv_at hl 7 rfl) ?_
            refine r_wM S Z (n := 256) ⟨rfl, rfl⟩ (by omega) (by decide) dX8_takeEntry_106 (fun H locs Z => ?_)
            rw [hQ]
            have q8 : (takE2 μ (64 * k + q) sp v en : mS) = w2 (w2 (w2 μ 40 ((64 * k) + q) sp) 41 ((64 * k) + q) v) 42 ((64 * k) + q) en := by first | (simp [takE2, betE2, putE2, c_1, c_3, c_5, c_7, c_11]; done) | (simp [takE2, betE2, putE2, c_1, c_3, c_5, c_7, c_11]; omega) | (simp [takE2, betE2, putE2, ← Int32.not_le, c_1, c_3, c_5, c_7, c_11]; done) | (simp [takE2, betE2, putE2, c_1, eq_true c_3, c_5, eq_true c_7, c_11]; done) | rfl
            rw [← q8] at Z
            exact W.vret S.1 S.2.1 hret (fun _ hT9 hW => ⟨⟨(σ, takE2 μ (64 * k + q) sp v en), rfl, rfl, wZ_P Z hT9 hW⟩, Z.2.2.2.2.F hT9⟩) Z.2.2.2.2.2.2 dX8_takeEntry_107

theorem i_X8_takeTomb_X8 : ∀ w ∈ wsX80, w ∈ wsX8_takeTomb := by decide +kernel
theorem m_X8_takeTomb_f19 : Cond.fieldLink RX8 19 "WideCellModel" "tomb" "[I" ∈ wsX8_takeTomb := by decide +kernel
theorem m_X8_takeTomb_f22 : Cond.fieldLink RX8 22 "WideCellModel" "made" "[I" ∈ wsX8_takeTomb := by decide +kernel
abbrev rm_k_X8_takeTomb : Room := { frames := 0, cells := 0, slots := 0, locals := 0 }
set_option maxHeartbeats 4000000 in
set_option maxRecDepth 100000 in
theorem k_X8_takeTomb (l : Launch) (G : wG) (σ : cS) (μ : mS) (o : Nat → Int64) (k : Nat) (q : Nat) (sp : Int32) (ma : Int32) (hk : k < 4) (hr : q < 92) : Met l yX8_takeTomb wsX8_takeTomb rm_k_X8_takeTomb (wPc G σ μ o [.ref (gA G 39), .int (nI k), .int (nI q), .int (sp), .int (ma)]) (va_Qv (fun u : cS × mS => u = (σ, takT2 μ (92 * k + q) sp ma)) (fun u t => wI G u.1 u.2 o t) (gP G)) 0 0 (gP G) := by
  refine Met.ofW (cc := cX8_takeTomb) (maxL := 6) (ret := none) (by decide) rfl ?_
  intro p e s m args below meth c s₁ B hml hv
  obtain ⟨hargs, hI⟩ := hv
  have S : CallFix p m c cX8_takeTomb 6 s args wsX8_takeTomb RX8 := ⟨B.exec, B.bytes, hml, findClass_of_methodNamed B.named, atoms_spec (ws := wsX8_takeTomb) B.pre⟩
  have hret := B.returns
  have hlocks := B.notSynchronized
  have Z := wZ_0 hI
  clear hI
  obtain ⟨Q, hQ⟩ : ∃ Q, Q = MQ below (va_Qv (fun u : cS × mS => u = (σ, takT2 μ (92 * k + q) sp ma)) (fun u t => wI G u.1 u.2 o t) (gP G)) args s 0 0 (gP G) := ⟨_, rfl⟩
  rw [← hQ]
  have hl := lv_entry [.ref (gA G 39), .int (nI k), .int (nI q), .int (sp), .int (ma)] (n := 6) (Nat.le_of_ble_eq_true rfl)
  rw [show entryFrame m args 6 = entryFrame m ([.ref (gA G 39), .int (nI k), .int (nI q), .int (sp), .int (ma)] : List Value).toArray 6 from by rw [hargs], lg_entry_eq]
  generalize (lg_sl [.ref (gA G 39), .int (nI k), .int (nI q), .int (sp), .int (ma)] ++ List.replicate (6 - (lg_sl [.ref (gA G 39), .int (nI k), .int (nI q), .int (sp), .int (ma)]).length) Slot.unset).toArray = ls at hl ⊢
  have hl : lv_has ls 6 [(0, .ref (gA G 39)), (1, .int (nI k)), (2, .int (nI q)), (3, .int (sp)), (4, .int (ma))] := hl
  refine lv_bipush (v := nI 92) S.1 S.2.1 dX8_takeTomb_0 (by decide) ?_
  refine lv_iload_n S.1 S.2.1 dX8_takeTomb_2 rfl (lv_at hl 1 rfl) ?_
  refine r_mulN S dX8_takeTomb_3 ?_
  refine lv_iload_n S.1 S.2.1 dX8_takeTomb_4 rfl (lv_at hl 2 rfl) ?_
  refine r_addN S dX8_takeTomb_5 ?_
  refine lv_istore (lv' := [(5, .int (nI ((92 * k) + q))), (0, .ref (gA G 39)), (1, .int (nI k)), (2, .int (nI q)), (3, .int (sp)), (4, .int (ma))]) S.1 S.2.1 dX8_takeTomb_6 hl (by decide) rfl (fun ls hl => ?_)
  refine lv_iload_n S.1 S.2.1 dX8_takeTomb_8 rfl (lv_at hl 4 rfl) ?_
  refine lv_aload_n S.1 S.2.1 dX8_takeTomb_9 rfl (lv_at hl 1 rfl) ?_
  refine r_get (C := RX8) (T := TX8) (N := 19) (ci := 8) S Z (by decide) rfl rfl i_X8_takeTomb_X8 3 (by decide) m_X8_takeTomb_f19 rfl (v := .ref (gA G 43)) rfl dX8_takeTomb_10 ?_
  refine lv_iload S.1 S.2.1 dX8_takeTomb_13 (lv_at hl 0 rfl) ?_
  refine r_ialdM S Z (n := 368) ⟨rfl, rfl⟩ (by omega) (by decide) dX8_takeTomb_15 ?_
  refine lv_icmp_gt (tgt := 42) S.1 S.2.1 dX8_takeTomb_16 (by decide) (fun c_1 => ?_) (fun c_1 => ?_)
  · skip
    refine lv_aload_n S.1 S.2.1 dX8_takeTomb_42 rfl (lv_at hl 1 rfl) ?_
    refine r_get (C := RX8) (T := TX8) (N := 19) (ci := 8) S Z (by decide) rfl rfl i_X8_takeTomb_X8 3 (by decide) m_X8_takeTomb_f19 rfl (v := .ref (gA G 43)) rfl dX8_takeTomb_43 ?_
    refine lv_iload S.1 S.2.1 dX8_takeTomb_46 (lv_at hl 0 rfl) ?_
    refine lv_iload_n S.1 S.2.1 dX8_takeTomb_48 rfl (lv_at hl 4 rfl) ?_
    refine r_wM S Z (n := 368) ⟨rfl, rfl⟩ (by omega) (by decide) dX8_takeTomb_49 (fun H locs Z => ?_)
    refine lv_aload_n S.1 S.2.1 dX8_takeTomb_50 rfl (lv_at hl 1 rfl) ?_
    refine r_get (C := RX8) (T := TX8) (N := 19) (ci := 8) S Z (by decide) rfl rfl i_X8_takeTomb_X8 4 (by decide) m_X8_takeTomb_f22 rfl (v := .ref (gA G 44)) rfl dX8_takeTomb_51 ?_
    refine lv_iload S.1 S.2.1 dX8_takeTomb_54 (lv_at hl 0 rfl) ?_
    refine lv_iload S.1 S.2.1 dX8_takeTomb_56 (lv_at hl 5 rfl) ?_
    refine r_wM S Z (n := 368) ⟨rfl, rfl⟩ (by omega) (by decide) dX8_takeTomb_58 (fun H locs Z => ?_)
    rw [hQ]
    have q8 : (takT2 μ (92 * k + q) sp ma : mS) = w2 (w2 μ 43 ((92 * k) + q) sp) 44 ((92 * k) + q) ma := by first | (simp [takT2, putT2, c_1]; done) | (simp [takT2, putT2, c_1]; omega) | (simp [takT2, putT2, ← Int32.not_le, c_1]; done) | rfl
    rw [← q8] at Z
    exact W.vret S.1 S.2.1 hret (fun _ hT9 hW => ⟨⟨(σ, takT2 μ (92 * k + q) sp ma), rfl, rfl, wZ_P Z hT9 hW⟩, Z.2.2.2.2.F hT9⟩) Z.2.2.2.2.2.2 dX8_takeTomb_59
  · skip
    refine lv_iload_n S.1 S.2.1 dX8_takeTomb_19 rfl (lv_at hl 4 rfl) ?_
    refine lv_aload_n S.1 S.2.1 dX8_takeTomb_20 rfl (lv_at hl 1 rfl) ?_
    refine r_get (C := RX8) (T := TX8) (N := 19) (ci := 8) S Z (by decide) rfl rfl i_X8_takeTomb_X8 3 (by decide) m_X8_takeTomb_f19 rfl (v := .ref (gA G 43)) rfl dX8_takeTomb_21 ?_
    refine lv_iload S.1 S.2.1 dX8_takeTomb_24 (lv_at hl 0 rfl) ?_
    refine r_ialdM S Z (n := 368) ⟨rfl, rfl⟩ (by omega) (by decide) dX8_takeTomb_26 ?_
    refine lv_icmp_ne (tgt := 59) S.1 S.2.1 dX8_takeTomb_27 (by decide) (fun c_2 => ?_) (fun c_2 => ?_)
    · skip
      rw [hQ]
      have q8 : (takT2 μ (92 * k + q) sp ma : mS) = μ := by first | (simp [takT2, putT2, c_1, c_2]; done) | (simp [takT2, putT2, c_1, c_2]; omega) | (simp [takT2, putT2, ← Int32.not_le, c_1, c_2]; done) | rfl
      rw [← q8] at Z
      exact W.vret S.1 S.2.1 hret (fun _ hT9 hW => ⟨⟨(σ, takT2 μ (92 * k + q) sp ma), rfl, rfl, wZ_P Z hT9 hW⟩, Z.2.2.2.2.F hT9⟩) Z.2.2.2.2.2.2 dX8_takeTomb_59
    · skip
      refine lv_iload S.1 S.2.1 dX8_takeTomb_30 (lv_at hl 5 rfl) ?_
      refine lv_aload_n S.1 S.2.1 dX8_takeTomb_32 rfl (lv_at hl 1 rfl) ?_
      refine r_get (C := RX8) (T := TX8) (N := 19) (ci := 8) S Z (by decide) rfl rfl i_X8_takeTomb_X8 4 (by decide) m_X8_takeTomb_f22 rfl (v := .ref (gA G 44)) rfl dX8_takeTomb_33 ?_
      refine lv_iload S.1 S.2.1 dX8_takeTomb_36 (lv_at hl 0 rfl) ?_
      refine r_ialdM S Z (n := 368) ⟨rfl, rfl⟩ (by omega) (by decide) dX8_takeTomb_38 ?_
      refine lv_icmp_le (tgt := 59) S.1 S.2.1 dX8_takeTomb_39 (by decide) (fun c_3 => ?_) (fun c_3 => ?_)
      · skip
        rw [hQ]
        have q8 : (takT2 μ (92 * k + q) sp ma : mS) = μ := by first | (simp [takT2, putT2, c_1, c_2, c_3]; done) | (simp [takT2, putT2, c_1, c_2, c_3]; omega) | (simp [takT2, putT2, ← Int32.not_le, c_1, c_2, c_3]; done) | (simp [takT2, putT2, c_1, eq_true c_2, c_3]; done) | rfl
        rw [← q8] at Z
        exact W.vret S.1 S.2.1 hret (fun _ hT9 hW => ⟨⟨(σ, takT2 μ (92 * k + q) sp ma), rfl, rfl, wZ_P Z hT9 hW⟩, Z.2.2.2.2.F hT9⟩) Z.2.2.2.2.2.2 dX8_takeTomb_59
      · skip
        refine lv_aload_n S.1 S.2.1 dX8_takeTomb_42 rfl (lv_at hl 1 rfl) ?_
        refine r_get (C := RX8) (T := TX8) (N := 19) (ci := 8) S Z (by decide) rfl rfl i_X8_takeTomb_X8 3 (by decide) m_X8_takeTomb_f19 rfl (v := .ref (gA G 43)) rfl dX8_takeTomb_43 ?_
        refine lv_iload S.1 S.2.1 dX8_takeTomb_46 (lv_at hl 0 rfl) ?_
        refine lv_iload_n S.1 S.2.1 dX8_takeTomb_48 rfl (lv_at hl 4 rfl) ?_
        refine r_wM S Z (n := 368) ⟨rfl, rfl⟩ (by omega) (by decide) dX8_takeTomb_49 (fun H locs Z => ?_)
        refine lv_aload_n S.1 S.2.1 dX8_takeTomb_50 rfl (lv_at hl 1 rfl) ?_
        refine r_get (C := RX8) (T := TX8) (N := 19) (ci := 8) S Z (by decide) rfl rfl i_X8_takeTomb_X8 4 (by decide) m_X8_takeTomb_f22 rfl (v := .ref (gA G 44)) rfl dX8_takeTomb_51 ?_
        refine lv_iload S.1 S.2.1 dX8_takeTomb_54 (lv_at hl 0 rfl) ?_
        refine lv_iload S.1 S.2.1 dX8_takeTomb_56 (lv_at hl 5 rfl) ?_
        refine r_wM S Z (n := 368) ⟨rfl, rfl⟩ (by omega) (by decide) dX8_takeTomb_58 (fun H locs Z => ?_)
        rw [hQ]
        have q8 : (takT2 μ (92 * k + q) sp ma : mS) = w2 (w2 μ 43 ((92 * k) + q) sp) 44 ((92 * k) + q) ma := by first | (simp [takT2, putT2, c_1, c_2, c_3]; done) | (simp [takT2, putT2, c_1, c_2, c_3]; omega) | (simp [takT2, putT2, ← Int32.not_le, c_1, c_2, c_3]; done) | (simp [takT2, putT2, c_1, eq_true c_2, c_3]; done) | rfl
        rw [← q8] at Z
        exact W.vret S.1 S.2.1 hret (fun _ hT9 hW => ⟨⟨(σ, takT2 μ (92 * k + q) sp ma), rfl, rfl, wZ_P Z hT9 hW⟩, Z.2.2.2.2.F hT9⟩) Z.2.2.2.2.2.2 dX8_takeTomb_59

theorem i_X8_goesTo_X8 : ∀ w ∈ wsX80, w ∈ wsX8_goesTo := by decide +kernel
theorem m_X8_goesTo_f31 : Cond.fieldLink RX8 31 "WideCellModel" "isUp" "[Z" ∈ wsX8_goesTo := by decide +kernel
theorem m_X8_goesTo_f35 : Cond.fieldLink RX8 35 "WideCellModel" "hints" "[I" ∈ wsX8_goesTo := by decide +kernel
theorem m_X8_goesTo_f38 : Cond.fieldLink RX8 38 "WideCellModel" "hintAt" "[I" ∈ wsX8_goesTo := by decide +kernel
theorem m_X8_goesTo_f41 : Cond.fieldLink RX8 41 "WideCellModel" "hintStamp" "[I" ∈ wsX8_goesTo := by decide +kernel
theorem m_X8_goesTo_f44 : Cond.fieldLink RX8 44 "WideCellModel" "hintValue" "[I" ∈ wsX8_goesTo := by decide +kernel
theorem m_X8_goesTo_f47 : Cond.fieldLink RX8 47 "WideCellModel" "hintEnd" "[I" ∈ wsX8_goesTo := by decide +kernel
abbrev rm_k_X8_goesTo : Room := { frames := 2, cells := 0, slots := 0, locals := 48 }
set_option maxHeartbeats 4000000 in
set_option maxRecDepth 100000 in
theorem k_X8_goesTo (l : Launch) (G : wG) (σ : cS) (μ : mS) (o : Nat → Int64) (k : Nat) (a : Nat) (sp : Int32) (v : Int32) (en : Int32) (hk : k < 4) (ha : a < 156) (hm : mOK μ) : Met l yX8_goesTo wsX8_goesTo rm_k_X8_goesTo (wPc G σ μ o [.ref (gA G 39), .int (nI k), .int (nI a), .int (sp), .int (v), .int (en)]) (va_Qv (fun u : cS × mS => u = (σ, goes2 μ k a sp v en)) (fun u t => wI G u.1 u.2 o t) (gP G)) 0 0 (gP G) := by
  refine Met.ofW (cc := cX8_goesTo) (maxL := 7) (ret := none) (by decide) rfl ?_
  intro p e s m args below meth c s₁ B hml hv
  obtain ⟨hargs, hI⟩ := hv
  have S : CallFix p m c cX8_goesTo 7 s args wsX8_goesTo RX8 := ⟨B.exec, B.bytes, hml, findClass_of_methodNamed B.named, atoms_spec (ws := wsX8_goesTo) B.pre⟩
  have hret := B.returns
  have hlocks := B.notSynchronized
  have Z := wZ_0 hI
  clear hI
  obtain ⟨Q, hQ⟩ : ∃ Q, Q = MQ below (va_Qv (fun u : cS × mS => u = (σ, goes2 μ k a sp v en)) (fun u t => wI G u.1 u.2 o t) (gP G)) args s 0 0 (gP G) := ⟨_, rfl⟩
  rw [← hQ]
  have hl := lv_entry [.ref (gA G 39), .int (nI k), .int (nI a), .int (sp), .int (v), .int (en)] (n := 7) (Nat.le_of_ble_eq_true rfl)
  rw [show entryFrame m args 7 = entryFrame m ([.ref (gA G 39), .int (nI k), .int (nI a), .int (sp), .int (v), .int (en)] : List Value).toArray 7 from by rw [hargs], lg_entry_eq]
  generalize (lg_sl [.ref (gA G 39), .int (nI k), .int (nI a), .int (sp), .int (v), .int (en)] ++ List.replicate (7 - (lg_sl [.ref (gA G 39), .int (nI k), .int (nI a), .int (sp), .int (v), .int (en)]).length) Slot.unset).toArray = ls at hl ⊢
  have hl : lv_has ls 7 [(0, .ref (gA G 39)), (1, .int (nI k)), (2, .int (nI a)), (3, .int (sp)), (4, .int (v)), (5, .int (en))] := hl
  have hu : mU μ k = false → k < 3 := fun h => by
    rcases Nat.lt_or_ge k 3 with h3 | h3
    · exact h3
    · have h4 := hm.2.1
      rw [show (3 : Nat) = k from by omega, h] at h4
      cases h4
  refine lv_aload_n S.1 S.2.1 dX8_goesTo_0 rfl (lv_at hl 0 rfl) ?_
  refine r_get (C := RX8) (T := TX8) (N := 19) (ci := 8) S Z (by decide) rfl rfl i_X8_goesTo_X8 8 (by decide) m_X8_goesTo_f31 rfl (v := .ref (gA G 47)) rfl dX8_goesTo_1 ?_
  refine lv_iload_n S.1 S.2.1 dX8_goesTo_4 rfl (lv_at hl 1 rfl) ?_
  refine r_zald (k := 47) (n := 4) (f := fun j => bi (mU μ j)) S Z (by decide) rfl (by omega) (by decide) dX8_goesTo_5 ?_
  refine r_if_neB S (tgt := 80) dX8_goesTo_6 (by decide) (fun c_1 => ?_) (fun c_1 => ?_)
  · skip
    refine lv_iload_n S.1 S.2.1 dX8_goesTo_80 rfl (lv_at hl 2 rfl) ?_
    refine lv_bipush (v := nI 64) S.1 S.2.1 dX8_goesTo_81 (by decide) ?_
    refine r_icmpN_ge S (tgt := 100) (by omega) (by omega) dX8_goesTo_83 (by decide) (fun c_2 => ?_) (fun c_2 => ?_)
    · skip
      refine lv_aload_n S.1 S.2.1 dX8_goesTo_100 rfl (lv_at hl 0 rfl) ?_
      refine lv_iload_n S.1 S.2.1 dX8_goesTo_101 rfl (lv_at hl 1 rfl) ?_
      refine lv_iload_n S.1 S.2.1 dX8_goesTo_102 rfl (lv_at hl 2 rfl) ?_
      refine lv_bipush (v := nI 64) S.1 S.2.1 dX8_goesTo_103 (by decide) ?_
      refine r_subN S (by omega) dX8_goesTo_105 ?_
      refine lv_iload_n S.1 S.2.1 dX8_goesTo_106 rfl (lv_at hl 3 rfl) ?_
      refine lv_iload S.1 S.2.1 dX8_goesTo_107 (lv_at hl 4 rfl) ?_
      refine va_callv (va_runV (As := [.int (nI k), .int (nI (a - 64)), .int (sp), .int (v)]) (rest := []) S (k_X8_takeTomb l G σ μ o k (a - 64) sp v (by omega) (by omega)) (cwV 4 S.2.2.2.2 gX8_goesTo_X8_takeTomb rfl rfl rfl ⟨rfl, hy_X8_takeTomb⟩ ⟨Nat.le_of_ble_eq_true rfl, Nat.le_of_ble_eq_true rfl⟩) (wPc_V (q := (RX8, TX8, 19)) Z (by decide) rfl rfl) rfl rfl hl.1 rfl (lv_room (Nat.le_of_ble_eq_true rfl)) dX8_goesTo_109 ⟨Nat.le_of_ble_eq_true rfl, Nat.le_of_ble_eq_true rfl⟩) Z.2.2.2.2 (fun _ _ h => h) (fun _ h => h) (fun u_4 T9 H1 locs1 hT9 hvm hw hB hz hk9 hS => ?_)
      subst hw
      have Z : wZ G (σ) (takT2 μ (92 * k + (a - 64)) sp v) o s H1 locs1 := wZ_callP Z hB hT9 hS
      clear hB hT9 hS hk9 hz hvm T9
      revert Z; generalize H1 = H; generalize locs1 = locs; intro Z
      refine W.widen (k := 0) (n := 0) (by decide) (by decide) ?_
      rw [hQ]
      have q8 : (goes2 μ k a sp v en : mS) = takT2 μ (92 * k + (a - 64)) sp v := by first | (simp [goes2, pushH, mH_w2, mH_mA, c_1, c_2]; done) | (simp [goes2, pushH, mH_w2, mH_mA, c_1, c_2]; omega) | (simp [goes2, pushH, mH_w2, mH_mA, ← Int32.not_le, c_1, c_2]; done) | rfl
      rw [← q8] at Z
      exact W.vret S.1 S.2.1 hret (fun _ hT9 hW => ⟨⟨(σ, goes2 μ k a sp v en), rfl, rfl, wZ_P Z hT9 hW⟩, Z.2.2.2.2.F hT9⟩) Z.2.2.2.2.2.2 dX8_goesTo_112
    · skip
      refine lv_aload_n S.1 S.2.1 dX8_goesTo_86 rfl (lv_at hl 0 rfl) ?_
      refine lv_iload_n S.1 S.2.1 dX8_goesTo_87 rfl (lv_at hl 1 rfl) ?_
      refine lv_iload_n S.1 S.2.1 dX8_goesTo_88 rfl (lv_at hl 2 rfl) ?_
      refine lv_iload_n S.1 S.2.1 dX8_goesTo_89 rfl (lv_at hl 3 rfl) ?_
      refine lv_iload S.1 S.2.1 dX8_goesTo_90 (lv_at hl 4 rfl) ?_
      refine lv_iload S.1 S.2.1 dX8_goesTo_92 (lv_at hl 5 rfl) ?_
      refine va_callv (va_runV (As := [.int (nI k), .int (nI a), .int (sp), .int (v), .int (en)]) (rest := []) S (k_X8_takeEntry l G σ μ o k a sp v en (by omega) (by omega)) (cwV 5 S.2.2.2.2 gX8_goesTo_X8_takeEntry rfl rfl rfl ⟨rfl, hy_X8_takeEntry⟩ ⟨Nat.le_of_ble_eq_true rfl, Nat.le_of_ble_eq_true rfl⟩) (wPc_V (q := (RX8, TX8, 19)) Z (by decide) rfl rfl) rfl rfl hl.1 rfl (lv_room (Nat.le_of_ble_eq_true rfl)) dX8_goesTo_94 ⟨Nat.le_of_ble_eq_true rfl, Nat.le_of_ble_eq_true rfl⟩) Z.2.2.2.2 (fun _ _ h => h) (fun _ h => h) (fun u_6 T9 H1 locs1 hT9 hvm hw hB hz hk9 hS => ?_)
      subst hw
      have Z : wZ G (σ) (takE2 μ (64 * k + a) sp v en) o s H1 locs1 := wZ_callP Z hB hT9 hS
      clear hB hT9 hS hk9 hz hvm T9
      revert Z; generalize H1 = H; generalize locs1 = locs; intro Z
      refine W.widen (k := 0) (n := 0) (by decide) (by decide) ?_
      refine lv_goto (tgt := 112) S.1 S.2.1 dX8_goesTo_97 (by decide) ?_
      rw [hQ]
      have q8 : (goes2 μ k a sp v en : mS) = takE2 μ (64 * k + a) sp v en := by first | (simp [goes2, pushH, mH_w2, mH_mA, c_1, c_2]; done) | (simp [goes2, pushH, mH_w2, mH_mA, c_1, c_2]; omega) | (simp [goes2, pushH, mH_w2, mH_mA, ← Int32.not_le, c_1, c_2]; done) | rfl
      rw [← q8] at Z
      exact W.vret S.1 S.2.1 hret (fun _ hT9 hW => ⟨⟨(σ, goes2 μ k a sp v en), rfl, rfl, wZ_P Z hT9 hW⟩, Z.2.2.2.2.F hT9⟩) Z.2.2.2.2.2.2 dX8_goesTo_112
  · skip
    have hk3 := hu c_1
    have hh3 := hm.2.2.1 k hk3
    refine lv_aload_n S.1 S.2.1 dX8_goesTo_9 rfl (lv_at hl 0 rfl) ?_
    refine r_get (C := RX8) (T := TX8) (N := 19) (ci := 8) S Z (by decide) rfl rfl i_X8_goesTo_X8 9 (by decide) m_X8_goesTo_f35 rfl (v := .ref (gA G 48)) rfl dX8_goesTo_10 ?_
    refine lv_iload_n S.1 S.2.1 dX8_goesTo_13 rfl (lv_at hl 1 rfl) ?_
    refine r_iald (k := 48) (n := 3) (f := fun j => nI (mH μ j)) S Z (by decide) rfl (by omega) (by decide) dX8_goesTo_14 ?_
    refine lv_bipush (v := nI 10) S.1 S.2.1 dX8_goesTo_15 (by decide) ?_
    refine r_icmpN_ge S (tgt := 112) (by omega) (by omega) dX8_goesTo_17 (by decide) (fun c_7 => ?_) (fun c_7 => ?_)
    · skip
      rw [hQ]
      have q8 : (goes2 μ k a sp v en : mS) = μ := by first | (simp [goes2, pushH, mH_w2, mH_mA, c_1, c_7]; done) | (simp [goes2, pushH, mH_w2, mH_mA, c_1, c_7]; omega) | (simp [goes2, pushH, mH_w2, mH_mA, ← Int32.not_le, c_1, c_7]; done) | (simp [goes2, pushH, mH_w2, mH_mA, eq_true c_1, c_7]; done) | rfl
      rw [← q8] at Z
      exact W.vret S.1 S.2.1 hret (fun _ hT9 hW => ⟨⟨(σ, goes2 μ k a sp v en), rfl, rfl, wZ_P Z hT9 hW⟩, Z.2.2.2.2.F hT9⟩) Z.2.2.2.2.2.2 dX8_goesTo_112
    · skip
      refine lv_bipush (v := nI 10) S.1 S.2.1 dX8_goesTo_20 (by decide) ?_
      refine lv_iload_n S.1 S.2.1 dX8_goesTo_22 rfl (lv_at hl 1 rfl) ?_
      refine r_mulN S dX8_goesTo_23 ?_
      refine lv_aload_n S.1 S.2.1 dX8_goesTo_24 rfl (lv_at hl 0 rfl) ?_
      refine r_get (C := RX8) (T := TX8) (N := 19) (ci := 8) S Z (by decide) rfl rfl i_X8_goesTo_X8 9 (by decide) m_X8_goesTo_f35 rfl (v := .ref (gA G 48)) rfl dX8_goesTo_25 ?_
      refine lv_iload_n S.1 S.2.1 dX8_goesTo_28 rfl (lv_at hl 1 rfl) ?_
      refine r_iald (k := 48) (n := 3) (f := fun j => nI (mH μ j)) S Z (by decide) rfl (by omega) (by decide) dX8_goesTo_29 ?_
      refine r_addN S dX8_goesTo_30 ?_
      refine lv_istore (lv' := [(6, .int (nI ((10 * k) + (mH μ k)))), (0, .ref (gA G 39)), (1, .int (nI k)), (2, .int (nI a)), (3, .int (sp)), (4, .int (v)), (5, .int (en))]) S.1 S.2.1 dX8_goesTo_31 hl (by decide) rfl (fun ls hl => ?_)
      refine lv_aload_n S.1 S.2.1 dX8_goesTo_33 rfl (lv_at hl 1 rfl) ?_
      refine r_get (C := RX8) (T := TX8) (N := 19) (ci := 8) S Z (by decide) rfl rfl i_X8_goesTo_X8 10 (by decide) m_X8_goesTo_f38 rfl (v := .ref (gA G 49)) rfl dX8_goesTo_34 ?_
      refine lv_iload S.1 S.2.1 dX8_goesTo_37 (lv_at hl 0 rfl) ?_
      refine lv_iload_n S.1 S.2.1 dX8_goesTo_39 rfl (lv_at hl 3 rfl) ?_
      refine r_iast (σ' := σ) (μ' := mA' μ ((10 * k) + (mH μ k)) a) (k := 49) (n := 30) (f := fun j => nI (mA μ j)) S Z (by decide) rfl (upd_nI _ _ _) rfl (sMA _ _) (by omega) (by decide) dX8_goesTo_40 (fun H locs Z => ?_)
      refine lv_aload_n S.1 S.2.1 dX8_goesTo_41 rfl (lv_at hl 1 rfl) ?_
      refine r_get (C := RX8) (T := TX8) (N := 19) (ci := 8) S Z (by decide) rfl rfl i_X8_goesTo_X8 11 (by decide) m_X8_goesTo_f41 rfl (v := .ref (gA G 50)) rfl dX8_goesTo_42 ?_
      refine lv_iload S.1 S.2.1 dX8_goesTo_45 (lv_at hl 0 rfl) ?_
      refine lv_iload_n S.1 S.2.1 dX8_goesTo_47 rfl (lv_at hl 4 rfl) ?_
      refine r_wM S Z (n := 30) ⟨rfl, rfl⟩ (by omega) (by decide) dX8_goesTo_48 (fun H locs Z => ?_)
      refine lv_aload_n S.1 S.2.1 dX8_goesTo_49 rfl (lv_at hl 1 rfl) ?_
      refine r_get (C := RX8) (T := TX8) (N := 19) (ci := 8) S Z (by decide) rfl rfl i_X8_goesTo_X8 12 (by decide) m_X8_goesTo_f44 rfl (v := .ref (gA G 51)) rfl dX8_goesTo_50 ?_
      refine lv_iload S.1 S.2.1 dX8_goesTo_53 (lv_at hl 0 rfl) ?_
      refine lv_iload S.1 S.2.1 dX8_goesTo_55 (lv_at hl 5 rfl) ?_
      refine r_wM S Z (n := 30) ⟨rfl, rfl⟩ (by omega) (by decide) dX8_goesTo_57 (fun H locs Z => ?_)
      refine lv_aload_n S.1 S.2.1 dX8_goesTo_58 rfl (lv_at hl 1 rfl) ?_
      refine r_get (C := RX8) (T := TX8) (N := 19) (ci := 8) S Z (by decide) rfl rfl i_X8_goesTo_X8 13 (by decide) m_X8_goesTo_f47 rfl (v := .ref (gA G 52)) rfl dX8_goesTo_59 ?_
      refine lv_iload S.1 S.2.1 dX8_goesTo_62 (lv_at hl 0 rfl) ?_
      refine lv_iload S.1 S.2.1 dX8_goesTo_64 (lv_at hl 6 rfl) ?_
      refine r_wM S Z (n := 30) ⟨rfl, rfl⟩ (by omega) (by decide) dX8_goesTo_66 (fun H locs Z => ?_)
      refine lv_aload_n S.1 S.2.1 dX8_goesTo_67 rfl (lv_at hl 1 rfl) ?_
      refine r_get (C := RX8) (T := TX8) (N := 19) (ci := 8) S Z (by decide) rfl rfl i_X8_goesTo_X8 9 (by decide) m_X8_goesTo_f35 rfl (v := .ref (gA G 48)) rfl dX8_goesTo_68 ?_
      refine lv_iload_n S.1 S.2.1 dX8_goesTo_71 rfl (lv_at hl 2 rfl) ?_
      refine lv_dup2_11 S.1 S.2.1 dX8_goesTo_72 rfl rfl ?_
      refine r_iald (k := 48) (n := 3) (f := fun j => nI (mH (w2 (w2 (w2 (mA' μ ((10 * k) + (mH μ k)) a) 50 ((10 * k) + (mH μ k)) sp) 51 ((10 * k) + (mH μ k)) v) 52 ((10 * k) + (mH μ k)) en) j)) S Z (by decide) rfl (by omega) (by decide) dX8_goesTo_73 ?_
      refine lv_iconst (v := nI 1) S.1 S.2.1 dX8_goesTo_74 (by decide) ?_
      refine r_addN S dX8_goesTo_75 ?_
      refine r_iast (σ' := σ) (μ' := mH' (w2 (w2 (w2 (mA' μ ((10 * k) + (mH μ k)) a) 50 ((10 * k) + (mH μ k)) sp) 51 ((10 * k) + (mH μ k)) v) 52 ((10 * k) + (mH μ k)) en) k ((mH (w2 (w2 (w2 (mA' μ ((10 * k) + (mH μ k)) a) 50 ((10 * k) + (mH μ k)) sp) 51 ((10 * k) + (mH μ k)) v) 52 ((10 * k) + (mH μ k)) en) k) + 1)) (k := 48) (n := 3) (f := fun j => nI (mH (w2 (w2 (w2 (mA' μ ((10 * k) + (mH μ k)) a) 50 ((10 * k) + (mH μ k)) sp) 51 ((10 * k) + (mH μ k)) v) 52 ((10 * k) + (mH μ k)) en) j)) S Z (by decide) rfl (upd_nI _ _ _) rfl (sMH _ _) (by omega) (by decide) dX8_goesTo_76 (fun H locs Z => ?_)
      refine lv_goto (tgt := 112) S.1 S.2.1 dX8_goesTo_77 (by decide) ?_
      rw [hQ]
      have q8 : (goes2 μ k a sp v en : mS) = mH' (w2 (w2 (w2 (mA' μ ((10 * k) + (mH μ k)) a) 50 ((10 * k) + (mH μ k)) sp) 51 ((10 * k) + (mH μ k)) v) 52 ((10 * k) + (mH μ k)) en) k ((mH (w2 (w2 (w2 (mA' μ ((10 * k) + (mH μ k)) a) 50 ((10 * k) + (mH μ k)) sp) 51 ((10 * k) + (mH μ k)) v) 52 ((10 * k) + (mH μ k)) en) k) + 1) := by first | (simp [goes2, pushH, mH_w2, mH_mA, c_1, c_7]; done) | (simp [goes2, pushH, mH_w2, mH_mA, c_1, c_7]; omega) | (simp [goes2, pushH, mH_w2, mH_mA, ← Int32.not_le, c_1, c_7]; done) | (simp [goes2, pushH, mH_w2, mH_mA, eq_true c_1, c_7]; done) | rfl
      rw [← q8] at Z
      exact W.vret S.1 S.2.1 hret (fun _ hT9 hW => ⟨⟨(σ, goes2 μ k a sp v en), rfl, rfl, wZ_P Z hT9 hW⟩, Z.2.2.2.2.F hT9⟩) Z.2.2.2.2.2.2 dX8_goesTo_112

theorem i_X8_spreads_X8 : ∀ w ∈ wsX80, w ∈ wsX8_spreads := by decide +kernel
theorem m_X8_spreads_f31 : Cond.fieldLink RX8 31 "WideCellModel" "isUp" "[Z" ∈ wsX8_spreads := by decide +kernel
abbrev rm_k_X8_spreads : Room := { frames := 3, cells := 0, slots := 0, locals := 74 }
set_option maxHeartbeats 4000000 in
set_option maxRecDepth 100000 in
theorem k_X8_spreads (l : Launch) (G : wG) (σ : cS) (μ : mS) (o : Nat → Int64) (cs : Int32) (a : Nat) (sp : Int32) (v : Int32) (en : Int32) (ha : a < 156) (hm : mOK μ) : Met l yX8_spreads wsX8_spreads rm_k_X8_spreads (wPc G σ μ o [.ref (gA G 39), .int (cs), .int (nI a), .int (sp), .int (v), .int (en)]) (va_Qi (fun (rr : Int32) (u : cS × mS) => rr = nI (spN μ cs a sp v en 3) ∧ u = (σ, spE μ cs a sp v en)) (fun u t => wI G u.1 u.2 o t) (gP G)) 0 0 (gP G) := by
  refine Met.ofW (cc := cX8_spreads) (maxL := 8) (ret := (some .int)) (by decide) rfl ?_
  intro p e s m args below meth c s₁ B hml hv
  obtain ⟨hargs, hI⟩ := hv
  have S : CallFix p m c cX8_spreads 8 s args wsX8_spreads RX8 := ⟨B.exec, B.bytes, hml, findClass_of_methodNamed B.named, atoms_spec (ws := wsX8_spreads) B.pre⟩
  have hret := B.returns
  have hlocks := B.notSynchronized
  have Z := wZ_0 hI
  clear hI
  obtain ⟨Q, hQ⟩ : ∃ Q, Q = MQ below (va_Qi (fun (rr : Int32) (u : cS × mS) => rr = nI (spN μ cs a sp v en 3) ∧ u = (σ, spE μ cs a sp v en)) (fun u t => wI G u.1 u.2 o t) (gP G)) args s 0 0 (gP G) := ⟨_, rfl⟩
  rw [← hQ]
  have hl := lv_entry [.ref (gA G 39), .int (cs), .int (nI a), .int (sp), .int (v), .int (en)] (n := 8) (Nat.le_of_ble_eq_true rfl)
  rw [show entryFrame m args 8 = entryFrame m ([.ref (gA G 39), .int (cs), .int (nI a), .int (sp), .int (v), .int (en)] : List Value).toArray 8 from by rw [hargs], lg_entry_eq]
  generalize (lg_sl [.ref (gA G 39), .int (cs), .int (nI a), .int (sp), .int (v), .int (en)] ++ List.replicate (8 - (lg_sl [.ref (gA G 39), .int (cs), .int (nI a), .int (sp), .int (v), .int (en)]).length) Slot.unset).toArray = ls at hl ⊢
  have hl : lv_has ls 8 [(0, .ref (gA G 39)), (1, .int (cs)), (2, .int (nI a)), (3, .int (sp)), (4, .int (v)), (5, .int (en))] := hl
  refine lv_iconst (v := nI 0) S.1 S.2.1 dX8_spreads_0 (by decide) ?_
  refine lv_istore (lv' := [(6, .int (nI 0)), (0, .ref (gA G 39)), (1, .int (cs)), (2, .int (nI a)), (3, .int (sp)), (4, .int (v)), (5, .int (en))]) S.1 S.2.1 dX8_spreads_1 hl (by decide) rfl (fun ls hl => ?_)
  refine lv_iconst (v := nI 0) S.1 S.2.1 dX8_spreads_3 (by decide) ?_
  refine lv_istore (lv' := [(7, .int (nI 0)), (6, .int (nI 0)), (0, .ref (gA G 39)), (1, .int (cs)), (2, .int (nI a)), (3, .int (sp)), (4, .int (v)), (5, .int (en))]) S.1 S.2.1 dX8_spreads_4 hl (by decide) rfl (fun ls hl => ?_)
  have L_6 : ∀ (n : Nat) (i : Nat) (hi : i ≤ 3) (hn : 3 - i < n) (H : Heap) (locs : List Loc) (Z : wZ G (σ) (spS μ cs a sp v en i) o s H locs) (ls : Array Slot) (hl : lv_has ls 8 [(0, .ref (gA G 39)), (1, .int (cs)), (2, .int (nI a)), (3, .int (sp)), (4, .int (v)), (5, .int (en)), (6, .int (nI (spN μ cs a sp v en i))), (7, .int (nI i))]), W p l e (headSpec wsX8_spreads rm_k_X8_spreads).room s m args below meth c H locs 0 0 Q (F0 m 6 ls []) := by
    intro n
    induction n with
    | zero => intro i hi hn; omega
    | succ n ih_6 =>
      intro i hi hn H locs Z ls hl
      refine lv_iload S.1 S.2.1 dX8_spreads_6 (lv_at hl 7 rfl) ?_
      refine lv_iconst (v := nI 3) S.1 S.2.1 dX8_spreads_8 (by decide) ?_
      refine r_icmpN_ge S (tgt := 60) (by omega) (by omega) dX8_spreads_9 (by decide) (fun c_1 => ?_) (fun c_1 => ?_)
      · skip
        obtain rfl : i = 3 := by omega
        refine lv_aload_n S.1 S.2.1 dX8_spreads_60 rfl (lv_at hl 0 rfl) ?_
        refine lv_iconst (v := nI 3) S.1 S.2.1 dX8_spreads_61 (by decide) ?_
        refine lv_iload_n S.1 S.2.1 dX8_spreads_62 rfl (lv_at hl 2 rfl) ?_
        refine lv_iload_n S.1 S.2.1 dX8_spreads_63 rfl (lv_at hl 3 rfl) ?_
        refine lv_iload S.1 S.2.1 dX8_spreads_64 (lv_at hl 4 rfl) ?_
        refine lv_iload S.1 S.2.1 dX8_spreads_66 (lv_at hl 5 rfl) ?_
        refine va_callv (va_runV (As := [.int (nI 3), .int (nI a), .int (sp), .int (v), .int (en)]) (rest := []) S (k_X8_goesTo l G σ (spS μ cs a sp v en 3) o 3 a sp v en (by omega) (by omega) (ok_spS hm ha _)) (cwV 5 S.2.2.2.2 gX8_spreads_X8_goesTo rfl rfl rfl ⟨rfl, hy_X8_goesTo⟩ ⟨Nat.le_of_ble_eq_true rfl, Nat.le_of_ble_eq_true rfl⟩) (wPc_V (q := (RX8, TX8, 19)) Z (by decide) rfl rfl) rfl rfl hl.1 rfl (lv_room (Nat.le_of_ble_eq_true rfl)) dX8_spreads_68 ⟨Nat.le_of_ble_eq_true rfl, Nat.le_of_ble_eq_true rfl⟩) Z.2.2.2.2 (fun _ _ h => h) (fun _ h => h) (fun u_3 T9 H1 locs1 hT9 hvm hw hB hz hk9 hS => ?_)
        subst hw
        have Z : wZ G (σ) (goes2 (spS μ cs a sp v en 3) 3 a sp v en) o s H1 locs1 := wZ_callP Z hB hT9 hS
        clear hB hT9 hS hk9 hz hvm T9
        revert Z; generalize H1 = H; generalize locs1 = locs; intro Z
        refine W.widen (k := 0) (n := 0) (by decide) (by decide) ?_
        refine lv_iload S.1 S.2.1 dX8_spreads_71 (lv_at hl 6 rfl) ?_
        rw [hQ]
        have q8 : (spE μ cs a sp v en : mS) = goes2 (spS μ cs a sp v en 3) 3 a sp v en := rfl
        rw [← q8] at Z
        exact W.iret (v := nI (spN μ cs a sp v en 3)) S.1 S.2.1 hret (fun _ hT9 hW => ⟨⟨_, (σ, spE μ cs a sp v en), rfl, ⟨rfl, rfl⟩, wZ_P Z hT9 hW⟩, Z.2.2.2.2.F hT9⟩) Z.2.2.2.2.2.2 dX8_spreads_73
      · skip
        refine lv_iload_n S.1 S.2.1 dX8_spreads_12 rfl (lv_at hl 1 rfl) ?_
        refine lv_iload S.1 S.2.1 dX8_spreads_13 (lv_at hl 7 rfl) ?_
        refine lv_ishr S.1 S.2.1 dX8_spreads_15 ?_
        refine lv_iconst (v := nI 1) S.1 S.2.1 dX8_spreads_16 (by decide) ?_
        refine lv_iand S.1 S.2.1 dX8_spreads_17 ?_
        refine lv_iconst (v := nI 1) S.1 S.2.1 dX8_spreads_18 (by decide) ?_
        refine lv_icmp_ne (tgt := 54) S.1 S.2.1 dX8_spreads_19 (by decide) (fun c_4 => ?_) (fun c_4 => ?_)
        · skip
          refine lv_iinc (v := nI (i + 1)) (lv' := [(7, .int (nI (i + 1))), (0, .ref (gA G 39)), (1, .int (cs)), (2, .int (nI a)), (3, .int (sp)), (4, .int (v)), (5, .int (en)), (6, .int (nI (spN μ cs a sp v en i)))]) S.1 S.2.1 dX8_spreads_54 hl (k := 7) rfl (nI_inc rfl) (by decide) rfl (fun ls hl => ?_)
          refine lv_goto (tgt := 6) S.1 S.2.1 dX8_spreads_57 (by decide) ?_
          have q_5 : (nI (spN μ cs a sp v en (i + 1)) : Int32) = nI (spN μ cs a sp v en i) := by first | (first | (simp [bi, spS, spN, bitB, hi, c_1, c_4]; done) | (simp [bi, spS, spN, bitB, hi, c_1, c_4]; omega) | (simp [bi, spS, spN, bitB, ← Int32.not_le, hi, c_1, c_4]; done)) | exact congrArg nI (by omega) | rfl
          have hl : lv_has ls 8 [(0, .ref (gA G 39)), (1, .int (cs)), (2, .int (nI a)), (3, .int (sp)), (4, .int (v)), (5, .int (en)), (6, .int (nI (spN μ cs a sp v en (i + 1)))), (7, .int (nI (i + 1)))] := by
            have hl := lv_sub hl [1, 2, 3, 4, 5, 6, 7, 0] rfl
            rw [q_5]; exact hl
          have q8 : (spS μ cs a sp v en (i + 1) : mS) = spS μ cs a sp v en i := by first | (simp [bi, spS, spN, bitB, hi, c_1, c_4]; done) | (simp [bi, spS, spN, bitB, hi, c_1, c_4]; omega) | (simp [bi, spS, spN, bitB, ← Int32.not_le, hi, c_1, c_4]; done)
          rw [← q8] at Z
          exact ih_6 (i + 1) (by omega) (by omega) _ _ Z ls (hl)
        · skip
          refine lv_iload S.1 S.2.1 dX8_spreads_22 (lv_at hl 6 rfl) ?_
          refine lv_aload_n S.1 S.2.1 dX8_spreads_24 rfl (lv_at hl 0 rfl) ?_
          refine r_get (C := RX8) (T := TX8) (N := 19) (ci := 8) S Z (by decide) rfl rfl i_X8_spreads_X8 8 (by decide) m_X8_spreads_f31 rfl (v := .ref (gA G 47)) rfl dX8_spreads_25 ?_
          refine lv_iload S.1 S.2.1 dX8_spreads_28 (lv_at hl 7 rfl) ?_
          refine r_zald (k := 47) (n := 4) (f := fun j => bi (mU (spS μ cs a sp v en i) j)) S Z (by decide) rfl (by omega) (by decide) dX8_spreads_30 ?_
          refine r_if_eqB S (tgt := 38) dX8_spreads_31 (by decide) (fun c_6 => ?_) (fun c_6 => ?_)
          · skip
            refine lv_iconst (v := nI 0) S.1 S.2.1 dX8_spreads_38 (by decide) ?_
            refine r_addN S dX8_spreads_39 ?_
            refine lv_istore (lv' := [(6, .int (nI ((spN μ cs a sp v en i) + 0))), (0, .ref (gA G 39)), (1, .int (cs)), (2, .int (nI a)), (3, .int (sp)), (4, .int (v)), (5, .int (en)), (7, .int (nI i))]) S.1 S.2.1 dX8_spreads_40 hl (by decide) rfl (fun ls hl => ?_)
            refine lv_aload_n S.1 S.2.1 dX8_spreads_42 rfl (lv_at hl 1 rfl) ?_
            refine lv_iload S.1 S.2.1 dX8_spreads_43 (lv_at hl 7 rfl) ?_
            refine lv_iload_n S.1 S.2.1 dX8_spreads_45 rfl (lv_at hl 3 rfl) ?_
            refine lv_iload_n S.1 S.2.1 dX8_spreads_46 rfl (lv_at hl 4 rfl) ?_
            refine lv_iload S.1 S.2.1 dX8_spreads_47 (lv_at hl 5 rfl) ?_
            refine lv_iload S.1 S.2.1 dX8_spreads_49 (lv_at hl 6 rfl) ?_
            refine va_callv (va_runV (As := [.int (nI i), .int (nI a), .int (sp), .int (v), .int (en)]) (rest := []) S (k_X8_goesTo l G σ (spS μ cs a sp v en i) o i a sp v en (by omega) (by omega) (ok_spS hm ha _)) (cwV 5 S.2.2.2.2 gX8_spreads_X8_goesTo rfl rfl rfl ⟨rfl, hy_X8_goesTo⟩ ⟨Nat.le_of_ble_eq_true rfl, Nat.le_of_ble_eq_true rfl⟩) (wPc_V (q := (RX8, TX8, 19)) Z (by decide) rfl rfl) rfl rfl hl.1 rfl (lv_room (Nat.le_of_ble_eq_true rfl)) dX8_spreads_51 ⟨Nat.le_of_ble_eq_true rfl, Nat.le_of_ble_eq_true rfl⟩) Z.2.2.2.2 (fun _ _ h => h) (fun _ h => h) (fun u_8 T9 H1 locs1 hT9 hvm hw hB hz hk9 hS => ?_)
            subst hw
            have Z : wZ G (σ) (goes2 (spS μ cs a sp v en i) i a sp v en) o s H1 locs1 := wZ_callP Z hB hT9 hS
            clear hB hT9 hS hk9 hz hvm T9
            revert Z; generalize H1 = H; generalize locs1 = locs; intro Z
            refine W.widen (k := 0) (n := 0) (by decide) (by decide) ?_
            refine lv_iinc (v := nI (i + 1)) (lv' := [(7, .int (nI (i + 1))), (6, .int (nI ((spN μ cs a sp v en i) + 0))), (0, .ref (gA G 39)), (1, .int (cs)), (2, .int (nI a)), (3, .int (sp)), (4, .int (v)), (5, .int (en))]) S.1 S.2.1 dX8_spreads_54 hl (k := 7) rfl (nI_inc rfl) (by decide) rfl (fun ls hl => ?_)
            refine lv_goto (tgt := 6) S.1 S.2.1 dX8_spreads_57 (by decide) ?_
            have q_9 : (nI (spN μ cs a sp v en (i + 1)) : Int32) = nI ((spN μ cs a sp v en i) + 0) := by first | (first | (simp [bi, spS, spN, bitB, hi, c_1, c_4, c_6]; done) | (simp [bi, spS, spN, bitB, hi, c_1, c_4, c_6]; omega) | (simp [bi, spS, spN, bitB, ← Int32.not_le, hi, c_1, c_4, c_6]; done) | (simp [bi, spS, spN, bitB, hi, c_1, eq_true c_4, eq_true c_6]; done)) | exact congrArg nI (by omega) | rfl
            have hl : lv_has ls 8 [(0, .ref (gA G 39)), (1, .int (cs)), (2, .int (nI a)), (3, .int (sp)), (4, .int (v)), (5, .int (en)), (6, .int (nI (spN μ cs a sp v en (i + 1)))), (7, .int (nI (i + 1)))] := by
              have hl := lv_sub hl [2, 3, 4, 5, 6, 7, 1, 0] rfl
              rw [q_9]; exact hl
            have q8 : (spS μ cs a sp v en (i + 1) : mS) = goes2 (spS μ cs a sp v en i) i a sp v en := by first | (simp [bi, spS, spN, bitB, hi, c_1, c_4, c_6]; done) | (simp [bi, spS, spN, bitB, hi, c_1, c_4, c_6]; omega) | (simp [bi, spS, spN, bitB, ← Int32.not_le, hi, c_1, c_4, c_6]; done) | (simp [bi, spS, spN, bitB, hi, c_1, eq_true c_4, eq_true c_6]; done)
            rw [← q8] at Z
            exact ih_6 (i + 1) (by omega) (by omega) _ _ Z ls (hl)
          · skip
            refine lv_iconst (v := nI 1) S.1 S.2.1 dX8_spreads_34 (by decide) ?_
            refine lv_goto (tgt := 39) S.1 S.2.1 dX8_spreads_35 (by decide) ?_
            refine r_addN S dX8_spreads_39 ?_
            refine lv_istore (lv' := [(6, .int (nI ((spN μ cs a sp v en i) + 1))), (0, .ref (gA G 39)), (1, .int (cs)), (2, .int (nI a)), (3, .int (sp)), (4, .int (v)), (5, .int (en)), (7, .int (nI i))]) S.1 S.2.1 dX8_spreads_40 hl (by decide) rfl (fun ls hl => ?_)
            refine lv_aload_n S.1 S.2.1 dX8_spreads_42 rfl (lv_at hl 1 rfl) ?_
            refine lv_iload S.1 S.2.1 dX8_spreads_43 (lv_at hl 7 rfl) ?_
            refine lv_iload_n S.1 S.2.1 dX8_spreads_45 rfl (lv_at hl 3 rfl) ?_
            refine lv_iload_n S.1 S.2.1 dX8_spreads_46 rfl (lv_at hl 4 rfl) ?_
            refine lv_iload S.1 S.2.1 dX8_spreads_47 (lv_at hl 5 rfl) ?_
            refine lv_iload S.1 S.2.1 dX8_spreads_49 (lv_at hl 6 rfl) ?_
            refine va_callv (va_runV (As := [.int (nI i), .int (nI a), .int (sp), .int (v), .int (en)]) (rest := []) S (k_X8_goesTo l G σ (spS μ cs a sp v en i) o i a sp v en (by omega) (by omega) (ok_spS hm ha _)) (cwV 5 S.2.2.2.2 gX8_spreads_X8_goesTo rfl rfl rfl ⟨rfl, hy_X8_goesTo⟩ ⟨Nat.le_of_ble_eq_true rfl, Nat.le_of_ble_eq_true rfl⟩) (wPc_V (q := (RX8, TX8, 19)) Z (by decide) rfl rfl) rfl rfl hl.1 rfl (lv_room (Nat.le_of_ble_eq_true rfl)) dX8_spreads_51 ⟨Nat.le_of_ble_eq_true rfl, Nat.le_of_ble_eq_true rfl⟩) Z.2.2.2.2 (fun _ _ h => h) (fun _ h => h) (fun u_11 T9 H1 locs1 hT9 hvm hw hB hz hk9 hS => ?_)
            subst hw
            have Z : wZ G (σ) (goes2 (spS μ cs a sp v en i) i a sp v en) o s H1 locs1 := wZ_callP Z hB hT9 hS
            clear hB hT9 hS hk9 hz hvm T9
            revert Z; generalize H1 = H; generalize locs1 = locs; intro Z
            refine W.widen (k := 0) (n := 0) (by decide) (by decide) ?_
            refine lv_iinc (v := nI (i + 1)) (lv' := [(7, .int (nI (i + 1))), (6, .int (nI ((spN μ cs a sp v en i) + 1))), (0, .ref (gA G 39)), (1, .int (cs)), (2, .int (nI a)), (3, .int (sp)), (4, .int (v)), (5, .int (en))]) S.1 S.2.1 dX8_spreads_54 hl (k := 7) rfl (nI_inc rfl) (by decide) rfl (fun ls hl => ?_)
            refine lv_goto (tgt := 6) S.1 S.2.1 dX8_spreads_57 (by decide) ?_
            have q_12 : (nI (spN μ cs a sp v en (i + 1)) : Int32) = nI ((spN μ cs a sp v en i) + 1) := by first | (first | (simp [bi, spS, spN, bitB, hi, c_1, c_4, c_6]; done) | (simp [bi, spS, spN, bitB, hi, c_1, c_4, c_6]; omega) | (simp [bi, spS, spN, bitB, ← Int32.not_le, hi, c_1, c_4, c_6]; done) | (simp [bi, spS, spN, bitB, hi, c_1, eq_true c_4, c_6]; done)) | exact congrArg nI (by omega) | rfl
            have hl : lv_has ls 8 [(0, .ref (gA G 39)), (1, .int (cs)), (2, .int (nI a)), (3, .int (sp)), (4, .int (v)), (5, .int (en)), (6, .int (nI (spN μ cs a sp v en (i + 1)))), (7, .int (nI (i + 1)))] := by
              have hl := lv_sub hl [2, 3, 4, 5, 6, 7, 1, 0] rfl
              rw [q_12]; exact hl
            have q8 : (spS μ cs a sp v en (i + 1) : mS) = goes2 (spS μ cs a sp v en i) i a sp v en := by first | (simp [bi, spS, spN, bitB, hi, c_1, c_4, c_6]; done) | (simp [bi, spS, spN, bitB, hi, c_1, c_4, c_6]; omega) | (simp [bi, spS, spN, bitB, ← Int32.not_le, hi, c_1, c_4, c_6]; done) | (simp [bi, spS, spN, bitB, hi, c_1, eq_true c_4, c_6]; done)
            rw [← q8] at Z
            exact ih_6 (i + 1) (by omega) (by omega) _ _ Z ls (hl)
  have q_13 : (nI (spN μ cs a sp v en 0) : Int32) = nI 0 := by first | rfl | (first | (simp [bi, spS, spN, bitB]; done) | (simp [bi, spS, spN, bitB]; omega) | (simp [bi, spS, spN, bitB, ← Int32.not_le]; done)) | exact congrArg nI (by omega)
  have hl : lv_has ls 8 [(0, .ref (gA G 39)), (1, .int (cs)), (2, .int (nI a)), (3, .int (sp)), (4, .int (v)), (5, .int (en)), (6, .int (nI (spN μ cs a sp v en 0))), (7, .int (nI 0))] := by
    have hl := lv_sub hl [2, 3, 4, 5, 6, 7, 1, 0] rfl
    rw [q_13]; exact hl
  have q8 : (spS μ cs a sp v en 0 : mS) = μ := by first | (simp [bi, spS, spN, bitB]; done) | (simp [bi, spS, spN, bitB]; omega) | (simp [bi, spS, spN, bitB, ← Int32.not_le]; done)
  rw [← q8] at Z
  exact L_6 (3 - 0 + 1) 0 (by omega) (by omega) _ _ Z ls (hl)

theorem i_X8_write_X8 : ∀ w ∈ wsX80, w ∈ wsX8_write := by decide +kernel
theorem m_X8_write_f83 : Cond.fieldLink RX8 83 "WideCellModel" "time" "I" ∈ wsX8_write := by decide +kernel
abbrev rm_k_X8_write : Room := { frames := 4, cells := 0, slots := 0, locals := 101 }
set_option maxHeartbeats 4000000 in
set_option maxRecDepth 100000 in
theorem k_X8_write (l : Launch) (G : wG) (σ : cS) (μ : mS) (o : Nat → Int64) (cs : Int32) (row : Nat) (col : Nat) (v : Int32) (sp : Int32) (li : Int32) (hrow : row < 16) (hcol : col < 4) (hm : mOK μ) : Met l yX8_write wsX8_write rm_k_X8_write (wPc G σ μ o [.ref (gA G 39), .int (cs), .int (nI row), .int (nI col), .int (v), .int (sp), .int (li)]) (va_Qi (fun (rr : Int32) (u : cS × mS) => rr = nI (wrR μ cs row col v sp li) ∧ u = (σ, wrS μ cs row col v sp li)) (fun u t => wI G u.1 u.2 o t) (gP G)) 0 0 (gP G) := by
  refine Met.ofW (cc := cX8_write) (maxL := 8) (ret := (some .int)) (by decide) rfl ?_
  intro p e s m args below meth c s₁ B hml hv
  obtain ⟨hargs, hI⟩ := hv
  have S : CallFix p m c cX8_write 8 s args wsX8_write RX8 := ⟨B.exec, B.bytes, hml, findClass_of_methodNamed B.named, atoms_spec (ws := wsX8_write) B.pre⟩
  have hret := B.returns
  have hlocks := B.notSynchronized
  have Z := wZ_0 hI
  clear hI
  obtain ⟨Q, hQ⟩ : ∃ Q, Q = MQ below (va_Qi (fun (rr : Int32) (u : cS × mS) => rr = nI (wrR μ cs row col v sp li) ∧ u = (σ, wrS μ cs row col v sp li)) (fun u t => wI G u.1 u.2 o t) (gP G)) args s 0 0 (gP G) := ⟨_, rfl⟩
  rw [← hQ]
  have hl := lv_entry [.ref (gA G 39), .int (cs), .int (nI row), .int (nI col), .int (v), .int (sp), .int (li)] (n := 8) (Nat.le_of_ble_eq_true rfl)
  rw [show entryFrame m args 8 = entryFrame m ([.ref (gA G 39), .int (cs), .int (nI row), .int (nI col), .int (v), .int (sp), .int (li)] : List Value).toArray 8 from by rw [hargs], lg_entry_eq]
  generalize (lg_sl [.ref (gA G 39), .int (cs), .int (nI row), .int (nI col), .int (v), .int (sp), .int (li)] ++ List.replicate (8 - (lg_sl [.ref (gA G 39), .int (cs), .int (nI row), .int (nI col), .int (v), .int (sp), .int (li)]).length) Slot.unset).toArray = ls at hl ⊢
  have hl : lv_has ls 8 [(0, .ref (gA G 39)), (1, .int (cs)), (2, .int (nI row)), (3, .int (nI col)), (4, .int (v)), (5, .int (sp)), (6, .int (li))] := hl
  have L_53 : ∀   (H : Heap) (locs : List Loc) (Z : wZ G (σ) (μ) o s H locs) (ls : Array Slot) (hl : lv_has ls 8 [(0, .ref (gA G 39)), (1, .int (cs)), (2, .int (nI row)), (3, .int (nI col)), (4, .int (v)), (5, .int (sp)), (6, .int (li)), (7, .int (bi (codW cs v sp li)))]), W p l e (headSpec wsX8_write rm_k_X8_write).room s m args below meth c H locs 0 0 Q (F0 m 53 ls []) := by
    intro   H locs Z ls hl
    refine lv_aload_n S.1 S.2.1 dX8_write_53 rfl (lv_at hl 0 rfl) ?_
    refine lv_iload_n S.1 S.2.1 dX8_write_54 rfl (lv_at hl 2 rfl) ?_
    refine lv_iload_n S.1 S.2.1 dX8_write_55 rfl (lv_at hl 3 rfl) ?_
    refine vp_callSi (va_runS (As := [.int (nI row), .int (nI col)]) (rest := [.ref (gA G 39)]) S (k_X8_isCell l G σ μ o (nI row) (nI col) ) (va_cwS 2 S.2.2.2.2 gX8_write_X8_isCell rfl rfl rfl hy_X8_isCell ⟨Nat.le_of_ble_eq_true rfl, Nat.le_of_ble_eq_true rfl⟩) (wPc_S Z) rfl rfl hl.1 rfl (lv_room (Nat.le_of_ble_eq_true rfl)) dX8_write_56 ⟨Nat.le_of_ble_eq_true rfl, Nat.le_of_ble_eq_true rfl⟩).run (fun r_1 h_2 => ?_)
    subst h_2
    refine r_if_neB S (tgt := 66) dX8_write_59 (by decide) (fun c_3 => ?_) (fun c_3 => absurd c_3 (by rw [isCellB_ok hrow hcol]; decide))
    refine lv_iload S.1 S.2.1 dX8_write_66 (lv_at hl 7 rfl) ?_
    refine r_if_eqB S (tgt := 75) dX8_write_68 (by decide) (fun c_4 => ?_) (fun c_4 => ?_)
    · skip
      refine lv_iconst (v := nI 2) S.1 S.2.1 dX8_write_75 (by decide) ?_
      refine va_calli (va_runV (As := [.int (nI 2)]) (rest := []) S (k_X8_can l G σ μ o 2 (by omega)) (cwV 1 S.2.2.2.2 gX8_write_X8_can rfl rfl rfl ⟨rfl, hy_X8_can⟩ ⟨Nat.le_of_ble_eq_true rfl, Nat.le_of_ble_eq_true rfl⟩) (wPc_V (q := (RX8, TX8, 19)) Z (by decide) rfl rfl) rfl rfl hl.1 rfl (lv_room (Nat.le_of_ble_eq_true rfl)) dX8_write_76 ⟨Nat.le_of_ble_eq_true rfl, Nat.le_of_ble_eq_true rfl⟩) Z.2.2.2.2 (fun _ _ h => h) (fun _ h => h) (fun r_5 u_6 T9 H1 locs1 hT9 hvm hw hB hz hk9 hS => ?_)
      obtain ⟨rfl, rfl⟩ := hw
      have Z : wZ G (σ) (thr μ 2) o s H1 locs1 := wZ_callP Z hB hT9 hS
      clear hB hT9 hS hk9 hz hvm T9
      revert Z; generalize H1 = H; generalize locs1 = locs; intro Z
      refine W.widen (k := 0) (n := 0) (by decide) (by decide) ?_
      refine r_if_neB S (tgt := 84) dX8_write_79 (by decide) (fun c_7 => absurd c_7 (by decide)) (fun c_7 => ?_)
      refine lv_iconst (v := nI 0) S.1 S.2.1 dX8_write_82 (by decide) ?_
      rw [hQ]
      have q8 : (wrS μ cs row col v sp li : mS) = thr μ 2 := by first | (simp [bi, wrR, wrS, wrE, c_3, c_4]; done) | (simp [bi, wrR, wrS, wrE, c_3, c_4]; omega) | (simp [bi, wrR, wrS, wrE, ← Int32.not_le, c_3, c_4]; done) | (simp [bi, wrR, wrS, wrE, c_3, eq_true c_4]; done) | rfl
      rw [← q8] at Z
      exact W.iret (v := nI 0) S.1 S.2.1 hret (fun _ hT9 hW => ⟨⟨_, (σ, wrS μ cs row col v sp li), rfl, ⟨(by first | (simp [bi, wrR, wrS, wrE, c_3, c_4]; done) | (simp [bi, wrR, wrS, wrE, c_3, c_4]; omega) | (simp [bi, wrR, wrS, wrE, ← Int32.not_le, c_3, c_4]; done) | (simp [bi, wrR, wrS, wrE, c_3, eq_true c_4]; done)), rfl⟩, wZ_P Z hT9 hW⟩, Z.2.2.2.2.F hT9⟩) Z.2.2.2.2.2.2 dX8_write_83
    · skip
      refine lv_iconst (v := nI 0) S.1 S.2.1 dX8_write_71 (by decide) ?_
      refine lv_goto (tgt := 76) S.1 S.2.1 dX8_write_72 (by decide) ?_
      refine va_calli (va_runV (As := [.int (nI 0)]) (rest := []) S (k_X8_can l G σ μ o 0 (by omega)) (cwV 1 S.2.2.2.2 gX8_write_X8_can rfl rfl rfl ⟨rfl, hy_X8_can⟩ ⟨Nat.le_of_ble_eq_true rfl, Nat.le_of_ble_eq_true rfl⟩) (wPc_V (q := (RX8, TX8, 19)) Z (by decide) rfl rfl) rfl rfl hl.1 rfl (lv_room (Nat.le_of_ble_eq_true rfl)) dX8_write_76 ⟨Nat.le_of_ble_eq_true rfl, Nat.le_of_ble_eq_true rfl⟩) Z.2.2.2.2 (fun _ _ h => h) (fun _ h => h) (fun r_8 u_9 T9 H1 locs1 hT9 hvm hw hB hz hk9 hS => ?_)
      obtain ⟨rfl, rfl⟩ := hw
      have Z : wZ G (σ) (thr μ 0) o s H1 locs1 := wZ_callP Z hB hT9 hS
      clear hB hT9 hS hk9 hz hvm T9
      revert Z; generalize H1 = H; generalize locs1 = locs; intro Z
      refine W.widen (k := 0) (n := 0) (by decide) (by decide) ?_
      refine r_if_neB S (tgt := 84) dX8_write_79 (by decide) (fun c_10 => ?_) (fun c_10 => absurd c_10 (by decide))
      refine lv_aload_n S.1 S.2.1 dX8_write_84 rfl (lv_at hl 0 rfl) ?_
      refine lv_iload_n S.1 S.2.1 dX8_write_85 rfl (lv_at hl 1 rfl) ?_
      refine lv_iconst (v := nI 4) S.1 S.2.1 dX8_write_86 (by decide) ?_
      refine lv_iload_n S.1 S.2.1 dX8_write_87 rfl (lv_at hl 2 rfl) ?_
      refine r_mulN S dX8_write_88 ?_
      refine lv_iload_n S.1 S.2.1 dX8_write_89 rfl (lv_at hl 3 rfl) ?_
      refine r_addN S dX8_write_90 ?_
      refine lv_iload S.1 S.2.1 dX8_write_91 (lv_at hl 5 rfl) ?_
      refine lv_iload S.1 S.2.1 dX8_write_93 (lv_at hl 4 rfl) ?_
      refine lv_iload S.1 S.2.1 dX8_write_95 (lv_at hl 6 rfl) ?_
      refine lv_if_ne (tgt := 104) S.1 S.2.1 dX8_write_97 (by decide) (fun c_11 => ?_) (fun c_11 => ?_)
      · skip
        refine lv_aload_n S.1 S.2.1 dX8_write_104 rfl (lv_at hl 0 rfl) ?_
        refine r_get (C := RX8) (T := TX8) (N := 19) (ci := 8) S Z (by decide) rfl rfl i_X8_write_X8 14 (by decide) m_X8_write_f83 rfl (v := .int (mV (thr μ 0) 14)) rfl dX8_write_105 ?_
        refine lv_iload S.1 S.2.1 dX8_write_108 (lv_at hl 6 rfl) ?_
        refine lv_iadd S.1 S.2.1 dX8_write_110 ?_
        refine va_calli (va_runV (As := [.int (cs), .int (nI ((4 * row) + col)), .int (sp), .int (v), .int ((mV (thr μ 0) 14 + li))]) (rest := []) S (k_X8_spreads l G σ (thr μ 0) o cs ((4 * row) + col) sp v ((mV (thr μ 0) 14 + li)) (by omega) (by simp only [ok_w2, ok_V, ok_takE, ok_takT, ok_givE, ok_givT, ok_rdS, thr]; exact hm)) (cwV 5 S.2.2.2.2 gX8_write_X8_spreads rfl rfl rfl ⟨rfl, hy_X8_spreads⟩ ⟨Nat.le_of_ble_eq_true rfl, Nat.le_of_ble_eq_true rfl⟩) (wPc_V (q := (RX8, TX8, 19)) Z (by decide) rfl rfl) rfl rfl hl.1 rfl (lv_room (Nat.le_of_ble_eq_true rfl)) dX8_write_111 ⟨Nat.le_of_ble_eq_true rfl, Nat.le_of_ble_eq_true rfl⟩) Z.2.2.2.2 (fun _ _ h => h) (fun _ h => h) (fun r_12 u_13 T9 H1 locs1 hT9 hvm hw hB hz hk9 hS => ?_)
        obtain ⟨rfl, rfl⟩ := hw
        have Z : wZ G (σ) (spE (thr μ 0) cs ((4 * row) + col) sp v ((mV (thr μ 0) 14 + li))) o s H1 locs1 := wZ_callP Z hB hT9 hS
        clear hB hT9 hS hk9 hz hvm T9
        revert Z; generalize H1 = H; generalize locs1 = locs; intro Z
        refine W.widen (k := 0) (n := 0) (by decide) (by decide) ?_
        rw [hQ]
        have q8 : (wrS μ cs row col v sp li : mS) = spE (thr μ 0) cs ((4 * row) + col) sp v ((mV (thr μ 0) 14 + li)) := by first | (simp [bi, wrR, wrS, wrE, c_3, c_4, c_11]; done) | (simp [bi, wrR, wrS, wrE, c_3, c_4, c_11]; omega) | (simp [bi, wrR, wrS, wrE, ← Int32.not_le, c_3, c_4, c_11]; done) | rfl
        rw [← q8] at Z
        exact W.iret (v := nI (spN (thr μ 0) cs ((4 * row) + col) sp v ((mV (thr μ 0) 14 + li)) 3)) S.1 S.2.1 hret (fun _ hT9 hW => ⟨⟨_, (σ, wrS μ cs row col v sp li), rfl, ⟨(by first | (simp [bi, wrR, wrS, wrE, c_3, c_4, c_11]; done) | (simp [bi, wrR, wrS, wrE, c_3, c_4, c_11]; omega) | (simp [bi, wrR, wrS, wrE, ← Int32.not_le, c_3, c_4, c_11]; done)), rfl⟩, wZ_P Z hT9 hW⟩, Z.2.2.2.2.F hT9⟩) Z.2.2.2.2.2.2 dX8_write_114
      · skip
        refine lv_iconst (v := -1) S.1 S.2.1 dX8_write_100 (by decide) ?_
        refine lv_goto (tgt := 111) S.1 S.2.1 dX8_write_101 (by decide) ?_
        refine va_calli (va_runV (As := [.int (cs), .int (nI ((4 * row) + col)), .int (sp), .int (v), .int (-1)]) (rest := []) S (k_X8_spreads l G σ (thr μ 0) o cs ((4 * row) + col) sp v (-1) (by omega) (by simp only [ok_w2, ok_V, ok_takE, ok_takT, ok_givE, ok_givT, ok_rdS, thr]; exact hm)) (cwV 5 S.2.2.2.2 gX8_write_X8_spreads rfl rfl rfl ⟨rfl, hy_X8_spreads⟩ ⟨Nat.le_of_ble_eq_true rfl, Nat.le_of_ble_eq_true rfl⟩) (wPc_V (q := (RX8, TX8, 19)) Z (by decide) rfl rfl) rfl rfl hl.1 rfl (lv_room (Nat.le_of_ble_eq_true rfl)) dX8_write_111 ⟨Nat.le_of_ble_eq_true rfl, Nat.le_of_ble_eq_true rfl⟩) Z.2.2.2.2 (fun _ _ h => h) (fun _ h => h) (fun r_14 u_15 T9 H1 locs1 hT9 hvm hw hB hz hk9 hS => ?_)
        obtain ⟨rfl, rfl⟩ := hw
        have Z : wZ G (σ) (spE (thr μ 0) cs ((4 * row) + col) sp v (-1)) o s H1 locs1 := wZ_callP Z hB hT9 hS
        clear hB hT9 hS hk9 hz hvm T9
        revert Z; generalize H1 = H; generalize locs1 = locs; intro Z
        refine W.widen (k := 0) (n := 0) (by decide) (by decide) ?_
        rw [hQ]
        have q8 : (wrS μ cs row col v sp li : mS) = spE (thr μ 0) cs ((4 * row) + col) sp v (-1) := by first | (simp [bi, wrR, wrS, wrE, c_3, c_4, c_11]; done) | (simp [bi, wrR, wrS, wrE, c_3, c_4, c_11]; omega) | (simp [bi, wrR, wrS, wrE, ← Int32.not_le, c_3, c_4, c_11]; done) | (simp [bi, wrR, wrS, wrE, c_3, c_4, eq_true c_11]; done) | rfl
        rw [← q8] at Z
        exact W.iret (v := nI (spN (thr μ 0) cs ((4 * row) + col) sp v (-1) 3)) S.1 S.2.1 hret (fun _ hT9 hW => ⟨⟨_, (σ, wrS μ cs row col v sp li), rfl, ⟨(by first | (simp [bi, wrR, wrS, wrE, c_3, c_4, c_11]; done) | (simp [bi, wrR, wrS, wrE, c_3, c_4, c_11]; omega) | (simp [bi, wrR, wrS, wrE, ← Int32.not_le, c_3, c_4, c_11]; done) | (simp [bi, wrR, wrS, wrE, c_3, c_4, eq_true c_11]; done)), rfl⟩, wZ_P Z hT9 hW⟩, Z.2.2.2.2.F hT9⟩) Z.2.2.2.2.2.2 dX8_write_114
  refine lv_iload_n S.1 S.2.1 dX8_write_0 rfl (lv_at hl 1 rfl) ?_
  refine lv_iconst (v := nI 0) S.1 S.2.1 dX8_write_1 (by decide) ?_
  refine lv_bipush (v := nI 7) S.1 S.2.1 dX8_write_2 (by decide) ?_
  refine vp_callSi (va_runS (As := [.int (cs), .int (nI 0), .int (nI 7)]) (rest := []) S (k_X8_isIn l G σ μ o cs (nI 0) (nI 7) ) (va_cwS 3 S.2.2.2.2 gX8_write_X8_isIn rfl rfl rfl hy_X8_isIn ⟨Nat.le_of_ble_eq_true rfl, Nat.le_of_ble_eq_true rfl⟩) (wPc_S Z) rfl rfl hl.1 rfl (lv_room (Nat.le_of_ble_eq_true rfl)) dX8_write_4 ⟨Nat.le_of_ble_eq_true rfl, Nat.le_of_ble_eq_true rfl⟩).run (fun r_16 h_17 => ?_)
  subst h_17
  refine r_if_eqB S (tgt := 50) dX8_write_7 (by decide) (fun c_18 => ?_) (fun c_18 => ?_)
  · skip
    refine lv_iconst (v := nI 0) S.1 S.2.1 dX8_write_50 (by decide) ?_
    refine lv_istore (lv' := [(7, .int (nI 0)), (0, .ref (gA G 39)), (1, .int (cs)), (2, .int (nI row)), (3, .int (nI col)), (4, .int (v)), (5, .int (sp)), (6, .int (li))]) S.1 S.2.1 dX8_write_51 hl (by decide) rfl (fun ls hl => ?_)
    have q_19 : (bi (codW cs v sp li) : Int32) = nI 0 := by first | rfl | (first | (simp [bi, codW, c_18]; done) | (simp [bi, codW, c_18]; omega) | (simp [bi, codW, ← Int32.not_le, c_18]; done) | (simp [bi, codW, eq_true c_18]; done))
    have hl : lv_has ls 8 [(0, .ref (gA G 39)), (1, .int (cs)), (2, .int (nI row)), (3, .int (nI col)), (4, .int (v)), (5, .int (sp)), (6, .int (li)), (7, .int (bi (codW cs v sp li)))] := by
      have hl := lv_sub hl [1, 2, 3, 4, 5, 6, 7, 0] rfl
      rw [q_19]; exact hl
    exact L_53   _ _ Z ls (hl)
  · skip
    refine lv_iload S.1 S.2.1 dX8_write_10 (lv_at hl 4 rfl) ?_
    refine lv_iconst (v := nI 0) S.1 S.2.1 dX8_write_12 (by decide) ?_
    refine lv_sipush (v := nI 999) S.1 S.2.1 dX8_write_13 (by decide) ?_
    refine vp_callSi (va_runS (As := [.int (v), .int (nI 0), .int (nI 999)]) (rest := []) S (k_X8_isIn l G σ μ o v (nI 0) (nI 999) ) (va_cwS 3 S.2.2.2.2 gX8_write_X8_isIn rfl rfl rfl hy_X8_isIn ⟨Nat.le_of_ble_eq_true rfl, Nat.le_of_ble_eq_true rfl⟩) (wPc_S Z) rfl rfl hl.1 rfl (lv_room (Nat.le_of_ble_eq_true rfl)) dX8_write_16 ⟨Nat.le_of_ble_eq_true rfl, Nat.le_of_ble_eq_true rfl⟩).run (fun r_20 h_21 => ?_)
    subst h_21
    refine r_if_eqB S (tgt := 50) dX8_write_19 (by decide) (fun c_22 => ?_) (fun c_22 => ?_)
    · skip
      refine lv_iconst (v := nI 0) S.1 S.2.1 dX8_write_50 (by decide) ?_
      refine lv_istore (lv' := [(7, .int (nI 0)), (0, .ref (gA G 39)), (1, .int (cs)), (2, .int (nI row)), (3, .int (nI col)), (4, .int (v)), (5, .int (sp)), (6, .int (li))]) S.1 S.2.1 dX8_write_51 hl (by decide) rfl (fun ls hl => ?_)
      have q_23 : (bi (codW cs v sp li) : Int32) = nI 0 := by first | rfl | (first | (simp [bi, codW, c_18, c_22]; done) | (simp [bi, codW, c_18, c_22]; omega) | (simp [bi, codW, ← Int32.not_le, c_18, c_22]; done) | (simp [bi, codW, c_18, eq_true c_22]; done))
      have hl : lv_has ls 8 [(0, .ref (gA G 39)), (1, .int (cs)), (2, .int (nI row)), (3, .int (nI col)), (4, .int (v)), (5, .int (sp)), (6, .int (li)), (7, .int (bi (codW cs v sp li)))] := by
        have hl := lv_sub hl [1, 2, 3, 4, 5, 6, 7, 0] rfl
        rw [q_23]; exact hl
      exact L_53   _ _ Z ls (hl)
    · skip
      refine lv_iload S.1 S.2.1 dX8_write_22 (lv_at hl 5 rfl) ?_
      refine lv_iconst (v := nI 0) S.1 S.2.1 dX8_write_24 (by decide) ?_
      refine lv_sipush (v := nI 999) S.1 S.2.1 dX8_write_25 (by decide) ?_
      refine vp_callSi (va_runS (As := [.int (sp), .int (nI 0), .int (nI 999)]) (rest := []) S (k_X8_isIn l G σ μ o sp (nI 0) (nI 999) ) (va_cwS 3 S.2.2.2.2 gX8_write_X8_isIn rfl rfl rfl hy_X8_isIn ⟨Nat.le_of_ble_eq_true rfl, Nat.le_of_ble_eq_true rfl⟩) (wPc_S Z) rfl rfl hl.1 rfl (lv_room (Nat.le_of_ble_eq_true rfl)) dX8_write_28 ⟨Nat.le_of_ble_eq_true rfl, Nat.le_of_ble_eq_true rfl⟩).run (fun r_24 h_25 => ?_)
      subst h_25
      refine r_if_eqB S (tgt := 50) dX8_write_31 (by decide) (fun c_26 => ?_) (fun c_26 => ?_)
      · skip
        refine lv_iconst (v := nI 0) S.1 S.2.1 dX8_write_50 (by decide) ?_
        refine lv_istore (lv' := [(7, .int (nI 0)), (0, .ref (gA G 39)), (1, .int (cs)), (2, .int (nI row)), (3, .int (nI col)), (4, .int (v)), (5, .int (sp)), (6, .int (li))]) S.1 S.2.1 dX8_write_51 hl (by decide) rfl (fun ls hl => ?_)
        have q_27 : (bi (codW cs v sp li) : Int32) = nI 0 := by first | rfl | (first | (simp [bi, codW, c_18, c_22, c_26]; done) | (simp [bi, codW, c_18, c_22, c_26]; omega) | (simp [bi, codW, ← Int32.not_le, c_18, c_22, c_26]; done) | (simp [bi, codW, c_18, c_22, eq_true c_26]; done))
        have hl : lv_has ls 8 [(0, .ref (gA G 39)), (1, .int (cs)), (2, .int (nI row)), (3, .int (nI col)), (4, .int (v)), (5, .int (sp)), (6, .int (li)), (7, .int (bi (codW cs v sp li)))] := by
          have hl := lv_sub hl [1, 2, 3, 4, 5, 6, 7, 0] rfl
          rw [q_27]; exact hl
        exact L_53   _ _ Z ls (hl)
      · skip
        refine lv_iload S.1 S.2.1 dX8_write_34 (lv_at hl 6 rfl) ?_
        refine lv_iconst (v := nI 0) S.1 S.2.1 dX8_write_36 (by decide) ?_
        refine lv_sipush (v := nI 1000) S.1 S.2.1 dX8_write_37 (by decide) ?_
        refine vp_callSi (va_runS (As := [.int (li), .int (nI 0), .int (nI 1000)]) (rest := []) S (k_X8_isIn l G σ μ o li (nI 0) (nI 1000) ) (va_cwS 3 S.2.2.2.2 gX8_write_X8_isIn rfl rfl rfl hy_X8_isIn ⟨Nat.le_of_ble_eq_true rfl, Nat.le_of_ble_eq_true rfl⟩) (wPc_S Z) rfl rfl hl.1 rfl (lv_room (Nat.le_of_ble_eq_true rfl)) dX8_write_40 ⟨Nat.le_of_ble_eq_true rfl, Nat.le_of_ble_eq_true rfl⟩).run (fun r_28 h_29 => ?_)
        subst h_29
        refine r_if_eqB S (tgt := 50) dX8_write_43 (by decide) (fun c_30 => ?_) (fun c_30 => ?_)
        · skip
          refine lv_iconst (v := nI 0) S.1 S.2.1 dX8_write_50 (by decide) ?_
          refine lv_istore (lv' := [(7, .int (nI 0)), (0, .ref (gA G 39)), (1, .int (cs)), (2, .int (nI row)), (3, .int (nI col)), (4, .int (v)), (5, .int (sp)), (6, .int (li))]) S.1 S.2.1 dX8_write_51 hl (by decide) rfl (fun ls hl => ?_)
          have q_31 : (bi (codW cs v sp li) : Int32) = nI 0 := by first | rfl | (first | (simp [bi, codW, c_18, c_22, c_26, c_30]; done) | (simp [bi, codW, c_18, c_22, c_26, c_30]; omega) | (simp [bi, codW, ← Int32.not_le, c_18, c_22, c_26, c_30]; done) | (simp [bi, codW, c_18, c_22, c_26, eq_true c_30]; done))
          have hl : lv_has ls 8 [(0, .ref (gA G 39)), (1, .int (cs)), (2, .int (nI row)), (3, .int (nI col)), (4, .int (v)), (5, .int (sp)), (6, .int (li)), (7, .int (bi (codW cs v sp li)))] := by
            have hl := lv_sub hl [1, 2, 3, 4, 5, 6, 7, 0] rfl
            rw [q_31]; exact hl
          exact L_53   _ _ Z ls (hl)
        · skip
          refine lv_iconst (v := nI 1) S.1 S.2.1 dX8_write_46 (by decide) ?_
          refine lv_goto (tgt := 51) S.1 S.2.1 dX8_write_47 (by decide) ?_
          refine lv_istore (lv' := [(7, .int (nI 1)), (0, .ref (gA G 39)), (1, .int (cs)), (2, .int (nI row)), (3, .int (nI col)), (4, .int (v)), (5, .int (sp)), (6, .int (li))]) S.1 S.2.1 dX8_write_51 hl (by decide) rfl (fun ls hl => ?_)
          have q_32 : (bi (codW cs v sp li) : Int32) = nI 1 := by first | rfl | (first | (simp [bi, codW, c_18, c_22, c_26, c_30]; done) | (simp [bi, codW, c_18, c_22, c_26, c_30]; omega) | (simp [bi, codW, ← Int32.not_le, c_18, c_22, c_26, c_30]; done))
          have hl : lv_has ls 8 [(0, .ref (gA G 39)), (1, .int (cs)), (2, .int (nI row)), (3, .int (nI col)), (4, .int (v)), (5, .int (sp)), (6, .int (li)), (7, .int (bi (codW cs v sp li)))] := by
            have hl := lv_sub hl [1, 2, 3, 4, 5, 6, 7, 0] rfl
            rw [q_32]; exact hl
          exact L_53   _ _ Z ls (hl)

abbrev rm_k_X8_write_B : Room := { frames := 2, cells := 0, slots := 0, locals := 43 }
set_option maxHeartbeats 4000000 in
set_option maxRecDepth 100000 in
theorem k_X8_write_B (l : Launch) (G : wG) (σ : cS) (μ : mS) (o : Nat → Int64) (cs : Int32) (row : Int32) (col : Int32) (v : Int32) (sp : Int32) (li : Int32) (hb : isCellB row col = false) : Met l yX8_write wsX8_write rm_k_X8_write_B (wPc G σ μ o [.ref (gA G 39), .int (cs), .int (row), .int (col), .int (v), .int (sp), .int (li)]) (va_Qi (fun (rr : Int32) (u : cS × mS) => rr = nI (0) ∧ u = (σ, thr μ 1)) (fun u t => wI G u.1 u.2 o t) (gP G)) 0 0 (gP G) := by
  refine Met.ofW (cc := cX8_write) (maxL := 8) (ret := (some .int)) (by decide) rfl ?_
  intro p e s m args below meth c s₁ B hml hv
  obtain ⟨hargs, hI⟩ := hv
  have S : CallFix p m c cX8_write 8 s args wsX8_write RX8 := ⟨B.exec, B.bytes, hml, findClass_of_methodNamed B.named, atoms_spec (ws := wsX8_write) B.pre⟩
  have hret := B.returns
  have hlocks := B.notSynchronized
  have Z := wZ_0 hI
  clear hI
  obtain ⟨Q, hQ⟩ : ∃ Q, Q = MQ below (va_Qi (fun (rr : Int32) (u : cS × mS) => rr = nI (0) ∧ u = (σ, thr μ 1)) (fun u t => wI G u.1 u.2 o t) (gP G)) args s 0 0 (gP G) := ⟨_, rfl⟩
  rw [← hQ]
  have hl := lv_entry [.ref (gA G 39), .int (cs), .int (row), .int (col), .int (v), .int (sp), .int (li)] (n := 8) (Nat.le_of_ble_eq_true rfl)
  rw [show entryFrame m args 8 = entryFrame m ([.ref (gA G 39), .int (cs), .int (row), .int (col), .int (v), .int (sp), .int (li)] : List Value).toArray 8 from by rw [hargs], lg_entry_eq]
  generalize (lg_sl [.ref (gA G 39), .int (cs), .int (row), .int (col), .int (v), .int (sp), .int (li)] ++ List.replicate (8 - (lg_sl [.ref (gA G 39), .int (cs), .int (row), .int (col), .int (v), .int (sp), .int (li)]).length) Slot.unset).toArray = ls at hl ⊢
  have hl : lv_has ls 8 [(0, .ref (gA G 39)), (1, .int (cs)), (2, .int (row)), (3, .int (col)), (4, .int (v)), (5, .int (sp)), (6, .int (li))] := hl
  have L_53 : ∀   (H : Heap) (locs : List Loc) (Z : wZ G (σ) (μ) o s H locs) (ls : Array Slot) (hl : lv_has ls 8 [(0, .ref (gA G 39)), (1, .int (cs)), (2, .int (row)), (3, .int (col)), (4, .int (v)), (5, .int (sp)), (6, .int (li)), (7, .int (bi (codW cs v sp li)))]), W p l e (headSpec wsX8_write rm_k_X8_write_B).room s m args below meth c H locs 0 0 Q (F0 m 53 ls []) := by
    intro   H locs Z ls hl
    refine lv_aload_n S.1 S.2.1 dX8_write_53 rfl (lv_at hl 0 rfl) ?_
    refine lv_iload_n S.1 S.2.1 dX8_write_54 rfl (lv_at hl 2 rfl) ?_
    refine lv_iload_n S.1 S.2.1 dX8_write_55 rfl (lv_at hl 3 rfl) ?_
    refine vp_callSi (va_runS (As := [.int (row), .int (col)]) (rest := [.ref (gA G 39)]) S (k_X8_isCell l G σ μ o row col ) (va_cwS 2 S.2.2.2.2 gX8_write_X8_isCell rfl rfl rfl hy_X8_isCell ⟨Nat.le_of_ble_eq_true rfl, Nat.le_of_ble_eq_true rfl⟩) (wPc_S Z) rfl rfl hl.1 rfl (lv_room (Nat.le_of_ble_eq_true rfl)) dX8_write_56 ⟨Nat.le_of_ble_eq_true rfl, Nat.le_of_ble_eq_true rfl⟩).run (fun r_1 h_2 => ?_)
    subst h_2
    refine r_if_neB S (tgt := 66) dX8_write_59 (by decide) (fun c_3 => absurd c_3 (by rw [hb]; decide)) (fun c_3 => ?_)
    refine lv_iconst (v := nI 1) S.1 S.2.1 dX8_write_62 (by decide) ?_
    refine lv_goto (tgt := 76) S.1 S.2.1 dX8_write_63 (by decide) ?_
    refine va_calli (va_runV (As := [.int (nI 1)]) (rest := []) S (k_X8_can l G σ μ o 1 (by omega)) (cwV 1 S.2.2.2.2 gX8_write_X8_can rfl rfl rfl ⟨rfl, hy_X8_can⟩ ⟨Nat.le_of_ble_eq_true rfl, Nat.le_of_ble_eq_true rfl⟩) (wPc_V (q := (RX8, TX8, 19)) Z (by decide) rfl rfl) rfl rfl hl.1 rfl (lv_room (Nat.le_of_ble_eq_true rfl)) dX8_write_76 ⟨Nat.le_of_ble_eq_true rfl, Nat.le_of_ble_eq_true rfl⟩) Z.2.2.2.2 (fun _ _ h => h) (fun _ h => h) (fun r_4 u_5 T9 H1 locs1 hT9 hvm hw hB hz hk9 hS => ?_)
    obtain ⟨rfl, rfl⟩ := hw
    have Z : wZ G (σ) (thr μ 1) o s H1 locs1 := wZ_callP Z hB hT9 hS
    clear hB hT9 hS hk9 hz hvm T9
    revert Z; generalize H1 = H; generalize locs1 = locs; intro Z
    refine W.widen (k := 0) (n := 0) (by decide) (by decide) ?_
    refine r_if_neB S (tgt := 84) dX8_write_79 (by decide) (fun c_6 => absurd c_6 (by decide)) (fun c_6 => ?_)
    refine lv_iconst (v := nI 0) S.1 S.2.1 dX8_write_82 (by decide) ?_
    rw [hQ]
    exact W.iret (v := nI 0) S.1 S.2.1 hret (fun _ hT9 hW => ⟨⟨_, (σ, thr μ 1), rfl, ⟨rfl, rfl⟩, wZ_P Z hT9 hW⟩, Z.2.2.2.2.F hT9⟩) Z.2.2.2.2.2.2 dX8_write_83
  refine lv_iload_n S.1 S.2.1 dX8_write_0 rfl (lv_at hl 1 rfl) ?_
  refine lv_iconst (v := nI 0) S.1 S.2.1 dX8_write_1 (by decide) ?_
  refine lv_bipush (v := nI 7) S.1 S.2.1 dX8_write_2 (by decide) ?_
  refine vp_callSi (va_runS (As := [.int (cs), .int (nI 0), .int (nI 7)]) (rest := []) S (k_X8_isIn l G σ μ o cs (nI 0) (nI 7) ) (va_cwS 3 S.2.2.2.2 gX8_write_X8_isIn rfl rfl rfl hy_X8_isIn ⟨Nat.le_of_ble_eq_true rfl, Nat.le_of_ble_eq_true rfl⟩) (wPc_S Z) rfl rfl hl.1 rfl (lv_room (Nat.le_of_ble_eq_true rfl)) dX8_write_4 ⟨Nat.le_of_ble_eq_true rfl, Nat.le_of_ble_eq_true rfl⟩).run (fun r_7 h_8 => ?_)
  subst h_8
  refine r_if_eqB S (tgt := 50) dX8_write_7 (by decide) (fun c_9 => ?_) (fun c_9 => ?_)
  · skip
    refine lv_iconst (v := nI 0) S.1 S.2.1 dX8_write_50 (by decide) ?_
    refine lv_istore (lv' := [(7, .int (nI 0)), (0, .ref (gA G 39)), (1, .int (cs)), (2, .int (row)), (3, .int (col)), (4, .int (v)), (5, .int (sp)), (6, .int (li))]) S.1 S.2.1 dX8_write_51 hl (by decide) rfl (fun ls hl => ?_)
    have q_10 : (bi (codW cs v sp li) : Int32) = nI 0 := by first | rfl | (first | (simp [bi, codW, c_9]; done) | (simp [bi, codW, c_9]; omega) | (simp [bi, codW, ← Int32.not_le, c_9]; done) | (simp [bi, codW, eq_true c_9]; done))
    have hl : lv_has ls 8 [(0, .ref (gA G 39)), (1, .int (cs)), (2, .int (row)), (3, .int (col)), (4, .int (v)), (5, .int (sp)), (6, .int (li)), (7, .int (bi (codW cs v sp li)))] := by
      have hl := lv_sub hl [1, 2, 3, 4, 5, 6, 7, 0] rfl
      rw [q_10]; exact hl
    exact L_53   _ _ Z ls (hl)
  · skip
    refine lv_iload S.1 S.2.1 dX8_write_10 (lv_at hl 4 rfl) ?_
    refine lv_iconst (v := nI 0) S.1 S.2.1 dX8_write_12 (by decide) ?_
    refine lv_sipush (v := nI 999) S.1 S.2.1 dX8_write_13 (by decide) ?_
    refine vp_callSi (va_runS (As := [.int (v), .int (nI 0), .int (nI 999)]) (rest := []) S (k_X8_isIn l G σ μ o v (nI 0) (nI 999) ) (va_cwS 3 S.2.2.2.2 gX8_write_X8_isIn rfl rfl rfl hy_X8_isIn ⟨Nat.le_of_ble_eq_true rfl, Nat.le_of_ble_eq_true rfl⟩) (wPc_S Z) rfl rfl hl.1 rfl (lv_room (Nat.le_of_ble_eq_true rfl)) dX8_write_16 ⟨Nat.le_of_ble_eq_true rfl, Nat.le_of_ble_eq_true rfl⟩).run (fun r_11 h_12 => ?_)
    subst h_12
    refine r_if_eqB S (tgt := 50) dX8_write_19 (by decide) (fun c_13 => ?_) (fun c_13 => ?_)
    · skip
      refine lv_iconst (v := nI 0) S.1 S.2.1 dX8_write_50 (by decide) ?_
      refine lv_istore (lv' := [(7, .int (nI 0)), (0, .ref (gA G 39)), (1, .int (cs)), (2, .int (row)), (3, .int (col)), (4, .int (v)), (5, .int (sp)), (6, .int (li))]) S.1 S.2.1 dX8_write_51 hl (by decide) rfl (fun ls hl => ?_)
      have q_14 : (bi (codW cs v sp li) : Int32) = nI 0 := by first | rfl | (first | (simp [bi, codW, c_9, c_13]; done) | (simp [bi, codW, c_9, c_13]; omega) | (simp [bi, codW, ← Int32.not_le, c_9, c_13]; done) | (simp [bi, codW, c_9, eq_true c_13]; done))
      have hl : lv_has ls 8 [(0, .ref (gA G 39)), (1, .int (cs)), (2, .int (row)), (3, .int (col)), (4, .int (v)), (5, .int (sp)), (6, .int (li)), (7, .int (bi (codW cs v sp li)))] := by
        have hl := lv_sub hl [1, 2, 3, 4, 5, 6, 7, 0] rfl
        rw [q_14]; exact hl
      exact L_53   _ _ Z ls (hl)
    · skip
      refine lv_iload S.1 S.2.1 dX8_write_22 (lv_at hl 5 rfl) ?_
      refine lv_iconst (v := nI 0) S.1 S.2.1 dX8_write_24 (by decide) ?_
      refine lv_sipush (v := nI 999) S.1 S.2.1 dX8_write_25 (by decide) ?_
      refine vp_callSi (va_runS (As := [.int (sp), .int (nI 0), .int (nI 999)]) (rest := []) S (k_X8_isIn l G σ μ o sp (nI 0) (nI 999) ) (va_cwS 3 S.2.2.2.2 gX8_write_X8_isIn rfl rfl rfl hy_X8_isIn ⟨Nat.le_of_ble_eq_true rfl, Nat.le_of_ble_eq_true rfl⟩) (wPc_S Z) rfl rfl hl.1 rfl (lv_room (Nat.le_of_ble_eq_true rfl)) dX8_write_28 ⟨Nat.le_of_ble_eq_true rfl, Nat.le_of_ble_eq_true rfl⟩).run (fun r_15 h_16 => ?_)
      subst h_16
      refine r_if_eqB S (tgt := 50) dX8_write_31 (by decide) (fun c_17 => ?_) (fun c_17 => ?_)
      · skip
        refine lv_iconst (v := nI 0) S.1 S.2.1 dX8_write_50 (by decide) ?_
        refine lv_istore (lv' := [(7, .int (nI 0)), (0, .ref (gA G 39)), (1, .int (cs)), (2, .int (row)), (3, .int (col)), (4, .int (v)), (5, .int (sp)), (6, .int (li))]) S.1 S.2.1 dX8_write_51 hl (by decide) rfl (fun ls hl => ?_)
        have q_18 : (bi (codW cs v sp li) : Int32) = nI 0 := by first | rfl | (first | (simp [bi, codW, c_9, c_13, c_17]; done) | (simp [bi, codW, c_9, c_13, c_17]; omega) | (simp [bi, codW, ← Int32.not_le, c_9, c_13, c_17]; done) | (simp [bi, codW, c_9, c_13, eq_true c_17]; done))
        have hl : lv_has ls 8 [(0, .ref (gA G 39)), (1, .int (cs)), (2, .int (row)), (3, .int (col)), (4, .int (v)), (5, .int (sp)), (6, .int (li)), (7, .int (bi (codW cs v sp li)))] := by
          have hl := lv_sub hl [1, 2, 3, 4, 5, 6, 7, 0] rfl
          rw [q_18]; exact hl
        exact L_53   _ _ Z ls (hl)
      · skip
        refine lv_iload S.1 S.2.1 dX8_write_34 (lv_at hl 6 rfl) ?_
        refine lv_iconst (v := nI 0) S.1 S.2.1 dX8_write_36 (by decide) ?_
        refine lv_sipush (v := nI 1000) S.1 S.2.1 dX8_write_37 (by decide) ?_
        refine vp_callSi (va_runS (As := [.int (li), .int (nI 0), .int (nI 1000)]) (rest := []) S (k_X8_isIn l G σ μ o li (nI 0) (nI 1000) ) (va_cwS 3 S.2.2.2.2 gX8_write_X8_isIn rfl rfl rfl hy_X8_isIn ⟨Nat.le_of_ble_eq_true rfl, Nat.le_of_ble_eq_true rfl⟩) (wPc_S Z) rfl rfl hl.1 rfl (lv_room (Nat.le_of_ble_eq_true rfl)) dX8_write_40 ⟨Nat.le_of_ble_eq_true rfl, Nat.le_of_ble_eq_true rfl⟩).run (fun r_19 h_20 => ?_)
        subst h_20
        refine r_if_eqB S (tgt := 50) dX8_write_43 (by decide) (fun c_21 => ?_) (fun c_21 => ?_)
        · skip
          refine lv_iconst (v := nI 0) S.1 S.2.1 dX8_write_50 (by decide) ?_
          refine lv_istore (lv' := [(7, .int (nI 0)), (0, .ref (gA G 39)), (1, .int (cs)), (2, .int (row)), (3, .int (col)), (4, .int (v)), (5, .int (sp)), (6, .int (li))]) S.1 S.2.1 dX8_write_51 hl (by decide) rfl (fun ls hl => ?_)
          have q_22 : (bi (codW cs v sp li) : Int32) = nI 0 := by first | rfl | (first | (simp [bi, codW, c_9, c_13, c_17, c_21]; done) | (simp [bi, codW, c_9, c_13, c_17, c_21]; omega) | (simp [bi, codW, ← Int32.not_le, c_9, c_13, c_17, c_21]; done) | (simp [bi, codW, c_9, c_13, c_17, eq_true c_21]; done))
          have hl : lv_has ls 8 [(0, .ref (gA G 39)), (1, .int (cs)), (2, .int (row)), (3, .int (col)), (4, .int (v)), (5, .int (sp)), (6, .int (li)), (7, .int (bi (codW cs v sp li)))] := by
            have hl := lv_sub hl [1, 2, 3, 4, 5, 6, 7, 0] rfl
            rw [q_22]; exact hl
          exact L_53   _ _ Z ls (hl)
        · skip
          refine lv_iconst (v := nI 1) S.1 S.2.1 dX8_write_46 (by decide) ?_
          refine lv_goto (tgt := 51) S.1 S.2.1 dX8_write_47 (by decide) ?_
          refine lv_istore (lv' := [(7, .int (nI 1)), (0, .ref (gA G 39)), (1, .int (cs)), (2, .int (row)), (3, .int (col)), (4, .int (v)), (5, .int (sp)), (6, .int (li))]) S.1 S.2.1 dX8_write_51 hl (by decide) rfl (fun ls hl => ?_)
          have q_23 : (bi (codW cs v sp li) : Int32) = nI 1 := by first | rfl | (first | (simp [bi, codW, c_9, c_13, c_17, c_21]; done) | (simp [bi, codW, c_9, c_13, c_17, c_21]; omega) | (simp [bi, codW, ← Int32.not_le, c_9, c_13, c_17, c_21]; done))
          have hl : lv_has ls 8 [(0, .ref (gA G 39)), (1, .int (cs)), (2, .int (row)), (3, .int (col)), (4, .int (v)), (5, .int (sp)), (6, .int (li)), (7, .int (bi (codW cs v sp li)))] := by
            have hl := lv_sub hl [1, 2, 3, 4, 5, 6, 7, 0] rfl
            rw [q_23]; exact hl
          exact L_53   _ _ Z ls (hl)

theorem i_X8_buries_X8 : ∀ w ∈ wsX80, w ∈ wsX8_buries := by decide +kernel
theorem m_X8_buries_f83 : Cond.fieldLink RX8 83 "WideCellModel" "time" "I" ∈ wsX8_buries := by decide +kernel
abbrev rm_k_X8_buries : Room := { frames := 4, cells := 0, slots := 0, locals := 101 }
set_option maxHeartbeats 4000000 in
set_option maxRecDepth 100000 in
theorem k_X8_buries (l : Launch) (G : wG) (σ : cS) (μ : mS) (o : Nat → Int64) (cs : Int32) (q : Nat) (sp : Int32) (hr : q < 92) (hm : mOK μ) : Met l yX8_buries wsX8_buries rm_k_X8_buries (wPc G σ μ o [.ref (gA G 39), .int (cs), .int (bi true), .int (nI q), .int (sp)]) (va_Qi (fun (rr : Int32) (u : cS × mS) => rr = nI (buR μ cs q sp) ∧ u = (σ, buS μ cs q sp)) (fun u t => wI G u.1 u.2 o t) (gP G)) 0 0 (gP G) := by
  refine Met.ofW (cc := cX8_buries) (maxL := 5) (ret := (some .int)) (by decide) rfl ?_
  intro p e s m args below meth c s₁ B hml hv
  obtain ⟨hargs, hI⟩ := hv
  have S : CallFix p m c cX8_buries 5 s args wsX8_buries RX8 := ⟨B.exec, B.bytes, hml, findClass_of_methodNamed B.named, atoms_spec (ws := wsX8_buries) B.pre⟩
  have hret := B.returns
  have hlocks := B.notSynchronized
  have Z := wZ_0 hI
  clear hI
  obtain ⟨Q, hQ⟩ : ∃ Q, Q = MQ below (va_Qi (fun (rr : Int32) (u : cS × mS) => rr = nI (buR μ cs q sp) ∧ u = (σ, buS μ cs q sp)) (fun u t => wI G u.1 u.2 o t) (gP G)) args s 0 0 (gP G) := ⟨_, rfl⟩
  rw [← hQ]
  have hl := lv_entry [.ref (gA G 39), .int (cs), .int (bi true), .int (nI q), .int (sp)] (n := 5) (Nat.le_of_ble_eq_true rfl)
  rw [show entryFrame m args 5 = entryFrame m ([.ref (gA G 39), .int (cs), .int (bi true), .int (nI q), .int (sp)] : List Value).toArray 5 from by rw [hargs], lg_entry_eq]
  generalize (lg_sl [.ref (gA G 39), .int (cs), .int (bi true), .int (nI q), .int (sp)] ++ List.replicate (5 - (lg_sl [.ref (gA G 39), .int (cs), .int (bi true), .int (nI q), .int (sp)]).length) Slot.unset).toArray = ls at hl ⊢
  have hl : lv_has ls 5 [(0, .ref (gA G 39)), (1, .int (cs)), (2, .int (bi true)), (3, .int (nI q)), (4, .int (sp))] := hl
  have hcod : codD cs sp = (isInB cs (nI 0) (nI 7) && isInB sp (nI 0) (nI 999)) := rfl
  refine lv_aload_n S.1 S.2.1 dX8_buries_0 rfl (lv_at hl 0 rfl) ?_
  refine lv_iload_n S.1 S.2.1 dX8_buries_1 rfl (lv_at hl 2 rfl) ?_
  refine r_if_neB S (tgt := 9) dX8_buries_2 (by decide) (fun c_1 => ?_) (fun c_1 => absurd c_1 (by decide))
  refine lv_iload_n S.1 S.2.1 dX8_buries_9 rfl (lv_at hl 1 rfl) ?_
  refine lv_iconst (v := nI 0) S.1 S.2.1 dX8_buries_10 (by decide) ?_
  refine lv_bipush (v := nI 7) S.1 S.2.1 dX8_buries_11 (by decide) ?_
  refine vp_callSi (va_runS (As := [.int (cs), .int (nI 0), .int (nI 7)]) (rest := [.ref (gA G 39)]) S (k_X8_isIn l G σ μ o cs (nI 0) (nI 7) ) (va_cwS 3 S.2.2.2.2 gX8_buries_X8_isIn rfl rfl rfl hy_X8_isIn ⟨Nat.le_of_ble_eq_true rfl, Nat.le_of_ble_eq_true rfl⟩) (wPc_S Z) rfl rfl hl.1 rfl (lv_room (Nat.le_of_ble_eq_true rfl)) dX8_buries_13 ⟨Nat.le_of_ble_eq_true rfl, Nat.le_of_ble_eq_true rfl⟩).run (fun r_2 h_3 => ?_)
  subst h_3
  refine r_if_eqB S (tgt := 35) dX8_buries_16 (by decide) (fun c_4 => ?_) (fun c_4 => ?_)
  · skip
    refine lv_iconst (v := nI 2) S.1 S.2.1 dX8_buries_35 (by decide) ?_
    refine va_calli (va_runV (As := [.int (nI 2)]) (rest := []) S (k_X8_can l G σ μ o 2 (by omega)) (cwV 1 S.2.2.2.2 gX8_buries_X8_can rfl rfl rfl ⟨rfl, hy_X8_can⟩ ⟨Nat.le_of_ble_eq_true rfl, Nat.le_of_ble_eq_true rfl⟩) (wPc_V (q := (RX8, TX8, 19)) Z (by decide) rfl rfl) rfl rfl hl.1 rfl (lv_room (Nat.le_of_ble_eq_true rfl)) dX8_buries_36 ⟨Nat.le_of_ble_eq_true rfl, Nat.le_of_ble_eq_true rfl⟩) Z.2.2.2.2 (fun _ _ h => h) (fun _ h => h) (fun r_5 u_6 T9 H1 locs1 hT9 hvm hw hB hz hk9 hS => ?_)
    obtain ⟨rfl, rfl⟩ := hw
    have Z : wZ G (σ) (thr μ 2) o s H1 locs1 := wZ_callP Z hB hT9 hS
    clear hB hT9 hS hk9 hz hvm T9
    revert Z; generalize H1 = H; generalize locs1 = locs; intro Z
    refine W.widen (k := 0) (n := 0) (by decide) (by decide) ?_
    refine r_if_neB S (tgt := 44) dX8_buries_39 (by decide) (fun c_7 => absurd c_7 (by decide)) (fun c_7 => ?_)
    refine lv_iconst (v := nI 0) S.1 S.2.1 dX8_buries_42 (by decide) ?_
    rw [hQ]
    have q8 : (buS μ cs q sp : mS) = thr μ 2 := by first | (simp [bi, buR, buS, hcod, c_4]; done) | (simp [bi, buR, buS, hcod, c_4]; omega) | (simp [bi, buR, buS, hcod, ← Int32.not_le, c_4]; done) | (simp [bi, buR, buS, hcod, eq_true c_4]; done) | rfl
    rw [← q8] at Z
    exact W.iret (v := nI 0) S.1 S.2.1 hret (fun _ hT9 hW => ⟨⟨_, (σ, buS μ cs q sp), rfl, ⟨(by first | (simp [bi, buR, buS, hcod, c_4]; done) | (simp [bi, buR, buS, hcod, c_4]; omega) | (simp [bi, buR, buS, hcod, ← Int32.not_le, c_4]; done) | (simp [bi, buR, buS, hcod, eq_true c_4]; done)), rfl⟩, wZ_P Z hT9 hW⟩, Z.2.2.2.2.F hT9⟩) Z.2.2.2.2.2.2 dX8_buries_43
  · skip
    refine lv_iload S.1 S.2.1 dX8_buries_19 (lv_at hl 4 rfl) ?_
    refine lv_iconst (v := nI 0) S.1 S.2.1 dX8_buries_21 (by decide) ?_
    refine lv_sipush (v := nI 999) S.1 S.2.1 dX8_buries_22 (by decide) ?_
    refine vp_callSi (va_runS (As := [.int (sp), .int (nI 0), .int (nI 999)]) (rest := [.ref (gA G 39)]) S (k_X8_isIn l G σ μ o sp (nI 0) (nI 999) ) (va_cwS 3 S.2.2.2.2 gX8_buries_X8_isIn rfl rfl rfl hy_X8_isIn ⟨Nat.le_of_ble_eq_true rfl, Nat.le_of_ble_eq_true rfl⟩) (wPc_S Z) rfl rfl hl.1 rfl (lv_room (Nat.le_of_ble_eq_true rfl)) dX8_buries_25 ⟨Nat.le_of_ble_eq_true rfl, Nat.le_of_ble_eq_true rfl⟩).run (fun r_8 h_9 => ?_)
    subst h_9
    refine r_if_eqB S (tgt := 35) dX8_buries_28 (by decide) (fun c_10 => ?_) (fun c_10 => ?_)
    · skip
      refine lv_iconst (v := nI 2) S.1 S.2.1 dX8_buries_35 (by decide) ?_
      refine va_calli (va_runV (As := [.int (nI 2)]) (rest := []) S (k_X8_can l G σ μ o 2 (by omega)) (cwV 1 S.2.2.2.2 gX8_buries_X8_can rfl rfl rfl ⟨rfl, hy_X8_can⟩ ⟨Nat.le_of_ble_eq_true rfl, Nat.le_of_ble_eq_true rfl⟩) (wPc_V (q := (RX8, TX8, 19)) Z (by decide) rfl rfl) rfl rfl hl.1 rfl (lv_room (Nat.le_of_ble_eq_true rfl)) dX8_buries_36 ⟨Nat.le_of_ble_eq_true rfl, Nat.le_of_ble_eq_true rfl⟩) Z.2.2.2.2 (fun _ _ h => h) (fun _ h => h) (fun r_11 u_12 T9 H1 locs1 hT9 hvm hw hB hz hk9 hS => ?_)
      obtain ⟨rfl, rfl⟩ := hw
      have Z : wZ G (σ) (thr μ 2) o s H1 locs1 := wZ_callP Z hB hT9 hS
      clear hB hT9 hS hk9 hz hvm T9
      revert Z; generalize H1 = H; generalize locs1 = locs; intro Z
      refine W.widen (k := 0) (n := 0) (by decide) (by decide) ?_
      refine r_if_neB S (tgt := 44) dX8_buries_39 (by decide) (fun c_13 => absurd c_13 (by decide)) (fun c_13 => ?_)
      refine lv_iconst (v := nI 0) S.1 S.2.1 dX8_buries_42 (by decide) ?_
      rw [hQ]
      have q8 : (buS μ cs q sp : mS) = thr μ 2 := by first | (simp [bi, buR, buS, hcod, c_4, c_10]; done) | (simp [bi, buR, buS, hcod, c_4, c_10]; omega) | (simp [bi, buR, buS, hcod, ← Int32.not_le, c_4, c_10]; done) | (simp [bi, buR, buS, hcod, c_4, eq_true c_10]; done) | rfl
      rw [← q8] at Z
      exact W.iret (v := nI 0) S.1 S.2.1 hret (fun _ hT9 hW => ⟨⟨_, (σ, buS μ cs q sp), rfl, ⟨(by first | (simp [bi, buR, buS, hcod, c_4, c_10]; done) | (simp [bi, buR, buS, hcod, c_4, c_10]; omega) | (simp [bi, buR, buS, hcod, ← Int32.not_le, c_4, c_10]; done) | (simp [bi, buR, buS, hcod, c_4, eq_true c_10]; done)), rfl⟩, wZ_P Z hT9 hW⟩, Z.2.2.2.2.F hT9⟩) Z.2.2.2.2.2.2 dX8_buries_43
    · skip
      refine lv_iconst (v := nI 0) S.1 S.2.1 dX8_buries_31 (by decide) ?_
      refine lv_goto (tgt := 36) S.1 S.2.1 dX8_buries_32 (by decide) ?_
      refine va_calli (va_runV (As := [.int (nI 0)]) (rest := []) S (k_X8_can l G σ μ o 0 (by omega)) (cwV 1 S.2.2.2.2 gX8_buries_X8_can rfl rfl rfl ⟨rfl, hy_X8_can⟩ ⟨Nat.le_of_ble_eq_true rfl, Nat.le_of_ble_eq_true rfl⟩) (wPc_V (q := (RX8, TX8, 19)) Z (by decide) rfl rfl) rfl rfl hl.1 rfl (lv_room (Nat.le_of_ble_eq_true rfl)) dX8_buries_36 ⟨Nat.le_of_ble_eq_true rfl, Nat.le_of_ble_eq_true rfl⟩) Z.2.2.2.2 (fun _ _ h => h) (fun _ h => h) (fun r_14 u_15 T9 H1 locs1 hT9 hvm hw hB hz hk9 hS => ?_)
      obtain ⟨rfl, rfl⟩ := hw
      have Z : wZ G (σ) (thr μ 0) o s H1 locs1 := wZ_callP Z hB hT9 hS
      clear hB hT9 hS hk9 hz hvm T9
      revert Z; generalize H1 = H; generalize locs1 = locs; intro Z
      refine W.widen (k := 0) (n := 0) (by decide) (by decide) ?_
      refine r_if_neB S (tgt := 44) dX8_buries_39 (by decide) (fun c_16 => ?_) (fun c_16 => absurd c_16 (by decide))
      refine lv_aload_n S.1 S.2.1 dX8_buries_44 rfl (lv_at hl 0 rfl) ?_
      refine lv_iload_n S.1 S.2.1 dX8_buries_45 rfl (lv_at hl 1 rfl) ?_
      refine lv_bipush (v := nI 64) S.1 S.2.1 dX8_buries_46 (by decide) ?_
      refine lv_iload_n S.1 S.2.1 dX8_buries_48 rfl (lv_at hl 3 rfl) ?_
      refine r_addN S dX8_buries_49 ?_
      refine lv_iload S.1 S.2.1 dX8_buries_50 (lv_at hl 4 rfl) ?_
      refine lv_aload_n S.1 S.2.1 dX8_buries_52 rfl (lv_at hl 0 rfl) ?_
      refine r_get (C := RX8) (T := TX8) (N := 19) (ci := 8) S Z (by decide) rfl rfl i_X8_buries_X8 14 (by decide) m_X8_buries_f83 rfl (v := .int (mV (thr μ 0) 14)) rfl dX8_buries_53 ?_
      refine lv_iconst (v := nI 0) S.1 S.2.1 dX8_buries_56 (by decide) ?_
      refine va_calli (va_runV (As := [.int (cs), .int (nI (64 + q)), .int (sp), .int (mV (thr μ 0) 14), .int (nI 0)]) (rest := []) S (k_X8_spreads l G σ (thr μ 0) o cs (64 + q) sp (mV (thr μ 0) 14) (nI 0) (by omega) (by simp only [ok_w2, ok_V, ok_takE, ok_takT, ok_givE, ok_givT, ok_rdS, thr]; exact hm)) (cwV 5 S.2.2.2.2 gX8_buries_X8_spreads rfl rfl rfl ⟨rfl, hy_X8_spreads⟩ ⟨Nat.le_of_ble_eq_true rfl, Nat.le_of_ble_eq_true rfl⟩) (wPc_V (q := (RX8, TX8, 19)) Z (by decide) rfl rfl) rfl rfl hl.1 rfl (lv_room (Nat.le_of_ble_eq_true rfl)) dX8_buries_57 ⟨Nat.le_of_ble_eq_true rfl, Nat.le_of_ble_eq_true rfl⟩) Z.2.2.2.2 (fun _ _ h => h) (fun _ h => h) (fun r_17 u_18 T9 H1 locs1 hT9 hvm hw hB hz hk9 hS => ?_)
      obtain ⟨rfl, rfl⟩ := hw
      have Z : wZ G (σ) (spE (thr μ 0) cs (64 + q) sp (mV (thr μ 0) 14) (nI 0)) o s H1 locs1 := wZ_callP Z hB hT9 hS
      clear hB hT9 hS hk9 hz hvm T9
      revert Z; generalize H1 = H; generalize locs1 = locs; intro Z
      refine W.widen (k := 0) (n := 0) (by decide) (by decide) ?_
      rw [hQ]
      have q8 : (buS μ cs q sp : mS) = spE (thr μ 0) cs (64 + q) sp (mV (thr μ 0) 14) (nI 0) := by first | (simp [bi, buR, buS, hcod, c_4, c_10]; done) | (simp [bi, buR, buS, hcod, c_4, c_10]; omega) | (simp [bi, buR, buS, hcod, ← Int32.not_le, c_4, c_10]; done) | rfl
      rw [← q8] at Z
      exact W.iret (v := nI (spN (thr μ 0) cs (64 + q) sp (mV (thr μ 0) 14) (nI 0) 3)) S.1 S.2.1 hret (fun _ hT9 hW => ⟨⟨_, (σ, buS μ cs q sp), rfl, ⟨(by first | (simp [bi, buR, buS, hcod, c_4, c_10]; done) | (simp [bi, buR, buS, hcod, c_4, c_10]; omega) | (simp [bi, buR, buS, hcod, ← Int32.not_le, c_4, c_10]; done)), rfl⟩, wZ_P Z hT9 hW⟩, Z.2.2.2.2.F hT9⟩) Z.2.2.2.2.2.2 dX8_buries_60

abbrev rm_k_X8_buries_B : Room := { frames := 1, cells := 0, slots := 0, locals := 21 }
set_option maxHeartbeats 4000000 in
set_option maxRecDepth 100000 in
theorem k_X8_buries_B (l : Launch) (G : wG) (σ : cS) (μ : mS) (o : Nat → Int64) (cs : Int32) (rc : Int32) (sp : Int32)  : Met l yX8_buries wsX8_buries rm_k_X8_buries_B (wPc G σ μ o [.ref (gA G 39), .int (cs), .int (bi false), .int (rc), .int (sp)]) (va_Qi (fun (rr : Int32) (u : cS × mS) => rr = nI (0) ∧ u = (σ, thr μ 1)) (fun u t => wI G u.1 u.2 o t) (gP G)) 0 0 (gP G) := by
  refine Met.ofW (cc := cX8_buries) (maxL := 5) (ret := (some .int)) (by decide) rfl ?_
  intro p e s m args below meth c s₁ B hml hv
  obtain ⟨hargs, hI⟩ := hv
  have S : CallFix p m c cX8_buries 5 s args wsX8_buries RX8 := ⟨B.exec, B.bytes, hml, findClass_of_methodNamed B.named, atoms_spec (ws := wsX8_buries) B.pre⟩
  have hret := B.returns
  have hlocks := B.notSynchronized
  have Z := wZ_0 hI
  clear hI
  obtain ⟨Q, hQ⟩ : ∃ Q, Q = MQ below (va_Qi (fun (rr : Int32) (u : cS × mS) => rr = nI (0) ∧ u = (σ, thr μ 1)) (fun u t => wI G u.1 u.2 o t) (gP G)) args s 0 0 (gP G) := ⟨_, rfl⟩
  rw [← hQ]
  have hl := lv_entry [.ref (gA G 39), .int (cs), .int (bi false), .int (rc), .int (sp)] (n := 5) (Nat.le_of_ble_eq_true rfl)
  rw [show entryFrame m args 5 = entryFrame m ([.ref (gA G 39), .int (cs), .int (bi false), .int (rc), .int (sp)] : List Value).toArray 5 from by rw [hargs], lg_entry_eq]
  generalize (lg_sl [.ref (gA G 39), .int (cs), .int (bi false), .int (rc), .int (sp)] ++ List.replicate (5 - (lg_sl [.ref (gA G 39), .int (cs), .int (bi false), .int (rc), .int (sp)]).length) Slot.unset).toArray = ls at hl ⊢
  have hl : lv_has ls 5 [(0, .ref (gA G 39)), (1, .int (cs)), (2, .int (bi false)), (3, .int (rc)), (4, .int (sp))] := hl
  refine lv_aload_n S.1 S.2.1 dX8_buries_0 rfl (lv_at hl 0 rfl) ?_
  refine lv_iload_n S.1 S.2.1 dX8_buries_1 rfl (lv_at hl 2 rfl) ?_
  refine r_if_neB S (tgt := 9) dX8_buries_2 (by decide) (fun c_1 => absurd c_1 (by decide)) (fun c_1 => ?_)
  refine lv_iconst (v := nI 1) S.1 S.2.1 dX8_buries_5 (by decide) ?_
  refine lv_goto (tgt := 36) S.1 S.2.1 dX8_buries_6 (by decide) ?_
  refine va_calli (va_runV (As := [.int (nI 1)]) (rest := []) S (k_X8_can l G σ μ o 1 (by omega)) (cwV 1 S.2.2.2.2 gX8_buries_X8_can rfl rfl rfl ⟨rfl, hy_X8_can⟩ ⟨Nat.le_of_ble_eq_true rfl, Nat.le_of_ble_eq_true rfl⟩) (wPc_V (q := (RX8, TX8, 19)) Z (by decide) rfl rfl) rfl rfl hl.1 rfl (lv_room (Nat.le_of_ble_eq_true rfl)) dX8_buries_36 ⟨Nat.le_of_ble_eq_true rfl, Nat.le_of_ble_eq_true rfl⟩) Z.2.2.2.2 (fun _ _ h => h) (fun _ h => h) (fun r_2 u_3 T9 H1 locs1 hT9 hvm hw hB hz hk9 hS => ?_)
  obtain ⟨rfl, rfl⟩ := hw
  have Z : wZ G (σ) (thr μ 1) o s H1 locs1 := wZ_callP Z hB hT9 hS
  clear hB hT9 hS hk9 hz hvm T9
  revert Z; generalize H1 = H; generalize locs1 = locs; intro Z
  refine W.widen (k := 0) (n := 0) (by decide) (by decide) ?_
  refine r_if_neB S (tgt := 44) dX8_buries_39 (by decide) (fun c_4 => absurd c_4 (by decide)) (fun c_4 => ?_)
  refine lv_iconst (v := nI 0) S.1 S.2.1 dX8_buries_42 (by decide) ?_
  rw [hQ]
  exact W.iret (v := nI 0) S.1 S.2.1 hret (fun _ hT9 hW => ⟨⟨_, (σ, thr μ 1), rfl, ⟨rfl, rfl⟩, wZ_P Z hT9 hW⟩, Z.2.2.2.2.F hT9⟩) Z.2.2.2.2.2.2 dX8_buries_43
