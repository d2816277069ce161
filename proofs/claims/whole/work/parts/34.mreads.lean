theorem i_X8_covers_X8 : ∀ w ∈ wsX80, w ∈ wsX8_covers := by decide +kernel
theorem m_X8_covers_f94 : Cond.fieldLink RX8 94 "WideCellModel" "ranges" "I" ∈ wsX8_covers := by decide +kernel
theorem m_X8_covers_f25 : Cond.fieldLink RX8 25 "WideCellModel" "first" "[I" ∈ wsX8_covers := by decide +kernel
theorem m_X8_covers_f28 : Cond.fieldLink RX8 28 "WideCellModel" "last" "[I" ∈ wsX8_covers := by decide +kernel
abbrev rm_k_X8_covers : Room := { frames := 1, cells := 0, slots := 0, locals := 22 }
set_option maxHeartbeats 4000000 in
set_option maxRecDepth 100000 in
theorem k_X8_covers (l : Launch) (G : wG) (σ : cS) (μ : mS) (o : Nat → Int64) (q : Nat) (row : Nat) (col : Nat) (hr : q < 92) (hrow : row < 16) (hcol : col < 4) (hmr : mR μ ≤ 8) : Met l yX8_covers wsX8_covers rm_k_X8_covers (wPc G σ μ o [.ref (gA G 39), .int (nI q), .int (nI row), .int (nI col)]) (vp_Si (fun rr => rr = bi (covM μ q row col))) 0 0 (fun _ => False) := by
  refine Met.ofW (cc := cX8_covers) (maxL := 4) (ret := (some .boolean)) (by decide) rfl ?_
  intro p e s m args below meth c s₁ B hml hv
  obtain ⟨hargs, hI⟩ := hv
  have S : CallFix p m c cX8_covers 4 s args wsX8_covers RX8 := ⟨B.exec, B.bytes, hml, findClass_of_methodNamed B.named, atoms_spec (ws := wsX8_covers) B.pre⟩
  have hret := B.returns
  have hlocks := B.notSynchronized
  have Z := wZ_0 hI
  clear hI
  obtain ⟨Q, hQ⟩ : ∃ Q, Q = MQ below (vp_Si (fun rr => rr = bi (covM μ q row col))) args s 0 0 (fun _ => False) := ⟨_, rfl⟩
  rw [← hQ]
  have hl := lv_entry [.ref (gA G 39), .int (nI q), .int (nI row), .int (nI col)] (n := 4) (Nat.le_of_ble_eq_true rfl)
  rw [show entryFrame m args 4 = entryFrame m ([.ref (gA G 39), .int (nI q), .int (nI row), .int (nI col)] : List Value).toArray 4 from by rw [hargs], lg_entry_eq]
  generalize (lg_sl [.ref (gA G 39), .int (nI q), .int (nI row), .int (nI col)] ++ List.replicate (4 - (lg_sl [.ref (gA G 39), .int (nI q), .int (nI row), .int (nI col)]).length) Slot.unset).toArray = ls at hl ⊢
  have hl : lv_has ls 4 [(0, .ref (gA G 39)), (1, .int (nI q)), (2, .int (nI row)), (3, .int (nI col))] := hl
  refine lv_iload_n S.1 S.2.1 dX8_covers_0 rfl (lv_at hl 1 rfl) ?_
  refine lv_bipush (v := nI 64) S.1 S.2.1 dX8_covers_1 (by decide) ?_
  refine r_icmpN_ge S (tgt := 21) (by omega) (by omega) dX8_covers_3 (by decide) (fun c_1 => ?_) (fun c_1 => ?_)
  · skip
    refine lv_iload_n S.1 S.2.1 dX8_covers_21 rfl (lv_at hl 1 rfl) ?_
    refine lv_bipush (v := nI 68) S.1 S.2.1 dX8_covers_22 (by decide) ?_
    refine r_icmpN_ge S (tgt := 41) (by omega) (by omega) dX8_covers_24 (by decide) (fun c_2 => ?_) (fun c_2 => ?_)
    · skip
      refine lv_iload_n S.1 S.2.1 dX8_covers_41 rfl (lv_at hl 1 rfl) ?_
      refine lv_bipush (v := nI 84) S.1 S.2.1 dX8_covers_42 (by decide) ?_
      refine r_icmpN_ge S (tgt := 61) (by omega) (by omega) dX8_covers_44 (by decide) (fun c_3 => ?_) (fun c_3 => ?_)
      · skip
        refine lv_iload_n S.1 S.2.1 dX8_covers_61 rfl (lv_at hl 1 rfl) ?_
        refine lv_bipush (v := nI 84) S.1 S.2.1 dX8_covers_62 (by decide) ?_
        refine r_subN S (by omega) dX8_covers_64 ?_
        refine lv_aload_n S.1 S.2.1 dX8_covers_65 rfl (lv_at hl 0 rfl) ?_
        refine r_get (C := RX8) (T := TX8) (N := 19) (ci := 8) S Z (by decide) rfl rfl i_X8_covers_X8 5 (by decide) m_X8_covers_f94 rfl (v := .int (nI (mR μ))) rfl dX8_covers_66 ?_
        refine r_icmpN_ge S (tgt := 101) (by omega) (by omega) dX8_covers_69 (by decide) (fun c_4 => ?_) (fun c_4 => ?_)
        · skip
          refine lv_iconst (v := nI 0) S.1 S.2.1 dX8_covers_101 (by decide) ?_
          rw [hQ]
          exact W.zret (v := nI 0) S.1 S.2.1 hret rfl (fun _ hT9 _ => ⟨_, rfl, (by first | (simp [bi, covM, c_1, c_2, c_3, c_4, Nat.not_lt.mpr c_1, Nat.not_lt.mpr c_2, Nat.not_lt.mpr c_3, Nat.not_lt.mpr c_4]; done) | (simp [bi, covM, c_1, c_2, c_3, c_4, Nat.not_lt.mpr c_1, Nat.not_lt.mpr c_2, Nat.not_lt.mpr c_3, Nat.not_lt.mpr c_4]; omega) | (simp [bi, covM, ← Int32.not_le, c_1, c_2, c_3, c_4, Nat.not_lt.mpr c_1, Nat.not_lt.mpr c_2, Nat.not_lt.mpr c_3, Nat.not_lt.mpr c_4]; done)), hT9⟩) (fun _ h => nomatch h) dX8_covers_102
        · skip
          refine lv_iload_n S.1 S.2.1 dX8_covers_72 rfl (lv_at hl 2 rfl) ?_
          refine lv_aload_n S.1 S.2.1 dX8_covers_73 rfl (lv_at hl 0 rfl) ?_
          refine r_get (C := RX8) (T := TX8) (N := 19) (ci := 8) S Z (by decide) rfl rfl i_X8_covers_X8 6 (by decide) m_X8_covers_f25 rfl (v := .ref (gA G 45)) rfl dX8_covers_74 ?_
          refine lv_iload_n S.1 S.2.1 dX8_covers_77 rfl (lv_at hl 1 rfl) ?_
          refine lv_bipush (v := nI 84) S.1 S.2.1 dX8_covers_78 (by decide) ?_
          refine r_subN S (by omega) dX8_covers_80 ?_
          refine r_ialdM S Z (n := 8) ⟨rfl, rfl⟩ (by omega) (by decide) dX8_covers_81 ?_
          refine lv_aload_n S.1 S.2.1 dX8_covers_82 rfl (lv_at hl 0 rfl) ?_
          refine r_get (C := RX8) (T := TX8) (N := 19) (ci := 8) S Z (by decide) rfl rfl i_X8_covers_X8 7 (by decide) m_X8_covers_f28 rfl (v := .ref (gA G 46)) rfl dX8_covers_83 ?_
          refine lv_iload_n S.1 S.2.1 dX8_covers_86 rfl (lv_at hl 1 rfl) ?_
          refine lv_bipush (v := nI 84) S.1 S.2.1 dX8_covers_87 (by decide) ?_
          refine r_subN S (by omega) dX8_covers_89 ?_
          refine r_ialdM S Z (n := 8) ⟨rfl, rfl⟩ (by omega) (by decide) dX8_covers_90 ?_
          refine vp_callSi (va_runS (As := [.int (nI row), .int (mI μ 45 (q - 84)), .int (mI μ 46 (q - 84))]) (rest := []) S (k_X8_isIn l G σ μ o (nI row) (mI μ 45 (q - 84)) (mI μ 46 (q - 84)) ) (va_cwS 3 S.2.2.2.2 gX8_covers_X8_isIn rfl rfl rfl hy_X8_isIn ⟨Nat.le_of_ble_eq_true rfl, Nat.le_of_ble_eq_true rfl⟩) (wPc_S Z) rfl rfl hl.1 rfl (lv_room (Nat.le_of_ble_eq_true rfl)) dX8_covers_91 ⟨Nat.le_of_ble_eq_true rfl, Nat.le_of_ble_eq_true rfl⟩).run (fun r_5 h_6 => ?_)
          rw [h_6]; clear h_6 r_5
          refine r_if_eqB S (tgt := 101) dX8_covers_94 (by decide) (fun c_7 => ?_) (fun c_7 => ?_)
          · skip
            refine lv_iconst (v := nI 0) S.1 S.2.1 dX8_covers_101 (by decide) ?_
            rw [hQ]
            exact W.zret (v := nI 0) S.1 S.2.1 hret rfl (fun _ hT9 _ => ⟨_, rfl, (by first | (simp [bi, covM, c_1, c_2, c_3, c_4, c_7, Nat.not_lt.mpr c_1, Nat.not_lt.mpr c_2, Nat.not_lt.mpr c_3]; done) | (simp [bi, covM, c_1, c_2, c_3, c_4, c_7, Nat.not_lt.mpr c_1, Nat.not_lt.mpr c_2, Nat.not_lt.mpr c_3]; omega) | (simp [bi, covM, ← Int32.not_le, c_1, c_2, c_3, c_4, c_7, Nat.not_lt.mpr c_1, Nat.not_lt.mpr c_2, Nat.not_lt.mpr c_3]; done) | (simp [bi, covM, c_1, c_2, c_3, c_4, eq_true c_7, Nat.not_lt.mpr c_1, Nat.not_lt.mpr c_2, Nat.not_lt.mpr c_3]; done)), hT9⟩) (fun _ h => nomatch h) dX8_covers_102
          · skip
            refine lv_iconst (v := nI 1) S.1 S.2.1 dX8_covers_97 (by decide) ?_
            refine lv_goto (tgt := 102) S.1 S.2.1 dX8_covers_98 (by decide) ?_
            rw [hQ]
            exact W.zret (v := nI 1) S.1 S.2.1 hret rfl (fun _ hT9 _ => ⟨_, rfl, (by first | (simp [bi, covM, c_1, c_2, c_3, c_4, c_7, Nat.not_lt.mpr c_1, Nat.not_lt.mpr c_2, Nat.not_lt.mpr c_3]; done) | (simp [bi, covM, c_1, c_2, c_3, c_4, c_7, Nat.not_lt.mpr c_1, Nat.not_lt.mpr c_2, Nat.not_lt.mpr c_3]; omega) | (simp [bi, covM, ← Int32.not_le, c_1, c_2, c_3, c_4, c_7, Nat.not_lt.mpr c_1, Nat.not_lt.mpr c_2, Nat.not_lt.mpr c_3]; done)), hT9⟩) (fun _ h => nomatch h) dX8_covers_102
      · skip
        refine lv_iload_n S.1 S.2.1 dX8_covers_47 rfl (lv_at hl 1 rfl) ?_
        refine lv_bipush (v := nI 68) S.1 S.2.1 dX8_covers_48 (by decide) ?_
        refine lv_iload_n S.1 S.2.1 dX8_covers_50 rfl (lv_at hl 2 rfl) ?_
        refine r_addN S dX8_covers_51 ?_
        refine r_icmpN_ne S (tgt := 59) (by omega) (by omega) dX8_covers_52 (by decide) (fun c_8 => ?_) (fun c_8 => ?_)
        · skip
          refine lv_iconst (v := nI 0) S.1 S.2.1 dX8_covers_59 (by decide) ?_
          rw [hQ]
          exact W.zret (v := nI 0) S.1 S.2.1 hret rfl (fun _ hT9 _ => ⟨_, rfl, (by first | (simp [bi, covM, c_1, c_2, c_3, c_8, Nat.not_lt.mpr c_1, Nat.not_lt.mpr c_2]; done) | (simp [bi, covM, c_1, c_2, c_3, c_8, Nat.not_lt.mpr c_1, Nat.not_lt.mpr c_2]; omega) | (simp [bi, covM, ← Int32.not_le, c_1, c_2, c_3, c_8, Nat.not_lt.mpr c_1, Nat.not_lt.mpr c_2]; done)), hT9⟩) (fun _ h => nomatch h) dX8_covers_60
        · skip
          refine lv_iconst (v := nI 1) S.1 S.2.1 dX8_covers_55 (by decide) ?_
          refine lv_goto (tgt := 60) S.1 S.2.1 dX8_covers_56 (by decide) ?_
          rw [hQ]
          exact W.zret (v := nI 1) S.1 S.2.1 hret rfl (fun _ hT9 _ => ⟨_, rfl, (by first | (simp [bi, covM, c_1, c_2, c_3, c_8, Nat.not_lt.mpr c_1, Nat.not_lt.mpr c_2]; done) | (simp [bi, covM, c_1, c_2, c_3, c_8, Nat.not_lt.mpr c_1, Nat.not_lt.mpr c_2]; omega) | (simp [bi, covM, ← Int32.not_le, c_1, c_2, c_3, c_8, Nat.not_lt.mpr c_1, Nat.not_lt.mpr c_2]; done) | (simp [bi, covM, c_1, c_2, c_3, eq_true c_8, Nat.not_lt.mpr c_1, Nat.not_lt.mpr c_2]; done)), hT9⟩) (fun _ h => nomatch h) dX8_covers_60
    · skip
      refine lv_iload_n S.1 S.2.1 dX8_covers_27 rfl (lv_at hl 1 rfl) ?_
      refine lv_bipush (v := nI 64) S.1 S.2.1 dX8_covers_28 (by decide) ?_
      refine lv_iload_n S.1 S.2.1 dX8_covers_30 rfl (lv_at hl 3 rfl) ?_
      refine r_addN S dX8_covers_31 ?_
      refine r_icmpN_ne S (tgt := 39) (by omega) (by omega) dX8_covers_32 (by decide) (fun c_9 => ?_) (fun c_9 => ?_)
      · skip
        refine lv_iconst (v := nI 0) S.1 S.2.1 dX8_covers_39 (by decide) ?_
        rw [hQ]
        exact W.zret (v := nI 0) S.1 S.2.1 hret rfl (fun _ hT9 _ => ⟨_, rfl, (by first | (simp [bi, covM, c_1, c_2, c_9, Nat.not_lt.mpr c_1]; done) | (simp [bi, covM, c_1, c_2, c_9, Nat.not_lt.mpr c_1]; omega) | (simp [bi, covM, ← Int32.not_le, c_1, c_2, c_9, Nat.not_lt.mpr c_1]; done)), hT9⟩) (fun _ h => nomatch h) dX8_covers_40
      · skip
        refine lv_iconst (v := nI 1) S.1 S.2.1 dX8_covers_35 (by decide) ?_
        refine lv_goto (tgt := 40) S.1 S.2.1 dX8_covers_36 (by decide) ?_
        rw [hQ]
        exact W.zret (v := nI 1) S.1 S.2.1 hret rfl (fun _ hT9 _ => ⟨_, rfl, (by first | (simp [bi, covM, c_1, c_2, c_9, Nat.not_lt.mpr c_1]; done) | (simp [bi, covM, c_1, c_2, c_9, Nat.not_lt.mpr c_1]; omega) | (simp [bi, covM, ← Int32.not_le, c_1, c_2, c_9, Nat.not_lt.mpr c_1]; done) | (simp [bi, covM, c_1, c_2, eq_true c_9, Nat.not_lt.mpr c_1]; done)), hT9⟩) (fun _ h => nomatch h) dX8_covers_40
  · skip
    refine lv_iload_n S.1 S.2.1 dX8_covers_6 rfl (lv_at hl 1 rfl) ?_
    refine lv_iconst (v := nI 4) S.1 S.2.1 dX8_covers_7 (by decide) ?_
    refine lv_iload_n S.1 S.2.1 dX8_covers_8 rfl (lv_at hl 2 rfl) ?_
    refine r_mulN S dX8_covers_9 ?_
    refine lv_iload_n S.1 S.2.1 dX8_covers_10 rfl (lv_at hl 3 rfl) ?_
    refine r_addN S dX8_covers_11 ?_
    refine r_icmpN_ne S (tgt := 19) (by omega) (by omega) dX8_covers_12 (by decide) (fun c_10 => ?_) (fun c_10 => ?_)
    · skip
      refine lv_iconst (v := nI 0) S.1 S.2.1 dX8_covers_19 (by decide) ?_
      rw [hQ]
      exact W.zret (v := nI 0) S.1 S.2.1 hret rfl (fun _ hT9 _ => ⟨_, rfl, (by first | (simp [bi, covM, c_1, c_10]; done) | (simp [bi, covM, c_1, c_10]; omega) | (simp [bi, covM, ← Int32.not_le, c_1, c_10]; done)), hT9⟩) (fun _ h => nomatch h) dX8_covers_20
    · skip
      refine lv_iconst (v := nI 1) S.1 S.2.1 dX8_covers_15 (by decide) ?_
      refine lv_goto (tgt := 20) S.1 S.2.1 dX8_covers_16 (by decide) ?_
      rw [hQ]
      exact W.zret (v := nI 1) S.1 S.2.1 hret rfl (fun _ hT9 _ => ⟨_, rfl, (by first | (simp [bi, covM, c_1, c_10]; done) | (simp [bi, covM, c_1, c_10]; omega) | (simp [bi, covM, ← Int32.not_le, c_1, c_10]; done) | (simp [bi, covM, c_1, eq_true c_10]; done)), hT9⟩) (fun _ h => nomatch h) dX8_covers_20

abbrev rm_k_X8_touches : Room := { frames := 2, cells := 0, slots := 0, locals := 45 }
set_option maxHeartbeats 4000000 in
set_option maxRecDepth 100000 in
theorem k_X8_touches (l : Launch) (G : wG) (σ : cS) (μ : mS) (o : Nat → Int64) (q : Nat) (row : Nat) (hr : q < 92) (hrow : row < 16) (hmr : mR μ ≤ 8) : Met l yX8_touches wsX8_touches rm_k_X8_touches (wPc G σ μ o [.ref (gA G 39), .int (nI q), .int (nI row)]) (vp_Si (fun rr => rr = bi (touM μ q row))) 0 0 (fun _ => False) := by
  refine Met.ofW (cc := cX8_touches) (maxL := 3) (ret := (some .boolean)) (by decide) rfl ?_
  intro p e s m args below meth c s₁ B hml hv
  obtain ⟨hargs, hI⟩ := hv
  have S : CallFix p m c cX8_touches 3 s args wsX8_touches RX8 := ⟨B.exec, B.bytes, hml, findClass_of_methodNamed B.named, atoms_spec (ws := wsX8_touches) B.pre⟩
  have hret := B.returns
  have hlocks := B.notSynchronized
  have Z := wZ_0 hI
  clear hI
  obtain ⟨Q, hQ⟩ : ∃ Q, Q = MQ below (vp_Si (fun rr => rr = bi (touM μ q row))) args s 0 0 (fun _ => False) := ⟨_, rfl⟩
  rw [← hQ]
  have hl := lv_entry [.ref (gA G 39), .int (nI q), .int (nI row)] (n := 3) (Nat.le_of_ble_eq_true rfl)
  rw [show entryFrame m args 3 = entryFrame m ([.ref (gA G 39), .int (nI q), .int (nI row)] : List Value).toArray 3 from by rw [hargs], lg_entry_eq]
  generalize (lg_sl [.ref (gA G 39), .int (nI q), .int (nI row)] ++ List.replicate (3 - (lg_sl [.ref (gA G 39), .int (nI q), .int (nI row)]).length) Slot.unset).toArray = ls at hl ⊢
  have hl : lv_has ls 3 [(0, .ref (gA G 39)), (1, .int (nI q)), (2, .int (nI row))] := hl
  refine lv_aload_n S.1 S.2.1 dX8_touches_0 rfl (lv_at hl 0 rfl) ?_
  refine lv_iload_n S.1 S.2.1 dX8_touches_1 rfl (lv_at hl 1 rfl) ?_
  refine lv_iload_n S.1 S.2.1 dX8_touches_2 rfl (lv_at hl 2 rfl) ?_
  refine lv_iconst (v := nI 0) S.1 S.2.1 dX8_touches_3 (by decide) ?_
  refine vp_callSi (va_runV (As := [.int (nI q), .int (nI row), .int (nI 0)]) (rest := []) S (k_X8_covers l G σ μ o q row 0 (by omega) (by omega) (by omega) hmr) (cwV 3 S.2.2.2.2 gX8_touches_X8_covers rfl rfl rfl ⟨rfl, hy_X8_covers⟩ ⟨Nat.le_of_ble_eq_true rfl, Nat.le_of_ble_eq_true rfl⟩) (wPc_V (q := (RX8, TX8, 19)) Z (by decide) rfl rfl) rfl rfl hl.1 rfl (lv_room (Nat.le_of_ble_eq_true rfl)) dX8_touches_4 ⟨Nat.le_of_ble_eq_true rfl, Nat.le_of_ble_eq_true rfl⟩).run (fun r_1 h_2 => ?_)
  rw [h_2]; clear h_2 r_1
  refine r_if_neB S (tgt := 40) dX8_touches_7 (by decide) (fun c_3 => ?_) (fun c_3 => ?_)
  · skip
    refine lv_iconst (v := nI 1) S.1 S.2.1 dX8_touches_40 (by decide) ?_
    refine lv_goto (tgt := 45) S.1 S.2.1 dX8_touches_41 (by decide) ?_
    rw [hQ]
    exact W.zret (v := nI 1) S.1 S.2.1 hret rfl (fun _ hT9 _ => ⟨_, rfl, (by first | (simp [bi, touM, c_3]; done) | (simp [bi, touM, c_3]; omega) | (simp [bi, touM, ← Int32.not_le, c_3]; done)), hT9⟩) (fun _ h => nomatch h) dX8_touches_45
  · skip
    refine lv_aload_n S.1 S.2.1 dX8_touches_10 rfl (lv_at hl 0 rfl) ?_
    refine lv_iload_n S.1 S.2.1 dX8_touches_11 rfl (lv_at hl 1 rfl) ?_
    refine lv_iload_n S.1 S.2.1 dX8_touches_12 rfl (lv_at hl 2 rfl) ?_
    refine lv_iconst (v := nI 1) S.1 S.2.1 dX8_touches_13 (by decide) ?_
    refine vp_callSi (va_runV (As := [.int (nI q), .int (nI row), .int (nI 1)]) (rest := []) S (k_X8_covers l G σ μ o q row 1 (by omega) (by omega) (by omega) hmr) (cwV 3 S.2.2.2.2 gX8_touches_X8_covers rfl rfl rfl ⟨rfl, hy_X8_covers⟩ ⟨Nat.le_of_ble_eq_true rfl, Nat.le_of_ble_eq_true rfl⟩) (wPc_V (q := (RX8, TX8, 19)) Z (by decide) rfl rfl) rfl rfl hl.1 rfl (lv_room (Nat.le_of_ble_eq_true rfl)) dX8_touches_14 ⟨Nat.le_of_ble_eq_true rfl, Nat.le_of_ble_eq_true rfl⟩).run (fun r_4 h_5 => ?_)
    rw [h_5]; clear h_5 r_4
    refine r_if_neB S (tgt := 40) dX8_touches_17 (by decide) (fun c_6 => ?_) (fun c_6 => ?_)
    · skip
      refine lv_iconst (v := nI 1) S.1 S.2.1 dX8_touches_40 (by decide) ?_
      refine lv_goto (tgt := 45) S.1 S.2.1 dX8_touches_41 (by decide) ?_
      rw [hQ]
      exact W.zret (v := nI 1) S.1 S.2.1 hret rfl (fun _ hT9 _ => ⟨_, rfl, (by first | (simp [bi, touM, c_3, c_6]; done) | (simp [bi, touM, c_3, c_6]; omega) | (simp [bi, touM, ← Int32.not_le, c_3, c_6]; done) | (simp [bi, touM, eq_true c_3, c_6]; done)), hT9⟩) (fun _ h => nomatch h) dX8_touches_45
    · skip
      refine lv_aload_n S.1 S.2.1 dX8_touches_20 rfl (lv_at hl 0 rfl) ?_
      refine lv_iload_n S.1 S.2.1 dX8_touches_21 rfl (lv_at hl 1 rfl) ?_
      refine lv_iload_n S.1 S.2.1 dX8_touches_22 rfl (lv_at hl 2 rfl) ?_
      refine lv_iconst (v := nI 2) S.1 S.2.1 dX8_touches_23 (by decide) ?_
      refine vp_callSi (va_runV (As := [.int (nI q), .int (nI row), .int (nI 2)]) (rest := []) S (k_X8_covers l G σ μ o q row 2 (by omega) (by omega) (by omega) hmr) (cwV 3 S.2.2.2.2 gX8_touches_X8_covers rfl rfl rfl ⟨rfl, hy_X8_covers⟩ ⟨Nat.le_of_ble_eq_true rfl, Nat.le_of_ble_eq_true rfl⟩) (wPc_V (q := (RX8, TX8, 19)) Z (by decide) rfl rfl) rfl rfl hl.1 rfl (lv_room (Nat.le_of_ble_eq_true rfl)) dX8_touches_24 ⟨Nat.le_of_ble_eq_true rfl, Nat.le_of_ble_eq_true rfl⟩).run (fun r_7 h_8 => ?_)
      rw [h_8]; clear h_8 r_7
      refine r_if_neB S (tgt := 40) dX8_touches_27 (by decide) (fun c_9 => ?_) (fun c_9 => ?_)
      · skip
        refine lv_iconst (v := nI 1) S.1 S.2.1 dX8_touches_40 (by decide) ?_
        refine lv_goto (tgt := 45) S.1 S.2.1 dX8_touches_41 (by decide) ?_
        rw [hQ]
        exact W.zret (v := nI 1) S.1 S.2.1 hret rfl (fun _ hT9 _ => ⟨_, rfl, (by first | (simp [bi, touM, c_3, c_6, c_9]; done) | (simp [bi, touM, c_3, c_6, c_9]; omega) | (simp [bi, touM, ← Int32.not_le, c_3, c_6, c_9]; done) | (simp [bi, touM, eq_true c_3, eq_true c_6, c_9]; done)), hT9⟩) (fun _ h => nomatch h) dX8_touches_45
      · skip
        refine lv_aload_n S.1 S.2.1 dX8_touches_30 rfl (lv_at hl 0 rfl) ?_
        refine lv_iload_n S.1 S.2.1 dX8_touches_31 rfl (lv_at hl 1 rfl) ?_
        refine lv_iload_n S.1 S.2.1 dX8_touches_32 rfl (lv_at hl 2 rfl) ?_
        refine lv_iconst (v := nI 3) S.1 S.2.1 dX8_touches_33 (by decide) ?_
        refine vp_callSi (va_runV (As := [.int (nI q), .int (nI row), .int (nI 3)]) (rest := []) S (k_X8_covers l G σ μ o q row 3 (by omega) (by omega) (by omega) hmr) (cwV 3 S.2.2.2.2 gX8_touches_X8_covers rfl rfl rfl ⟨rfl, hy_X8_covers⟩ ⟨Nat.le_of_ble_eq_true rfl, Nat.le_of_ble_eq_true rfl⟩) (wPc_V (q := (RX8, TX8, 19)) Z (by decide) rfl rfl) rfl rfl hl.1 rfl (lv_room (Nat.le_of_ble_eq_true rfl)) dX8_touches_34 ⟨Nat.le_of_ble_eq_true rfl, Nat.le_of_ble_eq_true rfl⟩).run (fun r_10 h_11 => ?_)
        rw [h_11]; clear h_11 r_10
        refine r_if_eqB S (tgt := 44) dX8_touches_37 (by decide) (fun c_12 => ?_) (fun c_12 => ?_)
        · skip
          refine lv_iconst (v := nI 0) S.1 S.2.1 dX8_touches_44 (by decide) ?_
          rw [hQ]
          exact W.zret (v := nI 0) S.1 S.2.1 hret rfl (fun _ hT9 _ => ⟨_, rfl, (by first | (simp [bi, touM, c_3, c_6, c_9, c_12]; done) | (simp [bi, touM, c_3, c_6, c_9, c_12]; omega) | (simp [bi, touM, ← Int32.not_le, c_3, c_6, c_9, c_12]; done) | (simp [bi, touM, eq_true c_3, eq_true c_6, eq_true c_9, eq_true c_12]; done)), hT9⟩) (fun _ h => nomatch h) dX8_touches_45
        · skip
          refine lv_iconst (v := nI 1) S.1 S.2.1 dX8_touches_40 (by decide) ?_
          refine lv_goto (tgt := 45) S.1 S.2.1 dX8_touches_41 (by decide) ?_
          rw [hQ]
          exact W.zret (v := nI 1) S.1 S.2.1 hret rfl (fun _ hT9 _ => ⟨_, rfl, (by first | (simp [bi, touM, c_3, c_6, c_9, c_12]; done) | (simp [bi, touM, c_3, c_6, c_9, c_12]; omega) | (simp [bi, touM, ← Int32.not_le, c_3, c_6, c_9, c_12]; done) | (simp [bi, touM, eq_true c_3, eq_true c_6, eq_true c_9, c_12]; done)), hT9⟩) (fun _ h => nomatch h) dX8_touches_45

theorem i_X8_buried_X8 : ∀ w ∈ wsX80, w ∈ wsX8_buried := by decide +kernel
theorem m_X8_buried_f19 : Cond.fieldLink RX8 19 "WideCellModel" "tomb" "[I" ∈ wsX8_buried := by decide +kernel
abbrev rm_k_X8_buried : Room := { frames := 2, cells := 0, slots := 0, locals := 45 }
set_option maxHeartbeats 4000000 in
set_option maxRecDepth 100000 in
theorem k_X8_buried (l : Launch) (G : wG) (σ : cS) (μ : mS) (o : Nat → Int64) (k : Nat) (row : Nat) (col : Nat) (hk : k < 4) (hrow : row < 16) (hcol : col < 4) (hmr : mR μ ≤ 8) : Met l yX8_buried wsX8_buried rm_k_X8_buried (wPc G σ μ o [.ref (gA G 39), .int (nI k), .int (nI row), .int (nI col)]) (vp_Si (fun rr => rr = buM μ k row col)) 0 0 (fun _ => False) := by
  refine Met.ofW (cc := cX8_buried) (maxL := 7) (ret := (some .int)) (by decide) rfl ?_
  intro p e s m args below meth c s₁ B hml hv
  obtain ⟨hargs, hI⟩ := hv
  have S : CallFix p m c cX8_buried 7 s args wsX8_buried RX8 := ⟨B.exec, B.bytes, hml, findClass_of_methodNamed B.named, atoms_spec (ws := wsX8_buried) B.pre⟩
  have hret := B.returns
  have hlocks := B.notSynchronized
  have Z := wZ_0 hI
  clear hI
  obtain ⟨Q, hQ⟩ : ∃ Q, Q = MQ below (vp_Si (fun rr => rr = buM μ k row col)) args s 0 0 (fun _ => False) := ⟨_, rfl⟩
  rw [← hQ]
  have hl := lv_entry [.ref (gA G 39), .int (nI k), .int (nI row), .int (nI col)] (n := 7) (Nat.le_of_ble_eq_true rfl)
  rw [show entryFrame m args 7 = entryFrame m ([.ref (gA G 39), .int (nI k), .int (nI row), .int (nI col)] : List Value).toArray 7 from by rw [hargs], lg_entry_eq]
  generalize (lg_sl [.ref (gA G 39), .int (nI k), .int (nI row), .int (nI col)] ++ List.replicate (7 - (lg_sl [.ref (gA G 39), .int (nI k), .int (nI row), .int (nI col)]).length) Slot.unset).toArray = ls at hl ⊢
  have hl : lv_has ls 7 [(0, .ref (gA G 39)), (1, .int (nI k)), (2, .int (nI row)), (3, .int (nI col))] := hl
  refine lv_iconst (v := -1) S.1 S.2.1 dX8_buried_0 (by decide) ?_
  refine lv_istore (lv' := [(4, .int (-1)), (0, .ref (gA G 39)), (1, .int (nI k)), (2, .int (nI row)), (3, .int (nI col))]) S.1 S.2.1 dX8_buried_1 hl (by decide) rfl (fun ls hl => ?_)
  refine lv_iconst (v := nI 0) S.1 S.2.1 dX8_buried_3 (by decide) ?_
  refine lv_istore (lv' := [(5, .int (nI 0)), (4, .int (-1)), (0, .ref (gA G 39)), (1, .int (nI k)), (2, .int (nI row)), (3, .int (nI col))]) S.1 S.2.1 dX8_buried_4 hl (by decide) rfl (fun ls hl => ?_)
  have L_6 : ∀ (n : Nat) (i : Nat) (hi : i ≤ 92) (hn : 92 - i < n) (ls : Array Slot) (hl : lv_has ls 7 [(0, .ref (gA G 39)), (1, .int (nI k)), (2, .int (nI row)), (3, .int (nI col)), (4, .int (bun μ k row col i)), (5, .int (nI i))]), W p l e (headSpec wsX8_buried rm_k_X8_buried).room s m args below meth c s.heap [] 0 0 Q (F0 m 6 ls []) := by
    intro n
    induction n with
    | zero => intro i hi hn; omega
    | succ n ih_6 =>
      intro i hi hn ls hl
      refine lv_iload S.1 S.2.1 dX8_buried_6 (lv_at hl 5 rfl) ?_
      refine lv_bipush (v := nI 92) S.1 S.2.1 dX8_buried_8 (by decide) ?_
      refine r_icmpN_ge S (tgt := 64) (by omega) (by omega) dX8_buried_10 (by decide) (fun c_1 => ?_) (fun c_1 => ?_)
      · skip
        obtain rfl : i = 92 := by omega
        refine lv_iload S.1 S.2.1 dX8_buried_64 (lv_at hl 4 rfl) ?_
        rw [hQ]
        exact W.iret (v := bun μ k row col 92) S.1 S.2.1 hret (fun _ hT9 _ => ⟨_, rfl, rfl, hT9⟩) (fun _ h => nomatch h) dX8_buried_66
      · skip
        refine lv_aload_n S.1 S.2.1 dX8_buried_13 rfl (lv_at hl 0 rfl) ?_
        refine lv_iload S.1 S.2.1 dX8_buried_14 (lv_at hl 5 rfl) ?_
        refine lv_iload_n S.1 S.2.1 dX8_buried_16 rfl (lv_at hl 2 rfl) ?_
        refine lv_iload_n S.1 S.2.1 dX8_buried_17 rfl (lv_at hl 3 rfl) ?_
        refine vp_callSi (va_runV (As := [.int (nI i), .int (nI row), .int (nI col)]) (rest := []) S (k_X8_covers l G σ μ o i row col (by omega) (by omega) (by omega) hmr) (cwV 3 S.2.2.2.2 gX8_buried_X8_covers rfl rfl rfl ⟨rfl, hy_X8_covers⟩ ⟨Nat.le_of_ble_eq_true rfl, Nat.le_of_ble_eq_true rfl⟩) (wPc_V (q := (RX8, TX8, 19)) Z (by decide) rfl rfl) rfl rfl hl.1 rfl (lv_room (Nat.le_of_ble_eq_true rfl)) dX8_buried_18 ⟨Nat.le_of_ble_eq_true rfl, Nat.le_of_ble_eq_true rfl⟩).run (fun r_2 h_3 => ?_)
        rw [h_3]; clear h_3 r_2
        refine r_if_eqB S (tgt := 39) dX8_buried_21 (by decide) (fun c_4 => ?_) (fun c_4 => ?_)
        · skip
          refine lv_iconst (v := -1) S.1 S.2.1 dX8_buried_39 (by decide) ?_
          refine lv_istore (lv' := [(6, .int (-1)), (0, .ref (gA G 39)), (1, .int (nI k)), (2, .int (nI row)), (3, .int (nI col)), (4, .int (bun μ k row col i)), (5, .int (nI i))]) S.1 S.2.1 dX8_buried_40 hl (by decide) rfl (fun ls hl => ?_)
          refine lv_iload S.1 S.2.1 dX8_buried_42 (lv_at hl 0 rfl) ?_
          refine lv_iload S.1 S.2.1 dX8_buried_44 (lv_at hl 5 rfl) ?_
          refine lv_icmp_le (tgt := 54) S.1 S.2.1 dX8_buried_46 (by decide) (fun c_5 => ?_) (fun c_5 => ?_)
          · skip
            refine lv_iload S.1 S.2.1 dX8_buried_54 (lv_at hl 5 rfl) ?_
            refine lv_istore (lv' := [(4, .int (bun μ k row col i)), (6, .int (-1)), (0, .ref (gA G 39)), (1, .int (nI k)), (2, .int (nI row)), (3, .int (nI col)), (5, .int (nI i))]) S.1 S.2.1 dX8_buried_56 hl (by decide) rfl (fun ls hl => ?_)
            refine lv_iinc (v := nI (i + 1)) (lv' := [(5, .int (nI (i + 1))), (4, .int (bun μ k row col i)), (6, .int (-1)), (0, .ref (gA G 39)), (1, .int (nI k)), (2, .int (nI row)), (3, .int (nI col))]) S.1 S.2.1 dX8_buried_58 hl (k := 6) rfl (nI_inc rfl) (by decide) rfl (fun ls hl => ?_)
            refine lv_goto (tgt := 6) S.1 S.2.1 dX8_buried_61 (by decide) ?_
            have q_6 : (bun μ k row col (i + 1) : Int32) = bun μ k row col i := by first | (first | (simp [bi, bun, buIt, hi, c_1, c_4, c_5]; done) | (simp [bi, bun, buIt, hi, c_1, c_4, c_5]; omega) | (simp [bi, bun, buIt, ← Int32.not_le, hi, c_1, c_4, c_5]; done) | (simp [bi, bun, buIt, hi, c_1, eq_true c_4, c_5]; done)) | rfl
            have hl : lv_has ls 7 [(0, .ref (gA G 39)), (1, .int (nI k)), (2, .int (nI row)), (3, .int (nI col)), (4, .int (bun μ k row col (i + 1))), (5, .int (nI (i + 1)))] := by
              have hl := lv_sub hl [3, 4, 5, 6, 1, 0] rfl
              rw [q_6]; exact hl
            exact ih_6 (i + 1) (by omega) (by omega) ls (hl)
          · skip
            refine lv_iload S.1 S.2.1 dX8_buried_49 (lv_at hl 0 rfl) ?_
            refine lv_goto (tgt := 56) S.1 S.2.1 dX8_buried_51 (by decide) ?_
            refine lv_istore (lv' := [(4, .int (-1)), (6, .int (-1)), (0, .ref (gA G 39)), (1, .int (nI k)), (2, .int (nI row)), (3, .int (nI col)), (5, .int (nI i))]) S.1 S.2.1 dX8_buried_56 hl (by decide) rfl (fun ls hl => ?_)
            refine lv_iinc (v := nI (i + 1)) (lv' := [(5, .int (nI (i + 1))), (4, .int (-1)), (6, .int (-1)), (0, .ref (gA G 39)), (1, .int (nI k)), (2, .int (nI row)), (3, .int (nI col))]) S.1 S.2.1 dX8_buried_58 hl (k := 6) rfl (nI_inc rfl) (by decide) rfl (fun ls hl => ?_)
            refine lv_goto (tgt := 6) S.1 S.2.1 dX8_buried_61 (by decide) ?_
            have q_7 : (bun μ k row col (i + 1) : Int32) = -1 := by first | (first | (simp [bi, bun, buIt, hi, c_1, c_4, c_5]; done) | (simp [bi, bun, buIt, hi, c_1, c_4, c_5]; omega) | (simp [bi, bun, buIt, ← Int32.not_le, hi, c_1, c_4, c_5]; done) | (simp [bi, bun, buIt, hi, c_1, eq_true c_4, c_5]; done)) | rfl
            have hl : lv_has ls 7 [(0, .ref (gA G 39)), (1, .int (nI k)), (2, .int (nI row)), (3, .int (nI col)), (4, .int (bun μ k row col (i + 1))), (5, .int (nI (i + 1)))] := by
              have hl := lv_sub hl [3, 4, 5, 6, 1, 0] rfl
              rw [q_7]; exact hl
            exact ih_6 (i + 1) (by omega) (by omega) ls (hl)
        · skip
          refine lv_aload_n S.1 S.2.1 dX8_buried_24 rfl (lv_at hl 0 rfl) ?_
          refine r_get (C := RX8) (T := TX8) (N := 19) (ci := 8) S Z (by decide) rfl rfl i_X8_buried_X8 3 (by decide) m_X8_buried_f19 rfl (v := .ref (gA G 43)) rfl dX8_buried_25 ?_
          refine lv_bipush (v := nI 92) S.1 S.2.1 dX8_buried_28 (by decide) ?_
          refine lv_iload_n S.1 S.2.1 dX8_buried_30 rfl (lv_at hl 1 rfl) ?_
          refine r_mulN S dX8_buried_31 ?_
          refine lv_iload S.1 S.2.1 dX8_buried_32 (lv_at hl 5 rfl) ?_
          refine r_addN S dX8_buried_34 ?_
          refine r_ialdM S Z (n := 368) ⟨rfl, rfl⟩ (by omega) (by decide) dX8_buried_35 ?_
          refine lv_goto (tgt := 40) S.1 S.2.1 dX8_buried_36 (by decide) ?_
          refine lv_istore (lv' := [(6, .int (mI μ 43 ((92 * k) + i))), (0, .ref (gA G 39)), (1, .int (nI k)), (2, .int (nI row)), (3, .int (nI col)), (4, .int (bun μ k row col i)), (5, .int (nI i))]) S.1 S.2.1 dX8_buried_40 hl (by decide) rfl (fun ls hl => ?_)
          refine lv_iload S.1 S.2.1 dX8_buried_42 (lv_at hl 0 rfl) ?_
          refine lv_iload S.1 S.2.1 dX8_buried_44 (lv_at hl 5 rfl) ?_
          refine lv_icmp_le (tgt := 54) S.1 S.2.1 dX8_buried_46 (by decide) (fun c_8 => ?_) (fun c_8 => ?_)
          · skip
            refine lv_iload S.1 S.2.1 dX8_buried_54 (lv_at hl 5 rfl) ?_
            refine lv_istore (lv' := [(4, .int (bun μ k row col i)), (6, .int (mI μ 43 ((92 * k) + i))), (0, .ref (gA G 39)), (1, .int (nI k)), (2, .int (nI row)), (3, .int (nI col)), (5, .int (nI i))]) S.1 S.2.1 dX8_buried_56 hl (by decide) rfl (fun ls hl => ?_)
            refine lv_iinc (v := nI (i + 1)) (lv' := [(5, .int (nI (i + 1))), (4, .int (bun μ k row col i)), (6, .int (mI μ 43 ((92 * k) + i))), (0, .ref (gA G 39)), (1, .int (nI k)), (2, .int (nI row)), (3, .int (nI col))]) S.1 S.2.1 dX8_buried_58 hl (k := 6) rfl (nI_inc rfl) (by decide) rfl (fun ls hl => ?_)
            refine lv_goto (tgt := 6) S.1 S.2.1 dX8_buried_61 (by decide) ?_
            have q_9 : (bun μ k row col (i + 1) : Int32) = bun μ k row col i := by first | (first | (simp [bi, bun, buIt, hi, c_1, c_4, c_8]; done) | (simp [bi, bun, buIt, hi, c_1, c_4, c_8]; omega) | (simp [bi, bun, buIt, ← Int32.not_le, hi, c_1, c_4, c_8]; done)) | rfl
            have hl : lv_has ls 7 [(0, .ref (gA G 39)), (1, .int (nI k)), (2, .int (nI row)), (3, .int (nI col)), (4, .int (bun μ k row col (i + 1))), (5, .int (nI (i + 1)))] := by
              have hl := lv_sub hl [3, 4, 5, 6, 1, 0] rfl
              rw [q_9]; exact hl
            exact ih_6 (i + 1) (by omega) (by omega) ls (hl)
          · skip
            refine lv_iload S.1 S.2.1 dX8_buried_49 (lv_at hl 0 rfl) ?_
            refine lv_goto (tgt := 56) S.1 S.2.1 dX8_buried_51 (by decide) ?_
            refine lv_istore (lv' := [(4, .int (mI μ 43 ((92 * k) + i))), (6, .int (mI μ 43 ((92 * k) + i))), (0, .ref (gA G 39)), (1, .int (nI k)), (2, .int (nI row)), (3, .int (nI col)), (5, .int (nI i))]) S.1 S.2.1 dX8_buried_56 hl (by decide) rfl (fun ls hl => ?_)
            refine lv_iinc (v := nI (i + 1)) (lv' := [(5, .int (nI (i + 1))), (4, .int (mI μ 43 ((92 * k) + i))), (6, .int (mI μ 43 ((92 * k) + i))), (0, .ref (gA G 39)), (1, .int (nI k)), (2, .int (nI row)), (3, .int (nI col))]) S.1 S.2.1 dX8_buried_58 hl (k := 6) rfl (nI_inc rfl) (by decide) rfl (fun ls hl => ?_)
            refine lv_goto (tgt := 6) S.1 S.2.1 dX8_buried_61 (by decide) ?_
            have q_10 : (bun μ k row col (i + 1) : Int32) = mI μ 43 ((92 * k) + i) := by first | (first | (simp [bi, bun, buIt, hi, c_1, c_4, c_8]; done) | (simp [bi, bun, buIt, hi, c_1, c_4, c_8]; omega) | (simp [bi, bun, buIt, ← Int32.not_le, hi, c_1, c_4, c_8]; done)) | rfl
            have hl : lv_has ls 7 [(0, .ref (gA G 39)), (1, .int (nI k)), (2, .int (nI row)), (3, .int (nI col)), (4, .int (bun μ k row col (i + 1))), (5, .int (nI (i + 1)))] := by
              have hl := lv_sub hl [3, 4, 5, 6, 1, 0] rfl
              rw [q_10]; exact hl
            exact ih_6 (i + 1) (by omega) (by omega) ls (hl)
  have q_11 : (bun μ k row col 0 : Int32) = -1 := by first | rfl | (first | (simp [bi, bun, buIt]; done) | (simp [bi, bun, buIt]; omega) | (simp [bi, bun, buIt, ← Int32.not_le]; done))
  have hl : lv_has ls 7 [(0, .ref (gA G 39)), (1, .int (nI k)), (2, .int (nI row)), (3, .int (nI col)), (4, .int (bun μ k row col 0)), (5, .int (nI 0))] := by
    have hl := lv_sub hl [2, 3, 4, 5, 1, 0] rfl
    rw [q_11]; exact hl
  exact L_6 (92 - 0 + 1) 0 (by omega) (by omega) ls (hl)

theorem i_X8_seen_X8 : ∀ w ∈ wsX80, w ∈ wsX8_seen := by decide +kernel
theorem m_X8_seen_f7 : Cond.fieldLink RX8 7 "WideCellModel" "stamp" "[I" ∈ wsX8_seen := by decide +kernel
theorem m_X8_seen_f16 : Cond.fieldLink RX8 16 "WideCellModel" "end" "[I" ∈ wsX8_seen := by decide +kernel
theorem m_X8_seen_f13 : Cond.fieldLink RX8 13 "WideCellModel" "value" "[I" ∈ wsX8_seen := by decide +kernel
theorem m_X8_seen_f83 : Cond.fieldLink RX8 83 "WideCellModel" "time" "I" ∈ wsX8_seen := by decide +kernel
abbrev rm_k_X8_seen : Room := { frames := 3, cells := 0, slots := 0, locals := 71 }
set_option maxHeartbeats 4000000 in
set_option maxRecDepth 100000 in
theorem k_X8_seen (l : Launch) (G : wG) (σ : cS) (μ : mS) (o : Nat → Int64) (k : Nat) (row : Nat) (col : Nat) (hk : k < 4) (hrow : row < 16) (hcol : col < 4) (hmr : mR μ ≤ 8) : Met l yX8_seen wsX8_seen rm_k_X8_seen (wPc G σ μ o [.ref (gA G 39), .int (nI k), .int (nI row), .int (nI col)]) (vp_Si (fun rr => rr = seeM μ k row col)) 0 0 (fun _ => False) := by
  refine Met.ofW (cc := cX8_seen) (maxL := 6) (ret := (some .int)) (by decide) rfl ?_
  intro p e s m args below meth c s₁ B hml hv
  obtain ⟨hargs, hI⟩ := hv
  have S : CallFix p m c cX8_seen 6 s args wsX8_seen RX8 := ⟨B.exec, B.bytes, hml, findClass_of_methodNamed B.named, atoms_spec (ws := wsX8_seen) B.pre⟩
  have hret := B.returns
  have hlocks := B.notSynchronized
  have Z := wZ_0 hI
  clear hI
  obtain ⟨Q, hQ⟩ : ∃ Q, Q = MQ below (vp_Si (fun rr => rr = seeM μ k row col)) args s 0 0 (fun _ => False) := ⟨_, rfl⟩
  rw [← hQ]
  have hl := lv_entry [.ref (gA G 39), .int (nI k), .int (nI row), .int (nI col)] (n := 6) (Nat.le_of_ble_eq_true rfl)
  rw [show entryFrame m args 6 = entryFrame m ([.ref (gA G 39), .int (nI k), .int (nI row), .int (nI col)] : List Value).toArray 6 from by rw [hargs], lg_entry_eq]
  generalize (lg_sl [.ref (gA G 39), .int (nI k), .int (nI row), .int (nI col)] ++ List.replicate (6 - (lg_sl [.ref (gA G 39), .int (nI k), .int (nI row), .int (nI col)]).length) Slot.unset).toArray = ls at hl ⊢
  have hl : lv_has ls 6 [(0, .ref (gA G 39)), (1, .int (nI k)), (2, .int (nI row)), (3, .int (nI col))] := hl
  refine lv_bipush (v := nI 64) S.1 S.2.1 dX8_seen_0 (by decide) ?_
  refine lv_iload_n S.1 S.2.1 dX8_seen_2 rfl (lv_at hl 1 rfl) ?_
  refine r_mulN S dX8_seen_3 ?_
  refine lv_iconst (v := nI 4) S.1 S.2.1 dX8_seen_4 (by decide) ?_
  refine lv_iload_n S.1 S.2.1 dX8_seen_5 rfl (lv_at hl 2 rfl) ?_
  refine r_mulN S dX8_seen_6 ?_
  refine r_addN S dX8_seen_7 ?_
  refine lv_iload_n S.1 S.2.1 dX8_seen_8 rfl (lv_at hl 3 rfl) ?_
  refine r_addN S dX8_seen_9 ?_
  refine lv_istore (lv' := [(4, .int (nI (((64 * k) + (4 * row)) + col))), (0, .ref (gA G 39)), (1, .int (nI k)), (2, .int (nI row)), (3, .int (nI col))]) S.1 S.2.1 dX8_seen_10 hl (by decide) rfl (fun ls hl => ?_)
  refine lv_aload_n S.1 S.2.1 dX8_seen_12 rfl (lv_at hl 1 rfl) ?_
  refine r_get (C := RX8) (T := TX8) (N := 19) (ci := 8) S Z (by decide) rfl rfl i_X8_seen_X8 0 (by decide) m_X8_seen_f7 rfl (v := .ref (gA G 40)) rfl dX8_seen_13 ?_
  refine lv_iload S.1 S.2.1 dX8_seen_16 (lv_at hl 0 rfl) ?_
  refine r_ialdM S Z (n := 256) ⟨rfl, rfl⟩ (by omega) (by decide) dX8_seen_18 ?_
  refine lv_aload_n S.1 S.2.1 dX8_seen_19 rfl (lv_at hl 1 rfl) ?_
  refine lv_iload_n S.1 S.2.1 dX8_seen_20 rfl (lv_at hl 2 rfl) ?_
  refine lv_iload_n S.1 S.2.1 dX8_seen_21 rfl (lv_at hl 3 rfl) ?_
  refine lv_iload_n S.1 S.2.1 dX8_seen_22 rfl (lv_at hl 4 rfl) ?_
  refine vp_callSi (va_runV (As := [.int (nI k), .int (nI row), .int (nI col)]) (rest := [.int (mI μ 40 (((64 * k) + (4 * row)) + col))]) S (k_X8_buried l G σ μ o k row col (by omega) (by omega) (by omega) hmr) (cwV 3 S.2.2.2.2 gX8_seen_X8_buried rfl rfl rfl ⟨rfl, hy_X8_buried⟩ ⟨Nat.le_of_ble_eq_true rfl, Nat.le_of_ble_eq_true rfl⟩) (wPc_V (q := (RX8, TX8, 19)) Z (by decide) rfl rfl) rfl rfl hl.1 rfl (lv_room (Nat.le_of_ble_eq_true rfl)) dX8_seen_23 ⟨Nat.le_of_ble_eq_true rfl, Nat.le_of_ble_eq_true rfl⟩).run (fun r_1 h_2 => ?_)
  rw [h_2]; clear h_2 r_1
  refine lv_icmp_le (tgt := 58) S.1 S.2.1 dX8_seen_26 (by decide) (fun c_3 => ?_) (fun c_3 => ?_)
  · skip
    refine lv_iconst (v := nI 0) S.1 S.2.1 dX8_seen_58 (by decide) ?_
    refine lv_istore (lv' := [(5, .int (nI 0)), (4, .int (nI (((64 * k) + (4 * row)) + col))), (0, .ref (gA G 39)), (1, .int (nI k)), (2, .int (nI row)), (3, .int (nI col))]) S.1 S.2.1 dX8_seen_59 hl (by decide) rfl (fun ls hl => ?_)
    refine lv_iload S.1 S.2.1 dX8_seen_61 (lv_at hl 0 rfl) ?_
    refine r_if_eqN S (tgt := 76) (by decide) dX8_seen_63 (by decide) (fun c_4 => ?_) (fun c_4 => absurd c_4 (by decide))
    refine lv_iconst (v := -1) S.1 S.2.1 dX8_seen_76 (by decide) ?_
    rw [hQ]
    exact W.iret (v := -1) S.1 S.2.1 hret (fun _ hT9 _ => ⟨_, rfl, (by first | (simp [bi, seeM, c_3]; done) | (simp [bi, seeM, c_3]; omega) | (simp [bi, seeM, ← Int32.not_le, c_3]; done)), hT9⟩) (fun _ h => nomatch h) dX8_seen_77
  · skip
    refine lv_aload_n S.1 S.2.1 dX8_seen_29 rfl (lv_at hl 1 rfl) ?_
    refine r_get (C := RX8) (T := TX8) (N := 19) (ci := 8) S Z (by decide) rfl rfl i_X8_seen_X8 2 (by decide) m_X8_seen_f16 rfl (v := .ref (gA G 42)) rfl dX8_seen_30 ?_
    refine lv_iload S.1 S.2.1 dX8_seen_33 (lv_at hl 0 rfl) ?_
    refine r_ialdM S Z (n := 256) ⟨rfl, rfl⟩ (by omega) (by decide) dX8_seen_35 ?_
    refine lv_iconst (v := -1) S.1 S.2.1 dX8_seen_36 (by decide) ?_
    refine lv_icmp_eq (tgt := 54) S.1 S.2.1 dX8_seen_37 (by decide) (fun c_5 => ?_) (fun c_5 => ?_)
    · skip
      refine lv_iconst (v := nI 1) S.1 S.2.1 dX8_seen_54 (by decide) ?_
      refine lv_goto (tgt := 59) S.1 S.2.1 dX8_seen_55 (by decide) ?_
      refine lv_istore (lv' := [(5, .int (nI 1)), (4, .int (nI (((64 * k) + (4 * row)) + col))), (0, .ref (gA G 39)), (1, .int (nI k)), (2, .int (nI row)), (3, .int (nI col))]) S.1 S.2.1 dX8_seen_59 hl (by decide) rfl (fun ls hl => ?_)
      refine lv_iload S.1 S.2.1 dX8_seen_61 (lv_at hl 0 rfl) ?_
      refine r_if_eqN S (tgt := 76) (by decide) dX8_seen_63 (by decide) (fun c_6 => absurd c_6 (by decide)) (fun c_6 => ?_)
      refine lv_aload_n S.1 S.2.1 dX8_seen_66 rfl (lv_at hl 2 rfl) ?_
      refine r_get (C := RX8) (T := TX8) (N := 19) (ci := 8) S Z (by decide) rfl rfl i_X8_seen_X8 1 (by decide) m_X8_seen_f13 rfl (v := .ref (gA G 41)) rfl dX8_seen_67 ?_
      refine lv_iload S.1 S.2.1 dX8_seen_70 (lv_at hl 1 rfl) ?_
      refine r_ialdM S Z (n := 256) ⟨rfl, rfl⟩ (by omega) (by decide) dX8_seen_72 ?_
      refine lv_goto (tgt := 77) S.1 S.2.1 dX8_seen_73 (by decide) ?_
      rw [hQ]
      exact W.iret (v := mI μ 41 (((64 * k) + (4 * row)) + col)) S.1 S.2.1 hret (fun _ hT9 _ => ⟨_, rfl, (by first | (simp [bi, seeM, c_3, c_5]; done) | (simp [bi, seeM, c_3, c_5]; omega) | (simp [bi, seeM, ← Int32.not_le, c_3, c_5]; done) | (simp [bi, seeM, c_3, eq_true c_5]; done)), hT9⟩) (fun _ h => nomatch h) dX8_seen_77
    · skip
      refine lv_aload_n S.1 S.2.1 dX8_seen_40 rfl (lv_at hl 1 rfl) ?_
      refine r_get (C := RX8) (T := TX8) (N := 19) (ci := 8) S Z (by decide) rfl rfl i_X8_seen_X8 2 (by decide) m_X8_seen_f16 rfl (v := .ref (gA G 42)) rfl dX8_seen_41 ?_
      refine lv_iload S.1 S.2.1 dX8_seen_44 (lv_at hl 0 rfl) ?_
      refine r_ialdM S Z (n := 256) ⟨rfl, rfl⟩ (by omega) (by decide) dX8_seen_46 ?_
      refine lv_aload_n S.1 S.2.1 dX8_seen_47 rfl (lv_at hl 1 rfl) ?_
      refine r_get (C := RX8) (T := TX8) (N := 19) (ci := 8) S Z (by decide) rfl rfl i_X8_seen_X8 14 (by decide) m_X8_seen_f83 rfl (v := .int (mV μ 14)) rfl dX8_seen_48 ?_
      refine lv_icmp_le (tgt := 58) S.1 S.2.1 dX8_seen_51 (by decide) (fun c_7 => ?_) (fun c_7 => ?_)
      · skip
        refine lv_iconst (v := nI 0) S.1 S.2.1 dX8_seen_58 (by decide) ?_
        refine lv_istore (lv' := [(5, .int (nI 0)), (4, .int (nI (((64 * k) + (4 * row)) + col))), (0, .ref (gA G 39)), (1, .int (nI k)), (2, .int (nI row)), (3, .int (nI col))]) S.1 S.2.1 dX8_seen_59 hl (by decide) rfl (fun ls hl => ?_)
        refine lv_iload S.1 S.2.1 dX8_seen_61 (lv_at hl 0 rfl) ?_
        refine r_if_eqN S (tgt := 76) (by decide) dX8_seen_63 (by decide) (fun c_8 => ?_) (fun c_8 => absurd c_8 (by decide))
        refine lv_iconst (v := -1) S.1 S.2.1 dX8_seen_76 (by decide) ?_
        rw [hQ]
        exact W.iret (v := -1) S.1 S.2.1 hret (fun _ hT9 _ => ⟨_, rfl, (by first | (simp [bi, seeM, c_3, c_5, c_7]; done) | (simp [bi, seeM, c_3, c_5, c_7]; omega) | (simp [bi, seeM, ← Int32.not_le, c_3, c_5, c_7]; done)), hT9⟩) (fun _ h => nomatch h) dX8_seen_77
      · skip
        refine lv_iconst (v := nI 1) S.1 S.2.1 dX8_seen_54 (by decide) ?_
        refine lv_goto (tgt := 59) S.1 S.2.1 dX8_seen_55 (by decide) ?_
        refine lv_istore (lv' := [(5, .int (nI 1)), (4, .int (nI (((64 * k) + (4 * row)) + col))), (0, .ref (gA G 39)), (1, .int (nI k)), (2, .int (nI row)), (3, .int (nI col))]) S.1 S.2.1 dX8_seen_59 hl (by decide) rfl (fun ls hl => ?_)
        refine lv_iload S.1 S.2.1 dX8_seen_61 (lv_at hl 0 rfl) ?_
        refine r_if_eqN S (tgt := 76) (by decide) dX8_seen_63 (by decide) (fun c_9 => absurd c_9 (by decide)) (fun c_9 => ?_)
        refine lv_aload_n S.1 S.2.1 dX8_seen_66 rfl (lv_at hl 2 rfl) ?_
        refine r_get (C := RX8) (T := TX8) (N := 19) (ci := 8) S Z (by decide) rfl rfl i_X8_seen_X8 1 (by decide) m_X8_seen_f13 rfl (v := .ref (gA G 41)) rfl dX8_seen_67 ?_
        refine lv_iload S.1 S.2.1 dX8_seen_70 (lv_at hl 1 rfl) ?_
        refine r_ialdM S Z (n := 256) ⟨rfl, rfl⟩ (by omega) (by decide) dX8_seen_72 ?_
        refine lv_goto (tgt := 77) S.1 S.2.1 dX8_seen_73 (by decide) ?_
        rw [hQ]
        exact W.iret (v := mI μ 41 (((64 * k) + (4 * row)) + col)) S.1 S.2.1 hret (fun _ hT9 _ => ⟨_, rfl, (by first | (simp [bi, seeM, c_3, c_5, c_7]; done) | (simp [bi, seeM, c_3, c_5, c_7]; omega) | (simp [bi, seeM, ← Int32.not_le, c_3, c_5, c_7]; done)), hT9⟩) (fun _ h => nomatch h) dX8_seen_77

theorem i_X8_areSameEntries_X8 : ∀ w ∈ wsX80, w ∈ wsX8_areSameEntries := by decide +kernel
theorem m_X8_areSameEntries_f7 : Cond.fieldLink RX8 7 "WideCellModel" "stamp" "[I" ∈ wsX8_areSameEntries := by decide +kernel
theorem m_X8_areSameEntries_f13 : Cond.fieldLink RX8 13 "WideCellModel" "value" "[I" ∈ wsX8_areSameEntries := by decide +kernel
theorem m_X8_areSameEntries_f16 : Cond.fieldLink RX8 16 "WideCellModel" "end" "[I" ∈ wsX8_areSameEntries := by decide +kernel
abbrev rm_k_X8_areSameEntries : Room := { frames := 0, cells := 0, slots := 0, locals := 0 }
set_option maxHeartbeats 4000000 in
set_option maxRecDepth 100000 in
theorem k_X8_areSameEntries (l : Launch) (G : wG) (σ : cS) (μ : mS) (o : Nat → Int64) (k : Nat) (j : Nat) (q : Nat) (hk : k < 4) (hj : j < 4) (hq : q < 64) : Met l yX8_areSameEntries wsX8_areSameEntries rm_k_X8_areSameEntries (wPc G σ μ o [.ref (gA G 39), .int (nI k), .int (nI j), .int (nI q)]) (vp_Si (fun rr => rr = bi (saE2 μ k j q))) 0 0 (fun _ => False) := by
  refine Met.ofW (cc := cX8_areSameEntries) (maxL := 6) (ret := (some .boolean)) (by decide) rfl ?_
  intro p e s m args below meth c s₁ B hml hv
  obtain ⟨hargs, hI⟩ := hv
  have S : CallFix p m c cX8_areSameEntries 6 s args wsX8_areSameEntries RX8 := ⟨B.exec, B.bytes, hml, findClass_of_methodNamed B.named, atoms_spec (ws := wsX8_areSameEntries) B.pre⟩
  have hret := B.returns
  have hlocks := B.notSynchronized
  have Z := wZ_0 hI
  clear hI
  obtain ⟨Q, hQ⟩ : ∃ Q, Q = MQ below (vp_Si (fun rr => rr = bi (saE2 μ k j q))) args s 0 0 (fun _ => False) := ⟨_, rfl⟩
  rw [← hQ]
  have hl := lv_entry [.ref (gA G 39), .int (nI k), .int (nI j), .int (nI q)] (n := 6) (Nat.le_of_ble_eq_true rfl)
  rw [show entryFrame m args 6 = entryFrame m ([.ref (gA G 39), .int (nI k), .int (nI j), .int (nI q)] : List Value).toArray 6 from by rw [hargs], lg_entry_eq]
  generalize (lg_sl [.ref (gA G 39), .int (nI k), .int (nI j), .int (nI q)] ++ List.replicate (6 - (lg_sl [.ref (gA G 39), .int (nI k), .int (nI j), .int (nI q)]).length) Slot.unset).toArray = ls at hl ⊢
  have hl : lv_has ls 6 [(0, .ref (gA G 39)), (1, .int (nI k)), (2, .int (nI j)), (3, .int (nI q))] := hl
  refine lv_bipush (v := nI 64) S.1 S.2.1 dX8_areSameEntries_0 (by decide) ?_
  refine lv_iload_n S.1 S.2.1 dX8_areSameEntries_2 rfl (lv_at hl 1 rfl) ?_
  refine r_mulN S dX8_areSameEntries_3 ?_
  refine lv_iload_n S.1 S.2.1 dX8_areSameEntries_4 rfl (lv_at hl 3 rfl) ?_
  refine r_addN S dX8_areSameEntries_5 ?_
  refine lv_istore (lv' := [(4, .int (nI ((64 * k) + q))), (0, .ref (gA G 39)), (1, .int (nI k)), (2, .int (nI j)), (3, .int (nI q))]) S.1 S.2.1 dX8_areSameEntries_6 hl (by decide) rfl (fun ls hl => ?_)
  refine lv_bipush (v := nI 64) S.1 S.2.1 dX8_areSameEntries_8 (by decide) ?_
  refine lv_iload_n S.1 S.2.1 dX8_areSameEntries_10 rfl (lv_at hl 3 rfl) ?_
  refine r_mulN S dX8_areSameEntries_11 ?_
  refine lv_iload_n S.1 S.2.1 dX8_areSameEntries_12 rfl (lv_at hl 4 rfl) ?_
  refine r_addN S dX8_areSameEntries_13 ?_
  refine lv_istore (lv' := [(5, .int (nI ((64 * j) + q))), (4, .int (nI ((64 * k) + q))), (0, .ref (gA G 39)), (1, .int (nI k)), (2, .int (nI j)), (3, .int (nI q))]) S.1 S.2.1 dX8_areSameEntries_14 hl (by decide) rfl (fun ls hl => ?_)
  refine lv_aload_n S.1 S.2.1 dX8_areSameEntries_16 rfl (lv_at hl 2 rfl) ?_
  refine r_get (C := RX8) (T := TX8) (N := 19) (ci := 8) S Z (by decide) rfl rfl i_X8_areSameEntries_X8 0 (by decide) m_X8_areSameEntries_f7 rfl (v := .ref (gA G 40)) rfl dX8_areSameEntries_17 ?_
  refine lv_iload S.1 S.2.1 dX8_areSameEntries_20 (lv_at hl 1 rfl) ?_
  refine r_ialdM S Z (n := 256) ⟨rfl, rfl⟩ (by omega) (by decide) dX8_areSameEntries_22 ?_
  refine lv_aload_n S.1 S.2.1 dX8_areSameEntries_23 rfl (lv_at hl 2 rfl) ?_
  refine r_get (C := RX8) (T := TX8) (N := 19) (ci := 8) S Z (by decide) rfl rfl i_X8_areSameEntries_X8 0 (by decide) m_X8_areSameEntries_f7 rfl (v := .ref (gA G 40)) rfl dX8_areSameEntries_24 ?_
  refine lv_iload S.1 S.2.1 dX8_areSameEntries_27 (lv_at hl 0 rfl) ?_
  refine r_ialdM S Z (n := 256) ⟨rfl, rfl⟩ (by omega) (by decide) dX8_areSameEntries_29 ?_
  refine lv_icmp_ne (tgt := 82) S.1 S.2.1 dX8_areSameEntries_30 (by decide) (fun c_1 => ?_) (fun c_1 => ?_)
  · skip
    refine lv_iconst (v := nI 0) S.1 S.2.1 dX8_areSameEntries_82 (by decide) ?_
    rw [hQ]
    exact W.zret (v := nI 0) S.1 S.2.1 hret rfl (fun _ hT9 _ => ⟨_, rfl, (by first | (simp [bi, saE2, c_1]; done) | (simp [bi, saE2, c_1]; omega) | (simp [bi, saE2, ← Int32.not_le, c_1]; done)), hT9⟩) (fun _ h => nomatch h) dX8_areSameEntries_83
  · skip
    refine lv_aload_n S.1 S.2.1 dX8_areSameEntries_33 rfl (lv_at hl 2 rfl) ?_
    refine r_get (C := RX8) (T := TX8) (N := 19) (ci := 8) S Z (by decide) rfl rfl i_X8_areSameEntries_X8 0 (by decide) m_X8_areSameEntries_f7 rfl (v := .ref (gA G 40)) rfl dX8_areSameEntries_34 ?_
    refine lv_iload S.1 S.2.1 dX8_areSameEntries_37 (lv_at hl 1 rfl) ?_
    refine r_ialdM S Z (n := 256) ⟨rfl, rfl⟩ (by omega) (by decide) dX8_areSameEntries_39 ?_
    refine lv_iconst (v := -1) S.1 S.2.1 dX8_areSameEntries_40 (by decide) ?_
    refine lv_icmp_eq (tgt := 78) S.1 S.2.1 dX8_areSameEntries_41 (by decide) (fun c_2 => ?_) (fun c_2 => ?_)
    · skip
      refine lv_iconst (v := nI 1) S.1 S.2.1 dX8_areSameEntries_78 (by decide) ?_
      refine lv_goto (tgt := 83) S.1 S.2.1 dX8_areSameEntries_79 (by decide) ?_
      rw [hQ]
      exact W.zret (v := nI 1) S.1 S.2.1 hret rfl (fun _ hT9 _ => ⟨_, rfl, (by first | (simp [bi, saE2, c_1, c_2]; done) | (simp [bi, saE2, c_1, c_2]; omega) | (simp [bi, saE2, ← Int32.not_le, c_1, c_2]; done) | (simp [bi, saE2, eq_true c_1, eq_true c_2]; done)), hT9⟩) (fun _ h => nomatch h) dX8_areSameEntries_83
    · skip
      refine lv_aload_n S.1 S.2.1 dX8_areSameEntries_44 rfl (lv_at hl 2 rfl) ?_
      refine r_get (C := RX8) (T := TX8) (N := 19) (ci := 8) S Z (by decide) rfl rfl i_X8_areSameEntries_X8 1 (by decide) m_X8_areSameEntries_f13 rfl (v := .ref (gA G 41)) rfl dX8_areSameEntries_45 ?_
      refine lv_iload S.1 S.2.1 dX8_areSameEntries_48 (lv_at hl 1 rfl) ?_
      refine r_ialdM S Z (n := 256) ⟨rfl, rfl⟩ (by omega) (by decide) dX8_areSameEntries_50 ?_
      refine lv_aload_n S.1 S.2.1 dX8_areSameEntries_51 rfl (lv_at hl 2 rfl) ?_
      refine r_get (C := RX8) (T := TX8) (N := 19) (ci := 8) S Z (by decide) rfl rfl i_X8_areSameEntries_X8 1 (by decide) m_X8_areSameEntries_f13 rfl (v := .ref (gA G 41)) rfl dX8_areSameEntries_52 ?_
      refine lv_iload S.1 S.2.1 dX8_areSameEntries_55 (lv_at hl 0 rfl) ?_
      refine r_ialdM S Z (n := 256) ⟨rfl, rfl⟩ (by omega) (by decide) dX8_areSameEntries_57 ?_
      refine lv_icmp_ne (tgt := 82) S.1 S.2.1 dX8_areSameEntries_58 (by decide) (fun c_3 => ?_) (fun c_3 => ?_)
      · skip
        refine lv_iconst (v := nI 0) S.1 S.2.1 dX8_areSameEntries_82 (by decide) ?_
        rw [hQ]
        exact W.zret (v := nI 0) S.1 S.2.1 hret rfl (fun _ hT9 _ => ⟨_, rfl, (by first | (simp [bi, saE2, c_1, c_2, c_3]; done) | (simp [bi, saE2, c_1, c_2, c_3]; omega) | (simp [bi, saE2, ← Int32.not_le, c_1, c_2, c_3]; done) | (simp [bi, saE2, eq_true c_1, c_2, c_3]; done)), hT9⟩) (fun _ h => nomatch h) dX8_areSameEntries_83
      · skip
        refine lv_aload_n S.1 S.2.1 dX8_areSameEntries_61 rfl (lv_at hl 2 rfl) ?_
        refine r_get (C := RX8) (T := TX8) (N := 19) (ci := 8) S Z (by decide) rfl rfl i_X8_areSameEntries_X8 2 (by decide) m_X8_areSameEntries_f16 rfl (v := .ref (gA G 42)) rfl dX8_areSameEntries_62 ?_
        refine lv_iload S.1 S.2.1 dX8_areSameEntries_65 (lv_at hl 1 rfl) ?_
        refine r_ialdM S Z (n := 256) ⟨rfl, rfl⟩ (by omega) (by decide) dX8_areSameEntries_67 ?_
        refine lv_aload_n S.1 S.2.1 dX8_areSameEntries_68 rfl (lv_at hl 2 rfl) ?_
        refine r_get (C := RX8) (T := TX8) (N := 19) (ci := 8) S Z (by decide) rfl rfl i_X8_areSameEntries_X8 2 (by decide) m_X8_areSameEntries_f16 rfl (v := .ref (gA G 42)) rfl dX8_areSameEntries_69 ?_
        refine lv_iload S.1 S.2.1 dX8_areSameEntries_72 (lv_at hl 0 rfl) ?_
        refine r_ialdM S Z (n := 256) ⟨rfl, rfl⟩ (by omega) (by decide) dX8_areSameEntries_74 ?_
        refine lv_icmp_ne (tgt := 82) S.1 S.2.1 dX8_areSameEntries_75 (by decide) (fun c_4 => ?_) (fun c_4 => ?_)
        · skip
          refine lv_iconst (v := nI 0) S.1 S.2.1 dX8_areSameEntries_82 (by decide) ?_
          rw [hQ]
          exact W.zret (v := nI 0) S.1 S.2.1 hret rfl (fun _ hT9 _ => ⟨_, rfl, (by first | (simp [bi, saE2, c_1, c_2, c_3, c_4]; done) | (simp [bi, saE2, c_1, c_2, c_3, c_4]; omega) | (simp [bi, saE2, ← Int32.not_le, c_1, c_2, c_3, c_4]; done) | (simp [bi, saE2, eq_true c_1, c_2, eq_true c_3, c_4]; done)), hT9⟩) (fun _ h => nomatch h) dX8_areSameEntries_83
        · skip
          refine lv_iconst (v := nI 1) S.1 S.2.1 dX8_areSameEntries_78 (by decide) ?_
          refine lv_goto (tgt := 83) S.1 S.2.1 dX8_areSameEntries_79 (by decide) ?_
          rw [hQ]
          exact W.zret (v := nI 1) S.1 S.2.1 hret rfl (fun _ hT9 _ => ⟨_, rfl, (by first | (simp [bi, saE2, c_1, c_2, c_3, c_4]; done) | (simp [bi, saE2, c_1, c_2, c_3, c_4]; omega) | (simp [bi, saE2, ← Int32.not_le, c_1, c_2, c_3, c_4]; done) | (simp [bi, saE2, eq_true c_1, c_2, eq_true c_3, eq_true c_4]; done)), hT9⟩) (fun _ h => nomatch h) dX8_areSameEntries_83

theorem i_X8_areSameTombs_X8 : ∀ w ∈ wsX80, w ∈ wsX8_areSameTombs := by decide +kernel
theorem m_X8_areSameTombs_f19 : Cond.fieldLink RX8 19 "WideCellModel" "tomb" "[I" ∈ wsX8_areSameTombs := by decide +kernel
theorem m_X8_areSameTombs_f22 : Cond.fieldLink RX8 22 "WideCellModel" "made" "[I" ∈ wsX8_areSameTombs := by decide +kernel
abbrev rm_k_X8_areSameTombs : Room := { frames := 0, cells := 0, slots := 0, locals := 0 }
set_option maxHeartbeats 4000000 in
set_option maxRecDepth 100000 in
theorem k_X8_areSameTombs (l : Launch) (G : wG) (σ : cS) (μ : mS) (o : Nat → Int64) (k : Nat) (j : Nat) (q : Nat) (hk : k < 4) (hj : j < 4) (hr : q < 92) : Met l yX8_areSameTombs wsX8_areSameTombs rm_k_X8_areSameTombs (wPc G σ μ o [.ref (gA G 39), .int (nI k), .int (nI j), .int (nI q)]) (vp_Si (fun rr => rr = bi (saT2 μ k j q))) 0 0 (fun _ => False) := by
  refine Met.ofW (cc := cX8_areSameTombs) (maxL := 6) (ret := (some .boolean)) (by decide) rfl ?_
  intro p e s m args below meth c s₁ B hml hv
  obtain ⟨hargs, hI⟩ := hv
  have S : CallFix p m c cX8_areSameTombs 6 s args wsX8_areSameTombs RX8 := ⟨B.exec, B.bytes, hml, findClass_of_methodNamed B.named, atoms_spec (ws := wsX8_areSameTombs) B.pre⟩
  have hret := B.returns
  have hlocks := B.notSynchronized
  have Z := wZ_0 hI
  clear hI
  obtain ⟨Q, hQ⟩ : ∃ Q, Q = MQ below (vp_Si (fun rr => rr = bi (saT2 μ k j q))) args s 0 0 (fun _ => False) := ⟨_, rfl⟩
  rw [← hQ]
  have hl := lv_entry [.ref (gA G 39), .int (nI k), .int (nI j), .int (nI q)] (n := 6) (Nat.le_of_ble_eq_true rfl)
  rw [show entryFrame m args 6 = entryFrame m ([.ref (gA G 39), .int (nI k), .int (nI j), .int (nI q)] : List Value).toArray 6 from by rw [hargs], lg_entry_eq]
  generalize (lg_sl [.ref (gA G 39), .int (nI k), .int (nI j), .int (nI q)] ++ List.replicate (6 - (lg_sl [.ref (gA G 39), .int (nI k), .int (nI j), .int (nI q)]).length) Slot.unset).toArray = ls at hl ⊢
  have hl : lv_has ls 6 [(0, .ref (gA G 39)), (1, .int (nI k)), (2, .int (nI j)), (3, .int (nI q))] := hl
  refine lv_bipush (v := nI 92) S.1 S.2.1 dX8_areSameTombs_0 (by decide) ?_
  refine lv_iload_n S.1 S.2.1 dX8_areSameTombs_2 rfl (lv_at hl 1 rfl) ?_
  refine r_mulN S dX8_areSameTombs_3 ?_
  refine lv_iload_n S.1 S.2.1 dX8_areSameTombs_4 rfl (lv_at hl 3 rfl) ?_
  refine r_addN S dX8_areSameTombs_5 ?_
  refine lv_istore (lv' := [(4, .int (nI ((92 * k) + q))), (0, .ref (gA G 39)), (1, .int (nI k)), (2, .int (nI j)), (3, .int (nI q))]) S.1 S.2.1 dX8_areSameTombs_6 hl (by decide) rfl (fun ls hl => ?_)
  refine lv_bipush (v := nI 92) S.1 S.2.1 dX8_areSameTombs_8 (by decide) ?_
  refine lv_iload_n S.1 S.2.1 dX8_areSameTombs_10 rfl (lv_at hl 3 rfl) ?_
  refine r_mulN S dX8_areSameTombs_11 ?_
  refine lv_iload_n S.1 S.2.1 dX8_areSameTombs_12 rfl (lv_at hl 4 rfl) ?_
  refine r_addN S dX8_areSameTombs_13 ?_
  refine lv_istore (lv' := [(5, .int (nI ((92 * j) + q))), (4, .int (nI ((92 * k) + q))), (0, .ref (gA G 39)), (1, .int (nI k)), (2, .int (nI j)), (3, .int (nI q))]) S.1 S.2.1 dX8_areSameTombs_14 hl (by decide) rfl (fun ls hl => ?_)
  refine lv_aload_n S.1 S.2.1 dX8_areSameTombs_16 rfl (lv_at hl 2 rfl) ?_
  refine r_get (C := RX8) (T := TX8) (N := 19) (ci := 8) S Z (by decide) rfl rfl i_X8_areSameTombs_X8 3 (by decide) m_X8_areSameTombs_f19 rfl (v := .ref (gA G 43)) rfl dX8_areSameTombs_17 ?_
  refine lv_iload S.1 S.2.1 dX8_areSameTombs_20 (lv_at hl 1 rfl) ?_
  refine r_ialdM S Z (n := 368) ⟨rfl, rfl⟩ (by omega) (by decide) dX8_areSameTombs_22 ?_
  refine lv_aload_n S.1 S.2.1 dX8_areSameTombs_23 rfl (lv_at hl 2 rfl) ?_
  refine r_get (C := RX8) (T := TX8) (N := 19) (ci := 8) S Z (by decide) rfl rfl i_X8_areSameTombs_X8 3 (by decide) m_X8_areSameTombs_f19 rfl (v := .ref (gA G 43)) rfl dX8_areSameTombs_24 ?_
  refine lv_iload S.1 S.2.1 dX8_areSameTombs_27 (lv_at hl 0 rfl) ?_
  refine r_ialdM S Z (n := 368) ⟨rfl, rfl⟩ (by omega) (by decide) dX8_areSameTombs_29 ?_
  refine lv_icmp_ne (tgt := 65) S.1 S.2.1 dX8_areSameTombs_30 (by decide) (fun c_1 => ?_) (fun c_1 => ?_)
  · skip
    refine lv_iconst (v := nI 0) S.1 S.2.1 dX8_areSameTombs_65 (by decide) ?_
    rw [hQ]
    exact W.zret (v := nI 0) S.1 S.2.1 hret rfl (fun _ hT9 _ => ⟨_, rfl, (by first | (simp [bi, saT2, c_1]; done) | (simp [bi, saT2, c_1]; omega) | (simp [bi, saT2, ← Int32.not_le, c_1]; done)), hT9⟩) (fun _ h => nomatch h) dX8_areSameTombs_66
  · skip
    refine lv_aload_n S.1 S.2.1 dX8_areSameTombs_33 rfl (lv_at hl 2 rfl) ?_
    refine r_get (C := RX8) (T := TX8) (N := 19) (ci := 8) S Z (by decide) rfl rfl i_X8_areSameTombs_X8 3 (by decide) m_X8_areSameTombs_f19 rfl (v := .ref (gA G 43)) rfl dX8_areSameTombs_34 ?_
    refine lv_iload S.1 S.2.1 dX8_areSameTombs_37 (lv_at hl 1 rfl) ?_
    refine r_ialdM S Z (n := 368) ⟨rfl, rfl⟩ (by omega) (by decide) dX8_areSameTombs_39 ?_
    refine lv_iconst (v := -1) S.1 S.2.1 dX8_areSameTombs_40 (by decide) ?_
    refine lv_icmp_eq (tgt := 61) S.1 S.2.1 dX8_areSameTombs_41 (by decide) (fun c_2 => ?_) (fun c_2 => ?_)
    · skip
      refine lv_iconst (v := nI 1) S.1 S.2.1 dX8_areSameTombs_61 (by decide) ?_
      refine lv_goto (tgt := 66) S.1 S.2.1 dX8_areSameTombs_62 (by decide) ?_
      rw [hQ]
      exact W.zret (v := nI 1) S.1 S.2.1 hret rfl (fun _ hT9 _ => ⟨_, rfl, (by first | (simp [bi, saT2, c_1, c_2]; done) | (simp [bi, saT2, c_1, c_2]; omega) | (simp [bi, saT2, ← Int32.not_le, c_1, c_2]; done) | (simp [bi, saT2, eq_true c_1, eq_true c_2]; done)), hT9⟩) (fun _ h => nomatch h) dX8_areSameTombs_66
    · skip
      refine lv_aload_n S.1 S.2.1 dX8_areSameTombs_44 rfl (lv_at hl 2 rfl) ?_
      refine r_get (C := RX8) (T := TX8) (N := 19) (ci := 8) S Z (by decide) rfl rfl i_X8_areSameTombs_X8 4 (by decide) m_X8_areSameTombs_f22 rfl (v := .ref (gA G 44)) rfl dX8_areSameTombs_45 ?_
      refine lv_iload S.1 S.2.1 dX8_areSameTombs_48 (lv_at hl 1 rfl) ?_
      refine r_ialdM S Z (n := 368) ⟨rfl, rfl⟩ (by omega) (by decide) dX8_areSameTombs_50 ?_
      refine lv_aload_n S.1 S.2.1 dX8_areSameTombs_51 rfl (lv_at hl 2 rfl) ?_
      refine r_get (C := RX8) (T := TX8) (N := 19) (ci := 8) S Z (by decide) rfl rfl i_X8_areSameTombs_X8 4 (by decide) m_X8_areSameTombs_f22 rfl (v := .ref (gA G 44)) rfl dX8_areSameTombs_52 ?_
      refine lv_iload S.1 S.2.1 dX8_areSameTombs_55 (lv_at hl 0 rfl) ?_
      refine r_ialdM S Z (n := 368) ⟨rfl, rfl⟩ (by omega) (by decide) dX8_areSameTombs_57 ?_
      refine lv_icmp_ne (tgt := 65) S.1 S.2.1 dX8_areSameTombs_58 (by decide) (fun c_3 => ?_) (fun c_3 => ?_)
      · skip
        refine lv_iconst (v := nI 0) S.1 S.2.1 dX8_areSameTombs_65 (by decide) ?_
        rw [hQ]
        exact W.zret (v := nI 0) S.1 S.2.1 hret rfl (fun _ hT9 _ => ⟨_, rfl, (by first | (simp [bi, saT2, c_1, c_2, c_3]; done) | (simp [bi, saT2, c_1, c_2, c_3]; omega) | (simp [bi, saT2, ← Int32.not_le, c_1, c_2, c_3]; done) | (simp [bi, saT2, eq_true c_1, c_2, c_3]; done)), hT9⟩) (fun _ h => nomatch h) dX8_areSameTombs_66
      · skip
        refine lv_iconst (v := nI 1) S.1 S.2.1 dX8_areSameTombs_61 (by decide) ?_
        refine lv_goto (tgt := 66) S.1 S.2.1 dX8_areSameTombs_62 (by decide) ?_
        rw [hQ]
        exact W.zret (v := nI 1) S.1 S.2.1 hret rfl (fun _ hT9 _ => ⟨_, rfl, (by first | (simp [bi, saT2, c_1, c_2, c_3]; done) | (simp [bi, saT2, c_1, c_2, c_3]; omega) | (simp [bi, saT2, ← Int32.not_le, c_1, c_2, c_3]; done) | (simp [bi, saT2, eq_true c_1, c_2, eq_true c_3]; done)), hT9⟩) (fun _ h => nomatch h) dX8_areSameTombs_66

theorem i_X8_gives_X8 : ∀ w ∈ wsX80, w ∈ wsX8_gives := by decide +kernel
theorem m_X8_gives_f7 : Cond.fieldLink RX8 7 "WideCellModel" "stamp" "[I" ∈ wsX8_gives := by decide +kernel
theorem m_X8_gives_f13 : Cond.fieldLink RX8 13 "WideCellModel" "value" "[I" ∈ wsX8_gives := by decide +kernel
theorem m_X8_gives_f16 : Cond.fieldLink RX8 16 "WideCellModel" "end" "[I" ∈ wsX8_gives := by decide +kernel
abbrev rm_k_X8_gives : Room := { frames := 2, cells := 0, slots := 0, locals := 48 }
set_option maxHeartbeats 4000000 in
set_option maxRecDepth 100000 in
theorem k_X8_gives (l : Launch) (G : wG) (σ : cS) (μ : mS) (o : Nat → Int64) (k : Nat) (j : Nat) (q : Nat) (hk : k < 4) (hj : j < 4) (hq : q < 64) : Met l yX8_gives wsX8_gives rm_k_X8_gives (wPc G σ μ o [.ref (gA G 39), .int (nI k), .int (nI j), .int (nI q)]) (va_Qv (fun u : cS × mS => u = (σ, givE μ k j q)) (fun u t => wI G u.1 u.2 o t) (gP G)) 0 0 (gP G) := by
  refine Met.ofW (cc := cX8_gives) (maxL := 5) (ret := none) (by decide) rfl ?_
  intro p e s m args below meth c s₁ B hml hv
  obtain ⟨hargs, hI⟩ := hv
  have S : CallFix p m c cX8_gives 5 s args wsX8_gives RX8 := ⟨B.exec, B.bytes, hml, findClass_of_methodNamed B.named, atoms_spec (ws := wsX8_gives) B.pre⟩
  have hret := B.returns
  have hlocks := B.notSynchronized
  have Z := wZ_0 hI
  clear hI
  obtain ⟨Q, hQ⟩ : ∃ Q, Q = MQ below (va_Qv (fun u : cS × mS => u = (σ, givE μ k j q)) (fun u t => wI G u.1 u.2 o t) (gP G)) args s 0 0 (gP G) := ⟨_, rfl⟩
  rw [← hQ]
  have hl := lv_entry [.ref (gA G 39), .int (nI k), .int (nI j), .int (nI q)] (n := 5) (Nat.le_of_ble_eq_true rfl)
  rw [show entryFrame m args 5 = entryFrame m ([.ref (gA G 39), .int (nI k), .int (nI j), .int (nI q)] : List Value).toArray 5 from by rw [hargs], lg_entry_eq]
  generalize (lg_sl [.ref (gA G 39), .int (nI k), .int (nI j), .int (nI q)] ++ List.replicate (5 - (lg_sl [.ref (gA G 39), .int (nI k), .int (nI j), .int (nI q)]).length) Slot.unset).toArray = ls at hl ⊢
  have hl : lv_has ls 5 [(0, .ref (gA G 39)), (1, .int (nI k)), (2, .int (nI j)), (3, .int (nI q))] := hl
  refine lv_bipush (v := nI 64) S.1 S.2.1 dX8_gives_0 (by decide) ?_
  refine lv_iload_n S.1 S.2.1 dX8_gives_2 rfl (lv_at hl 1 rfl) ?_
  refine r_mulN S dX8_gives_3 ?_
  refine lv_iload_n S.1 S.2.1 dX8_gives_4 rfl (lv_at hl 3 rfl) ?_
  refine r_addN S dX8_gives_5 ?_
  refine lv_istore (lv' := [(4, .int (nI ((64 * k) + q))), (0, .ref (gA G 39)), (1, .int (nI k)), (2, .int (nI j)), (3, .int (nI q))]) S.1 S.2.1 dX8_gives_6 hl (by decide) rfl (fun ls hl => ?_)
  refine lv_aload_n S.1 S.2.1 dX8_gives_8 rfl (lv_at hl 1 rfl) ?_
  refine r_get (C := RX8) (T := TX8) (N := 19) (ci := 8) S Z (by decide) rfl rfl i_X8_gives_X8 0 (by decide) m_X8_gives_f7 rfl (v := .ref (gA G 40)) rfl dX8_gives_9 ?_
  refine lv_iload S.1 S.2.1 dX8_gives_12 (lv_at hl 0 rfl) ?_
  refine r_ialdM S Z (n := 256) ⟨rfl, rfl⟩ (by omega) (by decide) dX8_gives_14 ?_
  refine lv_iconst (v := -1) S.1 S.2.1 dX8_gives_15 (by decide) ?_
  refine lv_icmp_eq (tgt := 46) S.1 S.2.1 dX8_gives_16 (by decide) (fun c_1 => ?_) (fun c_1 => ?_)
  · skip
    rw [hQ]
    have q8 : (givE μ k j q : mS) = μ := by first | (simp [givE, c_1]; done) | (simp [givE, c_1]; omega) | (simp [givE, ← Int32.not_le, c_1]; done) | (simp [givE, eq_true c_1]; done) | rfl
    rw [← q8] at Z
    exact W.vret S.1 S.2.1 hret (fun _ hT9 hW => ⟨⟨(σ, givE μ k j q), rfl, rfl, wZ_P Z hT9 hW⟩, Z.2.2.2.2.F hT9⟩) Z.2.2.2.2.2.2 dX8_gives_46
  · skip
    refine lv_aload_n S.1 S.2.1 dX8_gives_19 rfl (lv_at hl 1 rfl) ?_
    refine lv_iload_n S.1 S.2.1 dX8_gives_20 rfl (lv_at hl 3 rfl) ?_
    refine lv_iload_n S.1 S.2.1 dX8_gives_21 rfl (lv_at hl 4 rfl) ?_
    refine lv_aload_n S.1 S.2.1 dX8_gives_22 rfl (lv_at hl 1 rfl) ?_
    refine r_get (C := RX8) (T := TX8) (N := 19) (ci := 8) S Z (by decide) rfl rfl i_X8_gives_X8 0 (by decide) m_X8_gives_f7 rfl (v := .ref (gA G 40)) rfl dX8_gives_23 ?_
    refine lv_iload S.1 S.2.1 dX8_gives_26 (lv_at hl 0 rfl) ?_
    refine r_ialdM S Z (n := 256) ⟨rfl, rfl⟩ (by omega) (by decide) dX8_gives_28 ?_
    refine lv_aload_n S.1 S.2.1 dX8_gives_29 rfl (lv_at hl 1 rfl) ?_
    refine r_get (C := RX8) (T := TX8) (N := 19) (ci := 8) S Z (by decide) rfl rfl i_X8_gives_X8 1 (by decide) m_X8_gives_f13 rfl (v := .ref (gA G 41)) rfl dX8_gives_30 ?_
    refine lv_iload S.1 S.2.1 dX8_gives_33 (lv_at hl 0 rfl) ?_
    refine r_ialdM S Z (n := 256) ⟨rfl, rfl⟩ (by omega) (by decide) dX8_gives_35 ?_
    refine lv_aload_n S.1 S.2.1 dX8_gives_36 rfl (lv_at hl 1 rfl) ?_
    refine r_get (C := RX8) (T := TX8) (N := 19) (ci := 8) S Z (by decide) rfl rfl i_X8_gives_X8 2 (by decide) m_X8_gives_f16 rfl (v := .ref (gA G 42)) rfl dX8_gives_37 ?_
    refine lv_iload S.1 S.2.1 dX8_gives_40 (lv_at hl 0 rfl) ?_
    refine r_ialdM S Z (n := 256) ⟨rfl, rfl⟩ (by omega) (by decide) dX8_gives_42 ?_
    refine va_callv (va_runV (As := [.int (nI j), .int (nI q), .int (mI μ 40 ((64 * k) + q)), .int (mI μ 41 ((64 * k) + q)), .int (mI μ 42 ((64 * k) + q))]) (rest := []) S (k_X8_takeEntry l G σ μ o j q (mI μ 40 ((64 * k) + q)) (mI μ 41 ((64 * k) + q)) (mI μ 42 ((64 * k) + q)) (by omega) (by omega)) (cwV 5 S.2.2.2.2 gX8_gives_X8_takeEntry rfl rfl rfl ⟨rfl, hy_X8_takeEntry⟩ ⟨Nat.le_of_ble_eq_true rfl, Nat.le_of_ble_eq_true rfl⟩) (wPc_V (q := (RX8, TX8, 19)) Z (by decide) rfl rfl) rfl rfl hl.1 rfl (lv_room (Nat.le_of_ble_eq_true rfl)) dX8_gives_43 ⟨Nat.le_of_ble_eq_true rfl, Nat.le_of_ble_eq_true rfl⟩) Z.2.2.2.2 (fun _ _ h => h) (fun _ h => h) (fun u_3 T9 H1 locs1 hT9 hvm hw hB hz hk9 hS => ?_)
    subst hw
    have Z : wZ G (σ) (takE2 μ (64 * j + q) (mI μ 40 ((64 * k) + q)) (mI μ 41 ((64 * k) + q)) (mI μ 42 ((64 * k) + q))) o s H1 locs1 := wZ_callP Z hB hT9 hS
    clear hB hT9 hS hk9 hz hvm T9
    revert Z; generalize H1 = H; generalize locs1 = locs; intro Z
    refine W.widen (k := 0) (n := 0) (by decide) (by decide) ?_
    rw [hQ]
    have q8 : (givE μ k j q : mS) = takE2 μ (64 * j + q) (mI μ 40 ((64 * k) + q)) (mI μ 41 ((64 * k) + q)) (mI μ 42 ((64 * k) + q)) := by first | (simp [givE, c_1]; done) | (simp [givE, c_1]; omega) | (simp [givE, ← Int32.not_le, c_1]; done) | rfl
    rw [← q8] at Z
    exact W.vret S.1 S.2.1 hret (fun _ hT9 hW => ⟨⟨(σ, givE μ k j q), rfl, rfl, wZ_P Z hT9 hW⟩, Z.2.2.2.2.F hT9⟩) Z.2.2.2.2.2.2 dX8_gives_46

theorem i_X8_givesTomb_X8 : ∀ w ∈ wsX80, w ∈ wsX8_givesTomb := by decide +kernel
theorem m_X8_givesTomb_f19 : Cond.fieldLink RX8 19 "WideCellModel" "tomb" "[I" ∈ wsX8_givesTomb := by decide +kernel
theorem m_X8_givesTomb_f22 : Cond.fieldLink RX8 22 "WideCellModel" "made" "[I" ∈ wsX8_givesTomb := by decide +kernel
abbrev rm_k_X8_givesTomb : Room := { frames := 1, cells := 0, slots := 0, locals := 25 }
set_option maxHeartbeats 4000000 in
set_option maxRecDepth 100000 in
theorem k_X8_givesTomb (l : Launch) (G : wG) (σ : cS) (μ : mS) (o : Nat → Int64) (k : Nat) (j : Nat) (q : Nat) (hk : k < 4) (hj : j < 4) (hr : q < 92) : Met l yX8_givesTomb wsX8_givesTomb rm_k_X8_givesTomb (wPc G σ μ o [.ref (gA G 39), .int (nI k), .int (nI j), .int (nI q)]) (va_Qv (fun u : cS × mS => u = (σ, givT μ k j q)) (fun u t => wI G u.1 u.2 o t) (gP G)) 0 0 (gP G) := by
  refine Met.ofW (cc := cX8_givesTomb) (maxL := 5) (ret := none) (by decide) rfl ?_
  intro p e s m args below meth c s₁ B hml hv
  obtain ⟨hargs, hI⟩ := hv
  have S : CallFix p m c cX8_givesTomb 5 s args wsX8_givesTomb RX8 := ⟨B.exec, B.bytes, hml, findClass_of_methodNamed B.named, atoms_spec (ws := wsX8_givesTomb) B.pre⟩
  have hret := B.returns
  have hlocks := B.notSynchronized
  have Z := wZ_0 hI
  clear hI
  obtain ⟨Q, hQ⟩ : ∃ Q, Q = MQ below (va_Qv (fun u : cS × mS => u = (σ, givT μ k j q)) (fun u t => wI G u.1 u.2 o t) (gP G)) args s 0 0 (gP G) := ⟨_, rfl⟩
  rw [← hQ]
  have hl := lv_entry [.ref (gA G 39), .int (nI k), .int (nI j), .int (nI q)] (n := 5) (Nat.le_of_ble_eq_true rfl)
  rw [show entryFrame m args 5 = entryFrame m ([.ref (gA G 39), .int (nI k), .int (nI j), .int (nI q)] : List Value).toArray 5 from by rw [hargs], lg_entry_eq]
  generalize (lg_sl [.ref (gA G 39), .int (nI k), .int (nI j), .int (nI q)] ++ List.replicate (5 - (lg_sl [.ref (gA G 39), .int (nI k), .int (nI j), .int (nI q)]).length) Slot.unset).toArray = ls at hl ⊢
  have hl : lv_has ls 5 [(0, .ref (gA G 39)), (1, .int (nI k)), (2, .int (nI j)), (3, .int (nI q))] := hl
  refine lv_bipush (v := nI 92) S.1 S.2.1 dX8_givesTomb_0 (by decide) ?_
  refine lv_iload_n S.1 S.2.1 dX8_givesTomb_2 rfl (lv_at hl 1 rfl) ?_
  refine r_mulN S dX8_givesTomb_3 ?_
  refine lv_iload_n S.1 S.2.1 dX8_givesTomb_4 rfl (lv_at hl 3 rfl) ?_
  refine r_addN S dX8_givesTomb_5 ?_
  refine lv_istore (lv' := [(4, .int (nI ((92 * k) + q))), (0, .ref (gA G 39)), (1, .int (nI k)), (2, .int (nI j)), (3, .int (nI q))]) S.1 S.2.1 dX8_givesTomb_6 hl (by decide) rfl (fun ls hl => ?_)
  refine lv_aload_n S.1 S.2.1 dX8_givesTomb_8 rfl (lv_at hl 1 rfl) ?_
  refine r_get (C := RX8) (T := TX8) (N := 19) (ci := 8) S Z (by decide) rfl rfl i_X8_givesTomb_X8 3 (by decide) m_X8_givesTomb_f19 rfl (v := .ref (gA G 43)) rfl dX8_givesTomb_9 ?_
  refine lv_iload S.1 S.2.1 dX8_givesTomb_12 (lv_at hl 0 rfl) ?_
  refine r_ialdM S Z (n := 368) ⟨rfl, rfl⟩ (by omega) (by decide) dX8_givesTomb_14 ?_
  refine lv_iconst (v := -1) S.1 S.2.1 dX8_givesTomb_15 (by decide) ?_
  refine lv_icmp_eq (tgt := 39) S.1 S.2.1 dX8_givesTomb_16 (by decide) (fun c_1 => ?_) (fun c_1 => ?_)
  · skip
    rw [hQ]
    have q8 : (givT μ k j q : mS) = μ := by first | (simp [givT, c_1]; done) | (simp [givT, c_1]; omega) | (simp [givT, ← Int32.not_le, c_1]; done) | (simp [givT, eq_true c_1]; done) | rfl
    rw [← q8] at Z
    exact W.vret S.1 S.2.1 hret (fun _ hT9 hW => ⟨⟨(σ, givT μ k j q), rfl, rfl, wZ_P Z hT9 hW⟩, Z.2.2.2.2.F hT9⟩) Z.2.2.2.2.2.2 dX8_givesTomb_39
  · skip
    refine lv_aload_n S.1 S.2.1 dX8_givesTomb_19 rfl (lv_at hl 1 rfl) ?_
    refine lv_iload_n S.1 S.2.1 dX8_givesTomb_20 rfl (lv_at hl 3 rfl) ?_
    refine lv_iload_n S.1 S.2.1 dX8_givesTomb_21 rfl (lv_at hl 4 rfl) ?_
    refine lv_aload_n S.1 S.2.1 dX8_givesTomb_22 rfl (lv_at hl 1 rfl) ?_
    refine r_get (C := RX8) (T := TX8) (N := 19) (ci := 8) S Z (by decide) rfl rfl i_X8_givesTomb_X8 3 (by decide) m_X8_givesTomb_f19 rfl (v := .ref (gA G 43)) rfl dX8_givesTomb_23 ?_
    refine lv_iload S.1 S.2.1 dX8_givesTomb_26 (lv_at hl 0 rfl) ?_
    refine r_ialdM S Z (n := 368) ⟨rfl, rfl⟩ (by omega) (by decide) dX8_givesTomb_28 ?_
    refine lv_aload_n S.1 S.2.1 dX8_givesTomb_29 rfl (lv_at hl 1 rfl) ?_
    refine r_get (C := RX8) (T := TX8) (N := 19) (ci := 8) S Z (by decide) rfl rfl i_X8_givesTomb_X8 4 (by decide) m_X8_givesTomb_f22 rfl (v := .ref (gA G 44)) rfl dX8_givesTomb_30 ?_
    refine lv_iload S.1 S.2.1 dX8_givesTomb_33 (lv_at hl 0 rfl) ?_
    refine r_ialdM S Z (n := 368) ⟨rfl, rfl⟩ (by omega) (by decide) dX8_givesTomb_35 ?_
    refine va_callv (va_runV (As := [.int (nI j), .int (nI q), .int (mI μ 43 ((92 * k) + q)), .int (mI μ 44 ((92 * k) + q))]) (rest := []) S (k_X8_takeTomb l G σ μ o j q (mI μ 43 ((92 * k) + q)) (mI μ 44 ((92 * k) + q)) (by omega) (by omega)) (cwV 4 S.2.2.2.2 gX8_givesTomb_X8_takeTomb rfl rfl rfl ⟨rfl, hy_X8_takeTomb⟩ ⟨Nat.le_of_ble_eq_true rfl, Nat.le_of_ble_eq_true rfl⟩) (wPc_V (q := (RX8, TX8, 19)) Z (by decide) rfl rfl) rfl rfl hl.1 rfl (lv_room (Nat.le_of_ble_eq_true rfl)) dX8_givesTomb_36 ⟨Nat.le_of_ble_eq_true rfl, Nat.le_of_ble_eq_true rfl⟩) Z.2.2.2.2 (fun _ _ h => h) (fun _ h => h) (fun u_3 T9 H1 locs1 hT9 hvm hw hB hz hk9 hS => ?_)
    subst hw
    have Z : wZ G (σ) (takT2 μ (92 * j + q) (mI μ 43 ((92 * k) + q)) (mI μ 44 ((92 * k) + q))) o s H1 locs1 := wZ_callP Z hB hT9 hS
    clear hB hT9 hS hk9 hz hvm T9
    revert Z; generalize H1 = H; generalize locs1 = locs; intro Z
    refine W.widen (k := 0) (n := 0) (by decide) (by decide) ?_
    rw [hQ]
    have q8 : (givT μ k j q : mS) = takT2 μ (92 * j + q) (mI μ 43 ((92 * k) + q)) (mI μ 44 ((92 * k) + q)) := by first | (simp [givT, c_1]; done) | (simp [givT, c_1]; omega) | (simp [givT, ← Int32.not_le, c_1]; done) | rfl
    rw [← q8] at Z
    exact W.vret S.1 S.2.1 hret (fun _ hT9 hW => ⟨⟨(σ, givT μ k j q), rfl, rfl, wZ_P Z hT9 hW⟩, Z.2.2.2.2.F hT9⟩) Z.2.2.2.2.2.2 dX8_givesTomb_39
