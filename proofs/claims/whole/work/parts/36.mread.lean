theorem i_X8_read_X8 : ∀ w ∈ wsX80, w ∈ wsX8_read := by decide +kernel
theorem m_X8_read_f31 : Cond.fieldLink RX8 31 "WideCellModel" "isUp" "[Z" ∈ wsX8_read := by decide +kernel
theorem m_X8_read_f120 : Cond.fieldLink RX8 120 "WideCellModel" "repairs" "I" ∈ wsX8_read := by decide +kernel
abbrev rm_k_X8_read : Room := { frames := 4, cells := 0, slots := 0, locals := 96 }
set_option maxHeartbeats 4000000 in
set_option maxRecDepth 100000 in
theorem k_X8_read (l : Launch) (G : wG) (σ : cS) (μ : mS) (o : Nat → Int64) (k : Nat) (j : Nat) (row : Nat) (col : Nat) (hk3 : k < 3) (hj3 : j < 3) (hrow : row < 16) (hcol : col < 4) (hmr : mR μ ≤ 8) : Met l yX8_read wsX8_read rm_k_X8_read (wPc G σ μ o [.ref (gA G 39), .int (nI k), .int (nI j), .int (nI row), .int (nI col)]) (va_Qi (fun (rr : Int32) (u : cS × mS) => rr = rdR μ k j row col ∧ u = (σ, rdF μ k j row col)) (fun u t => wI G u.1 u.2 o t) (gP G)) 0 0 (gP G) := by
  refine Met.ofW (cc := cX8_read) (maxL := 9) (ret := (some .int)) (by decide) rfl ?_
  intro p e s m args below meth c s₁ B hml hv
  obtain ⟨hargs, hI⟩ := hv
  have S : CallFix p m c cX8_read 9 s args wsX8_read RX8 := ⟨B.exec, B.bytes, hml, findClass_of_methodNamed B.named, atoms_spec (ws := wsX8_read) B.pre⟩
  have hret := B.returns
  have hlocks := B.notSynchronized
  have Z := wZ_0 hI
  clear hI
  obtain ⟨Q, hQ⟩ : ∃ Q, Q = MQ below (va_Qi (fun (rr : Int32) (u : cS × mS) => rr = rdR μ k j row col ∧ u = (σ, rdF μ k j row col)) (fun u t => wI G u.1 u.2 o t) (gP G)) args s 0 0 (gP G) := ⟨_, rfl⟩
  rw [← hQ]
  have hl := lv_entry [.ref (gA G 39), .int (nI k), .int (nI j), .int (nI row), .int (nI col)] (n := 9) (Nat.le_of_ble_eq_true rfl)
  rw [show entryFrame m args 9 = entryFrame m ([.ref (gA G 39), .int (nI k), .int (nI j), .int (nI row), .int (nI col)] : List Value).toArray 9 from by rw [hargs], lg_entry_eq]
  generalize (lg_sl [.ref (gA G 39), .int (nI k), .int (nI j), .int (nI row), .int (nI col)] ++ List.replicate (9 - (lg_sl [.ref (gA G 39), .int (nI k), .int (nI j), .int (nI row), .int (nI col)]).length) Slot.unset).toArray = ls at hl ⊢
  have hl : lv_has ls 9 [(0, .ref (gA G 39)), (1, .int (nI k)), (2, .int (nI j)), (3, .int (nI row)), (4, .int (nI col))] := hl
  refine lv_iload_n S.1 S.2.1 dX8_read_0 rfl (lv_at hl 1 rfl) ?_
  refine vp_callSi (va_runS (As := [.int (nI k)]) (rest := []) S (k_X8_isCopy l G σ μ o (nI k) ) (va_cwS 1 S.2.2.2.2 gX8_read_X8_isCopy rfl rfl rfl hy_X8_isCopy ⟨Nat.le_of_ble_eq_true rfl, Nat.le_of_ble_eq_true rfl⟩) (wPc_S Z) rfl rfl hl.1 rfl (lv_room (Nat.le_of_ble_eq_true rfl)) dX8_read_1 ⟨Nat.le_of_ble_eq_true rfl, Nat.le_of_ble_eq_true rfl⟩).run (fun r_1 h_2 => ?_)
  rw [h_2]; clear h_2 r_1
  refine r_if_eqB S (tgt := 27) dX8_read_4 (by decide) (fun c_3 => absurd c_3 (by rw [isCopyB_ok hk3]; decide)) (fun c_3 => ?_)
  refine lv_iload_n S.1 S.2.1 dX8_read_7 rfl (lv_at hl 2 rfl) ?_
  refine vp_callSi (va_runS (As := [.int (nI j)]) (rest := []) S (k_X8_isCopy l G σ μ o (nI j) ) (va_cwS 1 S.2.2.2.2 gX8_read_X8_isCopy rfl rfl rfl hy_X8_isCopy ⟨Nat.le_of_ble_eq_true rfl, Nat.le_of_ble_eq_true rfl⟩) (wPc_S Z) rfl rfl hl.1 rfl (lv_room (Nat.le_of_ble_eq_true rfl)) dX8_read_8 ⟨Nat.le_of_ble_eq_true rfl, Nat.le_of_ble_eq_true rfl⟩).run (fun r_4 h_5 => ?_)
  rw [h_5]; clear h_5 r_4
  refine r_if_eqB S (tgt := 27) dX8_read_11 (by decide) (fun c_6 => absurd c_6 (by rw [isCopyB_ok hj3]; decide)) (fun c_6 => ?_)
  refine lv_iload_n S.1 S.2.1 dX8_read_14 rfl (lv_at hl 3 rfl) ?_
  refine lv_iload S.1 S.2.1 dX8_read_15 (lv_at hl 4 rfl) ?_
  refine vp_callSi (va_runS (As := [.int (nI row), .int (nI col)]) (rest := []) S (k_X8_isCell l G σ μ o (nI row) (nI col) ) (va_cwS 2 S.2.2.2.2 gX8_read_X8_isCell rfl rfl rfl hy_X8_isCell ⟨Nat.le_of_ble_eq_true rfl, Nat.le_of_ble_eq_true rfl⟩) (wPc_S Z) rfl rfl hl.1 rfl (lv_room (Nat.le_of_ble_eq_true rfl)) dX8_read_17 ⟨Nat.le_of_ble_eq_true rfl, Nat.le_of_ble_eq_true rfl⟩).run (fun r_7 h_8 => ?_)
  rw [h_8]; clear h_8 r_7
  refine r_if_eqB S (tgt := 27) dX8_read_20 (by decide) (fun c_9 => absurd c_9 (by rw [isCellB_ok hrow hcol]; decide)) (fun c_9 => ?_)
  refine lv_iconst (v := nI 1) S.1 S.2.1 dX8_read_23 (by decide) ?_
  refine lv_goto (tgt := 28) S.1 S.2.1 dX8_read_24 (by decide) ?_
  refine lv_istore (lv' := [(5, .int (nI 1)), (0, .ref (gA G 39)), (1, .int (nI k)), (2, .int (nI j)), (3, .int (nI row)), (4, .int (nI col))]) S.1 S.2.1 dX8_read_28 hl (by decide) rfl (fun ls hl => ?_)
  have L_30 : ∀   (H : Heap) (locs : List Loc) (Z : wZ G (σ) (μ) o s H locs) (ls : Array Slot) (hl : lv_has ls 9 [(0, .ref (gA G 39)), (1, .int (nI k)), (2, .int (nI j)), (3, .int (nI row)), (4, .int (nI col)), (5, .int (bi true))]), W p l e (headSpec wsX8_read rm_k_X8_read).room s m args below meth c H locs 0 0 Q (F0 m 30 ls []) := by
    intro   H locs Z ls hl
    refine lv_aload_n S.1 S.2.1 dX8_read_30 rfl (lv_at hl 0 rfl) ?_
    refine lv_iload S.1 S.2.1 dX8_read_31 (lv_at hl 5 rfl) ?_
    refine r_if_neB S (tgt := 40) dX8_read_33 (by decide) (fun c_10 => ?_) (fun c_10 => absurd c_10 (by decide))
    refine lv_iload_n S.1 S.2.1 dX8_read_40 rfl (lv_at hl 1 rfl) ?_
    refine lv_iload_n S.1 S.2.1 dX8_read_41 rfl (lv_at hl 2 rfl) ?_
    refine r_icmpN_ne S (tgt := 49) (by omega) (by omega) dX8_read_42 (by decide) (fun c_11 => ?_) (fun c_11 => ?_)
    · skip
      refine lv_aload_n S.1 S.2.1 dX8_read_49 rfl (lv_at hl 0 rfl) ?_
      refine r_get (C := RX8) (T := TX8) (N := 19) (ci := 8) S Z (by decide) rfl rfl i_X8_read_X8 8 (by decide) m_X8_read_f31 rfl (v := .ref (gA G 47)) rfl dX8_read_50 ?_
      refine lv_iload_n S.1 S.2.1 dX8_read_53 rfl (lv_at hl 1 rfl) ?_
      refine r_zald (k := 47) (n := 4) (f := fun j => bi (mU μ j)) S Z (by decide) rfl (by omega) (by decide) dX8_read_54 ?_
      refine r_if_eqB S (tgt := 71) dX8_read_55 (by decide) (fun c_12 => ?_) (fun c_12 => ?_)
      · skip
        refine lv_iconst (v := nI 3) S.1 S.2.1 dX8_read_71 (by decide) ?_
        refine va_calli (va_runV (As := [.int (nI 3)]) (rest := []) S (k_X8_can l G σ μ o 3 (by omega)) (cwV 1 S.2.2.2.2 gX8_read_X8_can rfl rfl rfl ⟨rfl, hy_X8_can⟩ ⟨Nat.le_of_ble_eq_true rfl, Nat.le_of_ble_eq_true rfl⟩) (wPc_V (q := (RX8, TX8, 19)) Z (by decide) rfl rfl) rfl rfl hl.1 rfl (lv_room (Nat.le_of_ble_eq_true rfl)) dX8_read_72 ⟨Nat.le_of_ble_eq_true rfl, Nat.le_of_ble_eq_true rfl⟩) Z.2.2.2.2 (fun _ _ h => h) (fun _ h => h) (fun r_13 u_14 T9 H1 locs1 hT9 hvm hw hB hz hk9 hS => ?_)
        obtain ⟨hr9, rfl⟩ := hw
        rw [hr9]; clear hr9 r_13
        have Z : wZ G (σ) (thr μ 3) o s H1 locs1 := wZ_callP Z hB hT9 hS
        clear hB hT9 hS hk9 hz hvm T9
        revert Z; generalize H1 = H; generalize locs1 = locs; intro Z
        refine W.widen (k := 0) (n := 0) (by decide) (by decide) ?_
        refine r_if_neB S (tgt := 80) dX8_read_75 (by decide) (fun c_15 => absurd c_15 (by decide)) (fun c_15 => ?_)
        refine lv_iconst (v := nI 0) S.1 S.2.1 dX8_read_78 (by decide) ?_
        rw [hQ]
        have q8 : (rdF μ k j row col : mS) = thr μ 3 := by first | (simp [bi, rdR, rdF, rdC, rdE, mU_thr, c_3, c_6, c_9, c_11, c_12]; done) | (simp [bi, rdR, rdF, rdC, rdE, mU_thr, c_3, c_6, c_9, c_11, c_12]; omega) | (simp [bi, rdR, rdF, rdC, rdE, mU_thr, ← Int32.not_le, c_3, c_6, c_9, c_11, c_12]; done) | (simp [bi, rdR, rdF, rdC, rdE, mU_thr, c_3, c_6, c_9, c_11, eq_true c_12]; done) | with_reducible rfl
        rw [← q8] at Z
        exact W.iret (v := nI 0) S.1 S.2.1 hret (fun _ hT9 hW => ⟨⟨_, (σ, rdF μ k j row col), rfl, ⟨(by first | (simp [bi, rdR, rdF, rdC, rdE, mU_thr, c_3, c_6, c_9, c_11, c_12]; done) | (simp [bi, rdR, rdF, rdC, rdE, mU_thr, c_3, c_6, c_9, c_11, c_12]; omega) | (simp [bi, rdR, rdF, rdC, rdE, mU_thr, ← Int32.not_le, c_3, c_6, c_9, c_11, c_12]; done) | (simp [bi, rdR, rdF, rdC, rdE, mU_thr, c_3, c_6, c_9, c_11, eq_true c_12]; done)), rfl⟩, wZ_P Z hT9 hW⟩, Z.2.2.2.2.F hT9⟩) Z.2.2.2.2.2.2 dX8_read_79
      · skip
        refine lv_aload_n S.1 S.2.1 dX8_read_58 rfl (lv_at hl 0 rfl) ?_
        refine r_get (C := RX8) (T := TX8) (N := 19) (ci := 8) S Z (by decide) rfl rfl i_X8_read_X8 8 (by decide) m_X8_read_f31 rfl (v := .ref (gA G 47)) rfl dX8_read_59 ?_
        refine lv_iload_n S.1 S.2.1 dX8_read_62 rfl (lv_at hl 2 rfl) ?_
        refine r_zald (k := 47) (n := 4) (f := fun j => bi (mU μ j)) S Z (by decide) rfl (by omega) (by decide) dX8_read_63 ?_
        refine r_if_eqB S (tgt := 71) dX8_read_64 (by decide) (fun c_16 => ?_) (fun c_16 => ?_)
        · skip
          refine lv_iconst (v := nI 3) S.1 S.2.1 dX8_read_71 (by decide) ?_
          refine va_calli (va_runV (As := [.int (nI 3)]) (rest := []) S (k_X8_can l G σ μ o 3 (by omega)) (cwV 1 S.2.2.2.2 gX8_read_X8_can rfl rfl rfl ⟨rfl, hy_X8_can⟩ ⟨Nat.le_of_ble_eq_true rfl, Nat.le_of_ble_eq_true rfl⟩) (wPc_V (q := (RX8, TX8, 19)) Z (by decide) rfl rfl) rfl rfl hl.1 rfl (lv_room (Nat.le_of_ble_eq_true rfl)) dX8_read_72 ⟨Nat.le_of_ble_eq_true rfl, Nat.le_of_ble_eq_true rfl⟩) Z.2.2.2.2 (fun _ _ h => h) (fun _ h => h) (fun r_17 u_18 T9 H1 locs1 hT9 hvm hw hB hz hk9 hS => ?_)
          obtain ⟨hr9, rfl⟩ := hw
          rw [hr9]; clear hr9 r_17
          have Z : wZ G (σ) (thr μ 3) o s H1 locs1 := wZ_callP Z hB hT9 hS
          clear hB hT9 hS hk9 hz hvm T9
          revert Z; generalize H1 = H; generalize locs1 = locs; intro Z
          refine W.widen (k := 0) (n := 0) (by decide) (by decide) ?_
          refine r_if_neB S (tgt := 80) dX8_read_75 (by decide) (fun c_19 => absurd c_19 (by decide)) (fun c_19 => ?_)
          refine lv_iconst (v := nI 0) S.1 S.2.1 dX8_read_78 (by decide) ?_
          rw [hQ]
          have q8 : (rdF μ k j row col : mS) = thr μ 3 := by first | (simp [bi, rdR, rdF, rdC, rdE, mU_thr, c_3, c_6, c_9, c_11, c_12, c_16]; done) | (simp [bi, rdR, rdF, rdC, rdE, mU_thr, c_3, c_6, c_9, c_11, c_12, c_16]; omega) | (simp [bi, rdR, rdF, rdC, rdE, mU_thr, ← Int32.not_le, c_3, c_6, c_9, c_11, c_12, c_16]; done) | (simp [bi, rdR, rdF, rdC, rdE, mU_thr, c_3, c_6, c_9, c_11, c_12, eq_true c_16]; done) | with_reducible rfl
          rw [← q8] at Z
          exact W.iret (v := nI 0) S.1 S.2.1 hret (fun _ hT9 hW => ⟨⟨_, (σ, rdF μ k j row col), rfl, ⟨(by first | (simp [bi, rdR, rdF, rdC, rdE, mU_thr, c_3, c_6, c_9, c_11, c_12, c_16]; done) | (simp [bi, rdR, rdF, rdC, rdE, mU_thr, c_3, c_6, c_9, c_11, c_12, c_16]; omega) | (simp [bi, rdR, rdF, rdC, rdE, mU_thr, ← Int32.not_le, c_3, c_6, c_9, c_11, c_12, c_16]; done) | (simp [bi, rdR, rdF, rdC, rdE, mU_thr, c_3, c_6, c_9, c_11, c_12, eq_true c_16]; done)), rfl⟩, wZ_P Z hT9 hW⟩, Z.2.2.2.2.F hT9⟩) Z.2.2.2.2.2.2 dX8_read_79
        · skip
          refine lv_iconst (v := nI 0) S.1 S.2.1 dX8_read_67 (by decide) ?_
          refine lv_goto (tgt := 72) S.1 S.2.1 dX8_read_68 (by decide) ?_
          refine va_calli (va_runV (As := [.int (nI 0)]) (rest := []) S (k_X8_can l G σ μ o 0 (by omega)) (cwV 1 S.2.2.2.2 gX8_read_X8_can rfl rfl rfl ⟨rfl, hy_X8_can⟩ ⟨Nat.le_of_ble_eq_true rfl, Nat.le_of_ble_eq_true rfl⟩) (wPc_V (q := (RX8, TX8, 19)) Z (by decide) rfl rfl) rfl rfl hl.1 rfl (lv_room (Nat.le_of_ble_eq_true rfl)) dX8_read_72 ⟨Nat.le_of_ble_eq_true rfl, Nat.le_of_ble_eq_true rfl⟩) Z.2.2.2.2 (fun _ _ h => h) (fun _ h => h) (fun r_20 u_21 T9 H1 locs1 hT9 hvm hw hB hz hk9 hS => ?_)
          obtain ⟨hr9, rfl⟩ := hw
          rw [hr9]; clear hr9 r_20
          have Z : wZ G (σ) (thr μ 0) o s H1 locs1 := wZ_callP Z hB hT9 hS
          clear hB hT9 hS hk9 hz hvm T9
          revert Z; generalize H1 = H; generalize locs1 = locs; intro Z
          refine W.widen (k := 0) (n := 0) (by decide) (by decide) ?_
          refine r_if_neB S (tgt := 80) dX8_read_75 (by decide) (fun c_22 => ?_) (fun c_22 => absurd c_22 (by decide))
          refine lv_iconst (v := nI 4) S.1 S.2.1 dX8_read_80 (by decide) ?_
          refine lv_iload_n S.1 S.2.1 dX8_read_81 rfl (lv_at hl 3 rfl) ?_
          refine r_mulN S dX8_read_82 ?_
          refine lv_iload S.1 S.2.1 dX8_read_83 (lv_at hl 4 rfl) ?_
          refine r_addN S dX8_read_85 ?_
          refine lv_istore (lv' := [(6, .int (nI ((4 * row) + col))), (0, .ref (gA G 39)), (1, .int (nI k)), (2, .int (nI j)), (3, .int (nI row)), (4, .int (nI col)), (5, .int (bi true))]) S.1 S.2.1 dX8_read_86 hl (by decide) rfl (fun ls hl => ?_)
          refine lv_aload_n S.1 S.2.1 dX8_read_88 rfl (lv_at hl 1 rfl) ?_
          refine lv_iload_n S.1 S.2.1 dX8_read_89 rfl (lv_at hl 2 rfl) ?_
          refine lv_iload_n S.1 S.2.1 dX8_read_90 rfl (lv_at hl 3 rfl) ?_
          refine lv_iload S.1 S.2.1 dX8_read_91 (lv_at hl 0 rfl) ?_
          refine vp_callSi (va_runV (As := [.int (nI k), .int (nI j), .int (nI ((4 * row) + col))]) (rest := []) S (k_X8_areSameEntries l G σ (thr μ 0) o k j ((4 * row) + col) (by omega) (by omega) (by omega)) (cwV 3 S.2.2.2.2 gX8_read_X8_areSameEntries rfl rfl rfl ⟨rfl, hy_X8_areSameEntries⟩ ⟨Nat.le_of_ble_eq_true rfl, Nat.le_of_ble_eq_true rfl⟩) (wPc_V (q := (RX8, TX8, 19)) Z (by decide) rfl rfl) rfl rfl hl.1 rfl (lv_room (Nat.le_of_ble_eq_true rfl)) dX8_read_93 ⟨Nat.le_of_ble_eq_true rfl, Nat.le_of_ble_eq_true rfl⟩).run (fun r_23 h_24 => ?_)
          rw [h_24]; clear h_24 r_23
          refine lv_istore (lv' := [(7, .int (bi (saE2 (thr μ 0) k j ((4 * row) + col)))), (6, .int (nI ((4 * row) + col))), (0, .ref (gA G 39)), (1, .int (nI k)), (2, .int (nI j)), (3, .int (nI row)), (4, .int (nI col)), (5, .int (bi true))]) S.1 S.2.1 dX8_read_96 hl (by decide) rfl (fun ls hl => ?_)
          refine lv_aload_n S.1 S.2.1 dX8_read_98 rfl (lv_at hl 2 rfl) ?_
          refine lv_iload_n S.1 S.2.1 dX8_read_99 rfl (lv_at hl 3 rfl) ?_
          refine lv_iload_n S.1 S.2.1 dX8_read_100 rfl (lv_at hl 4 rfl) ?_
          refine lv_iload S.1 S.2.1 dX8_read_101 (lv_at hl 1 rfl) ?_
          refine va_callv (va_runV (As := [.int (nI k), .int (nI j), .int (nI ((4 * row) + col))]) (rest := []) S (k_X8_gives l G σ (thr μ 0) o k j ((4 * row) + col) (by omega) (by omega) (by omega)) (cwV 3 S.2.2.2.2 gX8_read_X8_gives rfl rfl rfl ⟨rfl, hy_X8_gives⟩ ⟨Nat.le_of_ble_eq_true rfl, Nat.le_of_ble_eq_true rfl⟩) (wPc_V (q := (RX8, TX8, 19)) Z (by decide) rfl rfl) rfl rfl hl.1 rfl (lv_room (Nat.le_of_ble_eq_true rfl)) dX8_read_103 ⟨Nat.le_of_ble_eq_true rfl, Nat.le_of_ble_eq_true rfl⟩) Z.2.2.2.2 (fun _ _ h => h) (fun _ h => h) (fun u_26 T9 H1 locs1 hT9 hvm hw hB hz hk9 hS => ?_)
          subst hw
          have Z : wZ G (σ) (givE (thr μ 0) k j ((4 * row) + col)) o s H1 locs1 := wZ_callP Z hB hT9 hS
          clear hB hT9 hS hk9 hz hvm T9
          revert Z; generalize H1 = H; generalize locs1 = locs; intro Z
          refine W.widen (k := 0) (n := 0) (by decide) (by decide) ?_
          refine lv_aload_n S.1 S.2.1 dX8_read_106 rfl (lv_at hl 2 rfl) ?_
          refine lv_iload_n S.1 S.2.1 dX8_read_107 rfl (lv_at hl 4 rfl) ?_
          refine lv_iload_n S.1 S.2.1 dX8_read_108 rfl (lv_at hl 3 rfl) ?_
          refine lv_iload S.1 S.2.1 dX8_read_109 (lv_at hl 1 rfl) ?_
          refine va_callv (va_runV (As := [.int (nI j), .int (nI k), .int (nI ((4 * row) + col))]) (rest := []) S (k_X8_gives l G σ (givE (thr μ 0) k j ((4 * row) + col)) o j k ((4 * row) + col) (by omega) (by omega) (by omega)) (cwV 3 S.2.2.2.2 gX8_read_X8_gives rfl rfl rfl ⟨rfl, hy_X8_gives⟩ ⟨Nat.le_of_ble_eq_true rfl, Nat.le_of_ble_eq_true rfl⟩) (wPc_V (q := (RX8, TX8, 19)) Z (by decide) rfl rfl) rfl rfl hl.1 rfl (lv_room (Nat.le_of_ble_eq_true rfl)) dX8_read_111 ⟨Nat.le_of_ble_eq_true rfl, Nat.le_of_ble_eq_true rfl⟩) Z.2.2.2.2 (fun _ _ h => h) (fun _ h => h) (fun u_28 T9 H1 locs1 hT9 hvm hw hB hz hk9 hS => ?_)
          subst hw
          have Z : wZ G (σ) (givE (givE (thr μ 0) k j ((4 * row) + col)) j k ((4 * row) + col)) o s H1 locs1 := wZ_callP Z hB hT9 hS
          clear hB hT9 hS hk9 hz hvm T9
          revert Z; generalize H1 = H; generalize locs1 = locs; intro Z
          refine W.widen (k := 0) (n := 0) (by decide) (by decide) ?_
          refine lv_iconst (v := nI 0) S.1 S.2.1 dX8_read_114 (by decide) ?_
          refine lv_istore (lv' := [(8, .int (nI 0)), (7, .int (bi (saE2 (thr μ 0) k j ((4 * row) + col)))), (6, .int (nI ((4 * row) + col))), (0, .ref (gA G 39)), (1, .int (nI k)), (2, .int (nI j)), (3, .int (nI row)), (4, .int (nI col)), (5, .int (bi true))]) S.1 S.2.1 dX8_read_115 hl (by decide) rfl (fun ls hl => ?_)
          have L_117 : ∀ (n : Nat) (i : Nat) (hi : i ≤ 92) (hn : 92 - i < n) (H : Heap) (locs : List Loc) (Z : wZ G (σ) (rdS (thr μ 0) k j row col i) o s H locs) (ls : Array Slot) (hl : lv_has ls 9 [(0, .ref (gA G 39)), (1, .int (nI k)), (2, .int (nI j)), (3, .int (nI row)), (4, .int (nI col)), (6, .int (nI (4 * row + col))), (7, .int (bi (rdB (thr μ 0) k j row col i))), (8, .int (nI i))]), W p l e (headSpec wsX8_read rm_k_X8_read).room s m args below meth c H locs 0 0 Q (F0 m 117 ls []) := by
            intro n
            induction n with
            | zero => intro i hi hn; omega
            | succ n ih_117 =>
              intro i hi hn H locs Z ls hl
              refine lv_iload S.1 S.2.1 dX8_read_117 (lv_at hl 7 rfl) ?_
              refine lv_bipush (v := nI 92) S.1 S.2.1 dX8_read_119 (by decide) ?_
              refine r_icmpN_ge S (tgt := 181) (by omega) (by omega) dX8_read_121 (by decide) (fun c_29 => ?_) (fun c_29 => ?_)
              · skip
                obtain rfl : i = 92 := by omega
                refine lv_aload_n S.1 S.2.1 dX8_read_181 rfl (lv_at hl 0 rfl) ?_
                refine lv_dup S.1 S.2.1 dX8_read_182 rfl ?_
                refine r_get (C := RX8) (T := TX8) (N := 19) (ci := 8) S Z (by decide) rfl rfl i_X8_read_X8 16 (by decide) m_X8_read_f120 rfl (v := .int (mV (rdS (thr μ 0) k j row col 92) 16)) rfl dX8_read_183 ?_
                refine lv_iload S.1 S.2.1 dX8_read_186 (lv_at hl 6 rfl) ?_
                refine r_if_eqB S (tgt := 195) dX8_read_188 (by decide) (fun c_30 => ?_) (fun c_30 => ?_)
                · skip
                  refine lv_iconst (v := nI 1) S.1 S.2.1 dX8_read_195 (by decide) ?_
                  refine lv_iadd S.1 S.2.1 dX8_read_196 ?_
                  refine r_put (C := RX8) (T := TX8) (N := 19) (ci := 8) (σ' := σ) (μ' := mV' (rdS (thr μ 0) k j row col 92) 16 ((mV (rdS (thr μ 0) k j row col 92) 16 + nI 1))) S Z (by decide) rfl rfl i_X8_read_X8 tyX8 tyX8_ok nmX8 16 (by decide) m_X8_read_f120 rfl rfl (ty := .int) (v := .int ((mV (rdS (thr μ 0) k j row col 92) 16 + nI 1))) (by decide +kernel) rfl rfl (Nat.le_of_ble_eq_true rfl) rfl rfl (sMV16 _) dX8_read_197 (fun H locs Z => ?_)
                  refine lv_aload_n S.1 S.2.1 dX8_read_200 rfl (lv_at hl 0 rfl) ?_
                  refine lv_iload_n S.1 S.2.1 dX8_read_201 rfl (lv_at hl 1 rfl) ?_
                  refine lv_iload_n S.1 S.2.1 dX8_read_202 rfl (lv_at hl 3 rfl) ?_
                  refine lv_iload S.1 S.2.1 dX8_read_203 (lv_at hl 4 rfl) ?_
                  refine vp_callSi (va_runV (As := [.int (nI k), .int (nI row), .int (nI col)]) (rest := []) S (k_X8_seen l G σ (mV' (rdS (thr μ 0) k j row col 92) 16 ((mV (rdS (thr μ 0) k j row col 92) 16 + nI 1))) o k row col (by omega) (by omega) (by omega) (by rw [mR_V, rdS_R]; exact hmr)) (cwV 3 S.2.2.2.2 gX8_read_X8_seen rfl rfl rfl ⟨rfl, hy_X8_seen⟩ ⟨Nat.le_of_ble_eq_true rfl, Nat.le_of_ble_eq_true rfl⟩) (wPc_V (q := (RX8, TX8, 19)) Z (by decide) rfl rfl) rfl rfl hl.1 rfl (lv_room (Nat.le_of_ble_eq_true rfl)) dX8_read_205 ⟨Nat.le_of_ble_eq_true rfl, Nat.le_of_ble_eq_true rfl⟩).run (fun r_31 h_32 => ?_)
                  rw [h_32]; clear h_32 r_31
                  rw [hQ]
                  have q8 : (rdF μ k j row col : mS) = mV' (rdS (thr μ 0) k j row col 92) 16 ((mV (rdS (thr μ 0) k j row col 92) 16 + nI 1)) := by first | (simp [bi, rdR, rdF, rdC, rdE, mU_thr, c_3, c_6, c_9, c_11, c_12, c_16, hi, c_29, c_30, Nat.not_lt.mpr c_29]; done) | (simp [bi, rdR, rdF, rdC, rdE, mU_thr, c_3, c_6, c_9, c_11, c_12, c_16, hi, c_29, c_30, Nat.not_lt.mpr c_29]; omega) | (simp [bi, rdR, rdF, rdC, rdE, mU_thr, ← Int32.not_le, c_3, c_6, c_9, c_11, c_12, c_16, hi, c_29, c_30, Nat.not_lt.mpr c_29]; done) | (simp [bi, rdR, rdF, rdC, rdE, mU_thr, c_3, c_6, c_9, c_11, c_12, c_16, hi, c_29, eq_true c_30, Nat.not_lt.mpr c_29]; done) | with_reducible rfl
                  rw [← q8] at Z
                  exact W.iret (v := seeM (mV' (rdS (thr μ 0) k j row col 92) 16 ((mV (rdS (thr μ 0) k j row col 92) 16 + nI 1))) k row col) S.1 S.2.1 hret (fun _ hT9 hW => ⟨⟨_, (σ, rdF μ k j row col), rfl, ⟨(by first | (simp [bi, rdR, rdF, rdC, rdE, mU_thr, c_3, c_6, c_9, c_11, c_12, c_16, hi, c_29, c_30, Nat.not_lt.mpr c_29]; done) | (simp [bi, rdR, rdF, rdC, rdE, mU_thr, c_3, c_6, c_9, c_11, c_12, c_16, hi, c_29, c_30, Nat.not_lt.mpr c_29]; omega) | (simp [bi, rdR, rdF, rdC, rdE, mU_thr, ← Int32.not_le, c_3, c_6, c_9, c_11, c_12, c_16, hi, c_29, c_30, Nat.not_lt.mpr c_29]; done) | (simp [bi, rdR, rdF, rdC, rdE, mU_thr, c_3, c_6, c_9, c_11, c_12, c_16, hi, c_29, eq_true c_30, Nat.not_lt.mpr c_29]; done)), rfl⟩, wZ_P Z hT9 hW⟩, Z.2.2.2.2.F hT9⟩) Z.2.2.2.2.2.2 dX8_read_208
                · skip
                  refine lv_iconst (v := nI 0) S.1 S.2.1 dX8_read_191 (by decide) ?_
                  refine lv_goto (tgt := 196) S.1 S.2.1 dX8_read_192 (by decide) ?_
                  refine lv_iadd S.1 S.2.1 dX8_read_196 ?_
                  refine r_put (C := RX8) (T := TX8) (N := 19) (ci := 8) (σ' := σ) (μ' := mV' (rdS (thr μ 0) k j row col 92) 16 ((mV (rdS (thr μ 0) k j row col 92) 16 + nI 0))) S Z (by decide) rfl rfl i_X8_read_X8 tyX8 tyX8_ok nmX8 16 (by decide) m_X8_read_f120 rfl rfl (ty := .int) (v := .int ((mV (rdS (thr μ 0) k j row col 92) 16 + nI 0))) (by decide +kernel) rfl rfl (Nat.le_of_ble_eq_true rfl) rfl rfl (sMV16 _) dX8_read_197 (fun H locs Z => ?_)
                  refine lv_aload_n S.1 S.2.1 dX8_read_200 rfl (lv_at hl 0 rfl) ?_
                  refine lv_iload_n S.1 S.2.1 dX8_read_201 rfl (lv_at hl 1 rfl) ?_
                  refine lv_iload_n S.1 S.2.1 dX8_read_202 rfl (lv_at hl 3 rfl) ?_
                  refine lv_iload S.1 S.2.1 dX8_read_203 (lv_at hl 4 rfl) ?_
                  refine vp_callSi (va_runV (As := [.int (nI k), .int (nI row), .int (nI col)]) (rest := []) S (k_X8_seen l G σ (mV' (rdS (thr μ 0) k j row col 92) 16 ((mV (rdS (thr μ 0) k j row col 92) 16 + nI 0))) o k row col (by omega) (by omega) (by omega) (by rw [mR_V, rdS_R]; exact hmr)) (cwV 3 S.2.2.2.2 gX8_read_X8_seen rfl rfl rfl ⟨rfl, hy_X8_seen⟩ ⟨Nat.le_of_ble_eq_true rfl, Nat.le_of_ble_eq_true rfl⟩) (wPc_V (q := (RX8, TX8, 19)) Z (by decide) rfl rfl) rfl rfl hl.1 rfl (lv_room (Nat.le_of_ble_eq_true rfl)) dX8_read_205 ⟨Nat.le_of_ble_eq_true rfl, Nat.le_of_ble_eq_true rfl⟩).run (fun r_33 h_34 => ?_)
                  rw [h_34]; clear h_34 r_33
                  rw [hQ]
                  have q8 : (rdF μ k j row col : mS) = mV' (rdS (thr μ 0) k j row col 92) 16 ((mV (rdS (thr μ 0) k j row col 92) 16 + nI 0)) := by first | (simp [bi, rdR, rdF, rdC, rdE, mU_thr, c_3, c_6, c_9, c_11, c_12, c_16, hi, c_29, c_30, Nat.not_lt.mpr c_29]; done) | (simp [bi, rdR, rdF, rdC, rdE, mU_thr, c_3, c_6, c_9, c_11, c_12, c_16, hi, c_29, c_30, Nat.not_lt.mpr c_29]; omega) | (simp [bi, rdR, rdF, rdC, rdE, mU_thr, ← Int32.not_le, c_3, c_6, c_9, c_11, c_12, c_16, hi, c_29, c_30, Nat.not_lt.mpr c_29]; done) | with_reducible rfl
                  rw [← q8] at Z
                  exact W.iret (v := seeM (mV' (rdS (thr μ 0) k j row col 92) 16 ((mV (rdS (thr μ 0) k j row col 92) 16 + nI 0))) k row col) S.1 S.2.1 hret (fun _ hT9 hW => ⟨⟨_, (σ, rdF μ k j row col), rfl, ⟨(by first | (simp [bi, rdR, rdF, rdC, rdE, mU_thr, c_3, c_6, c_9, c_11, c_12, c_16, hi, c_29, c_30, Nat.not_lt.mpr c_29]; done) | (simp [bi, rdR, rdF, rdC, rdE, mU_thr, c_3, c_6, c_9, c_11, c_12, c_16, hi, c_29, c_30, Nat.not_lt.mpr c_29]; omega) | (simp [bi, rdR, rdF, rdC, rdE, mU_thr, ← Int32.not_le, c_3, c_6, c_9, c_11, c_12, c_16, hi, c_29, c_30, Nat.not_lt.mpr c_29]; done)), rfl⟩, wZ_P Z hT9 hW⟩, Z.2.2.2.2.F hT9⟩) Z.2.2.2.2.2.2 dX8_read_208
              · skip
                refine lv_aload_n S.1 S.2.1 dX8_read_124 rfl (lv_at hl 0 rfl) ?_
                refine lv_iload S.1 S.2.1 dX8_read_125 (lv_at hl 7 rfl) ?_
                refine lv_iload_n S.1 S.2.1 dX8_read_127 rfl (lv_at hl 3 rfl) ?_
                refine lv_iload S.1 S.2.1 dX8_read_128 (lv_at hl 4 rfl) ?_
                refine vp_callSi (va_runV (As := [.int (nI i), .int (nI row), .int (nI col)]) (rest := []) S (k_X8_covers l G σ (rdS (thr μ 0) k j row col i) o i row col (by omega) (by omega) (by omega) (by rw [rdS_R]; exact hmr)) (cwV 3 S.2.2.2.2 gX8_read_X8_covers rfl rfl rfl ⟨rfl, hy_X8_covers⟩ ⟨Nat.le_of_ble_eq_true rfl, Nat.le_of_ble_eq_true rfl⟩) (wPc_V (q := (RX8, TX8, 19)) Z (by decide) rfl rfl) rfl rfl hl.1 rfl (lv_room (Nat.le_of_ble_eq_true rfl)) dX8_read_130 ⟨Nat.le_of_ble_eq_true rfl, Nat.le_of_ble_eq_true rfl⟩).run (fun r_35 h_36 => ?_)
                rw [h_36]; clear h_36 r_35
                refine r_if_eqB S (tgt := 175) dX8_read_133 (by decide) (fun c_37 => ?_) (fun c_37 => ?_)
                · skip
                  refine lv_iinc (v := nI (i + 1)) (lv' := [(8, .int (nI (i + 1))), (0, .ref (gA G 39)), (1, .int (nI k)), (2, .int (nI j)), (3, .int (nI row)), (4, .int (nI col)), (6, .int (nI (4 * row + col))), (7, .int (bi (rdB (thr μ 0) k j row col i)))]) S.1 S.2.1 dX8_read_175 hl (k := 7) rfl (nI_inc rfl) (by decide) rfl (fun ls hl => ?_)
                  refine lv_goto (tgt := 117) S.1 S.2.1 dX8_read_178 (by decide) ?_
                  have q_38 : (bi (rdB (thr μ 0) k j row col (i + 1)) : Int32) = bi (rdB (thr μ 0) k j row col i) := by first | (first | (simp [bi, rdS, rdB, c_3, c_6, c_9, c_11, c_12, c_16, hi, c_29, c_37]; done) | (simp [bi, rdS, rdB, c_3, c_6, c_9, c_11, c_12, c_16, hi, c_29, c_37]; omega) | (simp [bi, rdS, rdB, ← Int32.not_le, c_3, c_6, c_9, c_11, c_12, c_16, hi, c_29, c_37]; done) | (simp [bi, rdS, rdB, c_3, c_6, c_9, c_11, c_12, c_16, hi, c_29, eq_true c_37]; done)) | with_reducible rfl
                  have hl : lv_has ls 9 [(0, .ref (gA G 39)), (1, .int (nI k)), (2, .int (nI j)), (3, .int (nI row)), (4, .int (nI col)), (6, .int (nI (4 * row + col))), (7, .int (bi (rdB (thr μ 0) k j row col (i + 1)))), (8, .int (nI (i + 1)))] := by
                    have hl := lv_sub hl [1, 2, 3, 4, 5, 6, 7, 0] rfl
                    rw [q_38]; exact hl
                  have q8 : (rdS (thr μ 0) k j row col (i + 1) : mS) = rdS (thr μ 0) k j row col i := by first | (simp [bi, rdS, rdB, c_3, c_6, c_9, c_11, c_12, c_16, hi, c_29, c_37]; done) | (simp [bi, rdS, rdB, c_3, c_6, c_9, c_11, c_12, c_16, hi, c_29, c_37]; omega) | (simp [bi, rdS, rdB, ← Int32.not_le, c_3, c_6, c_9, c_11, c_12, c_16, hi, c_29, c_37]; done) | (simp [bi, rdS, rdB, c_3, c_6, c_9, c_11, c_12, c_16, hi, c_29, eq_true c_37]; done)
                  rw [← q8] at Z
                  exact ih_117 (i + 1) (by first | omega | exact Nat.zero_le _) (by omega) _ _ Z ls (hl)
                · skip
                  refine lv_iload S.1 S.2.1 dX8_read_136 (lv_at hl 6 rfl) ?_
                  refine r_if_eqB S (tgt := 156) dX8_read_138 (by decide) (fun c_39 => ?_) (fun c_39 => ?_)
                  · skip
                    refine lv_iconst (v := nI 0) S.1 S.2.1 dX8_read_156 (by decide) ?_
                    refine lv_istore (lv' := [(7, .int (nI 0)), (0, .ref (gA G 39)), (1, .int (nI k)), (2, .int (nI j)), (3, .int (nI row)), (4, .int (nI col)), (6, .int (nI (4 * row + col))), (8, .int (nI i))]) S.1 S.2.1 dX8_read_157 hl (by decide) rfl (fun ls hl => ?_)
                    refine lv_aload_n S.1 S.2.1 dX8_read_159 rfl (lv_at hl 1 rfl) ?_
                    refine lv_iload_n S.1 S.2.1 dX8_read_160 rfl (lv_at hl 2 rfl) ?_
                    refine lv_iload_n S.1 S.2.1 dX8_read_161 rfl (lv_at hl 3 rfl) ?_
                    refine lv_iload S.1 S.2.1 dX8_read_162 (lv_at hl 7 rfl) ?_
                    refine va_callv (va_runV (As := [.int (nI k), .int (nI j), .int (nI i)]) (rest := []) S (k_X8_givesTomb l G σ (rdS (thr μ 0) k j row col i) o k j i (by omega) (by omega) (by omega)) (cwV 3 S.2.2.2.2 gX8_read_X8_givesTomb rfl rfl rfl ⟨rfl, hy_X8_givesTomb⟩ ⟨Nat.le_of_ble_eq_true rfl, Nat.le_of_ble_eq_true rfl⟩) (wPc_V (q := (RX8, TX8, 19)) Z (by decide) rfl rfl) rfl rfl hl.1 rfl (lv_room (Nat.le_of_ble_eq_true rfl)) dX8_read_164 ⟨Nat.le_of_ble_eq_true rfl, Nat.le_of_ble_eq_true rfl⟩) Z.2.2.2.2 (fun _ _ h => h) (fun _ h => h) (fun u_41 T9 H1 locs1 hT9 hvm hw hB hz hk9 hS => ?_)
                    subst hw
                    have Z : wZ G (σ) (givT (rdS (thr μ 0) k j row col i) k j i) o s H1 locs1 := wZ_callP Z hB hT9 hS
                    clear hB hT9 hS hk9 hz hvm T9
                    revert Z; generalize H1 = H; generalize locs1 = locs; intro Z
                    refine W.widen (k := 0) (n := 0) (by decide) (by decide) ?_
                    refine lv_aload_n S.1 S.2.1 dX8_read_167 rfl (lv_at hl 1 rfl) ?_
                    refine lv_iload_n S.1 S.2.1 dX8_read_168 rfl (lv_at hl 3 rfl) ?_
                    refine lv_iload_n S.1 S.2.1 dX8_read_169 rfl (lv_at hl 2 rfl) ?_
                    refine lv_iload S.1 S.2.1 dX8_read_170 (lv_at hl 7 rfl) ?_
                    refine va_callv (va_runV (As := [.int (nI j), .int (nI k), .int (nI i)]) (rest := []) S (k_X8_givesTomb l G σ (givT (rdS (thr μ 0) k j row col i) k j i) o j k i (by omega) (by omega) (by omega)) (cwV 3 S.2.2.2.2 gX8_read_X8_givesTomb rfl rfl rfl ⟨rfl, hy_X8_givesTomb⟩ ⟨Nat.le_of_ble_eq_true rfl, Nat.le_of_ble_eq_true rfl⟩) (wPc_V (q := (RX8, TX8, 19)) Z (by decide) rfl rfl) rfl rfl hl.1 rfl (lv_room (Nat.le_of_ble_eq_true rfl)) dX8_read_172 ⟨Nat.le_of_ble_eq_true rfl, Nat.le_of_ble_eq_true rfl⟩) Z.2.2.2.2 (fun _ _ h => h) (fun _ h => h) (fun u_43 T9 H1 locs1 hT9 hvm hw hB hz hk9 hS => ?_)
                    subst hw
                    have Z : wZ G (σ) (givT (givT (rdS (thr μ 0) k j row col i) k j i) j k i) o s H1 locs1 := wZ_callP Z hB hT9 hS
                    clear hB hT9 hS hk9 hz hvm T9
                    revert Z; generalize H1 = H; generalize locs1 = locs; intro Z
                    refine W.widen (k := 0) (n := 0) (by decide) (by decide) ?_
                    refine lv_iinc (v := nI (i + 1)) (lv' := [(8, .int (nI (i + 1))), (7, .int (nI 0)), (0, .ref (gA G 39)), (1, .int (nI k)), (2, .int (nI j)), (3, .int (nI row)), (4, .int (nI col)), (6, .int (nI (4 * row + col)))]) S.1 S.2.1 dX8_read_175 hl (k := 7) rfl (nI_inc rfl) (by decide) rfl (fun ls hl => ?_)
                    refine lv_goto (tgt := 117) S.1 S.2.1 dX8_read_178 (by decide) ?_
                    have q_44 : (bi (rdB (thr μ 0) k j row col (i + 1)) : Int32) = nI 0 := by first | (first | (simp [bi, rdS, rdB, c_3, c_6, c_9, c_11, c_12, c_16, hi, c_29, c_37, c_39]; done) | (simp [bi, rdS, rdB, c_3, c_6, c_9, c_11, c_12, c_16, hi, c_29, c_37, c_39]; omega) | (simp [bi, rdS, rdB, ← Int32.not_le, c_3, c_6, c_9, c_11, c_12, c_16, hi, c_29, c_37, c_39]; done) | (simp [bi, rdS, rdB, c_3, c_6, c_9, c_11, c_12, c_16, hi, c_29, c_37, eq_true c_39]; done)) | with_reducible rfl
                    have hl : lv_has ls 9 [(0, .ref (gA G 39)), (1, .int (nI k)), (2, .int (nI j)), (3, .int (nI row)), (4, .int (nI col)), (6, .int (nI (4 * row + col))), (7, .int (bi (rdB (thr μ 0) k j row col (i + 1)))), (8, .int (nI (i + 1)))] := by
                      have hl := lv_sub hl [2, 3, 4, 5, 6, 7, 1, 0] rfl
                      rw [q_44]; exact hl
                    have q8 : (rdS (thr μ 0) k j row col (i + 1) : mS) = givT (givT (rdS (thr μ 0) k j row col i) k j i) j k i := by first | (simp [bi, rdS, rdB, c_3, c_6, c_9, c_11, c_12, c_16, hi, c_29, c_37, c_39]; done) | (simp [bi, rdS, rdB, c_3, c_6, c_9, c_11, c_12, c_16, hi, c_29, c_37, c_39]; omega) | (simp [bi, rdS, rdB, ← Int32.not_le, c_3, c_6, c_9, c_11, c_12, c_16, hi, c_29, c_37, c_39]; done) | (simp [bi, rdS, rdB, c_3, c_6, c_9, c_11, c_12, c_16, hi, c_29, c_37, eq_true c_39]; done)
                    rw [← q8] at Z
                    exact ih_117 (i + 1) (by first | omega | exact Nat.zero_le _) (by omega) _ _ Z ls (hl)
                  · skip
                    refine lv_aload_n S.1 S.2.1 dX8_read_141 rfl (lv_at hl 0 rfl) ?_
                    refine lv_iload_n S.1 S.2.1 dX8_read_142 rfl (lv_at hl 1 rfl) ?_
                    refine lv_iload_n S.1 S.2.1 dX8_read_143 rfl (lv_at hl 2 rfl) ?_
                    refine lv_iload S.1 S.2.1 dX8_read_144 (lv_at hl 7 rfl) ?_
                    refine vp_callSi (va_runV (As := [.int (nI k), .int (nI j), .int (nI i)]) (rest := []) S (k_X8_areSameTombs l G σ (rdS (thr μ 0) k j row col i) o k j i (by omega) (by omega) (by omega)) (cwV 3 S.2.2.2.2 gX8_read_X8_areSameTombs rfl rfl rfl ⟨rfl, hy_X8_areSameTombs⟩ ⟨Nat.le_of_ble_eq_true rfl, Nat.le_of_ble_eq_true rfl⟩) (wPc_V (q := (RX8, TX8, 19)) Z (by decide) rfl rfl) rfl rfl hl.1 rfl (lv_room (Nat.le_of_ble_eq_true rfl)) dX8_read_146 ⟨Nat.le_of_ble_eq_true rfl, Nat.le_of_ble_eq_true rfl⟩).run (fun r_45 h_46 => ?_)
                    rw [h_46]; clear h_46 r_45
                    refine r_if_eqB S (tgt := 156) dX8_read_149 (by decide) (fun c_47 => ?_) (fun c_47 => ?_)
                    · skip
                      refine lv_iconst (v := nI 0) S.1 S.2.1 dX8_read_156 (by decide) ?_
                      refine lv_istore (lv' := [(7, .int (nI 0)), (0, .ref (gA G 39)), (1, .int (nI k)), (2, .int (nI j)), (3, .int (nI row)), (4, .int (nI col)), (6, .int (nI (4 * row + col))), (8, .int (nI i))]) S.1 S.2.1 dX8_read_157 hl (by decide) rfl (fun ls hl => ?_)
                      refine lv_aload_n S.1 S.2.1 dX8_read_159 rfl (lv_at hl 1 rfl) ?_
                      refine lv_iload_n S.1 S.2.1 dX8_read_160 rfl (lv_at hl 2 rfl) ?_
                      refine lv_iload_n S.1 S.2.1 dX8_read_161 rfl (lv_at hl 3 rfl) ?_
                      refine lv_iload S.1 S.2.1 dX8_read_162 (lv_at hl 7 rfl) ?_
                      refine va_callv (va_runV (As := [.int (nI k), .int (nI j), .int (nI i)]) (rest := []) S (k_X8_givesTomb l G σ (rdS (thr μ 0) k j row col i) o k j i (by omega) (by omega) (by omega)) (cwV 3 S.2.2.2.2 gX8_read_X8_givesTomb rfl rfl rfl ⟨rfl, hy_X8_givesTomb⟩ ⟨Nat.le_of_ble_eq_true rfl, Nat.le_of_ble_eq_true rfl⟩) (wPc_V (q := (RX8, TX8, 19)) Z (by decide) rfl rfl) rfl rfl hl.1 rfl (lv_room (Nat.le_of_ble_eq_true rfl)) dX8_read_164 ⟨Nat.le_of_ble_eq_true rfl, Nat.le_of_ble_eq_true rfl⟩) Z.2.2.2.2 (fun _ _ h => h) (fun _ h => h) (fun u_49 T9 H1 locs1 hT9 hvm hw hB hz hk9 hS => ?_)
                      subst hw
                      have Z : wZ G (σ) (givT (rdS (thr μ 0) k j row col i) k j i) o s H1 locs1 := wZ_callP Z hB hT9 hS
                      clear hB hT9 hS hk9 hz hvm T9
                      revert Z; generalize H1 = H; generalize locs1 = locs; intro Z
                      refine W.widen (k := 0) (n := 0) (by decide) (by decide) ?_
                      refine lv_aload_n S.1 S.2.1 dX8_read_167 rfl (lv_at hl 1 rfl) ?_
                      refine lv_iload_n S.1 S.2.1 dX8_read_168 rfl (lv_at hl 3 rfl) ?_
                      refine lv_iload_n S.1 S.2.1 dX8_read_169 rfl (lv_at hl 2 rfl) ?_
                      refine lv_iload S.1 S.2.1 dX8_read_170 (lv_at hl 7 rfl) ?_
                      refine va_callv (va_runV (As := [.int (nI j), .int (nI k), .int (nI i)]) (rest := []) S (k_X8_givesTomb l G σ (givT (rdS (thr μ 0) k j row col i) k j i) o j k i (by omega) (by omega) (by omega)) (cwV 3 S.2.2.2.2 gX8_read_X8_givesTomb rfl rfl rfl ⟨rfl, hy_X8_givesTomb⟩ ⟨Nat.le_of_ble_eq_true rfl, Nat.le_of_ble_eq_true rfl⟩) (wPc_V (q := (RX8, TX8, 19)) Z (by decide) rfl rfl) rfl rfl hl.1 rfl (lv_room (Nat.le_of_ble_eq_true rfl)) dX8_read_172 ⟨Nat.le_of_ble_eq_true rfl, Nat.le_of_ble_eq_true rfl⟩) Z.2.2.2.2 (fun _ _ h => h) (fun _ h => h) (fun u_51 T9 H1 locs1 hT9 hvm hw hB hz hk9 hS => ?_)
                      subst hw
                      have Z : wZ G (σ) (givT (givT (rdS (thr μ 0) k j row col i) k j i) j k i) o s H1 locs1 := wZ_callP Z hB hT9 hS
                      clear hB hT9 hS hk9 hz hvm T9
                      revert Z; generalize H1 = H; generalize locs1 = locs; intro Z
                      refine W.widen (k := 0) (n := 0) (by decide) (by decide) ?_
                      refine lv_iinc (v := nI (i + 1)) (lv' := [(8, .int (nI (i + 1))), (7, .int (nI 0)), (0, .ref (gA G 39)), (1, .int (nI k)), (2, .int (nI j)), (3, .int (nI row)), (4, .int (nI col)), (6, .int (nI (4 * row + col)))]) S.1 S.2.1 dX8_read_175 hl (k := 7) rfl (nI_inc rfl) (by decide) rfl (fun ls hl => ?_)
                      refine lv_goto (tgt := 117) S.1 S.2.1 dX8_read_178 (by decide) ?_
                      have q_52 : (bi (rdB (thr μ 0) k j row col (i + 1)) : Int32) = nI 0 := by first | (first | (simp [bi, rdS, rdB, c_3, c_6, c_9, c_11, c_12, c_16, hi, c_29, c_37, c_39, c_47]; done) | (simp [bi, rdS, rdB, c_3, c_6, c_9, c_11, c_12, c_16, hi, c_29, c_37, c_39, c_47]; omega) | (simp [bi, rdS, rdB, ← Int32.not_le, c_3, c_6, c_9, c_11, c_12, c_16, hi, c_29, c_37, c_39, c_47]; done) | (simp [bi, rdS, rdB, c_3, c_6, c_9, c_11, c_12, c_16, hi, c_29, c_37, c_39, eq_true c_47]; done)) | with_reducible rfl
                      have hl : lv_has ls 9 [(0, .ref (gA G 39)), (1, .int (nI k)), (2, .int (nI j)), (3, .int (nI row)), (4, .int (nI col)), (6, .int (nI (4 * row + col))), (7, .int (bi (rdB (thr μ 0) k j row col (i + 1)))), (8, .int (nI (i + 1)))] := by
                        have hl := lv_sub hl [2, 3, 4, 5, 6, 7, 1, 0] rfl
                        rw [q_52]; exact hl
                      have q8 : (rdS (thr μ 0) k j row col (i + 1) : mS) = givT (givT (rdS (thr μ 0) k j row col i) k j i) j k i := by first | (simp [bi, rdS, rdB, c_3, c_6, c_9, c_11, c_12, c_16, hi, c_29, c_37, c_39, c_47]; done) | (simp [bi, rdS, rdB, c_3, c_6, c_9, c_11, c_12, c_16, hi, c_29, c_37, c_39, c_47]; omega) | (simp [bi, rdS, rdB, ← Int32.not_le, c_3, c_6, c_9, c_11, c_12, c_16, hi, c_29, c_37, c_39, c_47]; done) | (simp [bi, rdS, rdB, c_3, c_6, c_9, c_11, c_12, c_16, hi, c_29, c_37, c_39, eq_true c_47]; done)
                      rw [← q8] at Z
                      exact ih_117 (i + 1) (by first | omega | exact Nat.zero_le _) (by omega) _ _ Z ls (hl)
                    · skip
                      refine lv_iconst (v := nI 1) S.1 S.2.1 dX8_read_152 (by decide) ?_
                      refine lv_goto (tgt := 157) S.1 S.2.1 dX8_read_153 (by decide) ?_
                      refine lv_istore (lv' := [(7, .int (nI 1)), (0, .ref (gA G 39)), (1, .int (nI k)), (2, .int (nI j)), (3, .int (nI row)), (4, .int (nI col)), (6, .int (nI (4 * row + col))), (8, .int (nI i))]) S.1 S.2.1 dX8_read_157 hl (by decide) rfl (fun ls hl => ?_)
                      refine lv_aload_n S.1 S.2.1 dX8_read_159 rfl (lv_at hl 1 rfl) ?_
                      refine lv_iload_n S.1 S.2.1 dX8_read_160 rfl (lv_at hl 2 rfl) ?_
                      refine lv_iload_n S.1 S.2.1 dX8_read_161 rfl (lv_at hl 3 rfl) ?_
                      refine lv_iload S.1 S.2.1 dX8_read_162 (lv_at hl 7 rfl) ?_
                      refine va_callv (va_runV (As := [.int (nI k), .int (nI j), .int (nI i)]) (rest := []) S (k_X8_givesTomb l G σ (rdS (thr μ 0) k j row col i) o k j i (by omega) (by omega) (by omega)) (cwV 3 S.2.2.2.2 gX8_read_X8_givesTomb rfl rfl rfl ⟨rfl, hy_X8_givesTomb⟩ ⟨Nat.le_of_ble_eq_true rfl, Nat.le_of_ble_eq_true rfl⟩) (wPc_V (q := (RX8, TX8, 19)) Z (by decide) rfl rfl) rfl rfl hl.1 rfl (lv_room (Nat.le_of_ble_eq_true rfl)) dX8_read_164 ⟨Nat.le_of_ble_eq_true rfl, Nat.le_of_ble_eq_true rfl⟩) Z.2.2.2.2 (fun _ _ h => h) (fun _ h => h) (fun u_54 T9 H1 locs1 hT9 hvm hw hB hz hk9 hS => ?_)
                      subst hw
                      have Z : wZ G (σ) (givT (rdS (thr μ 0) k j row col i) k j i) o s H1 locs1 := wZ_callP Z hB hT9 hS
                      clear hB hT9 hS hk9 hz hvm T9
                      revert Z; generalize H1 = H; generalize locs1 = locs; intro Z
                      refine W.widen (k := 0) (n := 0) (by decide) (by decide) ?_
                      refine lv_aload_n S.1 S.2.1 dX8_read_167 rfl (lv_at hl 1 rfl) ?_
                      refine lv_iload_n S.1 S.2.1 dX8_read_168 rfl (lv_at hl 3 rfl) ?_
                      refine lv_iload_n S.1 S.2.1 dX8_read_169 rfl (lv_at hl 2 rfl) ?_
                      refine lv_iload S.1 S.2.1 dX8_read_170 (lv_at hl 7 rfl) ?_
                      refine va_callv (va_runV (As := [.int (nI j), .int (nI k), .int (nI i)]) (rest := []) S (k_X8_givesTomb l G σ (givT (rdS (thr μ 0) k j row col i) k j i) o j k i (by omega) (by omega) (by omega)) (cwV 3 S.2.2.2.2 gX8_read_X8_givesTomb rfl rfl rfl ⟨rfl, hy_X8_givesTomb⟩ ⟨Nat.le_of_ble_eq_true rfl, Nat.le_of_ble_eq_true rfl⟩) (wPc_V (q := (RX8, TX8, 19)) Z (by decide) rfl rfl) rfl rfl hl.1 rfl (lv_room (Nat.le_of_ble_eq_true rfl)) dX8_read_172 ⟨Nat.le_of_ble_eq_true rfl, Nat.le_of_ble_eq_true rfl⟩) Z.2.2.2.2 (fun _ _ h => h) (fun _ h => h) (fun u_56 T9 H1 locs1 hT9 hvm hw hB hz hk9 hS => ?_)
                      subst hw
                      have Z : wZ G (σ) (givT (givT (rdS (thr μ 0) k j row col i) k j i) j k i) o s H1 locs1 := wZ_callP Z hB hT9 hS
                      clear hB hT9 hS hk9 hz hvm T9
                      revert Z; generalize H1 = H; generalize locs1 = locs; intro Z
                      refine W.widen (k := 0) (n := 0) (by decide) (by decide) ?_
                      refine lv_iinc (v := nI (i + 1)) (lv' := [(8, .int (nI (i + 1))), (7, .int (nI 1)), (0, .ref (gA G 39)), (1, .int (nI k)), (2, .int (nI j)), (3, .int (nI row)), (4, .int (nI col)), (6, .int (nI (4 * row + col)))]) S.1 S.2.1 dX8_read_175 hl (k := 7) rfl (nI_inc rfl) (by decide) rfl (fun ls hl => ?_)
                      refine lv_goto (tgt := 117) S.1 S.2.1 dX8_read_178 (by decide) ?_
                      have q_57 : (bi (rdB (thr μ 0) k j row col (i + 1)) : Int32) = nI 1 := by first | (first | (simp [bi, rdS, rdB, c_3, c_6, c_9, c_11, c_12, c_16, hi, c_29, c_37, c_39, c_47]; done) | (simp [bi, rdS, rdB, c_3, c_6, c_9, c_11, c_12, c_16, hi, c_29, c_37, c_39, c_47]; omega) | (simp [bi, rdS, rdB, ← Int32.not_le, c_3, c_6, c_9, c_11, c_12, c_16, hi, c_29, c_37, c_39, c_47]; done)) | with_reducible rfl
                      have hl : lv_has ls 9 [(0, .ref (gA G 39)), (1, .int (nI k)), (2, .int (nI j)), (3, .int (nI row)), (4, .int (nI col)), (6, .int (nI (4 * row + col))), (7, .int (bi (rdB (thr μ 0) k j row col (i + 1)))), (8, .int (nI (i + 1)))] := by
                        have hl := lv_sub hl [2, 3, 4, 5, 6, 7, 1, 0] rfl
                        rw [q_57]; exact hl
                      have q8 : (rdS (thr μ 0) k j row col (i + 1) : mS) = givT (givT (rdS (thr μ 0) k j row col i) k j i) j k i := by first | (simp [bi, rdS, rdB, c_3, c_6, c_9, c_11, c_12, c_16, hi, c_29, c_37, c_39, c_47]; done) | (simp [bi, rdS, rdB, c_3, c_6, c_9, c_11, c_12, c_16, hi, c_29, c_37, c_39, c_47]; omega) | (simp [bi, rdS, rdB, ← Int32.not_le, c_3, c_6, c_9, c_11, c_12, c_16, hi, c_29, c_37, c_39, c_47]; done)
                      rw [← q8] at Z
                      exact ih_117 (i + 1) (by first | omega | exact Nat.zero_le _) (by omega) _ _ Z ls (hl)
          have q_58 : (nI (4 * row + col) : Int32) = nI ((4 * row) + col) := by first | with_reducible rfl | (first | (simp [bi, rdS, rdB, c_3, c_6, c_9, c_11, c_12, c_16]; done) | (simp [bi, rdS, rdB, c_3, c_6, c_9, c_11, c_12, c_16]; omega) | (simp [bi, rdS, rdB, ← Int32.not_le, c_3, c_6, c_9, c_11, c_12, c_16]; done)) | exact congrArg nI (by omega) | rfl
          have q_59 : (bi (rdB (thr μ 0) k j row col 0) : Int32) = bi (saE2 (thr μ 0) k j ((4 * row) + col)) := by first | with_reducible rfl | (first | (simp [bi, rdS, rdB, c_3, c_6, c_9, c_11, c_12, c_16]; done) | (simp [bi, rdS, rdB, c_3, c_6, c_9, c_11, c_12, c_16]; omega) | (simp [bi, rdS, rdB, ← Int32.not_le, c_3, c_6, c_9, c_11, c_12, c_16]; done)) | rfl
          have hl : lv_has ls 9 [(0, .ref (gA G 39)), (1, .int (nI k)), (2, .int (nI j)), (3, .int (nI row)), (4, .int (nI col)), (6, .int (nI (4 * row + col))), (7, .int (bi (rdB (thr μ 0) k j row col 0))), (8, .int (nI 0))] := by
            have hl := lv_sub hl [3, 4, 5, 6, 7, 2, 1, 0] rfl
            rw [q_58, q_59]; exact hl
          have q8 : (rdS (thr μ 0) k j row col 0 : mS) = givE (givE (thr μ 0) k j ((4 * row) + col)) j k ((4 * row) + col) := by first | (simp [bi, rdS, rdB, c_3, c_6, c_9, c_11, c_12, c_16]; done) | (simp [bi, rdS, rdB, c_3, c_6, c_9, c_11, c_12, c_16]; omega) | (simp [bi, rdS, rdB, ← Int32.not_le, c_3, c_6, c_9, c_11, c_12, c_16]; done)
          rw [← q8] at Z
          exact L_117 (92 - 0 + 1) 0 (by first | omega | exact Nat.zero_le _) (Nat.lt_succ_self _) _ _ Z ls (hl)
    · skip
      refine lv_iconst (v := nI 2) S.1 S.2.1 dX8_read_45 (by decide) ?_
      refine lv_goto (tgt := 72) S.1 S.2.1 dX8_read_46 (by decide) ?_
      refine va_calli (va_runV (As := [.int (nI 2)]) (rest := []) S (k_X8_can l G σ μ o 2 (by omega)) (cwV 1 S.2.2.2.2 gX8_read_X8_can rfl rfl rfl ⟨rfl, hy_X8_can⟩ ⟨Nat.le_of_ble_eq_true rfl, Nat.le_of_ble_eq_true rfl⟩) (wPc_V (q := (RX8, TX8, 19)) Z (by decide) rfl rfl) rfl rfl hl.1 rfl (lv_room (Nat.le_of_ble_eq_true rfl)) dX8_read_72 ⟨Nat.le_of_ble_eq_true rfl, Nat.le_of_ble_eq_true rfl⟩) Z.2.2.2.2 (fun _ _ h => h) (fun _ h => h) (fun r_60 u_61 T9 H1 locs1 hT9 hvm hw hB hz hk9 hS => ?_)
      obtain ⟨hr9, rfl⟩ := hw
      rw [hr9]; clear hr9 r_60
      have Z : wZ G (σ) (thr μ 2) o s H1 locs1 := wZ_callP Z hB hT9 hS
      clear hB hT9 hS hk9 hz hvm T9
      revert Z; generalize H1 = H; generalize locs1 = locs; intro Z
      refine W.widen (k := 0) (n := 0) (by decide) (by decide) ?_
      refine r_if_neB S (tgt := 80) dX8_read_75 (by decide) (fun c_62 => absurd c_62 (by decide)) (fun c_62 => ?_)
      refine lv_iconst (v := nI 0) S.1 S.2.1 dX8_read_78 (by decide) ?_
      rw [hQ]
      have q8 : (rdF μ k j row col : mS) = thr μ 2 := by first | (simp [bi, rdR, rdF, rdC, rdE, mU_thr, c_3, c_6, c_9, c_11]; done) | (simp [bi, rdR, rdF, rdC, rdE, mU_thr, c_3, c_6, c_9, c_11]; omega) | (simp [bi, rdR, rdF, rdC, rdE, mU_thr, ← Int32.not_le, c_3, c_6, c_9, c_11]; done) | (simp [bi, rdR, rdF, rdC, rdE, mU_thr, c_3, c_6, c_9, eq_true c_11]; done) | with_reducible rfl
      rw [← q8] at Z
      exact W.iret (v := nI 0) S.1 S.2.1 hret (fun _ hT9 hW => ⟨⟨_, (σ, rdF μ k j row col), rfl, ⟨(by first | (simp [bi, rdR, rdF, rdC, rdE, mU_thr, c_3, c_6, c_9, c_11]; done) | (simp [bi, rdR, rdF, rdC, rdE, mU_thr, c_3, c_6, c_9, c_11]; omega) | (simp [bi, rdR, rdF, rdC, rdE, mU_thr, ← Int32.not_le, c_3, c_6, c_9, c_11]; done) | (simp [bi, rdR, rdF, rdC, rdE, mU_thr, c_3, c_6, c_9, eq_true c_11]; done)), rfl⟩, wZ_P Z hT9 hW⟩, Z.2.2.2.2.F hT9⟩) Z.2.2.2.2.2.2 dX8_read_79
  have q_63 : (bi true : Int32) = nI 1 := by rfl
  have hl : lv_has ls 9 [(0, .ref (gA G 39)), (1, .int (nI k)), (2, .int (nI j)), (3, .int (nI row)), (4, .int (nI col)), (5, .int (bi true))] := by
    have hl := lv_sub hl [1, 2, 3, 4, 5, 0] rfl
    rw [q_63]; exact hl
  exact L_30   _ _ Z ls (hl)

abbrev rm_k_X8_read_B : Room := { frames := 2, cells := 0, slots := 0, locals := 43 }
set_option maxHeartbeats 4000000 in
set_option maxRecDepth 100000 in
theorem k_X8_read_B (l : Launch) (G : wG) (σ : cS) (μ : mS) (o : Nat → Int64) (x : Int32) (y : Int32) (z : Int32) (w : Int32) (hb : (isCopyB x && isCopyB y && isCellB z w) = false) : Met l yX8_read wsX8_read rm_k_X8_read_B (wPc G σ μ o [.ref (gA G 39), .int (x), .int (y), .int (z), .int (w)]) (va_Qi (fun (rr : Int32) (u : cS × mS) => rr = nI (0) ∧ u = (σ, thr μ 1)) (fun u t => wI G u.1 u.2 o t) (gP G)) 0 0 (gP G) := by
  refine Met.ofW (cc := cX8_read) (maxL := 9) (ret := (some .int)) (by decide) rfl ?_
  intro p e s m args below meth c s₁ B hml hv
  obtain ⟨hargs, hI⟩ := hv
  have S : CallFix p m c cX8_read 9 s args wsX8_read RX8 := ⟨B.exec, B.bytes, hml, findClass_of_methodNamed B.named, atoms_spec (ws := wsX8_read) B.pre⟩
  have hret := B.returns
  have hlocks := B.notSynchronized
  have Z := wZ_0 hI
  clear hI
  obtain ⟨Q, hQ⟩ : ∃ Q, Q = MQ below (va_Qi (fun (rr : Int32) (u : cS × mS) => rr = nI (0) ∧ u = (σ, thr μ 1)) (fun u t => wI G u.1 u.2 o t) (gP G)) args s 0 0 (gP G) := ⟨_, rfl⟩
  rw [← hQ]
  have hl := lv_entry [.ref (gA G 39), .int (x), .int (y), .int (z), .int (w)] (n := 9) (Nat.le_of_ble_eq_true rfl)
  rw [show entryFrame m args 9 = entryFrame m ([.ref (gA G 39), .int (x), .int (y), .int (z), .int (w)] : List Value).toArray 9 from by rw [hargs], lg_entry_eq]
  generalize (lg_sl [.ref (gA G 39), .int (x), .int (y), .int (z), .int (w)] ++ List.replicate (9 - (lg_sl [.ref (gA G 39), .int (x), .int (y), .int (z), .int (w)]).length) Slot.unset).toArray = ls at hl ⊢
  have hl : lv_has ls 9 [(0, .ref (gA G 39)), (1, .int (x)), (2, .int (y)), (3, .int (z)), (4, .int (w))] := hl
  have L_30 : ∀   (H : Heap) (locs : List Loc) (Z : wZ G (σ) (μ) o s H locs) (ls : Array Slot) (hl : lv_has ls 9 [(0, .ref (gA G 39)), (1, .int (x)), (2, .int (y)), (3, .int (z)), (4, .int (w)), (5, .int (bi false))]), W p l e (headSpec wsX8_read rm_k_X8_read_B).room s m args below meth c H locs 0 0 Q (F0 m 30 ls []) := by
    intro   H locs Z ls hl
    refine lv_aload_n S.1 S.2.1 dX8_read_30 rfl (lv_at hl 0 rfl) ?_
    refine lv_iload S.1 S.2.1 dX8_read_31 (lv_at hl 5 rfl) ?_
    refine r_if_neB S (tgt := 40) dX8_read_33 (by decide) (fun c_1 => absurd c_1 (by decide)) (fun c_1 => ?_)
    refine lv_iconst (v := nI 1) S.1 S.2.1 dX8_read_36 (by decide) ?_
    refine lv_goto (tgt := 72) S.1 S.2.1 dX8_read_37 (by decide) ?_
    refine va_calli (va_runV (As := [.int (nI 1)]) (rest := []) S (k_X8_can l G σ μ o 1 (by omega)) (cwV 1 S.2.2.2.2 gX8_read_X8_can rfl rfl rfl ⟨rfl, hy_X8_can⟩ ⟨Nat.le_of_ble_eq_true rfl, Nat.le_of_ble_eq_true rfl⟩) (wPc_V (q := (RX8, TX8, 19)) Z (by decide) rfl rfl) rfl rfl hl.1 rfl (lv_room (Nat.le_of_ble_eq_true rfl)) dX8_read_72 ⟨Nat.le_of_ble_eq_true rfl, Nat.le_of_ble_eq_true rfl⟩) Z.2.2.2.2 (fun _ _ h => h) (fun _ h => h) (fun r_2 u_3 T9 H1 locs1 hT9 hvm hw hB hz hk9 hS => ?_)
    obtain ⟨hr9, rfl⟩ := hw
    rw [hr9]; clear hr9 r_2
    have Z : wZ G (σ) (thr μ 1) o s H1 locs1 := wZ_callP Z hB hT9 hS
    clear hB hT9 hS hk9 hz hvm T9
    revert Z; generalize H1 = H; generalize locs1 = locs; intro Z
    refine W.widen (k := 0) (n := 0) (by decide) (by decide) ?_
    refine r_if_neB S (tgt := 80) dX8_read_75 (by decide) (fun c_4 => absurd c_4 (by decide)) (fun c_4 => ?_)
    refine lv_iconst (v := nI 0) S.1 S.2.1 dX8_read_78 (by decide) ?_
    rw [hQ]
    exact W.iret (v := nI 0) S.1 S.2.1 hret (fun _ hT9 hW => ⟨⟨_, (σ, thr μ 1), rfl, ⟨rfl, rfl⟩, wZ_P Z hT9 hW⟩, Z.2.2.2.2.F hT9⟩) Z.2.2.2.2.2.2 dX8_read_79
  refine lv_iload_n S.1 S.2.1 dX8_read_0 rfl (lv_at hl 1 rfl) ?_
  refine vp_callSi (va_runS (As := [.int (x)]) (rest := []) S (k_X8_isCopy l G σ μ o x ) (va_cwS 1 S.2.2.2.2 gX8_read_X8_isCopy rfl rfl rfl hy_X8_isCopy ⟨Nat.le_of_ble_eq_true rfl, Nat.le_of_ble_eq_true rfl⟩) (wPc_S Z) rfl rfl hl.1 rfl (lv_room (Nat.le_of_ble_eq_true rfl)) dX8_read_1 ⟨Nat.le_of_ble_eq_true rfl, Nat.le_of_ble_eq_true rfl⟩).run (fun r_5 h_6 => ?_)
  rw [h_6]; clear h_6 r_5
  refine r_if_eqB S (tgt := 27) dX8_read_4 (by decide) (fun c_7 => ?_) (fun c_7 => ?_)
  · skip
    refine lv_iconst (v := nI 0) S.1 S.2.1 dX8_read_27 (by decide) ?_
    refine lv_istore (lv' := [(5, .int (nI 0)), (0, .ref (gA G 39)), (1, .int (x)), (2, .int (y)), (3, .int (z)), (4, .int (w))]) S.1 S.2.1 dX8_read_28 hl (by decide) rfl (fun ls hl => ?_)
    have q_8 : (bi false : Int32) = nI 0 := by rfl
    have hl : lv_has ls 9 [(0, .ref (gA G 39)), (1, .int (x)), (2, .int (y)), (3, .int (z)), (4, .int (w)), (5, .int (bi false))] := by
      have hl := lv_sub hl [1, 2, 3, 4, 5, 0] rfl
      rw [q_8]; exact hl
    exact L_30   _ _ Z ls (hl)
  · skip
    refine lv_iload_n S.1 S.2.1 dX8_read_7 rfl (lv_at hl 2 rfl) ?_
    refine vp_callSi (va_runS (As := [.int (y)]) (rest := []) S (k_X8_isCopy l G σ μ o y ) (va_cwS 1 S.2.2.2.2 gX8_read_X8_isCopy rfl rfl rfl hy_X8_isCopy ⟨Nat.le_of_ble_eq_true rfl, Nat.le_of_ble_eq_true rfl⟩) (wPc_S Z) rfl rfl hl.1 rfl (lv_room (Nat.le_of_ble_eq_true rfl)) dX8_read_8 ⟨Nat.le_of_ble_eq_true rfl, Nat.le_of_ble_eq_true rfl⟩).run (fun r_9 h_10 => ?_)
    rw [h_10]; clear h_10 r_9
    refine r_if_eqB S (tgt := 27) dX8_read_11 (by decide) (fun c_11 => ?_) (fun c_11 => ?_)
    · skip
      refine lv_iconst (v := nI 0) S.1 S.2.1 dX8_read_27 (by decide) ?_
      refine lv_istore (lv' := [(5, .int (nI 0)), (0, .ref (gA G 39)), (1, .int (x)), (2, .int (y)), (3, .int (z)), (4, .int (w))]) S.1 S.2.1 dX8_read_28 hl (by decide) rfl (fun ls hl => ?_)
      have q_12 : (bi false : Int32) = nI 0 := by rfl
      have hl : lv_has ls 9 [(0, .ref (gA G 39)), (1, .int (x)), (2, .int (y)), (3, .int (z)), (4, .int (w)), (5, .int (bi false))] := by
        have hl := lv_sub hl [1, 2, 3, 4, 5, 0] rfl
        rw [q_12]; exact hl
      exact L_30   _ _ Z ls (hl)
    · skip
      refine lv_iload_n S.1 S.2.1 dX8_read_14 rfl (lv_at hl 3 rfl) ?_
      refine lv_iload S.1 S.2.1 dX8_read_15 (lv_at hl 4 rfl) ?_
      refine vp_callSi (va_runS (As := [.int (z), .int (w)]) (rest := []) S (k_X8_isCell l G σ μ o z w ) (va_cwS 2 S.2.2.2.2 gX8_read_X8_isCell rfl rfl rfl hy_X8_isCell ⟨Nat.le_of_ble_eq_true rfl, Nat.le_of_ble_eq_true rfl⟩) (wPc_S Z) rfl rfl hl.1 rfl (lv_room (Nat.le_of_ble_eq_true rfl)) dX8_read_17 ⟨Nat.le_of_ble_eq_true rfl, Nat.le_of_ble_eq_true rfl⟩).run (fun r_13 h_14 => ?_)
      rw [h_14]; clear h_14 r_13
      refine r_if_eqB S (tgt := 27) dX8_read_20 (by decide) (fun c_15 => ?_) (fun c_15 => absurd c_15 (by simp_all))
      refine lv_iconst (v := nI 0) S.1 S.2.1 dX8_read_27 (by decide) ?_
      refine lv_istore (lv' := [(5, .int (nI 0)), (0, .ref (gA G 39)), (1, .int (x)), (2, .int (y)), (3, .int (z)), (4, .int (w))]) S.1 S.2.1 dX8_read_28 hl (by decide) rfl (fun ls hl => ?_)
      have q_16 : (bi false : Int32) = nI 0 := by rfl
      have hl : lv_has ls 9 [(0, .ref (gA G 39)), (1, .int (x)), (2, .int (y)), (3, .int (z)), (4, .int (w)), (5, .int (bi false))] := by
        have hl := lv_sub hl [1, 2, 3, 4, 5, 0] rfl
        rw [q_16]; exact hl
      exact L_30   _ _ Z ls (hl)

theorem m_X8_sumOfRow_k129 : Cond.constant RX8 129 (65521) ∈ wsX8_sumOfRow := by decide +kernel
theorem i_X8_sumOfRow_X8 : ∀ w ∈ wsX80, w ∈ wsX8_sumOfRow := by decide +kernel
theorem m_X8_sumOfRow_f19 : Cond.fieldLink RX8 19 "WideCellModel" "tomb" "[I" ∈ wsX8_sumOfRow := by decide +kernel
theorem m_X8_sumOfRow_f25 : Cond.fieldLink RX8 25 "WideCellModel" "first" "[I" ∈ wsX8_sumOfRow := by decide +kernel
theorem m_X8_sumOfRow_f28 : Cond.fieldLink RX8 28 "WideCellModel" "last" "[I" ∈ wsX8_sumOfRow := by decide +kernel
theorem m_X8_sumOfRow_f22 : Cond.fieldLink RX8 22 "WideCellModel" "made" "[I" ∈ wsX8_sumOfRow := by decide +kernel
theorem m_X8_sumOfRow_f7 : Cond.fieldLink RX8 7 "WideCellModel" "stamp" "[I" ∈ wsX8_sumOfRow := by decide +kernel
theorem m_X8_sumOfRow_f13 : Cond.fieldLink RX8 13 "WideCellModel" "value" "[I" ∈ wsX8_sumOfRow := by decide +kernel
theorem m_X8_sumOfRow_f16 : Cond.fieldLink RX8 16 "WideCellModel" "end" "[I" ∈ wsX8_sumOfRow := by decide +kernel
abbrev rm_k_X8_sumOfRow : Room := { frames := 3, cells := 0, slots := 0, locals := 67 }
set_option maxHeartbeats 4000000 in
set_option maxRecDepth 100000 in
theorem k_X8_sumOfRow (l : Launch) (G : wG) (σ : cS) (μ : mS) (o : Nat → Int64) (k : Nat) (row : Nat) (hk : k < 4) (hrow : row < 16) (hmr : mR μ ≤ 8) : Met l yX8_sumOfRow wsX8_sumOfRow rm_k_X8_sumOfRow (wPc G σ μ o [.ref (gA G 39), .int (nI k), .int (nI row)]) (vp_Si (fun rr => rr = srM μ k row)) 0 0 (fun _ => False) := by
  refine Met.ofW (cc := cX8_sumOfRow) (maxL := 7) (ret := (some .int)) (by decide) rfl ?_
  intro p e s m args below meth c s₁ B hml hv
  obtain ⟨hargs, hI⟩ := hv
  have S : CallFix p m c cX8_sumOfRow 7 s args wsX8_sumOfRow RX8 := ⟨B.exec, B.bytes, hml, findClass_of_methodNamed B.named, atoms_spec (ws := wsX8_sumOfRow) B.pre⟩
  have hret := B.returns
  have hlocks := B.notSynchronized
  have Z := wZ_0 hI
  clear hI
  obtain ⟨Q, hQ⟩ : ∃ Q, Q = MQ below (vp_Si (fun rr => rr = srM μ k row)) args s 0 0 (fun _ => False) := ⟨_, rfl⟩
  rw [← hQ]
  have hl := lv_entry [.ref (gA G 39), .int (nI k), .int (nI row)] (n := 7) (Nat.le_of_ble_eq_true rfl)
  rw [show entryFrame m args 7 = entryFrame m ([.ref (gA G 39), .int (nI k), .int (nI row)] : List Value).toArray 7 from by rw [hargs], lg_entry_eq]
  generalize (lg_sl [.ref (gA G 39), .int (nI k), .int (nI row)] ++ List.replicate (7 - (lg_sl [.ref (gA G 39), .int (nI k), .int (nI row)]).length) Slot.unset).toArray = ls at hl ⊢
  have hl : lv_has ls 7 [(0, .ref (gA G 39)), (1, .int (nI k)), (2, .int (nI row))] := hl
  refine lv_iconst (v := nI 0) S.1 S.2.1 dX8_sumOfRow_0 (by decide) ?_
  refine lv_istore_n (lv' := [(3, .int (nI 0)), (0, .ref (gA G 39)), (1, .int (nI k)), (2, .int (nI row))]) S.1 S.2.1 dX8_sumOfRow_1 rfl hl (by decide) rfl (fun ls hl => ?_)
  refine lv_iconst (v := nI 0) S.1 S.2.1 dX8_sumOfRow_2 (by decide) ?_
  refine lv_istore (lv' := [(4, .int (nI 0)), (3, .int (nI 0)), (0, .ref (gA G 39)), (1, .int (nI k)), (2, .int (nI row))]) S.1 S.2.1 dX8_sumOfRow_3 hl (by decide) rfl (fun ls hl => ?_)
  have L_5 : ∀ (n : Nat) (i : Nat) (hi : i ≤ 4) (hn : 4 - i < n) (ls : Array Slot) (hl : lv_has ls 7 [(0, .ref (gA G 39)), (1, .int (nI k)), (2, .int (nI row)), (3, .int (sm1 μ k row i)), (4, .int (nI i))]), W p l e (headSpec wsX8_sumOfRow rm_k_X8_sumOfRow).room s m args below meth c s.heap [] 0 0 Q (F0 m 5 ls []) := by
    intro n
    induction n with
    | zero => intro i hi hn; omega
    | succ n ih_5 =>
      intro i hi hn ls hl
      refine lv_iload S.1 S.2.1 dX8_sumOfRow_5 (lv_at hl 4 rfl) ?_
      refine lv_iconst (v := nI 4) S.1 S.2.1 dX8_sumOfRow_7 (by decide) ?_
      refine r_icmpN_ge S (tgt := 99) (by omega) (by omega) dX8_sumOfRow_8 (by decide) (fun c_1 => ?_) (fun c_1 => ?_)
      · skip
        obtain rfl : i = 4 := by omega
        refine lv_iconst (v := nI 0) S.1 S.2.1 dX8_sumOfRow_99 (by decide) ?_
        refine lv_istore (lv' := [(4, .int (nI 0)), (0, .ref (gA G 39)), (1, .int (nI k)), (2, .int (nI row)), (3, .int (sm1 μ k row 4))]) S.1 S.2.1 dX8_sumOfRow_100 hl (by decide) rfl (fun ls hl => ?_)
        have L_102 : ∀ (n : Nat) (i2 : Nat) (hi2 : i2 ≤ 92) (hn : 92 - i2 < n) (ls : Array Slot) (hl : lv_has ls 7 [(0, .ref (gA G 39)), (1, .int (nI k)), (2, .int (nI row)), (3, .int (sm2 μ k row i2)), (4, .int (nI i2))]), W p l e (headSpec wsX8_sumOfRow rm_k_X8_sumOfRow).room s m args below meth c s.heap [] 0 0 Q (F0 m 102 ls []) := by
          intro n
          induction n with
          | zero => intro i2 hi2 hn; omega
          | succ n ih_102 =>
            intro i2 hi2 hn ls hl
            refine lv_iload S.1 S.2.1 dX8_sumOfRow_102 (lv_at hl 4 rfl) ?_
            refine lv_bipush (v := nI 92) S.1 S.2.1 dX8_sumOfRow_104 (by decide) ?_
            refine r_icmpN_ge S (tgt := 248) (by omega) (by omega) dX8_sumOfRow_106 (by decide) (fun c_2 => ?_) (fun c_2 => ?_)
            · skip
              obtain rfl : i2 = 92 := by omega
              refine lv_iload_n S.1 S.2.1 dX8_sumOfRow_248 rfl (lv_at hl 3 rfl) ?_
              refine lv_ldc (v := 65521) S.1 S.2.1 S.2.2.2.1 (S.2.2.2.2 _ m_X8_sumOfRow_k129) dX8_sumOfRow_249 ?_
              refine r_irem S (by decide) dX8_sumOfRow_251 ?_
              rw [hQ]
              exact W.iret (v := (jrem (sm2 μ k row 92) ((65521 : Int32)))) S.1 S.2.1 hret (fun _ hT9 _ => ⟨_, rfl, rfl, hT9⟩) (fun _ h => nomatch h) dX8_sumOfRow_252
            · skip
              refine lv_bipush (v := nI 92) S.1 S.2.1 dX8_sumOfRow_109 (by decide) ?_
              refine lv_iload_n S.1 S.2.1 dX8_sumOfRow_111 rfl (lv_at hl 1 rfl) ?_
              refine r_mulN S dX8_sumOfRow_112 ?_
              refine lv_iload S.1 S.2.1 dX8_sumOfRow_113 (lv_at hl 4 rfl) ?_
              refine r_addN S dX8_sumOfRow_115 ?_
              refine lv_istore (lv' := [(5, .int (nI ((92 * k) + i2))), (0, .ref (gA G 39)), (1, .int (nI k)), (2, .int (nI row)), (3, .int (sm2 μ k row i2)), (4, .int (nI i2))]) S.1 S.2.1 dX8_sumOfRow_116 hl (by decide) rfl (fun ls hl => ?_)
              refine lv_aload_n S.1 S.2.1 dX8_sumOfRow_118 rfl (lv_at hl 1 rfl) ?_
              refine r_get (C := RX8) (T := TX8) (N := 19) (ci := 8) S Z (by decide) rfl rfl i_X8_sumOfRow_X8 3 (by decide) m_X8_sumOfRow_f19 rfl (v := .ref (gA G 43)) rfl dX8_sumOfRow_119 ?_
              refine lv_iload S.1 S.2.1 dX8_sumOfRow_122 (lv_at hl 0 rfl) ?_
              refine r_ialdM S Z (n := 368) ⟨rfl, rfl⟩ (by omega) (by decide) dX8_sumOfRow_124 ?_
              refine lv_iconst (v := -1) S.1 S.2.1 dX8_sumOfRow_125 (by decide) ?_
              refine lv_icmp_eq (tgt := 242) S.1 S.2.1 dX8_sumOfRow_126 (by decide) (fun c_3 => ?_) (fun c_3 => ?_)
              · skip
                refine lv_iinc (v := nI (i2 + 1)) (lv' := [(4, .int (nI (i2 + 1))), (5, .int (nI ((92 * k) + i2))), (0, .ref (gA G 39)), (1, .int (nI k)), (2, .int (nI row)), (3, .int (sm2 μ k row i2))]) S.1 S.2.1 dX8_sumOfRow_242 hl (k := 5) rfl (nI_inc rfl) (by decide) rfl (fun ls hl => ?_)
                refine lv_goto (tgt := 102) S.1 S.2.1 dX8_sumOfRow_245 (by decide) ?_
                have q_4 : (sm2 μ k row (i2 + 1) : Int32) = sm2 μ k row i2 := by first | (first | (simp [sm2, ownM, hi, c_1, hi2, c_2, c_3, Nat.not_lt.mpr c_1]; done) | (simp [sm2, ownM, hi, c_1, hi2, c_2, c_3, Nat.not_lt.mpr c_1]; omega) | (simp [sm2, ownM, ← Int32.not_le, hi, c_1, hi2, c_2, c_3, Nat.not_lt.mpr c_1]; done) | (simp [sm2, ownM, hi, c_1, hi2, c_2, eq_true c_3, Nat.not_lt.mpr c_1]; done)) | with_reducible rfl
                have hl : lv_has ls 7 [(0, .ref (gA G 39)), (1, .int (nI k)), (2, .int (nI row)), (3, .int (sm2 μ k row (i2 + 1))), (4, .int (nI (i2 + 1)))] := by
                  have hl := lv_sub hl [2, 3, 4, 5, 0] rfl
                  rw [q_4]; exact hl
                exact ih_102 (i2 + 1) (by first | omega | exact Nat.zero_le _) (by omega) ls (hl)
              · skip
                refine lv_aload_n S.1 S.2.1 dX8_sumOfRow_129 rfl (lv_at hl 1 rfl) ?_
                refine lv_iload S.1 S.2.1 dX8_sumOfRow_130 (lv_at hl 5 rfl) ?_
                refine lv_iload_n S.1 S.2.1 dX8_sumOfRow_132 rfl (lv_at hl 3 rfl) ?_
                refine vp_callSi (va_runV (As := [.int (nI i2), .int (nI row)]) (rest := []) S (k_X8_touches l G σ μ o i2 row (by omega) (by omega) hmr) (cwV 2 S.2.2.2.2 gX8_sumOfRow_X8_touches rfl rfl rfl ⟨rfl, hy_X8_touches⟩ ⟨Nat.le_of_ble_eq_true rfl, Nat.le_of_ble_eq_true rfl⟩) (wPc_V (q := (RX8, TX8, 19)) Z (by decide) rfl rfl) rfl rfl hl.1 rfl (lv_room (Nat.le_of_ble_eq_true rfl)) dX8_sumOfRow_133 ⟨Nat.le_of_ble_eq_true rfl, Nat.le_of_ble_eq_true rfl⟩).run (fun r_5 h_6 => ?_)
                rw [h_6]; clear h_6 r_5
                refine r_if_eqB S (tgt := 242) dX8_sumOfRow_136 (by decide) (fun c_7 => ?_) (fun c_7 => ?_)
                · skip
                  refine lv_iinc (v := nI (i2 + 1)) (lv' := [(4, .int (nI (i2 + 1))), (5, .int (nI ((92 * k) + i2))), (0, .ref (gA G 39)), (1, .int (nI k)), (2, .int (nI row)), (3, .int (sm2 μ k row i2))]) S.1 S.2.1 dX8_sumOfRow_242 hl (k := 5) rfl (nI_inc rfl) (by decide) rfl (fun ls hl => ?_)
                  refine lv_goto (tgt := 102) S.1 S.2.1 dX8_sumOfRow_245 (by decide) ?_
                  have q_8 : (sm2 μ k row (i2 + 1) : Int32) = sm2 μ k row i2 := by first | (first | (simp [sm2, ownM, hi, c_1, hi2, c_2, c_3, c_7, Nat.not_lt.mpr c_1]; done) | (simp [sm2, ownM, hi, c_1, hi2, c_2, c_3, c_7, Nat.not_lt.mpr c_1]; omega) | (simp [sm2, ownM, ← Int32.not_le, hi, c_1, hi2, c_2, c_3, c_7, Nat.not_lt.mpr c_1]; done) | (simp [sm2, ownM, hi, c_1, hi2, c_2, c_3, eq_true c_7, Nat.not_lt.mpr c_1]; done)) | with_reducible rfl
                  have hl : lv_has ls 7 [(0, .ref (gA G 39)), (1, .int (nI k)), (2, .int (nI row)), (3, .int (sm2 μ k row (i2 + 1))), (4, .int (nI (i2 + 1)))] := by
                    have hl := lv_sub hl [2, 3, 4, 5, 0] rfl
                    rw [q_8]; exact hl
                  exact ih_102 (i2 + 1) (by first | omega | exact Nat.zero_le _) (by omega) ls (hl)
                · skip
                  refine lv_iload S.1 S.2.1 dX8_sumOfRow_139 (lv_at hl 5 rfl) ?_
                  refine lv_bipush (v := nI 64) S.1 S.2.1 dX8_sumOfRow_141 (by decide) ?_
                  refine r_icmpN_ge S (tgt := 155) (by omega) (by omega) dX8_sumOfRow_143 (by decide) (fun c_9 => ?_) (fun c_9 => ?_)
                  · skip
                    refine lv_iload S.1 S.2.1 dX8_sumOfRow_155 (lv_at hl 5 rfl) ?_
                    refine lv_bipush (v := nI 68) S.1 S.2.1 dX8_sumOfRow_157 (by decide) ?_
                    refine r_icmpN_ge S (tgt := 172) (by omega) (by omega) dX8_sumOfRow_159 (by decide) (fun c_10 => ?_) (fun c_10 => ?_)
                    · skip
                      refine lv_iload S.1 S.2.1 dX8_sumOfRow_172 (lv_at hl 5 rfl) ?_
                      refine lv_bipush (v := nI 84) S.1 S.2.1 dX8_sumOfRow_174 (by decide) ?_
                      refine r_icmpN_ge S (tgt := 184) (by omega) (by omega) dX8_sumOfRow_176 (by decide) (fun c_11 => ?_) (fun c_11 => ?_)
                      · skip
                        refine lv_bipush (v := nI 11) S.1 S.2.1 dX8_sumOfRow_184 (by decide) ?_
                        refine lv_bipush (v := nI 17) S.1 S.2.1 dX8_sumOfRow_186 (by decide) ?_
                        refine lv_aload_n S.1 S.2.1 dX8_sumOfRow_188 rfl (lv_at hl 1 rfl) ?_
                        refine r_get (C := RX8) (T := TX8) (N := 19) (ci := 8) S Z (by decide) rfl rfl i_X8_sumOfRow_X8 6 (by decide) m_X8_sumOfRow_f25 rfl (v := .ref (gA G 45)) rfl dX8_sumOfRow_189 ?_
                        refine lv_iload S.1 S.2.1 dX8_sumOfRow_192 (lv_at hl 5 rfl) ?_
                        refine lv_bipush (v := nI 84) S.1 S.2.1 dX8_sumOfRow_194 (by decide) ?_
                        refine r_subN S (by omega) dX8_sumOfRow_196 ?_
                        refine r_ialdM S Z (n := 8) ⟨rfl, rfl⟩ (by omega) (by decide) dX8_sumOfRow_197 ?_
                        refine lv_imul S.1 S.2.1 dX8_sumOfRow_198 ?_
                        refine lv_iadd S.1 S.2.1 dX8_sumOfRow_199 ?_
                        refine lv_bipush (v := nI 19) S.1 S.2.1 dX8_sumOfRow_200 (by decide) ?_
                        refine lv_aload_n S.1 S.2.1 dX8_sumOfRow_202 rfl (lv_at hl 1 rfl) ?_
                        refine r_get (C := RX8) (T := TX8) (N := 19) (ci := 8) S Z (by decide) rfl rfl i_X8_sumOfRow_X8 7 (by decide) m_X8_sumOfRow_f28 rfl (v := .ref (gA G 46)) rfl dX8_sumOfRow_203 ?_
                        refine lv_iload S.1 S.2.1 dX8_sumOfRow_206 (lv_at hl 5 rfl) ?_
                        refine lv_bipush (v := nI 84) S.1 S.2.1 dX8_sumOfRow_208 (by decide) ?_
                        refine r_subN S (by omega) dX8_sumOfRow_210 ?_
                        refine r_ialdM S Z (n := 8) ⟨rfl, rfl⟩ (by omega) (by decide) dX8_sumOfRow_211 ?_
                        refine lv_imul S.1 S.2.1 dX8_sumOfRow_212 ?_
                        refine lv_iadd S.1 S.2.1 dX8_sumOfRow_213 ?_
                        refine lv_istore (lv' := [(6, .int (((nI 11 + (nI 17 * mI μ 45 (i2 - 84))) + (nI 19 * mI μ 46 (i2 - 84))))), (5, .int (nI ((92 * k) + i2))), (0, .ref (gA G 39)), (1, .int (nI k)), (2, .int (nI row)), (3, .int (sm2 μ k row i2)), (4, .int (nI i2))]) S.1 S.2.1 dX8_sumOfRow_214 hl (by decide) rfl (fun ls hl => ?_)
                        refine lv_iload_n S.1 S.2.1 dX8_sumOfRow_216 rfl (lv_at hl 5 rfl) ?_
                        refine lv_bipush (v := nI 13) S.1 S.2.1 dX8_sumOfRow_217 (by decide) ?_
                        refine lv_aload_n S.1 S.2.1 dX8_sumOfRow_219 rfl (lv_at hl 2 rfl) ?_
                        refine r_get (C := RX8) (T := TX8) (N := 19) (ci := 8) S Z (by decide) rfl rfl i_X8_sumOfRow_X8 3 (by decide) m_X8_sumOfRow_f19 rfl (v := .ref (gA G 43)) rfl dX8_sumOfRow_220 ?_
                        refine lv_iload S.1 S.2.1 dX8_sumOfRow_223 (lv_at hl 1 rfl) ?_
                        refine r_ialdM S Z (n := 368) ⟨rfl, rfl⟩ (by omega) (by decide) dX8_sumOfRow_225 ?_
                        refine lv_imul S.1 S.2.1 dX8_sumOfRow_226 ?_
                        refine lv_iconst (v := nI 5) S.1 S.2.1 dX8_sumOfRow_227 (by decide) ?_
                        refine lv_aload_n S.1 S.2.1 dX8_sumOfRow_228 rfl (lv_at hl 2 rfl) ?_
                        refine r_get (C := RX8) (T := TX8) (N := 19) (ci := 8) S Z (by decide) rfl rfl i_X8_sumOfRow_X8 4 (by decide) m_X8_sumOfRow_f22 rfl (v := .ref (gA G 44)) rfl dX8_sumOfRow_229 ?_
                        refine lv_iload S.1 S.2.1 dX8_sumOfRow_232 (lv_at hl 1 rfl) ?_
                        refine r_ialdM S Z (n := 368) ⟨rfl, rfl⟩ (by omega) (by decide) dX8_sumOfRow_234 ?_
                        refine lv_imul S.1 S.2.1 dX8_sumOfRow_235 ?_
                        refine lv_iadd S.1 S.2.1 dX8_sumOfRow_236 ?_
                        refine lv_iload S.1 S.2.1 dX8_sumOfRow_237 (lv_at hl 0 rfl) ?_
                        refine lv_iadd S.1 S.2.1 dX8_sumOfRow_239 ?_
                        refine lv_iadd S.1 S.2.1 dX8_sumOfRow_240 ?_
                        refine lv_istore_n (lv' := [(3, .int ((sm2 μ k row i2 + (((nI 13 * mI μ 43 ((92 * k) + i2)) + (nI 5 * mI μ 44 ((92 * k) + i2))) + ((nI 11 + (nI 17 * mI μ 45 (i2 - 84))) + (nI 19 * mI μ 46 (i2 - 84))))))), (6, .int (((nI 11 + (nI 17 * mI μ 45 (i2 - 84))) + (nI 19 * mI μ 46 (i2 - 84))))), (5, .int (nI ((92 * k) + i2))), (0, .ref (gA G 39)), (1, .int (nI k)), (2, .int (nI row)), (4, .int (nI i2))]) S.1 S.2.1 dX8_sumOfRow_241 rfl hl (by decide) rfl (fun ls hl => ?_)
                        refine lv_iinc (v := nI (i2 + 1)) (lv' := [(4, .int (nI (i2 + 1))), (3, .int ((sm2 μ k row i2 + (((nI 13 * mI μ 43 ((92 * k) + i2)) + (nI 5 * mI μ 44 ((92 * k) + i2))) + ((nI 11 + (nI 17 * mI μ 45 (i2 - 84))) + (nI 19 * mI μ 46 (i2 - 84))))))), (6, .int (((nI 11 + (nI 17 * mI μ 45 (i2 - 84))) + (nI 19 * mI μ 46 (i2 - 84))))), (5, .int (nI ((92 * k) + i2))), (0, .ref (gA G 39)), (1, .int (nI k)), (2, .int (nI row))]) S.1 S.2.1 dX8_sumOfRow_242 hl (k := 6) rfl (nI_inc rfl) (by decide) rfl (fun ls hl => ?_)
                        refine lv_goto (tgt := 102) S.1 S.2.1 dX8_sumOfRow_245 (by decide) ?_
                        have q_12 : (sm2 μ k row (i2 + 1) : Int32) = (sm2 μ k row i2 + (((nI 13 * mI μ 43 ((92 * k) + i2)) + (nI 5 * mI μ 44 ((92 * k) + i2))) + ((nI 11 + (nI 17 * mI μ 45 (i2 - 84))) + (nI 19 * mI μ 46 (i2 - 84))))) := by first | (first | (simp [sm2, ownM, hi, c_1, hi2, c_2, c_3, c_7, c_9, c_10, c_11, Nat.not_lt.mpr c_1, Nat.not_lt.mpr c_9, Nat.not_lt.mpr c_10, Nat.not_lt.mpr c_11]; done) | (simp [sm2, ownM, hi, c_1, hi2, c_2, c_3, c_7, c_9, c_10, c_11, Nat.not_lt.mpr c_1, Nat.not_lt.mpr c_9, Nat.not_lt.mpr c_10, Nat.not_lt.mpr c_11]; omega) | (simp [sm2, ownM, ← Int32.not_le, hi, c_1, hi2, c_2, c_3, c_7, c_9, c_10, c_11, Nat.not_lt.mpr c_1, Nat.not_lt.mpr c_9, Nat.not_lt.mpr c_10, Nat.not_lt.mpr c_11]; done)) | with_reducible rfl
                        have hl : lv_has ls 7 [(0, .ref (gA G 39)), (1, .int (nI k)), (2, .int (nI row)), (3, .int (sm2 μ k row (i2 + 1))), (4, .int (nI (i2 + 1)))] := by
                          have hl := lv_sub hl [4, 5, 6, 1, 0] rfl
                          rw [q_12]; exact hl
                        exact ih_102 (i2 + 1) (by first | omega | exact Nat.zero_le _) (by omega) ls (hl)
                      · skip
                        refine lv_bipush (v := nI 7) S.1 S.2.1 dX8_sumOfRow_179 (by decide) ?_
                        refine lv_goto (tgt := 214) S.1 S.2.1 dX8_sumOfRow_181 (by decide) ?_
                        refine lv_istore (lv' := [(6, .int (nI 7)), (5, .int (nI ((92 * k) + i2))), (0, .ref (gA G 39)), (1, .int (nI k)), (2, .int (nI row)), (3, .int (sm2 μ k row i2)), (4, .int (nI i2))]) S.1 S.2.1 dX8_sumOfRow_214 hl (by decide) rfl (fun ls hl => ?_)
                        refine lv_iload_n S.1 S.2.1 dX8_sumOfRow_216 rfl (lv_at hl 5 rfl) ?_
                        refine lv_bipush (v := nI 13) S.1 S.2.1 dX8_sumOfRow_217 (by decide) ?_
                        refine lv_aload_n S.1 S.2.1 dX8_sumOfRow_219 rfl (lv_at hl 2 rfl) ?_
                        refine r_get (C := RX8) (T := TX8) (N := 19) (ci := 8) S Z (by decide) rfl rfl i_X8_sumOfRow_X8 3 (by decide) m_X8_sumOfRow_f19 rfl (v := .ref (gA G 43)) rfl dX8_sumOfRow_220 ?_
                        refine lv_iload S.1 S.2.1 dX8_sumOfRow_223 (lv_at hl 1 rfl) ?_
                        refine r_ialdM S Z (n := 368) ⟨rfl, rfl⟩ (by omega) (by decide) dX8_sumOfRow_225 ?_
                        refine lv_imul S.1 S.2.1 dX8_sumOfRow_226 ?_
                        refine lv_iconst (v := nI 5) S.1 S.2.1 dX8_sumOfRow_227 (by decide) ?_
                        refine lv_aload_n S.1 S.2.1 dX8_sumOfRow_228 rfl (lv_at hl 2 rfl) ?_
                        refine r_get (C := RX8) (T := TX8) (N := 19) (ci := 8) S Z (by decide) rfl rfl i_X8_sumOfRow_X8 4 (by decide) m_X8_sumOfRow_f22 rfl (v := .ref (gA G 44)) rfl dX8_sumOfRow_229 ?_
                        refine lv_iload S.1 S.2.1 dX8_sumOfRow_232 (lv_at hl 1 rfl) ?_
                        refine r_ialdM S Z (n := 368) ⟨rfl, rfl⟩ (by omega) (by decide) dX8_sumOfRow_234 ?_
                        refine lv_imul S.1 S.2.1 dX8_sumOfRow_235 ?_
                        refine lv_iadd S.1 S.2.1 dX8_sumOfRow_236 ?_
                        refine lv_iload S.1 S.2.1 dX8_sumOfRow_237 (lv_at hl 0 rfl) ?_
                        refine lv_iadd S.1 S.2.1 dX8_sumOfRow_239 ?_
                        refine lv_iadd S.1 S.2.1 dX8_sumOfRow_240 ?_
                        refine lv_istore_n (lv' := [(3, .int ((sm2 μ k row i2 + (((nI 13 * mI μ 43 ((92 * k) + i2)) + (nI 5 * mI μ 44 ((92 * k) + i2))) + nI 7)))), (6, .int (nI 7)), (5, .int (nI ((92 * k) + i2))), (0, .ref (gA G 39)), (1, .int (nI k)), (2, .int (nI row)), (4, .int (nI i2))]) S.1 S.2.1 dX8_sumOfRow_241 rfl hl (by decide) rfl (fun ls hl => ?_)
                        refine lv_iinc (v := nI (i2 + 1)) (lv' := [(4, .int (nI (i2 + 1))), (3, .int ((sm2 μ k row i2 + (((nI 13 * mI μ 43 ((92 * k) + i2)) + (nI 5 * mI μ 44 ((92 * k) + i2))) + nI 7)))), (6, .int (nI 7)), (5, .int (nI ((92 * k) + i2))), (0, .ref (gA G 39)), (1, .int (nI k)), (2, .int (nI row))]) S.1 S.2.1 dX8_sumOfRow_242 hl (k := 6) rfl (nI_inc rfl) (by decide) rfl (fun ls hl => ?_)
                        refine lv_goto (tgt := 102) S.1 S.2.1 dX8_sumOfRow_245 (by decide) ?_
                        have q_13 : (sm2 μ k row (i2 + 1) : Int32) = (sm2 μ k row i2 + (((nI 13 * mI μ 43 ((92 * k) + i2)) + (nI 5 * mI μ 44 ((92 * k) + i2))) + nI 7)) := by first | (first | (simp [sm2, ownM, hi, c_1, hi2, c_2, c_3, c_7, c_9, c_10, c_11, Nat.not_lt.mpr c_1, Nat.not_lt.mpr c_9, Nat.not_lt.mpr c_10]; done) | (simp [sm2, ownM, hi, c_1, hi2, c_2, c_3, c_7, c_9, c_10, c_11, Nat.not_lt.mpr c_1, Nat.not_lt.mpr c_9, Nat.not_lt.mpr c_10]; omega) | (simp [sm2, ownM, ← Int32.not_le, hi, c_1, hi2, c_2, c_3, c_7, c_9, c_10, c_11, Nat.not_lt.mpr c_1, Nat.not_lt.mpr c_9, Nat.not_lt.mpr c_10]; done)) | with_reducible rfl
                        have hl : lv_has ls 7 [(0, .ref (gA G 39)), (1, .int (nI k)), (2, .int (nI row)), (3, .int (sm2 μ k row (i2 + 1))), (4, .int (nI (i2 + 1)))] := by
                          have hl := lv_sub hl [4, 5, 6, 1, 0] rfl
                          rw [q_13]; exact hl
                        exact ih_102 (i2 + 1) (by first | omega | exact Nat.zero_le _) (by omega) ls (hl)
                    · skip
                      refine lv_iconst (v := nI 5) S.1 S.2.1 dX8_sumOfRow_162 (by decide) ?_
                      refine lv_iload S.1 S.2.1 dX8_sumOfRow_163 (lv_at hl 5 rfl) ?_
                      refine r_addN S dX8_sumOfRow_165 ?_
                      refine lv_bipush (v := nI 64) S.1 S.2.1 dX8_sumOfRow_166 (by decide) ?_
                      refine r_subN S (by omega) dX8_sumOfRow_168 ?_
                      refine lv_goto (tgt := 214) S.1 S.2.1 dX8_sumOfRow_169 (by decide) ?_
                      refine lv_istore (lv' := [(6, .int (nI ((5 + i2) - 64))), (5, .int (nI ((92 * k) + i2))), (0, .ref (gA G 39)), (1, .int (nI k)), (2, .int (nI row)), (3, .int (sm2 μ k row i2)), (4, .int (nI i2))]) S.1 S.2.1 dX8_sumOfRow_214 hl (by decide) rfl (fun ls hl => ?_)
                      refine lv_iload_n S.1 S.2.1 dX8_sumOfRow_216 rfl (lv_at hl 5 rfl) ?_
                      refine lv_bipush (v := nI 13) S.1 S.2.1 dX8_sumOfRow_217 (by decide) ?_
                      refine lv_aload_n S.1 S.2.1 dX8_sumOfRow_219 rfl (lv_at hl 2 rfl) ?_
                      refine r_get (C := RX8) (T := TX8) (N := 19) (ci := 8) S Z (by decide) rfl rfl i_X8_sumOfRow_X8 3 (by decide) m_X8_sumOfRow_f19 rfl (v := .ref (gA G 43)) rfl dX8_sumOfRow_220 ?_
                      refine lv_iload S.1 S.2.1 dX8_sumOfRow_223 (lv_at hl 1 rfl) ?_
                      refine r_ialdM S Z (n := 368) ⟨rfl, rfl⟩ (by omega) (by decide) dX8_sumOfRow_225 ?_
                      refine lv_imul S.1 S.2.1 dX8_sumOfRow_226 ?_
                      refine lv_iconst (v := nI 5) S.1 S.2.1 dX8_sumOfRow_227 (by decide) ?_
                      refine lv_aload_n S.1 S.2.1 dX8_sumOfRow_228 rfl (lv_at hl 2 rfl) ?_
                      refine r_get (C := RX8) (T := TX8) (N := 19) (ci := 8) S Z (by decide) rfl rfl i_X8_sumOfRow_X8 4 (by decide) m_X8_sumOfRow_f22 rfl (v := .ref (gA G 44)) rfl dX8_sumOfRow_229 ?_
                      refine lv_iload S.1 S.2.1 dX8_sumOfRow_232 (lv_at hl 1 rfl) ?_
                      refine r_ialdM S Z (n := 368) ⟨rfl, rfl⟩ (by omega) (by decide) dX8_sumOfRow_234 ?_
                      refine lv_imul S.1 S.2.1 dX8_sumOfRow_235 ?_
                      refine lv_iadd S.1 S.2.1 dX8_sumOfRow_236 ?_
                      refine lv_iload S.1 S.2.1 dX8_sumOfRow_237 (lv_at hl 0 rfl) ?_
                      refine lv_iadd S.1 S.2.1 dX8_sumOfRow_239 ?_
                      refine lv_iadd S.1 S.2.1 dX8_sumOfRow_240 ?_
                      refine lv_istore_n (lv' := [(3, .int ((sm2 μ k row i2 + (((nI 13 * mI μ 43 ((92 * k) + i2)) + (nI 5 * mI μ 44 ((92 * k) + i2))) + nI ((5 + i2) - 64))))), (6, .int (nI ((5 + i2) - 64))), (5, .int (nI ((92 * k) + i2))), (0, .ref (gA G 39)), (1, .int (nI k)), (2, .int (nI row)), (4, .int (nI i2))]) S.1 S.2.1 dX8_sumOfRow_241 rfl hl (by decide) rfl (fun ls hl => ?_)
                      refine lv_iinc (v := nI (i2 + 1)) (lv' := [(4, .int (nI (i2 + 1))), (3, .int ((sm2 μ k row i2 + (((nI 13 * mI μ 43 ((92 * k) + i2)) + (nI 5 * mI μ 44 ((92 * k) + i2))) + nI ((5 + i2) - 64))))), (6, .int (nI ((5 + i2) - 64))), (5, .int (nI ((92 * k) + i2))), (0, .ref (gA G 39)), (1, .int (nI k)), (2, .int (nI row))]) S.1 S.2.1 dX8_sumOfRow_242 hl (k := 6) rfl (nI_inc rfl) (by decide) rfl (fun ls hl => ?_)
                      refine lv_goto (tgt := 102) S.1 S.2.1 dX8_sumOfRow_245 (by decide) ?_
                      have q_14 : (sm2 μ k row (i2 + 1) : Int32) = (sm2 μ k row i2 + (((nI 13 * mI μ 43 ((92 * k) + i2)) + (nI 5 * mI μ 44 ((92 * k) + i2))) + nI ((5 + i2) - 64))) := by first | (first | (simp [sm2, ownM, hi, c_1, hi2, c_2, c_3, c_7, c_9, c_10, Nat.not_lt.mpr c_1, Nat.not_lt.mpr c_9]; done) | (simp [sm2, ownM, hi, c_1, hi2, c_2, c_3, c_7, c_9, c_10, Nat.not_lt.mpr c_1, Nat.not_lt.mpr c_9]; omega) | (simp [sm2, ownM, ← Int32.not_le, hi, c_1, hi2, c_2, c_3, c_7, c_9, c_10, Nat.not_lt.mpr c_1, Nat.not_lt.mpr c_9]; done)) | with_reducible rfl
                      have hl : lv_has ls 7 [(0, .ref (gA G 39)), (1, .int (nI k)), (2, .int (nI row)), (3, .int (sm2 μ k row (i2 + 1))), (4, .int (nI (i2 + 1)))] := by
                        have hl := lv_sub hl [4, 5, 6, 1, 0] rfl
                        rw [q_14]; exact hl
                      exact ih_102 (i2 + 1) (by first | omega | exact Nat.zero_le _) (by omega) ls (hl)
                  · skip
                    refine lv_iconst (v := nI 3) S.1 S.2.1 dX8_sumOfRow_146 (by decide) ?_
                    refine lv_iload S.1 S.2.1 dX8_sumOfRow_147 (lv_at hl 5 rfl) ?_
                    refine lv_iconst (v := nI 4) S.1 S.2.1 dX8_sumOfRow_149 (by decide) ?_
                    refine r_remN S (by omega) (by decide) (by decide) dX8_sumOfRow_150 ?_
                    refine r_addN S dX8_sumOfRow_151 ?_
                    refine lv_goto (tgt := 214) S.1 S.2.1 dX8_sumOfRow_152 (by decide) ?_
                    refine lv_istore (lv' := [(6, .int (nI (3 + (i2 % 4)))), (5, .int (nI ((92 * k) + i2))), (0, .ref (gA G 39)), (1, .int (nI k)), (2, .int (nI row)), (3, .int (sm2 μ k row i2)), (4, .int (nI i2))]) S.1 S.2.1 dX8_sumOfRow_214 hl (by decide) rfl (fun ls hl => ?_)
                    refine lv_iload_n S.1 S.2.1 dX8_sumOfRow_216 rfl (lv_at hl 5 rfl) ?_
                    refine lv_bipush (v := nI 13) S.1 S.2.1 dX8_sumOfRow_217 (by decide) ?_
                    refine lv_aload_n S.1 S.2.1 dX8_sumOfRow_219 rfl (lv_at hl 2 rfl) ?_
                    refine r_get (C := RX8) (T := TX8) (N := 19) (ci := 8) S Z (by decide) rfl rfl i_X8_sumOfRow_X8 3 (by decide) m_X8_sumOfRow_f19 rfl (v := .ref (gA G 43)) rfl dX8_sumOfRow_220 ?_
                    refine lv_iload S.1 S.2.1 dX8_sumOfRow_223 (lv_at hl 1 rfl) ?_
                    refine r_ialdM S Z (n := 368) ⟨rfl, rfl⟩ (by omega) (by decide) dX8_sumOfRow_225 ?_
                    refine lv_imul S.1 S.2.1 dX8_sumOfRow_226 ?_
                    refine lv_iconst (v := nI 5) S.1 S.2.1 dX8_sumOfRow_227 (by decide) ?_
                    refine lv_aload_n S.1 S.2.1 dX8_sumOfRow_228 rfl (lv_at hl 2 rfl) ?_
                    refine r_get (C := RX8) (T := TX8) (N := 19) (ci := 8) S Z (by decide) rfl rfl i_X8_sumOfRow_X8 4 (by decide) m_X8_sumOfRow_f22 rfl (v := .ref (gA G 44)) rfl dX8_sumOfRow_229 ?_
                    refine lv_iload S.1 S.2.1 dX8_sumOfRow_232 (lv_at hl 1 rfl) ?_
                    refine r_ialdM S Z (n := 368) ⟨rfl, rfl⟩ (by omega) (by decide) dX8_sumOfRow_234 ?_
                    refine lv_imul S.1 S.2.1 dX8_sumOfRow_235 ?_
                    refine lv_iadd S.1 S.2.1 dX8_sumOfRow_236 ?_
                    refine lv_iload S.1 S.2.1 dX8_sumOfRow_237 (lv_at hl 0 rfl) ?_
                    refine lv_iadd S.1 S.2.1 dX8_sumOfRow_239 ?_
                    refine lv_iadd S.1 S.2.1 dX8_sumOfRow_240 ?_
                    refine lv_istore_n (lv' := [(3, .int ((sm2 μ k row i2 + (((nI 13 * mI μ 43 ((92 * k) + i2)) + (nI 5 * mI μ 44 ((92 * k) + i2))) + nI (3 + (i2 % 4)))))), (6, .int (nI (3 + (i2 % 4)))), (5, .int (nI ((92 * k) + i2))), (0, .ref (gA G 39)), (1, .int (nI k)), (2, .int (nI row)), (4, .int (nI i2))]) S.1 S.2.1 dX8_sumOfRow_241 rfl hl (by decide) rfl (fun ls hl => ?_)
                    refine lv_iinc (v := nI (i2 + 1)) (lv' := [(4, .int (nI (i2 + 1))), (3, .int ((sm2 μ k row i2 + (((nI 13 * mI μ 43 ((92 * k) + i2)) + (nI 5 * mI μ 44 ((92 * k) + i2))) + nI (3 + (i2 % 4)))))), (6, .int (nI (3 + (i2 % 4)))), (5, .int (nI ((92 * k) + i2))), (0, .ref (gA G 39)), (1, .int (nI k)), (2, .int (nI row))]) S.1 S.2.1 dX8_sumOfRow_242 hl (k := 6) rfl (nI_inc rfl) (by decide) rfl (fun ls hl => ?_)
                    refine lv_goto (tgt := 102) S.1 S.2.1 dX8_sumOfRow_245 (by decide) ?_
                    have q_15 : (sm2 μ k row (i2 + 1) : Int32) = (sm2 μ k row i2 + (((nI 13 * mI μ 43 ((92 * k) + i2)) + (nI 5 * mI μ 44 ((92 * k) + i2))) + nI (3 + (i2 % 4)))) := by first | (first | (simp [sm2, ownM, hi, c_1, hi2, c_2, c_3, c_7, c_9, Nat.not_lt.mpr c_1]; done) | (simp [sm2, ownM, hi, c_1, hi2, c_2, c_3, c_7, c_9, Nat.not_lt.mpr c_1]; omega) | (simp [sm2, ownM, ← Int32.not_le, hi, c_1, hi2, c_2, c_3, c_7, c_9, Nat.not_lt.mpr c_1]; done)) | with_reducible rfl
                    have hl : lv_has ls 7 [(0, .ref (gA G 39)), (1, .int (nI k)), (2, .int (nI row)), (3, .int (sm2 μ k row (i2 + 1))), (4, .int (nI (i2 + 1)))] := by
                      have hl := lv_sub hl [4, 5, 6, 1, 0] rfl
                      rw [q_15]; exact hl
                    exact ih_102 (i2 + 1) (by first | omega | exact Nat.zero_le _) (by omega) ls (hl)
        have q_16 : (sm2 μ k row 0 : Int32) = sm1 μ k row 4 := by rfl
        have hl : lv_has ls 7 [(0, .ref (gA G 39)), (1, .int (nI k)), (2, .int (nI row)), (3, .int (sm2 μ k row 0)), (4, .int (nI 0))] := by
          have hl := lv_sub hl [1, 2, 3, 4, 0] rfl
          rw [q_16]; exact hl
        exact L_102 (92 - 0 + 1) 0 (by first | omega | exact Nat.zero_le _) (Nat.lt_succ_self _) ls (hl)
      · skip
        refine lv_bipush (v := nI 64) S.1 S.2.1 dX8_sumOfRow_11 (by decide) ?_
        refine lv_iload_n S.1 S.2.1 dX8_sumOfRow_13 rfl (lv_at hl 1 rfl) ?_
        refine r_mulN S dX8_sumOfRow_14 ?_
        refine lv_iconst (v := nI 4) S.1 S.2.1 dX8_sumOfRow_15 (by decide) ?_
        refine lv_iload_n S.1 S.2.1 dX8_sumOfRow_16 rfl (lv_at hl 2 rfl) ?_
        refine r_mulN S dX8_sumOfRow_17 ?_
        refine r_addN S dX8_sumOfRow_18 ?_
        refine lv_iload S.1 S.2.1 dX8_sumOfRow_19 (lv_at hl 4 rfl) ?_
        refine r_addN S dX8_sumOfRow_21 ?_
        refine lv_istore (lv' := [(5, .int (nI (((64 * k) + (4 * row)) + i))), (0, .ref (gA G 39)), (1, .int (nI k)), (2, .int (nI row)), (3, .int (sm1 μ k row i)), (4, .int (nI i))]) S.1 S.2.1 dX8_sumOfRow_22 hl (by decide) rfl (fun ls hl => ?_)
        refine lv_iload_n S.1 S.2.1 dX8_sumOfRow_24 rfl (lv_at hl 4 rfl) ?_
        refine lv_aload_n S.1 S.2.1 dX8_sumOfRow_25 rfl (lv_at hl 1 rfl) ?_
        refine r_get (C := RX8) (T := TX8) (N := 19) (ci := 8) S Z (by decide) rfl rfl i_X8_sumOfRow_X8 0 (by decide) m_X8_sumOfRow_f7 rfl (v := .ref (gA G 40)) rfl dX8_sumOfRow_26 ?_
        refine lv_iload S.1 S.2.1 dX8_sumOfRow_29 (lv_at hl 0 rfl) ?_
        refine r_ialdM S Z (n := 256) ⟨rfl, rfl⟩ (by omega) (by decide) dX8_sumOfRow_31 ?_
        refine lv_iconst (v := -1) S.1 S.2.1 dX8_sumOfRow_32 (by decide) ?_
        refine lv_icmp_ne (tgt := 40) S.1 S.2.1 dX8_sumOfRow_33 (by decide) (fun c_17 => ?_) (fun c_17 => ?_)
        · skip
          refine lv_bipush (v := nI 31) S.1 S.2.1 dX8_sumOfRow_40 (by decide) ?_
          refine lv_aload_n S.1 S.2.1 dX8_sumOfRow_42 rfl (lv_at hl 1 rfl) ?_
          refine r_get (C := RX8) (T := TX8) (N := 19) (ci := 8) S Z (by decide) rfl rfl i_X8_sumOfRow_X8 0 (by decide) m_X8_sumOfRow_f7 rfl (v := .ref (gA G 40)) rfl dX8_sumOfRow_43 ?_
          refine lv_iload S.1 S.2.1 dX8_sumOfRow_46 (lv_at hl 0 rfl) ?_
          refine r_ialdM S Z (n := 256) ⟨rfl, rfl⟩ (by omega) (by decide) dX8_sumOfRow_48 ?_
          refine lv_imul S.1 S.2.1 dX8_sumOfRow_49 ?_
          refine lv_bipush (v := nI 7) S.1 S.2.1 dX8_sumOfRow_50 (by decide) ?_
          refine lv_aload_n S.1 S.2.1 dX8_sumOfRow_52 rfl (lv_at hl 1 rfl) ?_
          refine r_get (C := RX8) (T := TX8) (N := 19) (ci := 8) S Z (by decide) rfl rfl i_X8_sumOfRow_X8 1 (by decide) m_X8_sumOfRow_f13 rfl (v := .ref (gA G 41)) rfl dX8_sumOfRow_53 ?_
          refine lv_iload S.1 S.2.1 dX8_sumOfRow_56 (lv_at hl 0 rfl) ?_
          refine r_ialdM S Z (n := 256) ⟨rfl, rfl⟩ (by omega) (by decide) dX8_sumOfRow_58 ?_
          refine lv_imul S.1 S.2.1 dX8_sumOfRow_59 ?_
          refine lv_iadd S.1 S.2.1 dX8_sumOfRow_60 ?_
          refine lv_aload_n S.1 S.2.1 dX8_sumOfRow_61 rfl (lv_at hl 1 rfl) ?_
          refine r_get (C := RX8) (T := TX8) (N := 19) (ci := 8) S Z (by decide) rfl rfl i_X8_sumOfRow_X8 2 (by decide) m_X8_sumOfRow_f16 rfl (v := .ref (gA G 42)) rfl dX8_sumOfRow_62 ?_
          refine lv_iload S.1 S.2.1 dX8_sumOfRow_65 (lv_at hl 0 rfl) ?_
          refine r_ialdM S Z (n := 256) ⟨rfl, rfl⟩ (by omega) (by decide) dX8_sumOfRow_67 ?_
          refine lv_iconst (v := -1) S.1 S.2.1 dX8_sumOfRow_68 (by decide) ?_
          refine lv_icmp_ne (tgt := 78) S.1 S.2.1 dX8_sumOfRow_69 (by decide) (fun c_18 => ?_) (fun c_18 => ?_)
          · skip
            refine lv_aload_n S.1 S.2.1 dX8_sumOfRow_78 rfl (lv_at hl 1 rfl) ?_
            refine r_get (C := RX8) (T := TX8) (N := 19) (ci := 8) S Z (by decide) rfl rfl i_X8_sumOfRow_X8 2 (by decide) m_X8_sumOfRow_f16 rfl (v := .ref (gA G 42)) rfl dX8_sumOfRow_79 ?_
            refine lv_iload S.1 S.2.1 dX8_sumOfRow_82 (lv_at hl 0 rfl) ?_
            refine r_ialdM S Z (n := 256) ⟨rfl, rfl⟩ (by omega) (by decide) dX8_sumOfRow_84 ?_
            refine lv_iadd S.1 S.2.1 dX8_sumOfRow_85 ?_
            refine lv_iload S.1 S.2.1 dX8_sumOfRow_86 (lv_at hl 5 rfl) ?_
            refine lv_iadd S.1 S.2.1 dX8_sumOfRow_88 ?_
            refine lv_iconst (v := nI 1) S.1 S.2.1 dX8_sumOfRow_89 (by decide) ?_
            refine lv_iadd S.1 S.2.1 dX8_sumOfRow_90 ?_
            refine lv_iadd S.1 S.2.1 dX8_sumOfRow_91 ?_
            refine lv_istore_n (lv' := [(3, .int ((sm1 μ k row i + (((((nI 31 * mI μ 40 (((64 * k) + (4 * row)) + i)) + (nI 7 * mI μ 41 (((64 * k) + (4 * row)) + i))) + mI μ 42 (((64 * k) + (4 * row)) + i)) + nI i) + nI 1)))), (5, .int (nI (((64 * k) + (4 * row)) + i))), (0, .ref (gA G 39)), (1, .int (nI k)), (2, .int (nI row)), (4, .int (nI i))]) S.1 S.2.1 dX8_sumOfRow_92 rfl hl (by decide) rfl (fun ls hl => ?_)
            refine lv_iinc (v := nI (i + 1)) (lv' := [(4, .int (nI (i + 1))), (3, .int ((sm1 μ k row i + (((((nI 31 * mI μ 40 (((64 * k) + (4 * row)) + i)) + (nI 7 * mI μ 41 (((64 * k) + (4 * row)) + i))) + mI μ 42 (((64 * k) + (4 * row)) + i)) + nI i) + nI 1)))), (5, .int (nI (((64 * k) + (4 * row)) + i))), (0, .ref (gA G 39)), (1, .int (nI k)), (2, .int (nI row))]) S.1 S.2.1 dX8_sumOfRow_93 hl (k := 5) rfl (nI_inc rfl) (by decide) rfl (fun ls hl => ?_)
            refine lv_goto (tgt := 5) S.1 S.2.1 dX8_sumOfRow_96 (by decide) ?_
            have q_19 : (sm1 μ k row (i + 1) : Int32) = (sm1 μ k row i + (((((nI 31 * mI μ 40 (((64 * k) + (4 * row)) + i)) + (nI 7 * mI μ 41 (((64 * k) + (4 * row)) + i))) + mI μ 42 (((64 * k) + (4 * row)) + i)) + nI i) + nI 1)) := by first | (first | (simp [sm1, entM, hi, c_1, c_17, c_18]; done) | (simp [sm1, entM, hi, c_1, c_17, c_18]; omega) | (simp [sm1, entM, ← Int32.not_le, hi, c_1, c_17, c_18]; done)) | with_reducible rfl
            have hl : lv_has ls 7 [(0, .ref (gA G 39)), (1, .int (nI k)), (2, .int (nI row)), (3, .int (sm1 μ k row (i + 1))), (4, .int (nI (i + 1)))] := by
              have hl := lv_sub hl [3, 4, 5, 1, 0] rfl
              rw [q_19]; exact hl
            exact ih_5 (i + 1) (by first | omega | exact Nat.zero_le _) (by omega) ls (hl)
          · skip
            refine lv_sipush (v := nI 20000) S.1 S.2.1 dX8_sumOfRow_72 (by decide) ?_
            refine lv_goto (tgt := 85) S.1 S.2.1 dX8_sumOfRow_75 (by decide) ?_
            refine lv_iadd S.1 S.2.1 dX8_sumOfRow_85 ?_
            refine lv_iload S.1 S.2.1 dX8_sumOfRow_86 (lv_at hl 5 rfl) ?_
            refine lv_iadd S.1 S.2.1 dX8_sumOfRow_88 ?_
            refine lv_iconst (v := nI 1) S.1 S.2.1 dX8_sumOfRow_89 (by decide) ?_
            refine lv_iadd S.1 S.2.1 dX8_sumOfRow_90 ?_
            refine lv_iadd S.1 S.2.1 dX8_sumOfRow_91 ?_
            refine lv_istore_n (lv' := [(3, .int ((sm1 μ k row i + (((((nI 31 * mI μ 40 (((64 * k) + (4 * row)) + i)) + (nI 7 * mI μ 41 (((64 * k) + (4 * row)) + i))) + nI 20000) + nI i) + nI 1)))), (5, .int (nI (((64 * k) + (4 * row)) + i))), (0, .ref (gA G 39)), (1, .int (nI k)), (2, .int (nI row)), (4, .int (nI i))]) S.1 S.2.1 dX8_sumOfRow_92 rfl hl (by decide) rfl (fun ls hl => ?_)
            refine lv_iinc (v := nI (i + 1)) (lv' := [(4, .int (nI (i + 1))), (3, .int ((sm1 μ k row i + (((((nI 31 * mI μ 40 (((64 * k) + (4 * row)) + i)) + (nI 7 * mI μ 41 (((64 * k) + (4 * row)) + i))) + nI 20000) + nI i) + nI 1)))), (5, .int (nI (((64 * k) + (4 * row)) + i))), (0, .ref (gA G 39)), (1, .int (nI k)), (2, .int (nI row))]) S.1 S.2.1 dX8_sumOfRow_93 hl (k := 5) rfl (nI_inc rfl) (by decide) rfl (fun ls hl => ?_)
            refine lv_goto (tgt := 5) S.1 S.2.1 dX8_sumOfRow_96 (by decide) ?_
            have q_20 : (sm1 μ k row (i + 1) : Int32) = (sm1 μ k row i + (((((nI 31 * mI μ 40 (((64 * k) + (4 * row)) + i)) + (nI 7 * mI μ 41 (((64 * k) + (4 * row)) + i))) + nI 20000) + nI i) + nI 1)) := by first | (first | (simp [sm1, entM, hi, c_1, c_17, c_18]; done) | (simp [sm1, entM, hi, c_1, c_17, c_18]; omega) | (simp [sm1, entM, ← Int32.not_le, hi, c_1, c_17, c_18]; done) | (simp [sm1, entM, hi, c_1, c_17, eq_true c_18]; done)) | with_reducible rfl
            have hl : lv_has ls 7 [(0, .ref (gA G 39)), (1, .int (nI k)), (2, .int (nI row)), (3, .int (sm1 μ k row (i + 1))), (4, .int (nI (i + 1)))] := by
              have hl := lv_sub hl [3, 4, 5, 1, 0] rfl
              rw [q_20]; exact hl
            exact ih_5 (i + 1) (by first | omega | exact Nat.zero_le _) (by omega) ls (hl)
        · skip
          refine lv_iconst (v := nI 0) S.1 S.2.1 dX8_sumOfRow_36 (by decide) ?_
          refine lv_goto (tgt := 91) S.1 S.2.1 dX8_sumOfRow_37 (by decide) ?_
          refine lv_iadd S.1 S.2.1 dX8_sumOfRow_91 ?_
          refine lv_istore_n (lv' := [(3, .int ((sm1 μ k row i + nI 0))), (5, .int (nI (((64 * k) + (4 * row)) + i))), (0, .ref (gA G 39)), (1, .int (nI k)), (2, .int (nI row)), (4, .int (nI i))]) S.1 S.2.1 dX8_sumOfRow_92 rfl hl (by decide) rfl (fun ls hl => ?_)
          refine lv_iinc (v := nI (i + 1)) (lv' := [(4, .int (nI (i + 1))), (3, .int ((sm1 μ k row i + nI 0))), (5, .int (nI (((64 * k) + (4 * row)) + i))), (0, .ref (gA G 39)), (1, .int (nI k)), (2, .int (nI row))]) S.1 S.2.1 dX8_sumOfRow_93 hl (k := 5) rfl (nI_inc rfl) (by decide) rfl (fun ls hl => ?_)
          refine lv_goto (tgt := 5) S.1 S.2.1 dX8_sumOfRow_96 (by decide) ?_
          have q_21 : (sm1 μ k row (i + 1) : Int32) = (sm1 μ k row i + nI 0) := by first | (first | (simp [sm1, entM, hi, c_1, c_17]; done) | (simp [sm1, entM, hi, c_1, c_17]; omega) | (simp [sm1, entM, ← Int32.not_le, hi, c_1, c_17]; done) | (simp [sm1, entM, hi, c_1, eq_true c_17]; done)) | with_reducible rfl
          have hl : lv_has ls 7 [(0, .ref (gA G 39)), (1, .int (nI k)), (2, .int (nI row)), (3, .int (sm1 μ k row (i + 1))), (4, .int (nI (i + 1)))] := by
            have hl := lv_sub hl [3, 4, 5, 1, 0] rfl
            rw [q_21]; exact hl
          exact ih_5 (i + 1) (by first | omega | exact Nat.zero_le _) (by omega) ls (hl)
  have q_22 : (sm1 μ k row 0 : Int32) = nI 0 := by first | with_reducible rfl | (first | (simp [sm1, entM]; done) | (simp [sm1, entM]; omega) | (simp [sm1, entM, ← Int32.not_le]; done)) | rfl
  have hl : lv_has ls 7 [(0, .ref (gA G 39)), (1, .int (nI k)), (2, .int (nI row)), (3, .int (sm1 μ k row 0)), (4, .int (nI 0))] := by
    have hl := lv_sub hl [2, 3, 4, 1, 0] rfl
    rw [q_22]; exact hl
  exact L_5 (4 - 0 + 1) 0 (by first | omega | exact Nat.zero_le _) (Nat.lt_succ_self _) ls (hl)

theorem m_X8_sumOfNode_k129 : Cond.constant RX8 129 (65521) ∈ wsX8_sumOfNode := by decide +kernel
abbrev rm_k_X8_sumOfNode : Room := { frames := 4, cells := 0, slots := 0, locals := 93 }
set_option maxHeartbeats 4000000 in
set_option maxRecDepth 100000 in
theorem k_X8_sumOfNode (l : Launch) (G : wG) (σ : cS) (μ : mS) (o : Nat → Int64) (ν : mS) (k : Nat) (lv : Nat) (nd : Nat) (hk : k < 4) (hlv : lv < 5) (hnd : nd < 2 ^ lv) (hmr : mR μ ≤ 8) (hν : eqI μ ν) : Met l yX8_sumOfNode wsX8_sumOfNode rm_k_X8_sumOfNode (wPc G σ μ o [.ref (gA G 39), .int (nI k), .int (nI lv), .int (nI nd)]) (vp_Si (fun rr => rr = snM ν k lv nd)) 0 0 (fun _ => False) := by
  refine Met.ofW (cc := cX8_sumOfNode) (maxL := 7) (ret := (some .int)) (by decide) rfl ?_
  intro p e s m args below meth c s₁ B hml hv
  obtain ⟨hargs, hI⟩ := hv
  have S : CallFix p m c cX8_sumOfNode 7 s args wsX8_sumOfNode RX8 := ⟨B.exec, B.bytes, hml, findClass_of_methodNamed B.named, atoms_spec (ws := wsX8_sumOfNode) B.pre⟩
  have hret := B.returns
  have hlocks := B.notSynchronized
  have Z := wZ_0 hI
  clear hI
  obtain ⟨Q, hQ⟩ : ∃ Q, Q = MQ below (vp_Si (fun rr => rr = snM ν k lv nd)) args s 0 0 (fun _ => False) := ⟨_, rfl⟩
  rw [← hQ]
  have hl := lv_entry [.ref (gA G 39), .int (nI k), .int (nI lv), .int (nI nd)] (n := 7) (Nat.le_of_ble_eq_true rfl)
  rw [show entryFrame m args 7 = entryFrame m ([.ref (gA G 39), .int (nI k), .int (nI lv), .int (nI nd)] : List Value).toArray 7 from by rw [hargs], lg_entry_eq]
  generalize (lg_sl [.ref (gA G 39), .int (nI k), .int (nI lv), .int (nI nd)] ++ List.replicate (7 - (lg_sl [.ref (gA G 39), .int (nI k), .int (nI lv), .int (nI nd)]).length) Slot.unset).toArray = ls at hl ⊢
  have hl : lv_has ls 7 [(0, .ref (gA G 39)), (1, .int (nI k)), (2, .int (nI lv)), (3, .int (nI nd))] := hl
  have hq2 := q2 hlv hnd
  refine lv_bipush (v := nI 16) S.1 S.2.1 dX8_sumOfNode_0 (by decide) ?_
  refine lv_iload_n S.1 S.2.1 dX8_sumOfNode_2 rfl (lv_at hl 2 rfl) ?_
  refine r_shr16 S hlv dX8_sumOfNode_3 ?_
  refine lv_istore (lv' := [(4, .int (nI (16 / 2 ^ lv))), (0, .ref (gA G 39)), (1, .int (nI k)), (2, .int (nI lv)), (3, .int (nI nd))]) S.1 S.2.1 dX8_sumOfNode_4 hl (by decide) rfl (fun ls hl => ?_)
  refine lv_iconst (v := nI 0) S.1 S.2.1 dX8_sumOfNode_6 (by decide) ?_
  refine lv_istore (lv' := [(5, .int (nI 0)), (4, .int (nI (16 / 2 ^ lv))), (0, .ref (gA G 39)), (1, .int (nI k)), (2, .int (nI lv)), (3, .int (nI nd))]) S.1 S.2.1 dX8_sumOfNode_7 hl (by decide) rfl (fun ls hl => ?_)
  refine lv_iload S.1 S.2.1 dX8_sumOfNode_9 (lv_at hl 1 rfl) ?_
  refine lv_iload_n S.1 S.2.1 dX8_sumOfNode_11 rfl (lv_at hl 5 rfl) ?_
  refine r_mulN S dX8_sumOfNode_12 ?_
  refine lv_istore (lv' := [(6, .int (nI ((16 / 2 ^ lv) * nd))), (5, .int (nI 0)), (4, .int (nI (16 / 2 ^ lv))), (0, .ref (gA G 39)), (1, .int (nI k)), (2, .int (nI lv)), (3, .int (nI nd))]) S.1 S.2.1 dX8_sumOfNode_13 hl (by decide) rfl (fun ls hl => ?_)
  have L_15 : ∀ (n : Nat) (i : Nat) (hi : i ≤ 16 / 2 ^ lv) (hn : 16 / 2 ^ lv - i < n) (ls : Array Slot) (hl : lv_has ls 7 [(0, .ref (gA G 39)), (1, .int (nI k)), (2, .int (nI lv)), (3, .int (nI nd)), (4, .int (nI (16 / 2 ^ lv))), (5, .int (sn1 ν k (16 / 2 ^ lv * nd) i)), (6, .int (nI (16 / 2 ^ lv * nd + i)))]), W p l e (headSpec wsX8_sumOfNode rm_k_X8_sumOfNode).room s m args below meth c s.heap [] 0 0 Q (F0 m 15 ls []) := by
    intro n
    induction n with
    | zero => intro i hi hn; omega
    | succ n ih_15 =>
      intro i hi hn ls hl
      refine lv_iload S.1 S.2.1 dX8_sumOfNode_15 (lv_at hl 6 rfl) ?_
      refine lv_iload S.1 S.2.1 dX8_sumOfNode_17 (lv_at hl 4 rfl) ?_
      refine lv_iload_n S.1 S.2.1 dX8_sumOfNode_19 rfl (lv_at hl 3 rfl) ?_
      refine r_mulN S dX8_sumOfNode_20 ?_
      refine lv_iload S.1 S.2.1 dX8_sumOfNode_21 (lv_at hl 4 rfl) ?_
      refine r_addN S dX8_sumOfNode_23 ?_
      refine r_icmpN_ge S (tgt := 45) (by omega) (by omega) dX8_sumOfNode_24 (by decide) (fun c_1 => ?_) (fun c_1 => ?_)
      · skip
        refine lv_iload S.1 S.2.1 dX8_sumOfNode_45 (lv_at hl 5 rfl) ?_
        refine lv_ldc (v := 65521) S.1 S.2.1 S.2.2.2.1 (S.2.2.2.2 _ m_X8_sumOfNode_k129) dX8_sumOfNode_47 ?_
        refine r_irem S (by decide) dX8_sumOfNode_49 ?_
        rw [hQ]
        exact W.iret (v := (jrem (sn1 ν k (16 / 2 ^ lv * nd) i) ((65521 : Int32)))) S.1 S.2.1 hret (fun _ hT9 _ => ⟨_, rfl, (by rw [show i = 16 / 2 ^ lv from by omega]; rfl), hT9⟩) (fun _ h => nomatch h) dX8_sumOfNode_50
      · skip
        refine lv_iload S.1 S.2.1 dX8_sumOfNode_27 (lv_at hl 5 rfl) ?_
        refine lv_aload_n S.1 S.2.1 dX8_sumOfNode_29 rfl (lv_at hl 0 rfl) ?_
        refine lv_iload_n S.1 S.2.1 dX8_sumOfNode_30 rfl (lv_at hl 1 rfl) ?_
        refine lv_iload S.1 S.2.1 dX8_sumOfNode_31 (lv_at hl 6 rfl) ?_
        refine vp_callSi (va_runV (As := [.int (nI k), .int (nI (16 / 2 ^ lv * nd + i))]) (rest := [.int (sn1 ν k (16 / 2 ^ lv * nd) i)]) S (k_X8_sumOfRow l G σ μ o k (16 / 2 ^ lv * nd + i) (by omega) (by omega) hmr) (cwV 2 S.2.2.2.2 gX8_sumOfNode_X8_sumOfRow rfl rfl rfl ⟨rfl, hy_X8_sumOfRow⟩ ⟨Nat.le_of_ble_eq_true rfl, Nat.le_of_ble_eq_true rfl⟩) (wPc_V (q := (RX8, TX8, 19)) Z (by decide) rfl rfl) rfl rfl hl.1 rfl (lv_room (Nat.le_of_ble_eq_true rfl)) dX8_sumOfNode_33 ⟨Nat.le_of_ble_eq_true rfl, Nat.le_of_ble_eq_true rfl⟩).run (fun r_2 h_3 => ?_)
        rw [h_3]; clear h_3 r_2
        refine lv_iadd S.1 S.2.1 dX8_sumOfNode_36 ?_
        refine lv_istore (lv' := [(5, .int ((sn1 ν k (16 / 2 ^ lv * nd) i + srM μ k (16 / 2 ^ lv * nd + i)))), (0, .ref (gA G 39)), (1, .int (nI k)), (2, .int (nI lv)), (3, .int (nI nd)), (4, .int (nI (16 / 2 ^ lv))), (6, .int (nI (16 / 2 ^ lv * nd + i)))]) S.1 S.2.1 dX8_sumOfNode_37 hl (by decide) rfl (fun ls hl => ?_)
        refine lv_iinc (v := nI (16 / 2 ^ lv * nd + i + 1)) (lv' := [(6, .int (nI (16 / 2 ^ lv * nd + i + 1))), (5, .int ((sn1 ν k (16 / 2 ^ lv * nd) i + srM μ k (16 / 2 ^ lv * nd + i)))), (0, .ref (gA G 39)), (1, .int (nI k)), (2, .int (nI lv)), (3, .int (nI nd)), (4, .int (nI (16 / 2 ^ lv)))]) S.1 S.2.1 dX8_sumOfNode_39 hl (k := 6) rfl (nI_inc rfl) (by decide) rfl (fun ls hl => ?_)
        refine lv_goto (tgt := 15) S.1 S.2.1 dX8_sumOfNode_42 (by decide) ?_
        have q_4 : (sn1 ν k (16 / 2 ^ lv * nd) (i + 1) : Int32) = (sn1 ν k (16 / 2 ^ lv * nd) i + srM μ k (16 / 2 ^ lv * nd + i)) := by (rw [srM_eq hν]; rfl)
        have q_5 : (nI (16 / 2 ^ lv * nd + (i + 1)) : Int32) = nI (16 / 2 ^ lv * nd + i + 1) := by exact congrArg nI (by omega)
        have hl : lv_has ls 7 [(0, .ref (gA G 39)), (1, .int (nI k)), (2, .int (nI lv)), (3, .int (nI nd)), (4, .int (nI (16 / 2 ^ lv))), (5, .int (sn1 ν k (16 / 2 ^ lv * nd) (i + 1))), (6, .int (nI (16 / 2 ^ lv * nd + (i + 1))))] := by
          have hl := lv_sub hl [2, 3, 4, 5, 6, 1, 0] rfl
          rw [q_4, q_5]; exact hl
        exact ih_15 (i + 1) (by first | omega | exact Nat.zero_le _) (by omega) ls (hl)
  have q_6 : (sn1 ν k (16 / 2 ^ lv * nd) 0 : Int32) = nI 0 := by rfl
  have q_7 : (nI (16 / 2 ^ lv * nd + 0) : Int32) = nI ((16 / 2 ^ lv) * nd) := by rfl
  have hl : lv_has ls 7 [(0, .ref (gA G 39)), (1, .int (nI k)), (2, .int (nI lv)), (3, .int (nI nd)), (4, .int (nI (16 / 2 ^ lv))), (5, .int (sn1 ν k (16 / 2 ^ lv * nd) 0)), (6, .int (nI (16 / 2 ^ lv * nd + 0)))] := by
    have hl := lv_sub hl [3, 4, 5, 6, 2, 1, 0] rfl
    rw [q_6, q_7]; exact hl
  exact L_15 (16 / 2 ^ lv - 0 + 1) 0 (by first | omega | exact Nat.zero_le _) (Nat.lt_succ_self _) ls (hl)
