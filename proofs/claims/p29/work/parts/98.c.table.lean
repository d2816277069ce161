theorem m_L_table_c11 : Cond.classLink RL 11 RX7 ∈ wsL_table := by decide +kernel
theorem m_L_table_iX7 : Cond.instantiable RX7 7 ∈ wsL_table := by decide +kernel
theorem m_L_table_zX7 : Cond.initialized RX7 ∈ wsL_table := by decide +kernel
theorem m_L_table_k127 : Cond.methodLink RL 127 yX7_init ∈ wsL_table := by decide +kernel
theorem m_L_table_nX7 : Cond.instanceMethod yX7_init ∈ wsL_table := by decide +kernel
theorem m_L_table_ai : Cond.arrayClass .int ∈ wsL_table := by decide +kernel
theorem i_L_table_X7 : ∀ w ∈ wsX70, w ∈ wsL_table := by decide +kernel
set_option maxHeartbeats 8000000 in
set_option maxRecDepth 100000 in
theorem k_L_table (l : Launch) (hst : l.stackTraces = false) (G : wG) (b L : Nat) (xs : Nat → Int32) (at_ : Nat) (all : Bool) (hL : L ≤ 260) (hat : at_ ≤ 1000) (hbN : b < gN G) : Met l yL_table wsL_table rm_k_L_table (tPc G b L xs at_ all) (QT (gN G)) 260 10130 (gP G) := by
  refine Met.ofW (cc := cL_table) (maxL := 9) (ret := (some .boolean)) (by decide) rfl ?_
  intro p e s m args below meth c s₁ B hml hv
  obtain ⟨hargs, hI, hX⟩ := hv
  have S : CallFix p m c cL_table 9 s args wsL_table RL := ⟨B.exec, B.bytes, hml, findClass_of_methodNamed B.named, atoms_spec (ws := wsL_table) B.pre⟩
  have hret := B.returns
  have hlocks := B.notSynchronized
  have hbl : b < s.heap.size := Nat.lt_of_lt_of_le hbN hI.1
  have hbA : ¬ gP G b := Nat.not_le.mpr hbN
  have Z := yZ_0 hI
  clear hI
  obtain ⟨Q, hQ⟩ : ∃ Q, Q = MQ below (QT (gN G)) args s 260 10130 (gP G) := ⟨_, rfl⟩
  rw [← hQ]
  have hl := lv_entry [.ref b, .int (nI at_), .int (bi all)] (n := 9) (Nat.le_of_ble_eq_true rfl)
  rw [show entryFrame m args 9 = entryFrame m ([.ref b, .int (nI at_), .int (bi all)] : List Value).toArray 9 from by rw [hargs], lg_entry_eq]
  generalize (lg_sl [.ref b, .int (nI at_), .int (bi all)] ++ List.replicate (9 - (lg_sl [.ref b, .int (nI at_), .int (bi all)]).length) Slot.unset).toArray = ls at hl ⊢
  have hl : lv_has ls 9 [(0, .ref b), (1, .int (nI at_)), (2, .int (bi all))] := hl
  refine y_newO (C := RX7) (T := TX7) (N := 7) (ci := 7) (fs := [.null, .null, .null, .null, .int 0, .int 0, .int 0]) S Z tyX7 tyX7_ok i_L_table_X7 m_L_table_c11 m_L_table_iX7 m_L_table_zX7 rfl (fun j hj => by rcases (show j = 0 ∨ j = 1 ∨ j = 2 ∨ j = 3 ∨ j = 4 ∨ j = 5 ∨ j = 6 by omega) with rfl | rfl | rfl | rfl | rfl | rfl | rfl <;> rfl) (Nat.le_of_ble_eq_true rfl) (Nat.le_of_ble_eq_true rfl) dL_table_0 (fun q0 H Z => ?_)
  have Z : yZ G [(q0, .inr (7, [.null, .null, .null, .null, .int 0, .int 0, .int 0]))] s H [] := Z
  refine lv_dup S.1 S.2.1 dL_table_3 rfl ?_
  have hk9 : ([(q0, .inr (7, [.null, .null, .null, .null, .int 0, .int 0, .int 0]))] : va_W)[0]? = some (q0, .inr (7, [.null, .null, .null, .null, .int 0, .int 0, .int 0])) := rfl
  refine va_callv (va_runI (As := []) (rest := [.ref q0]) S (k_X7_init l G [(q0, .inr (7, [.null, .null, .null, .null, .int 0, .int 0, .int 0]))] q0 0 hk9) (cwI 0 S.2.2.2.2 gL_table_X7_init rfl rfl rfl (S.2.2.2.2 _ m_L_table_zX7) (S.2.2.2.2 _ m_L_table_k127) (S.2.2.2.2 _ m_L_table_nX7) rfl hy_X7_init ⟨Nat.le_of_ble_eq_true rfl, Nat.le_of_ble_eq_true rfl⟩) (yPc_S Z) rfl rfl hl.1 rfl (lv_room (Nat.le_of_ble_eq_true rfl)) dL_table_4 ⟨Nat.le_of_ble_eq_true rfl, Nat.le_of_ble_eq_true rfl⟩) Z.2.2.2.2 (fun _ _ h => h) (fun _ h => h) (fun u9 T9 H1 locs1 hT9 hvm hw hB hz hkk9 hS => ?_)
  obtain ⟨q1, q2, q3, q4, q5, q6, q7, q8, q9, q10, q11, q12, q13, q14, q15, q16, q17, q18, q19, q20, q21, q22, q23, q24, q25, q26, q27, q28, q29, q30, q31, q32, q33, q34, q35, q36, q37, q38, hw9⟩ := hw
  have Z := yZ_call Z hB hT9 hS
  clear hB hT9 hS hkk9 hz hvm T9
  revert Z; generalize H1 = H; generalize locs1 = locs; intro Z
  obtain ⟨w39, e39⟩ : ∃ q : va_W, q = [(q0, .inr (7, [.ref (q1), .ref (q4), .ref (q10), .ref (q35), .int (nI 0), .int (nI 10), .int (nI 0)])), (q1, .inr (4, [.ref (q2), .ref (q3)])), (q2, .inl (gC G 0, 8, .inl (fil (fun _ => 0) (-1) 8))), (q3, .inl (gC G 0, 8, .inl (fil (fun _ => 0) (-1) 8))), (q4, .inr (5, [.ref (q1), .ref (q5), .ref (q6), .ref (q7), .ref (q8), .ref (q9)])), (q5, .inl (gC G 0, 64, .inl (fil (fun _ => 0) (-1) 64))), (q6, .inl (gC G 0, 64, .inl (fun _ => 0))), (q7, .inl (gC G 0, 64, .inl (fun _ => 0))), (q8, .inl (gC G 0, 92, .inl (fil (fun _ => 0) (-1) 92))), (q9, .inl (gC G 0, 92, .inl (fun _ => 0))), (q10, .inl (gC G 2, 3, .inr (.inr (.inr (.inr (va_up (va_up (va_up (fun _ => none) 0 (some q11)) 1 (some q19)) 2 (some q27))))))), (q11, .inr (3, [.ref (q12), .ref (q18), .int (nI 1)])), (q12, .inr (5, [.ref (q1), .ref (q13), .ref (q14), .ref (q15), .ref (q16), .ref (q17)])), (q13, .inl (gC G 0, 64, .inl (fil (fun _ => 0) (-1) 64))), (q14, .inl (gC G 0, 64, .inl (fun _ => 0))), (q15, .inl (gC G 0, 64, .inl (fun _ => 0))), (q16, .inl (gC G 0, 92, .inl (fil (fun _ => 0) (-1) 92))), (q17, .inl (gC G 0, 92, .inl (fun _ => 0))), (q18, .inr (0, [.int (nI 0), .ref (gX G 0), .int 0])), (q19, .inr (3, [.ref (q20), .ref (q26), .int (nI 1)])), (q20, .inr (5, [.ref (q1), .ref (q21), .ref (q22), .ref (q23), .ref (q24), .ref (q25)])), (q21, .inl (gC G 0, 64, .inl (fil (fun _ => 0) (-1) 64))), (q22, .inl (gC G 0, 64, .inl (fun _ => 0))), (q23, .inl (gC G 0, 64, .inl (fun _ => 0))), (q24, .inl (gC G 0, 92, .inl (fil (fun _ => 0) (-1) 92))), (q25, .inl (gC G 0, 92, .inl (fun _ => 0))), (q26, .inr (0, [.int (nI 0), .ref (gX G 0), .int 0])), (q27, .inr (3, [.ref (q28), .ref (q34), .int (nI 1)])), (q28, .inr (5, [.ref (q1), .ref (q29), .ref (q30), .ref (q31), .ref (q32), .ref (q33)])), (q29, .inl (gC G 0, 64, .inl (fil (fun _ => 0) (-1) 64))), (q30, .inl (gC G 0, 64, .inl (fun _ => 0))), (q31, .inl (gC G 0, 64, .inl (fun _ => 0))), (q32, .inl (gC G 0, 92, .inl (fil (fun _ => 0) (-1) 92))), (q33, .inl (gC G 0, 92, .inl (fun _ => 0))), (q34, .inr (0, [.int (nI 0), .ref (gX G 0), .int 0])), (q35, .inr (1, [.ref (q36), .ref (q37), .ref (q38)])), (q36, .inl (gC G 0, 32, .inl (fun _ => 0))), (q37, .inl (gC G 0, 32, .inl (fun _ => 0))), (q38, .inl (gC G 1, 32, .inl (fun _ => 0)))] := ⟨_, rfl⟩
  have Z : yZ G w39 s H locs := by rw [e39]; rw [hw9] at Z; exact Z
  clear hw9
  refine W.widen (k := 39) (n := 1673) (Nat.le_of_ble_eq_true rfl) (Nat.le_of_ble_eq_true rfl) ?_
  refine lv_astore_n (lv' := [(3, .ref q0), (0, .ref b), (1, .int (nI at_)), (2, .int (bi all))]) S.1 S.2.1 dL_table_7 rfl hl (by decide) rfl (fun ls hl => ?_)
  refine lv_bipush (v := nI 9) S.1 S.2.1 dL_table_8 (by decide) ?_
  refine y_newI S Z (n := 9) (by decide) m_L_table_ai (Nat.le_of_ble_eq_true rfl) (Nat.le_of_ble_eq_true rfl) dL_table_10 (fun ca H Z => ?_)
  refine W.widen (k := 40) (n := 1682) (Nat.le_of_ble_eq_true rfl) (Nat.le_of_ble_eq_true rfl) ?_
  obtain ⟨G1, hG1⟩ : ∃ G1 : wG, G1 = (G.1, (fun k => ([q0, q1, q2, q3, q10, q35, q36, q37, q38, q11, q19, q27, q18, q26, q34, q12, q13, q14, q15, q16, q17, q20, q21, q22, q23, q24, q25, q28, q29, q30, q31, q32, q33, q4, q5, q6, q7, q8, q9] : List Nat).getD k 0), G.2.2.1, G.2.2.2.1, G.2.2.2.2) := ⟨_, rfl⟩
  have Z : yZ G1 (l39 G1 ++ [(ca, cA G1 (fun _ => 0))]) s H locs := by
    rw [e39] at Z
    rw [← nI_0] at Z
    rw [hG1]
    exact Z
  have Z := st_Z Z
  refine lv_astore (lv' := [(4, .ref ca), (3, .ref q0), (0, .ref b), (1, .int (nI at_)), (2, .int (bi all))]) S.1 S.2.1 dL_table_12 hl (by decide) rfl (fun ls hl => ?_)
  refine lv_aload S.1 S.2.1 dL_table_14 (lv_at hl 0 rfl) ?_
  refine lv_iconst (v := nI 1) S.1 S.2.1 dL_table_16 (by decide) ?_
  refine lv_bipush (v := nI 10) S.1 S.2.1 dL_table_17 (by decide) ?_
  refine r_stc S Z (by decide) dL_table_19 (fun H locs Z => ?_)
  refine lv_aload S.1 S.2.1 dL_table_20 (lv_at hl 0 rfl) ?_
  refine lv_iconst (v := nI 5) S.1 S.2.1 dL_table_22 (by decide) ?_
  refine lv_bipush (v := nI 7) S.1 S.2.1 dL_table_23 (by decide) ?_
  refine r_stc S Z (by decide) dL_table_25 (fun H locs Z => ?_)
  have g0 : gA G1 0 = q0 := by rw [hG1]; rfl
  have hbA1 : ¬ gP G1 b := by rw [hG1]; exact hbA
  have hQ1 : Q = MQ below (QT (gN G1)) args s 260 10130 (gP G1) := by rw [hG1]; exact hQ
  have L_39 : ∀ (v : Nat), v ≤ 1 → W p l e (headSpec wsL_table rm_k_L_table).room s m args below meth c H locs 40 1682 Q (F0 m 39 ls [.int (nI v), .int (nI 7), .ref ca]) := by
    intro v hv
    refine r_stc S Z (by decide) dL_table_39 (fun H locs Z => ?_)
    refine lv_iconst (v := nI 0) S.1 S.2.1 dL_table_40 (by decide) ?_
    refine lv_istore (lv' := [(5, .int (nI 0)), (4, .ref ca), (3, .ref q0), (0, .ref b), (1, .int (nI at_)), (2, .int (bi all))]) S.1 S.2.1 dL_table_41 hl (by decide) rfl (fun ls hl => ?_)
    have hl := lv_sub hl [3, 4, 5, 2, 1, 0] rfl
    rw [← g0] at hl
    exact tb_loop l hst hL hat S hret hlocks hX hbl hbA1 hQ1 (LI_0 hv) rfl rfl Z hl
  refine lv_aload S.1 S.2.1 dL_table_26 (lv_at hl 0 rfl) ?_
  refine lv_bipush (v := nI 7) S.1 S.2.1 dL_table_28 (by decide) ?_
  refine lv_iload_n S.1 S.2.1 dL_table_30 rfl (lv_at hl 4 rfl) ?_
  refine r_if_eqB S (tgt := 38) dL_table_31 (by decide) (fun _ => ?_) (fun _ => ?_)
  · refine lv_iconst (v := nI 0) S.1 S.2.1 dL_table_38 (by decide) ?_
    exact L_39 0 (by decide)
  · refine lv_iconst (v := nI 1) S.1 S.2.1 dL_table_34 (by decide) ?_
    refine lv_goto (tgt := 39) S.1 S.2.1 dL_table_35 (by decide) ?_
    exact L_39 1 (by decide)
