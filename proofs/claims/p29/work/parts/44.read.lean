theorem i_X7_read_X7 : ∀ w ∈ wsX70, w ∈ wsX7_read := by decide +kernel
theorem m_X7_read_f41 : Cond.fieldLink RX7 41 "WideCell" "now" "I" ∈ wsX7_read := by decide +kernel
theorem m_X7_read_f48 : Cond.fieldLink RX7 48 "WideCell" "repairCount" "I" ∈ wsX7_read := by decide +kernel
abbrev rm_k_X7_read : Room := { frames := 5, cells := 0, slots := 0, locals := 118 }
set_option maxHeartbeats 4000000 in
set_option maxRecDepth 100000 in
theorem k_X7_read (l : Launch) (G : wG) (σ : cS) (μ : mS) (o : Nat → Int64) (i : Nat) (j : Nat) (row : Nat) (col : Nat) (hi : i < 3) (hj : j < 3) (hrow : row < 16) (hcol : col < 4) (hij : i ≠ j) (hui : cU σ i = true) (huj : cU σ j = true) : Met l yX7_read wsX7_read rm_k_X7_read (wPc G σ μ o [.ref (gA G 0), .int (nI i), .int (nI j), .int (nI row), .int (nI col)]) (va_Qi (fun (rr : Int32) (u : cS × mS) => rr = visV (rdK σ i j row col) i row col (cV (rdK σ i j row col) 4) ∧ u = (rdK σ i j row col, μ)) (fun u t => wI G u.1 u.2 o t) (gP G)) 0 0 (gP G) := by
  refine Met.ofW (cc := cX7_read) (maxL := 7) (ret := (some .int)) (by decide) rfl ?_
  intro p e s m args below meth c s₁ B hml hv
  obtain ⟨hargs, hI⟩ := hv
  have S : CallFix p m c cX7_read 7 s args wsX7_read RX7 := ⟨B.exec, B.bytes, hml, findClass_of_methodNamed B.named, atoms_spec (ws := wsX7_read) B.pre⟩
  have hret := B.returns
  have hlocks := B.notSynchronized
  have Z := wZ_0 hI
  clear hI
  obtain ⟨Q, hQ⟩ : ∃ Q, Q = MQ below (va_Qi (fun (rr : Int32) (u : cS × mS) => rr = visV (rdK σ i j row col) i row col (cV (rdK σ i j row col) 4) ∧ u = (rdK σ i j row col, μ)) (fun u t => wI G u.1 u.2 o t) (gP G)) args s 0 0 (gP G) := ⟨_, rfl⟩
  rw [← hQ]
  have hl := lv_entry [.ref (gA G 0), .int (nI i), .int (nI j), .int (nI row), .int (nI col)] (n := 7) (Nat.le_of_ble_eq_true rfl)
  rw [show entryFrame m args 7 = entryFrame m ([.ref (gA G 0), .int (nI i), .int (nI j), .int (nI row), .int (nI col)] : List Value).toArray 7 from by rw [hargs], lg_entry_eq]
  generalize (lg_sl [.ref (gA G 0), .int (nI i), .int (nI j), .int (nI row), .int (nI col)] ++ List.replicate (7 - (lg_sl [.ref (gA G 0), .int (nI i), .int (nI j), .int (nI row), .int (nI col)]).length) Slot.unset).toArray = ls at hl ⊢
  have hl : lv_has ls 7 [(0, .ref (gA G 0)), (1, .int (nI i)), (2, .int (nI j)), (3, .int (nI row)), (4, .int (nI col))] := hl
  have L_72 : ∀   (H : Heap) (locs : List Loc) (Z : wZ G (rdK σ i j row col) (μ) o s H locs) (ls : Array Slot) (hl : lv_has ls 7 [(0, .ref (gA G 0)), (1, .int (nI i)), (2, .int (nI j)), (3, .int (nI row)), (4, .int (nI col)), (5, .ref (gA G (15 + 6 * i))), (6, .ref (gA G (15 + 6 * j)))]), W p l e (headSpec wsX7_read rm_k_X7_read).room s m args below meth c H locs 0 0 Q (F0 m 72 ls []) := by
    intro   H locs Z ls hl
    refine lv_aload S.1 S.2.1 dX7_read_72 (lv_at hl 5 rfl) ?_
    refine lv_iload_n S.1 S.2.1 dX7_read_74 rfl (lv_at hl 3 rfl) ?_
    refine lv_iload S.1 S.2.1 dX7_read_75 (lv_at hl 4 rfl) ?_
    refine lv_aload_n S.1 S.2.1 dX7_read_77 rfl (lv_at hl 0 rfl) ?_
    refine r_get (C := RX7) (T := TX7) (N := 7) (ci := 7) S Z (by decide) rfl rfl i_X7_read_X7 4 (by decide) m_X7_read_f41 rfl (v := .int (cV (rdK σ i j row col) 4)) rfl dX7_read_78 ?_
    refine vp_callSi (va_runV (As := [.int (nI row), .int (nI col), .int (cV (rdK σ i j row col) 4)]) (rest := []) S (k_X5_visibleValue l G (rdK σ i j row col) μ o i row col (cV (rdK σ i j row col) 4) (Nat.lt_trans hi (by decide)) (by omega) (by omega)) (cwV 3 S.2.2.2.2 gX7_read_X5_visibleValue rfl rfl rfl ⟨rfl, hy_X5_visibleValue⟩ ⟨Nat.le_of_ble_eq_true rfl, Nat.le_of_ble_eq_true rfl⟩) (wPc_V (q := (RX5, TX5, 6)) Z (by omega) (eT (Nat.lt_trans hi (by decide))) rfl) rfl rfl hl.1 rfl (lv_room (Nat.le_of_ble_eq_true rfl)) dX7_read_81 ⟨Nat.le_of_ble_eq_true rfl, Nat.le_of_ble_eq_true rfl⟩).run (fun r_1 h_2 => ?_)
    rw [h_2]; clear h_2 r_1
    rw [hQ]
    exact W.iret (v := visV (rdK σ i j row col) i row col (cV (rdK σ i j row col) 4)) S.1 S.2.1 hret (fun _ hT9 hW => ⟨⟨_, (rdK σ i j row col, μ), rfl, ⟨rfl, rfl⟩, wZ_P Z hT9 hW⟩, Z.2.2.2.2.F hT9⟩) Z.2.2.2.2.2.2 dX7_read_84
  refine lv_aload_n S.1 S.2.1 dX7_read_0 rfl (lv_at hl 0 rfl) ?_
  refine lv_iload_n S.1 S.2.1 dX7_read_1 rfl (lv_at hl 1 rfl) ?_
  refine va_csr (va_runV (As := [.int (nI i)]) (rest := []) S (k_X7_tableOf l G σ μ o i hi) (cwV 1 S.2.2.2.2 gX7_read_X7_tableOf rfl rfl rfl ⟨rfl, hy_X7_tableOf⟩ ⟨Nat.le_of_ble_eq_true rfl, Nat.le_of_ble_eq_true rfl⟩) (wPc_V (q := (RX7, TX7, 7)) Z (by decide) rfl rfl) rfl rfl hl.1 rfl (lv_room (Nat.le_of_ble_eq_true rfl)) dX7_read_2 ⟨Nat.le_of_ble_eq_true rfl, Nat.le_of_ble_eq_true rfl⟩).run (fun r_3 h_4 => ?_)
  rw [h_4]; clear h_4 r_3
  refine lv_astore (lv' := [(5, .ref (gA G (15 + 6 * i))), (0, .ref (gA G 0)), (1, .int (nI i)), (2, .int (nI j)), (3, .int (nI row)), (4, .int (nI col))]) S.1 S.2.1 dX7_read_5 hl (by decide) rfl (fun ls hl => ?_)
  refine lv_aload_n S.1 S.2.1 dX7_read_7 rfl (lv_at hl 1 rfl) ?_
  refine lv_iload_n S.1 S.2.1 dX7_read_8 rfl (lv_at hl 3 rfl) ?_
  refine va_csr (va_runV (As := [.int (nI j)]) (rest := []) S (k_X7_tableOf l G σ μ o j hj) (cwV 1 S.2.2.2.2 gX7_read_X7_tableOf rfl rfl rfl ⟨rfl, hy_X7_tableOf⟩ ⟨Nat.le_of_ble_eq_true rfl, Nat.le_of_ble_eq_true rfl⟩) (wPc_V (q := (RX7, TX7, 7)) Z (by decide) rfl rfl) rfl rfl hl.1 rfl (lv_room (Nat.le_of_ble_eq_true rfl)) dX7_read_9 ⟨Nat.le_of_ble_eq_true rfl, Nat.le_of_ble_eq_true rfl⟩).run (fun r_5 h_6 => ?_)
  rw [h_6]; clear h_6 r_5
  refine lv_astore (lv' := [(6, .ref (gA G (15 + 6 * j))), (5, .ref (gA G (15 + 6 * i))), (0, .ref (gA G 0)), (1, .int (nI i)), (2, .int (nI j)), (3, .int (nI row)), (4, .int (nI col))]) S.1 S.2.1 dX7_read_12 hl (by decide) rfl (fun ls hl => ?_)
  refine lv_iload_n S.1 S.2.1 dX7_read_14 rfl (lv_at hl 5 rfl) ?_
  refine va_csv (va_runS (As := [.int (nI row)]) (rest := []) S (k_X7_requireRow l G σ μ o row (by omega)) (va_cwS 1 S.2.2.2.2 gX7_read_X7_requireRow rfl rfl rfl hy_X7_requireRow ⟨Nat.le_of_ble_eq_true rfl, Nat.le_of_ble_eq_true rfl⟩) (wPc_S Z) rfl rfl hl.1 rfl (lv_room (Nat.le_of_ble_eq_true rfl)) dX7_read_15 ⟨Nat.le_of_ble_eq_true rfl, Nat.le_of_ble_eq_true rfl⟩).run (fun h_8 => ?_)
  refine lv_iload S.1 S.2.1 dX7_read_18 (lv_at hl 6 rfl) ?_
  refine va_csv (va_runS (As := [.int (nI col)]) (rest := []) S (k_X7_requireColumn l G σ μ o col (by omega)) (va_cwS 1 S.2.2.2.2 gX7_read_X7_requireColumn rfl rfl rfl hy_X7_requireColumn ⟨Nat.le_of_ble_eq_true rfl, Nat.le_of_ble_eq_true rfl⟩) (wPc_S Z) rfl rfl hl.1 rfl (lv_room (Nat.le_of_ble_eq_true rfl)) dX7_read_20 ⟨Nat.le_of_ble_eq_true rfl, Nat.le_of_ble_eq_true rfl⟩).run (fun h_10 => ?_)
  refine lv_aload_n S.1 S.2.1 dX7_read_23 rfl (lv_at hl 2 rfl) ?_
  refine lv_iload_n S.1 S.2.1 dX7_read_24 rfl (lv_at hl 3 rfl) ?_
  refine lv_iload_n S.1 S.2.1 dX7_read_25 rfl (lv_at hl 4 rfl) ?_
  refine va_csv (va_runV (As := [.int (nI i), .int (nI j)]) (rest := []) S (k_X7_requireTwoUp l G σ μ o i j hi hj hij hui huj) (cwV 2 S.2.2.2.2 gX7_read_X7_requireTwoUp rfl rfl rfl ⟨rfl, hy_X7_requireTwoUp⟩ ⟨Nat.le_of_ble_eq_true rfl, Nat.le_of_ble_eq_true rfl⟩) (wPc_V (q := (RX7, TX7, 7)) Z (by decide) rfl rfl) rfl rfl hl.1 rfl (lv_room (Nat.le_of_ble_eq_true rfl)) dX7_read_26 ⟨Nat.le_of_ble_eq_true rfl, Nat.le_of_ble_eq_true rfl⟩).run (fun h_12 => ?_)
  refine lv_aload S.1 S.2.1 dX7_read_29 (lv_at hl 1 rfl) ?_
  refine lv_iload_n S.1 S.2.1 dX7_read_31 rfl (lv_at hl 5 rfl) ?_
  refine lv_iload S.1 S.2.1 dX7_read_32 (lv_at hl 6 rfl) ?_
  refine lv_aload S.1 S.2.1 dX7_read_34 (lv_at hl 0 rfl) ?_
  refine vp_callSi (va_runV (As := [.int (nI row), .int (nI col), .ref (gA G (15 + 6 * j))]) (rest := []) S (k_X5_hasSameFor l G σ μ o i row col j (Nat.lt_trans hi (by decide)) (by omega) (by omega) (Nat.lt_trans hj (by decide))) (cwV 3 S.2.2.2.2 gX7_read_X5_hasSameFor rfl rfl rfl ⟨rfl, hy_X5_hasSameFor⟩ ⟨Nat.le_of_ble_eq_true rfl, Nat.le_of_ble_eq_true rfl⟩) (wPc_V (q := (RX5, TX5, 6)) Z (by omega) (eT (Nat.lt_trans hi (by decide))) rfl) rfl rfl hl.1 rfl (lv_room (Nat.le_of_ble_eq_true rfl)) dX7_read_36 ⟨Nat.le_of_ble_eq_true rfl, Nat.le_of_ble_eq_true rfl⟩).run (fun r_13 h_14 => ?_)
  rw [h_14]; clear h_14 r_13
  refine r_if_neB S (tgt := 72) dX7_read_39 (by decide) (fun c_15 => ?_) (fun c_15 => ?_)
  · skip
    have q9 : (rdK σ i j row col : cS) = σ := by first | (simp [bi, rdK, c_15]; done) | (simp [bi, rdK, c_15]; omega) | (simp [bi, rdK, ← Int32.not_le, c_15]; done)
    rw [← q9] at Z
    exact L_72   _ _ Z ls (lv_sub hl [2, 3, 4, 5, 6, 1, 0] rfl)
  · skip
    refine lv_aload S.1 S.2.1 dX7_read_42 (lv_at hl 1 rfl) ?_
    refine lv_aload S.1 S.2.1 dX7_read_44 (lv_at hl 0 rfl) ?_
    refine lv_iload_n S.1 S.2.1 dX7_read_46 rfl (lv_at hl 5 rfl) ?_
    refine lv_iload S.1 S.2.1 dX7_read_47 (lv_at hl 6 rfl) ?_
    refine va_callv (va_runV (As := [.ref (gA G (15 + 6 * j)), .int (nI row), .int (nI col)]) (rest := []) S (k_X5_takeCellFrom l G σ μ o i j row col (Nat.lt_trans hi (by decide)) (Nat.lt_trans hj (by decide)) (by omega) (by omega)) (cwV 3 S.2.2.2.2 gX7_read_X5_takeCellFrom rfl rfl rfl ⟨rfl, hy_X5_takeCellFrom⟩ ⟨Nat.le_of_ble_eq_true rfl, Nat.le_of_ble_eq_true rfl⟩) (wPc_V (q := (RX5, TX5, 6)) Z (by omega) (eT (Nat.lt_trans hi (by decide))) rfl) rfl rfl hl.1 rfl (lv_room (Nat.le_of_ble_eq_true rfl)) dX7_read_49 ⟨Nat.le_of_ble_eq_true rfl, Nat.le_of_ble_eq_true rfl⟩) Z.2.2.2.2 (fun _ _ h => h) (fun _ h => h) (fun u_17 T9 H1 locs1 hT9 hvm hw hB hz hk9 hS => ?_)
    subst hw
    have Z : wZ G (tkC σ i j row col) (μ) o s H1 locs1 := wZ_callP Z hB hT9 hS
    clear hB hT9 hS hk9 hz hvm T9
    revert Z; generalize H1 = H; generalize locs1 = locs; intro Z
    refine W.widen (k := 0) (n := 0) (by decide) (by decide) ?_
    refine lv_aload S.1 S.2.1 dX7_read_52 (lv_at hl 0 rfl) ?_
    refine lv_aload S.1 S.2.1 dX7_read_54 (lv_at hl 1 rfl) ?_
    refine lv_iload_n S.1 S.2.1 dX7_read_56 rfl (lv_at hl 5 rfl) ?_
    refine lv_iload S.1 S.2.1 dX7_read_57 (lv_at hl 6 rfl) ?_
    refine va_callv (va_runV (As := [.ref (gA G (15 + 6 * i)), .int (nI row), .int (nI col)]) (rest := []) S (k_X5_takeCellFrom l G (tkC σ i j row col) μ o j i row col (Nat.lt_trans hj (by decide)) (Nat.lt_trans hi (by decide)) (by omega) (by omega)) (cwV 3 S.2.2.2.2 gX7_read_X5_takeCellFrom rfl rfl rfl ⟨rfl, hy_X5_takeCellFrom⟩ ⟨Nat.le_of_ble_eq_true rfl, Nat.le_of_ble_eq_true rfl⟩) (wPc_V (q := (RX5, TX5, 6)) Z (by omega) (eT (Nat.lt_trans hj (by decide))) rfl) rfl rfl hl.1 rfl (lv_room (Nat.le_of_ble_eq_true rfl)) dX7_read_59 ⟨Nat.le_of_ble_eq_true rfl, Nat.le_of_ble_eq_true rfl⟩) Z.2.2.2.2 (fun _ _ h => h) (fun _ h => h) (fun u_19 T9 H1 locs1 hT9 hvm hw hB hz hk9 hS => ?_)
    subst hw
    have Z : wZ G (tkC (tkC σ i j row col) j i row col) (μ) o s H1 locs1 := wZ_callP Z hB hT9 hS
    clear hB hT9 hS hk9 hz hvm T9
    revert Z; generalize H1 = H; generalize locs1 = locs; intro Z
    refine W.widen (k := 0) (n := 0) (by decide) (by decide) ?_
    obtain ⟨σ9, hσ9⟩ : ∃ q : cS, q = tkC (tkC σ i j row col) j i row col := ⟨_, rfl⟩
    rw [← hσ9] at Z
    refine lv_aload_n S.1 S.2.1 dX7_read_62 rfl (lv_at hl 2 rfl) ?_
    refine lv_dup S.1 S.2.1 dX7_read_63 rfl ?_
    refine r_get (C := RX7) (T := TX7) (N := 7) (ci := 7) S Z (by decide) rfl rfl i_X7_read_X7 6 (by decide) m_X7_read_f48 rfl (v := .int (cV σ9 6)) rfl dX7_read_64 ?_
    refine lv_iconst (v := nI 1) S.1 S.2.1 dX7_read_67 (by decide) ?_
    refine lv_iadd S.1 S.2.1 dX7_read_68 ?_
    refine r_put (C := RX7) (T := TX7) (N := 7) (ci := 7) (σ' := cV' σ9 6 ((cV σ9 6 + nI 1))) (μ' := μ) S Z (by decide) rfl rfl i_X7_read_X7 tyX7 tyX7_ok nmX7 6 (by decide) m_X7_read_f48 rfl rfl (ty := .int) (v := .int ((cV σ9 6 + nI 1))) (by decide +kernel) rfl rfl (Nat.le_of_ble_eq_true rfl) rfl rfl (sV6 _) dX7_read_69 (fun H locs Z => ?_)
    have q9 : (rdK σ i j row col : cS) = cV' σ9 6 ((cV σ9 6 + nI 1)) := by first | (simp [bi, rdK, c_15, hσ9]; done) | (simp [bi, rdK, c_15, hσ9]; omega) | (simp [bi, rdK, ← Int32.not_le, c_15, hσ9]; done) | (simp [bi, rdK, eq_true c_15, hσ9]; done)
    rw [← q9] at Z
    exact L_72   _ _ Z ls (lv_sub hl [2, 3, 4, 5, 6, 1, 0] rfl)
