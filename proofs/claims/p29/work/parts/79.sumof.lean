theorem i_X7_sumOf_X7 : ∀ w ∈ wsX70, w ∈ wsX7_sumOf := by decide +kernel
theorem m_X7_sumOf_f37 : Cond.fieldLink RX7 37 "WideCell" "comparison" "LWideCell$Comparison;" ∈ wsX7_sumOf := by decide +kernel
abbrev rm_k_X7_sumOf : Room := { frames := 4, cells := 0, slots := 0, locals := 91 }
set_option maxHeartbeats 4000000 in
set_option maxRecDepth 100000 in
theorem k_X7_sumOf (l : Launch) (G : wG) (σ : cS) (μ : mS) (o : Nat → Int64) (i : Nat) (lv : Nat) (nd : Nat) (hi : i < 3) (hlv : lv < 5) (hnd : nd < 2 ^ lv) : Met l yX7_sumOf wsX7_sumOf rm_k_X7_sumOf (wPc G σ μ o [.ref (gA G 0), .int (nI i), .int (nI lv), .int (nI nd)]) (va_Qi (fun (rr : Int32) (u : cS × mS) => rr = cI (mkS σ i 6) 6 (2 ^ lv + nd) ∧ u = (mkS σ i 6, μ)) (fun u t => wI G u.1 u.2 o t) (gP G)) 0 0 (gP G) := by
  refine Met.ofW (cc := cX7_sumOf) (maxL := 6) (ret := (some .int)) (by decide) rfl ?_
  intro p e s m args below meth c s₁ B hml hv
  obtain ⟨hargs, hI⟩ := hv
  have S : CallFix p m c cX7_sumOf 6 s args wsX7_sumOf RX7 := ⟨B.exec, B.bytes, hml, findClass_of_methodNamed B.named, atoms_spec (ws := wsX7_sumOf) B.pre⟩
  have hret := B.returns
  have hlocks := B.notSynchronized
  have Z := wZ_0 hI
  clear hI
  obtain ⟨Q, hQ⟩ : ∃ Q, Q = MQ below (va_Qi (fun (rr : Int32) (u : cS × mS) => rr = cI (mkS σ i 6) 6 (2 ^ lv + nd) ∧ u = (mkS σ i 6, μ)) (fun u t => wI G u.1 u.2 o t) (gP G)) args s 0 0 (gP G) := ⟨_, rfl⟩
  rw [← hQ]
  have hl := lv_entry [.ref (gA G 0), .int (nI i), .int (nI lv), .int (nI nd)] (n := 6) (Nat.le_of_ble_eq_true rfl)
  rw [show entryFrame m args 6 = entryFrame m ([.ref (gA G 0), .int (nI i), .int (nI lv), .int (nI nd)] : List Value).toArray 6 from by rw [hargs], lg_entry_eq]
  generalize (lg_sl [.ref (gA G 0), .int (nI i), .int (nI lv), .int (nI nd)] ++ List.replicate (6 - (lg_sl [.ref (gA G 0), .int (nI i), .int (nI lv), .int (nI nd)]).length) Slot.unset).toArray = ls at hl ⊢
  have hl : lv_has ls 6 [(0, .ref (gA G 0)), (1, .int (nI i)), (2, .int (nI lv)), (3, .int (nI nd))] := hl
  have hp2 := p2 hlv
  have hp3 : 2 ^ lv + nd < 32 := by
    rcases (show lv = 0 ∨ lv = 1 ∨ lv = 2 ∨ lv = 3 ∨ lv = 4 by omega) with rfl | rfl | rfl | rfl | rfl <;> omega
  refine lv_aload_n S.1 S.2.1 dX7_sumOf_0 rfl (lv_at hl 0 rfl) ?_
  refine lv_iload_n S.1 S.2.1 dX7_sumOf_1 rfl (lv_at hl 1 rfl) ?_
  refine va_csr (va_runV (As := [.int (nI i)]) (rest := []) S (k_X7_tableOf l G σ μ o i hi) (cwV 1 S.2.2.2.2 gX7_sumOf_X7_tableOf rfl rfl rfl ⟨rfl, hy_X7_tableOf⟩ ⟨Nat.le_of_ble_eq_true rfl, Nat.le_of_ble_eq_true rfl⟩) (wPc_V (q := (RX7, TX7, 7)) Z (by decide) rfl rfl) rfl rfl hl.1 rfl (lv_room (Nat.le_of_ble_eq_true rfl)) dX7_sumOf_2 ⟨Nat.le_of_ble_eq_true rfl, Nat.le_of_ble_eq_true rfl⟩).run (fun r_1 h_2 => ?_)
  rw [h_2]; clear h_2 r_1
  refine lv_astore (lv' := [(4, .ref (gA G (15 + 6 * i))), (0, .ref (gA G 0)), (1, .int (nI i)), (2, .int (nI lv)), (3, .int (nI nd))]) S.1 S.2.1 dX7_sumOf_5 hl (by decide) rfl (fun ls hl => ?_)
  refine lv_iload_n S.1 S.2.1 dX7_sumOf_7 rfl (lv_at hl 3 rfl) ?_
  refine lv_iconst (v := nI 4) S.1 S.2.1 dX7_sumOf_8 (by decide) ?_
  refine vp_callSi (va_runS (As := [.int (nI lv), .int (nI 4)]) (rest := []) S (k_X7_isWithin_n l G σ μ o lv 4 (by omega) (by omega)) (va_cwS 2 S.2.2.2.2 gX7_sumOf_X7_isWithin rfl rfl rfl hy_X7_isWithin ⟨Nat.le_of_ble_eq_true rfl, Nat.le_of_ble_eq_true rfl⟩) (wPc_S Z) rfl rfl hl.1 rfl (lv_room (Nat.le_of_ble_eq_true rfl)) dX7_sumOf_9 ⟨Nat.le_of_ble_eq_true rfl, Nat.le_of_ble_eq_true rfl⟩).run (fun r_3 h_4 => ?_)
  rw [h_4]; clear h_4 r_3
  refine va_csv (va_runS (As := [.int (bi true)]) (rest := []) S (k_X7_requireIndex l G σ μ o  ) (va_cwS 1 S.2.2.2.2 gX7_sumOf_X7_requireIndex rfl rfl rfl hy_X7_requireIndex ⟨Nat.le_of_ble_eq_true rfl, Nat.le_of_ble_eq_true rfl⟩) (wPc_S Z) rfl rfl hl.1 rfl (lv_room (Nat.le_of_ble_eq_true rfl)) dX7_sumOf_12 ⟨Nat.le_of_ble_eq_true rfl, Nat.le_of_ble_eq_true rfl⟩).run (fun h_6 => ?_)
  refine lv_iconst (v := nI 1) S.1 S.2.1 dX7_sumOf_15 (by decide) ?_
  refine lv_iload_n S.1 S.2.1 dX7_sumOf_16 rfl (lv_at hl 3 rfl) ?_
  refine r_shl1 S (by omega) dX7_sumOf_17 ?_
  refine lv_istore (lv' := [(5, .int (nI (2 ^ lv))), (4, .ref (gA G (15 + 6 * i))), (0, .ref (gA G 0)), (1, .int (nI i)), (2, .int (nI lv)), (3, .int (nI nd))]) S.1 S.2.1 dX7_sumOf_18 hl (by decide) rfl (fun ls hl => ?_)
  refine lv_iload_n S.1 S.2.1 dX7_sumOf_20 rfl (lv_at hl 5 rfl) ?_
  refine lv_iload S.1 S.2.1 dX7_sumOf_21 (lv_at hl 0 rfl) ?_
  refine lv_iconst (v := nI 1) S.1 S.2.1 dX7_sumOf_23 (by decide) ?_
  refine r_subN S (by omega) dX7_sumOf_24 ?_
  refine vp_callSi (va_runS (As := [.int (nI nd), .int (nI ((2 ^ lv) - 1))]) (rest := []) S (k_X7_isWithin_n l G σ μ o nd ((2 ^ lv) - 1) (by omega) (by omega)) (va_cwS 2 S.2.2.2.2 gX7_sumOf_X7_isWithin rfl rfl rfl hy_X7_isWithin ⟨Nat.le_of_ble_eq_true rfl, Nat.le_of_ble_eq_true rfl⟩) (wPc_S Z) rfl rfl hl.1 rfl (lv_room (Nat.le_of_ble_eq_true rfl)) dX7_sumOf_25 ⟨Nat.le_of_ble_eq_true rfl, Nat.le_of_ble_eq_true rfl⟩).run (fun r_7 h_8 => ?_)
  rw [h_8]; clear h_8 r_7
  refine va_csv (va_runS (As := [.int (bi true)]) (rest := []) S (k_X7_requireIndex l G σ μ o  ) (va_cwS 1 S.2.2.2.2 gX7_sumOf_X7_requireIndex rfl rfl rfl hy_X7_requireIndex ⟨Nat.le_of_ble_eq_true rfl, Nat.le_of_ble_eq_true rfl⟩) (wPc_S Z) rfl rfl hl.1 rfl (lv_room (Nat.le_of_ble_eq_true rfl)) dX7_sumOf_28 ⟨Nat.le_of_ble_eq_true rfl, Nat.le_of_ble_eq_true rfl⟩).run (fun h_10 => ?_)
  refine lv_aload_n S.1 S.2.1 dX7_sumOf_31 rfl (lv_at hl 2 rfl) ?_
  refine r_get (C := RX7) (T := TX7) (N := 7) (ci := 7) S Z (by decide) rfl rfl i_X7_sumOf_X7 3 (by decide) m_X7_sumOf_f37 rfl (v := .ref (gA G 5)) rfl dX7_sumOf_32 ?_
  refine lv_aload S.1 S.2.1 dX7_sumOf_35 (lv_at hl 1 rfl) ?_
  refine lv_iload S.1 S.2.1 dX7_sumOf_37 (lv_at hl 0 rfl) ?_
  refine lv_iload_n S.1 S.2.1 dX7_sumOf_39 rfl (lv_at hl 5 rfl) ?_
  refine r_addN S dX7_sumOf_40 ?_
  refine va_calli (va_runV (As := [.ref (gA G (15 + 6 * i)), .int (nI ((2 ^ lv) + nd))]) (rest := []) S (k_X1_nodeSum l G σ μ o i ((2 ^ lv) + nd) (Nat.lt_trans hi (by decide)) hp3) (cwV 2 S.2.2.2.2 gX7_sumOf_X1_nodeSum rfl rfl rfl ⟨rfl, hy_X1_nodeSum⟩ ⟨Nat.le_of_ble_eq_true rfl, Nat.le_of_ble_eq_true rfl⟩) (wPc_V (q := (RX1, TX1, 3)) Z (by decide) rfl rfl) rfl rfl hl.1 rfl (lv_room (Nat.le_of_ble_eq_true rfl)) dX7_sumOf_41 ⟨Nat.le_of_ble_eq_true rfl, Nat.le_of_ble_eq_true rfl⟩) Z.2.2.2.2 (fun _ _ h => h) (fun _ h => h) (fun r_11 u_12 T9 H1 locs1 hT9 hvm hw hB hz hk9 hS => ?_)
  obtain ⟨hr9, rfl⟩ := hw
  rw [hr9]; clear hr9 r_11
  have Z : wZ G (mkS σ i 6) (μ) o s H1 locs1 := wZ_callP Z hB hT9 hS
  clear hB hT9 hS hk9 hz hvm T9
  revert Z; generalize H1 = H; generalize locs1 = locs; intro Z
  refine W.widen (k := 0) (n := 0) (by decide) (by decide) ?_
  rw [hQ]
  exact W.iret (v := cI (mkS σ i 6) 6 ((2 ^ lv) + nd)) S.1 S.2.1 hret (fun _ hT9 hW => ⟨⟨_, (mkS σ i 6, μ), rfl, ⟨rfl, rfl⟩, wZ_P Z hT9 hW⟩, Z.2.2.2.2.F hT9⟩) Z.2.2.2.2.2.2 dX7_sumOf_44
