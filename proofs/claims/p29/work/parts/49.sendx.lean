theorem i_X7_deleteRange_X7 : ∀ w ∈ wsX70, w ∈ wsX7_deleteRange := by decide +kernel
theorem m_X7_deleteRange_f12 : Cond.fieldLink RX7 12 "WideCell" "ranges" "LWideCell$Ranges;" ∈ wsX7_deleteRange := by decide +kernel
abbrev rm_k_X7_deleteRange_X6 : Room := { frames := 7, cells := 1, slots := 6, locals := 102 }
set_option maxHeartbeats 4000000 in
set_option maxRecDepth 100000 in
theorem k_X7_deleteRange_X6 (l : Launch) (hst : l.stackTraces = false) (G : wG) (σ : cS) (μ : mS) (o : Nat → Int64) (k1 : Nat) (k2 : Nat) (k3 : Nat) (k4 : Nat) (h1_ : k1 ≤ 7) (h2_ : k2 ≤ 15) (h3_ : k3 ≤ 15) (h4_ : k4 ≤ 999) (hab : k2 ≤ k3) (hz : rgR σ k2 k3 = -1) : vx_Met l yX7_deleteRange wsX7_deleteRange rm_k_X7_deleteRange_X6 (wPc G σ μ o [.ref (gA G 0), .int (nI k1), .int (nI k2), .int (nI k3), .int (nI k4)]) QX (XX G (rgS σ k2 k3) μ o "java/lang/IllegalStateException") 1 6 (gP G) := by
  refine vx_ofW (cc := cX7_deleteRange) (maxL := 6) (ret := (some .int)) (by decide) rfl ?_
  intro p e s m args below meth c s₁ B hml hout hv
  obtain ⟨hargs, hI⟩ := hv
  have S : CallFix p m c cX7_deleteRange 6 s args wsX7_deleteRange RX7 := ⟨B.exec, B.bytes, hml, findClass_of_methodNamed B.named, atoms_spec (ws := wsX7_deleteRange) B.pre⟩
  have hret := B.returns
  have hlocks := B.notSynchronized
  have Z := wZ_0 hI
  clear hI
  obtain ⟨Q, hQ⟩ : ∃ Q, Q = vx_MQ below QX (XX G (rgS σ k2 k3) μ o "java/lang/IllegalStateException") args s 1 6 (gP G) := ⟨_, rfl⟩
  rw [← hQ]
  have hl := lv_entry [.ref (gA G 0), .int (nI k1), .int (nI k2), .int (nI k3), .int (nI k4)] (n := 6) (Nat.le_of_ble_eq_true rfl)
  rw [show entryFrame m args 6 = entryFrame m ([.ref (gA G 0), .int (nI k1), .int (nI k2), .int (nI k3), .int (nI k4)] : List Value).toArray 6 from by rw [hargs], lg_entry_eq]
  generalize (lg_sl [.ref (gA G 0), .int (nI k1), .int (nI k2), .int (nI k3), .int (nI k4)] ++ List.replicate (6 - (lg_sl [.ref (gA G 0), .int (nI k1), .int (nI k2), .int (nI k3), .int (nI k4)]).length) Slot.unset).toArray = ls at hl ⊢
  have hl : lv_has ls 6 [(0, .ref (gA G 0)), (1, .int (nI k1)), (2, .int (nI k2)), (3, .int (nI k3)), (4, .int (nI k4))] := hl
  refine lv_iload_n S.1 S.2.1 dX7_deleteRange_0 rfl (lv_at hl 2 rfl) ?_
  refine va_csv (va_runS (As := [.int (nI k2)]) (rest := []) S (k_X7_requireRow l G σ μ o k2 h2_) (va_cwS 1 S.2.2.2.2 gX7_deleteRange_X7_requireRow rfl rfl rfl hy_X7_requireRow ⟨Nat.le_of_ble_eq_true rfl, Nat.le_of_ble_eq_true rfl⟩) (wPc_S Z) rfl rfl hl.1 rfl (lv_room (Nat.le_of_ble_eq_true rfl)) dX7_deleteRange_1 ⟨Nat.le_of_ble_eq_true rfl, Nat.le_of_ble_eq_true rfl⟩).run (fun h_2 => ?_)
  refine lv_iload_n S.1 S.2.1 dX7_deleteRange_4 rfl (lv_at hl 3 rfl) ?_
  refine va_csv (va_runS (As := [.int (nI k3)]) (rest := []) S (k_X7_requireRow l G σ μ o k3 h3_) (va_cwS 1 S.2.2.2.2 gX7_deleteRange_X7_requireRow rfl rfl rfl hy_X7_requireRow ⟨Nat.le_of_ble_eq_true rfl, Nat.le_of_ble_eq_true rfl⟩) (wPc_S Z) rfl rfl hl.1 rfl (lv_room (Nat.le_of_ble_eq_true rfl)) dX7_deleteRange_5 ⟨Nat.le_of_ble_eq_true rfl, Nat.le_of_ble_eq_true rfl⟩).run (fun h_4 => ?_)
  refine lv_iload_n S.1 S.2.1 dX7_deleteRange_8 rfl (lv_at hl 1 rfl) ?_
  refine lv_iload S.1 S.2.1 dX7_deleteRange_9 (lv_at hl 4 rfl) ?_
  refine va_csv (va_runS (As := [.int (nI k1), .int (nI k4)]) (rest := []) S (k_X7_requireDeletion l G σ μ o k1 k4 h1_ h4_) (va_cwS 2 S.2.2.2.2 gX7_deleteRange_X7_requireDeletion rfl rfl rfl hy_X7_requireDeletion ⟨Nat.le_of_ble_eq_true rfl, Nat.le_of_ble_eq_true rfl⟩) (wPc_S Z) rfl rfl hl.1 rfl (lv_room (Nat.le_of_ble_eq_true rfl)) dX7_deleteRange_11 ⟨Nat.le_of_ble_eq_true rfl, Nat.le_of_ble_eq_true rfl⟩).run (fun h_6 => ?_)
  refine lv_iload_n S.1 S.2.1 dX7_deleteRange_14 rfl (lv_at hl 2 rfl) ?_
  refine lv_iload_n S.1 S.2.1 dX7_deleteRange_15 rfl (lv_at hl 3 rfl) ?_
  refine r_icmpN_gt S (tgt := 23) (by omega) (by omega) dX7_deleteRange_16 (by decide) (fun c_7 => absurd c_7 (by omega)) (fun c_7 => ?_)
  refine lv_iconst (v := nI 1) S.1 S.2.1 dX7_deleteRange_19 (by decide) ?_
  refine lv_goto (tgt := 24) S.1 S.2.1 dX7_deleteRange_20 (by decide) ?_
  refine va_csv (va_runS (As := [.int (bi true)]) (rest := []) S (k_X7_requireArgument l G σ μ o  ) (va_cwS 1 S.2.2.2.2 gX7_deleteRange_X7_requireArgument rfl rfl rfl hy_X7_requireArgument ⟨Nat.le_of_ble_eq_true rfl, Nat.le_of_ble_eq_true rfl⟩) (wPc_S Z) rfl rfl hl.1 rfl (lv_room (Nat.le_of_ble_eq_true rfl)) dX7_deleteRange_24 ⟨Nat.le_of_ble_eq_true rfl, Nat.le_of_ble_eq_true rfl⟩).run (fun h_9 => ?_)
  refine lv_aload_n S.1 S.2.1 dX7_deleteRange_27 rfl (lv_at hl 0 rfl) ?_
  refine r_get (C := RX7) (T := TX7) (N := 7) (ci := 7) S Z (by decide) rfl rfl i_X7_deleteRange_X7 0 (by decide) m_X7_deleteRange_f12 rfl (v := .ref (gA G 1)) rfl dX7_deleteRange_28 ?_
  refine lv_iload_n S.1 S.2.1 dX7_deleteRange_31 rfl (lv_at hl 2 rfl) ?_
  refine lv_iload_n S.1 S.2.1 dX7_deleteRange_32 rfl (lv_at hl 3 rfl) ?_
  refine va_calli (va_runV (As := [.int (nI k2), .int (nI k3)]) (rest := []) S (k_X4_numberOf l G σ μ o k2 k3 ) (cwV 2 S.2.2.2.2 gX7_deleteRange_X4_numberOf rfl rfl rfl ⟨rfl, hy_X4_numberOf⟩ ⟨Nat.le_of_ble_eq_true rfl, Nat.le_of_ble_eq_true rfl⟩) (wPc_V (q := (RX4, TX4, 2)) Z (by decide) rfl rfl) rfl rfl hl.1 rfl (lv_room (Nat.le_of_ble_eq_true rfl)) dX7_deleteRange_33 ⟨Nat.le_of_ble_eq_true rfl, Nat.le_of_ble_eq_true rfl⟩) Z.2.2.2.2 (fun _ _ h => h) (fun _ h => h) (fun r_10 u_11 T9 H1 locs1 hT9 hvm hw hB hz hk9 hS => ?_)
  obtain ⟨hr9, rfl⟩ := hw
  rw [hr9]; clear hr9 r_10
  have Z : wZ G (rgS σ k2 k3) (μ) o s H1 locs1 := wZ_callP Z hB hT9 hS
  clear hB hT9 hS hk9 hz hvm T9
  revert Z; generalize H1 = H; generalize locs1 = locs; intro Z
  refine W.widen (k := 0) (n := 0) (by decide) (by decide) ?_
  refine lv_istore (lv' := [(5, .int (rgR σ k2 k3)), (0, .ref (gA G 0)), (1, .int (nI k1)), (2, .int (nI k2)), (3, .int (nI k3)), (4, .int (nI k4))]) S.1 S.2.1 dX7_deleteRange_36 hl (by decide) rfl (fun ls hl => ?_)
  refine lv_iload S.1 S.2.1 dX7_deleteRange_38 (lv_at hl 0 rfl) ?_
  refine lv_iconst (v := -1) S.1 S.2.1 dX7_deleteRange_40 (by decide) ?_
  refine lv_icmp_eq (tgt := 48) S.1 S.2.1 dX7_deleteRange_41 (by decide) (fun c_12 => ?_) (fun c_12 => absurd c_12 (by exact not_not_intro hz))
  refine lv_iconst (v := nI 0) S.1 S.2.1 dX7_deleteRange_48 (by decide) ?_
  refine x_call (vx_runS (As := [.int (bi false)]) (rest := []) S (k_X7_requireState_X l hst G (rgS σ k2 k3) μ o  ) (va_cwS 1 S.2.2.2.2 gX7_deleteRange_X7_requireState rfl rfl rfl hy_X7_requireState ⟨Nat.le_of_ble_eq_true rfl, Nat.le_of_ble_eq_true rfl⟩) (wPc_S Z) rfl rfl hl.1 rfl (lv_room (Nat.le_of_ble_eq_true rfl)) dX7_deleteRange_49 ⟨Nat.le_of_ble_eq_true rfl, Nat.le_of_ble_eq_true rfl⟩) (fun _ _ _ h => h) Z (fun ce q9 H locs Z h1 h2 h3 => ?_)
  rw [hQ]
  exact x_out hout hlocks Z h1 h2 h3 (by decide) (by decide)
