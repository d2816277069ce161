theorem i_X7_write_X2 : ∀ w ∈ wsX20, w ∈ wsX7_write := by decide +kernel
theorem m_X7_write_c66 : Cond.classLink RX7 66 RX2 ∈ wsX7_write := by decide +kernel
theorem m_X7_write_iX2_ : Cond.instantiable RX2 4 ∈ wsX7_write := by decide +kernel
theorem m_X7_write_zRX2 : Cond.initialized RX2 ∈ wsX7_write := by decide +kernel
theorem m_X7_write_nX2_init : Cond.instanceMethod yX2_init ∈ wsX7_write := by decide +kernel
theorem m_X7_write_k72 : Cond.methodLink RX7 72 yX2_init ∈ wsX7_write := by decide +kernel
theorem i_X7_write_X7 : ∀ w ∈ wsX70, w ∈ wsX7_write := by decide +kernel
theorem m_X7_write_f41 : Cond.fieldLink RX7 41 "WideCell" "now" "I" ∈ wsX7_write := by decide +kernel
abbrev rm_k_X7_write : Room := { frames := 7, cells := 4, slots := 34, locals := 153 }
set_option maxHeartbeats 4000000 in
set_option maxRecDepth 100000 in
theorem k_X7_write (l : Launch) (G : wG) (σ : cS) (μ : mS) (o : Nat → Int64) (k1 : Nat) (k2 : Nat) (k3 : Nat) (k4 : Nat) (k5 : Nat) (k6 : Nat) (L : Nat → List Ch) (h1_ : k1 ≤ 7) (h2_ : k2 ≤ 15) (h3_ : k3 ≤ 3) (h4_ : k4 ≤ 999) (h5_ : k5 ≤ 999) (h6_ : k6 ≤ 1000) (hHI : HI G σ L) : Met l yX7_write wsX7_write rm_k_X7_write (wPc G σ μ o [.ref (gA G 0), .int (nI k1), .int (nI k2), .int (nI k3), .int (nI k4), .int (nI k5), .int (nI k6)]) (va_Qi (fun (rr : Int32) (u : cS × mS) => rr = nI (sdN σ (nI k1) 3) ∧ u.2 = μ ∧ (fun ns : cS => sc ns (sdS σ (k2 * 4 + k3, nI k5, nI k4, enW σ k6) (nI k1) 3) ∧ HI G ns (sdLL σ (nI k1) (k2 * 4 + k3, nI k5, nI k4, enW σ k6) L)) u.1) (fun u t => wI G u.1 u.2 o t) (gP G)) 4 34 (gP G) := by
  refine Met.ofW (cc := cX7_write) (maxL := 8) (ret := (some .int)) (by decide) rfl ?_
  intro p e s m args below meth c s₁ B hml hv
  obtain ⟨hargs, hI⟩ := hv
  have S : CallFix p m c cX7_write 8 s args wsX7_write RX7 := ⟨B.exec, B.bytes, hml, findClass_of_methodNamed B.named, atoms_spec (ws := wsX7_write) B.pre⟩
  have hret := B.returns
  have hlocks := B.notSynchronized
  have Z := wZ_0 hI
  clear hI
  obtain ⟨Q, hQ⟩ : ∃ Q, Q = MQ below (va_Qi (fun (rr : Int32) (u : cS × mS) => rr = nI (sdN σ (nI k1) 3) ∧ u.2 = μ ∧ (fun ns : cS => sc ns (sdS σ (k2 * 4 + k3, nI k5, nI k4, enW σ k6) (nI k1) 3) ∧ HI G ns (sdLL σ (nI k1) (k2 * 4 + k3, nI k5, nI k4, enW σ k6) L)) u.1) (fun u t => wI G u.1 u.2 o t) (gP G)) args s 4 34 (gP G) := ⟨_, rfl⟩
  rw [← hQ]
  have hl := lv_entry [.ref (gA G 0), .int (nI k1), .int (nI k2), .int (nI k3), .int (nI k4), .int (nI k5), .int (nI k6)] (n := 8) (Nat.le_of_ble_eq_true rfl)
  rw [show entryFrame m args 8 = entryFrame m ([.ref (gA G 0), .int (nI k1), .int (nI k2), .int (nI k3), .int (nI k4), .int (nI k5), .int (nI k6)] : List Value).toArray 8 from by rw [hargs], lg_entry_eq]
  generalize (lg_sl [.ref (gA G 0), .int (nI k1), .int (nI k2), .int (nI k3), .int (nI k4), .int (nI k5), .int (nI k6)] ++ List.replicate (8 - (lg_sl [.ref (gA G 0), .int (nI k1), .int (nI k2), .int (nI k3), .int (nI k4), .int (nI k5), .int (nI k6)]).length) Slot.unset).toArray = ls at hl ⊢
  have hl : lv_has ls 8 [(0, .ref (gA G 0)), (1, .int (nI k1)), (2, .int (nI k2)), (3, .int (nI k3)), (4, .int (nI k4)), (5, .int (nI k5)), (6, .int (nI k6))] := hl
  have L_66 : ∀   (H : Heap) (locs : List Loc) (Z : wZ G (σ) (μ) o s H locs) (ls : Array Slot) (hl : lv_has ls 8 [(0, .ref (gA G 0)), (1, .int (nI k1)), (2, .int (nI k2)), (3, .int (nI k3)), (4, .int (nI k4)), (5, .int (nI k5)), (6, .int (nI k6))]), W p l e (headSpec wsX7_write rm_k_X7_write).room s m args below meth c H locs 0 0 Q (F0 m 66 ls [.int (enW σ k6)]) := by
    intro   H locs Z ls hl
    refine lv_istore (lv' := [(7, .int (enW σ k6)), (0, .ref (gA G 0)), (1, .int (nI k1)), (2, .int (nI k2)), (3, .int (nI k3)), (4, .int (nI k4)), (5, .int (nI k5)), (6, .int (nI k6))]) S.1 S.2.1 dX7_write_66 hl (by decide) rfl (fun ls hl => ?_)
    refine lv_aload_n S.1 S.2.1 dX7_write_68 rfl (lv_at hl 1 rfl) ?_
    refine lv_iload_n S.1 S.2.1 dX7_write_69 rfl (lv_at hl 2 rfl) ?_
    refine r_newO (C := RX2) (T := TX2) (N := 4) (ci := 2) (fs := [.int 0, .int 0, .int 0, .int 0]) S Z tyX2 tyX2_ok i_X7_write_X2 m_X7_write_c66 m_X7_write_iX2_ m_X7_write_zRX2 rfl (fun j hj => by rcases (show j = 0 ∨ j = 1 ∨ j = 2 ∨ j = 3 by omega) with rfl | rfl | rfl | rfl <;> rfl) (Nat.le_of_ble_eq_true rfl) (Nat.le_of_ble_eq_true rfl) dX7_write_70 (fun q0 H Z => ?_)
    obtain ⟨σ9, hσ9⟩ : ∃ q : cS, q = cW' σ (cW σ ++ [(q0, .inr (2, [.int 0, .int 0, .int 0, .int 0]))]) := ⟨_, rfl⟩
    rw [← hσ9] at Z
    have hk9 : (cW σ9)[(cW σ).length]? = some (q0, .inr (2, [.int 0, .int 0, .int 0, .int 0])) := by rw [hσ9]; exact app_at
    have hV9 : cV σ9 = cV σ := by rw [hσ9]; rfl
    refine lv_dup S.1 S.2.1 dX7_write_73 rfl ?_
    refine lv_iload_n S.1 S.2.1 dX7_write_74 rfl (lv_at hl 3 rfl) ?_
    refine lv_iload_n S.1 S.2.1 dX7_write_75 rfl (lv_at hl 4 rfl) ?_
    refine vp_callSi (va_runS (As := [.int (nI k2), .int (nI k3)]) (rest := [.ref (q0), .ref (q0), .int (nI k1), .ref (gA G 0)]) S (k_X7_cellAt l G σ9 μ o k2 k3 ) (va_cwS 2 S.2.2.2.2 gX7_write_X7_cellAt rfl rfl rfl hy_X7_cellAt ⟨Nat.le_of_ble_eq_true rfl, Nat.le_of_ble_eq_true rfl⟩) (wPc_S Z) rfl rfl hl.1 rfl (lv_room (Nat.le_of_ble_eq_true rfl)) dX7_write_76 ⟨Nat.le_of_ble_eq_true rfl, Nat.le_of_ble_eq_true rfl⟩).run (fun r_1 h_2 => ?_)
    rw [h_2]; clear h_2 r_1
    refine lv_iload S.1 S.2.1 dX7_write_79 (lv_at hl 5 rfl) ?_
    refine lv_iload S.1 S.2.1 dX7_write_81 (lv_at hl 6 rfl) ?_
    refine lv_iload S.1 S.2.1 dX7_write_83 (lv_at hl 0 rfl) ?_
    refine va_callv (va_runI (As := [.int (nI (k2 * 4 + k3)), .int (nI k4), .int (nI k5), .int (enW σ k6)]) (rest := [.ref (q0), .int (nI k1), .ref (gA G 0)]) S (k_X2_init l G σ9 μ o q0 (cW σ).length (k2 * 4 + k3) (nI k4) (nI k5) (enW σ k6) hk9) (cwI 4 S.2.2.2.2 gX7_write_X2_init rfl rfl rfl (S.2.2.2.2 _ m_X7_write_zRX2) (S.2.2.2.2 _ m_X7_write_k72) (S.2.2.2.2 _ m_X7_write_nX2_init) rfl hy_X2_init ⟨Nat.le_of_ble_eq_true rfl, Nat.le_of_ble_eq_true rfl⟩) (wPc_S Z) rfl rfl hl.1 rfl (lv_room (Nat.le_of_ble_eq_true rfl)) dX7_write_85 ⟨Nat.le_of_ble_eq_true rfl, Nat.le_of_ble_eq_true rfl⟩) Z.2.2.2.2 (fun _ _ h => h) (fun _ h => h) (fun u_4 T9 H1 locs1 hT9 hvm hw hB hz hk9 hS => ?_)
    subst hw
    have Z : wZ G (cW' σ9 ((cW σ9).set (cW σ).length (q0, .inr (2, [.int (nI (k2 * 4 + k3)), .int (nI k4), .int (nI k5), .int (enW σ k6)])))) (μ) o s H1 locs1 := wZ_callP Z hB hT9 hS
    clear hB hT9 hS hk9 hz hvm T9
    revert Z; generalize H1 = H; generalize locs1 = locs; intro Z
    refine W.widen (k := 1) (n := 4) (by first | decide | omega) (by first | decide | omega) ?_
    rw [hσ9, new_set] at Z
    have Z : wZ G (cW' σ (cW σ ++ [(q0, chE (k2 * 4 + k3, nI k5, nI k4, enW σ k6))])) (μ) o s H locs := by rw [chE_e (by omega)]; exact Z
    refine va_calli (va_runV (As := [.int (nI k1), .ref (q0)]) (rest := []) S (k_X7_send l G (cW' σ (cW σ ++ [(q0, chE (k2 * 4 + k3, nI k5, nI k4, enW σ k6))])) μ o q0 (nI k1) (k2 * 4 + k3, nI k5, nI k4, enW σ k6) L (HI_push hHI) ⟨_, app_at⟩ (by show _ < 156; omega)) (cwV 2 S.2.2.2.2 gX7_write_X7_send rfl rfl rfl ⟨rfl, hy_X7_send⟩ ⟨Nat.le_of_ble_eq_true rfl, Nat.le_of_ble_eq_true rfl⟩) (wPc_V (q := (RX7, TX7, 7)) Z (by decide) rfl rfl) rfl rfl hl.1 rfl (lv_room (Nat.le_of_ble_eq_true rfl)) dX7_write_88 ⟨Nat.le_of_ble_eq_true rfl, Nat.le_of_ble_eq_true rfl⟩) Z.2.2.2.2 (fun _ _ h => h) (fun _ h => h) (fun r_5 u_6 T9 H1 locs1 hT9 hvm hw hB hz hk9 hS => ?_)
    obtain ⟨τ_7, μ9⟩ := u_6
    obtain ⟨hr9, hm9, hp9⟩ := hw
    have hm9 : μ = μ9 := hm9.symm
    subst hm9
    have hp_8 : sc τ_7 (sdS (cW' σ (cW σ ++ [(q0, chE (k2 * 4 + k3, nI k5, nI k4, enW σ k6))])) (k2 * 4 + k3, nI k5, nI k4, enW σ k6) (nI k1) 3) ∧ HI G τ_7 (fun k => if bitB (nI k1) k = true ∧ cU (cW' σ (cW σ ++ [(q0, chE (k2 * 4 + k3, nI k5, nI k4, enW σ k6))])) k = false ∧ (L k).length < 10 then L k ++ [(k2 * 4 + k3, nI k5, nI k4, enW σ k6)] else L k) := hp9
    clear hp9
    rw [hr9]; clear hr9 r_5
    have Z : wZ G (τ_7) (μ) o s H1 locs1 := wZ_callP Z hB hT9 hS
    clear hB hT9 hS hk9 hz hvm T9
    revert Z; generalize H1 = H; generalize locs1 = locs; intro Z
    refine W.widen (k := 4) (n := 34) (by first | decide | omega) (by first | decide | omega) ?_
    rw [hQ]
    exact W.iret (v := nI (sdN (cW' σ (cW σ ++ [(q0, chE (k2 * 4 + k3, nI k5, nI k4, enW σ k6))])) (nI k1) 3)) S.1 S.2.1 hret (fun _ hT9 hW => ⟨⟨_, (τ_7, μ), rfl, ⟨(congrArg nI (sdN_W 3)), rfl, send_W hp_8⟩, wZ_P Z hT9 hW⟩, Z.2.2.2.2.F hT9⟩) Z.2.2.2.2.2.2 dX7_write_91
  refine lv_iload_n S.1 S.2.1 dX7_write_0 rfl (lv_at hl 2 rfl) ?_
  refine va_csv (va_runS (As := [.int (nI k2)]) (rest := []) S (k_X7_requireRow l G σ μ o k2 h2_) (va_cwS 1 S.2.2.2.2 gX7_write_X7_requireRow rfl rfl rfl hy_X7_requireRow ⟨Nat.le_of_ble_eq_true rfl, Nat.le_of_ble_eq_true rfl⟩) (wPc_S Z) rfl rfl hl.1 rfl (lv_room (Nat.le_of_ble_eq_true rfl)) dX7_write_1 ⟨Nat.le_of_ble_eq_true rfl, Nat.le_of_ble_eq_true rfl⟩).run (fun h_10 => ?_)
  refine lv_iload_n S.1 S.2.1 dX7_write_4 rfl (lv_at hl 3 rfl) ?_
  refine va_csv (va_runS (As := [.int (nI k3)]) (rest := []) S (k_X7_requireColumn l G σ μ o k3 h3_) (va_cwS 1 S.2.2.2.2 gX7_write_X7_requireColumn rfl rfl rfl hy_X7_requireColumn ⟨Nat.le_of_ble_eq_true rfl, Nat.le_of_ble_eq_true rfl⟩) (wPc_S Z) rfl rfl hl.1 rfl (lv_room (Nat.le_of_ble_eq_true rfl)) dX7_write_5 ⟨Nat.le_of_ble_eq_true rfl, Nat.le_of_ble_eq_true rfl⟩).run (fun h_12 => ?_)
  refine lv_iload_n S.1 S.2.1 dX7_write_8 rfl (lv_at hl 1 rfl) ?_
  refine lv_bipush (v := nI 7) S.1 S.2.1 dX7_write_9 (by decide) ?_
  refine vp_callSi (va_runS (As := [.int (nI k1), .int (nI 7)]) (rest := []) S (k_X7_isWithin_n l G σ μ o k1 7 h1_ (by omega)) (va_cwS 2 S.2.2.2.2 gX7_write_X7_isWithin rfl rfl rfl hy_X7_isWithin ⟨Nat.le_of_ble_eq_true rfl, Nat.le_of_ble_eq_true rfl⟩) (wPc_S Z) rfl rfl hl.1 rfl (lv_room (Nat.le_of_ble_eq_true rfl)) dX7_write_11 ⟨Nat.le_of_ble_eq_true rfl, Nat.le_of_ble_eq_true rfl⟩).run (fun r_13 h_14 => ?_)
  rw [h_14]; clear h_14 r_13
  refine va_csv (va_runS (As := [.int (bi true)]) (rest := []) S (k_X7_requireArgument l G σ μ o  ) (va_cwS 1 S.2.2.2.2 gX7_write_X7_requireArgument rfl rfl rfl hy_X7_requireArgument ⟨Nat.le_of_ble_eq_true rfl, Nat.le_of_ble_eq_true rfl⟩) (wPc_S Z) rfl rfl hl.1 rfl (lv_room (Nat.le_of_ble_eq_true rfl)) dX7_write_14 ⟨Nat.le_of_ble_eq_true rfl, Nat.le_of_ble_eq_true rfl⟩).run (fun h_16 => ?_)
  refine lv_iload S.1 S.2.1 dX7_write_17 (lv_at hl 4 rfl) ?_
  refine lv_sipush (v := nI 999) S.1 S.2.1 dX7_write_19 (by decide) ?_
  refine vp_callSi (va_runS (As := [.int (nI k4), .int (nI 999)]) (rest := []) S (k_X7_isWithin_n l G σ μ o k4 999 h4_ (by omega)) (va_cwS 2 S.2.2.2.2 gX7_write_X7_isWithin rfl rfl rfl hy_X7_isWithin ⟨Nat.le_of_ble_eq_true rfl, Nat.le_of_ble_eq_true rfl⟩) (wPc_S Z) rfl rfl hl.1 rfl (lv_room (Nat.le_of_ble_eq_true rfl)) dX7_write_22 ⟨Nat.le_of_ble_eq_true rfl, Nat.le_of_ble_eq_true rfl⟩).run (fun r_17 h_18 => ?_)
  rw [h_18]; clear h_18 r_17
  refine va_csv (va_runS (As := [.int (bi true)]) (rest := []) S (k_X7_requireArgument l G σ μ o  ) (va_cwS 1 S.2.2.2.2 gX7_write_X7_requireArgument rfl rfl rfl hy_X7_requireArgument ⟨Nat.le_of_ble_eq_true rfl, Nat.le_of_ble_eq_true rfl⟩) (wPc_S Z) rfl rfl hl.1 rfl (lv_room (Nat.le_of_ble_eq_true rfl)) dX7_write_25 ⟨Nat.le_of_ble_eq_true rfl, Nat.le_of_ble_eq_true rfl⟩).run (fun h_20 => ?_)
  refine lv_iload S.1 S.2.1 dX7_write_28 (lv_at hl 5 rfl) ?_
  refine lv_sipush (v := nI 999) S.1 S.2.1 dX7_write_30 (by decide) ?_
  refine vp_callSi (va_runS (As := [.int (nI k5), .int (nI 999)]) (rest := []) S (k_X7_isWithin_n l G σ μ o k5 999 h5_ (by omega)) (va_cwS 2 S.2.2.2.2 gX7_write_X7_isWithin rfl rfl rfl hy_X7_isWithin ⟨Nat.le_of_ble_eq_true rfl, Nat.le_of_ble_eq_true rfl⟩) (wPc_S Z) rfl rfl hl.1 rfl (lv_room (Nat.le_of_ble_eq_true rfl)) dX7_write_33 ⟨Nat.le_of_ble_eq_true rfl, Nat.le_of_ble_eq_true rfl⟩).run (fun r_21 h_22 => ?_)
  rw [h_22]; clear h_22 r_21
  refine va_csv (va_runS (As := [.int (bi true)]) (rest := []) S (k_X7_requireArgument l G σ μ o  ) (va_cwS 1 S.2.2.2.2 gX7_write_X7_requireArgument rfl rfl rfl hy_X7_requireArgument ⟨Nat.le_of_ble_eq_true rfl, Nat.le_of_ble_eq_true rfl⟩) (wPc_S Z) rfl rfl hl.1 rfl (lv_room (Nat.le_of_ble_eq_true rfl)) dX7_write_36 ⟨Nat.le_of_ble_eq_true rfl, Nat.le_of_ble_eq_true rfl⟩).run (fun h_24 => ?_)
  refine lv_iload S.1 S.2.1 dX7_write_39 (lv_at hl 6 rfl) ?_
  refine lv_sipush (v := nI 1000) S.1 S.2.1 dX7_write_41 (by decide) ?_
  refine vp_callSi (va_runS (As := [.int (nI k6), .int (nI 1000)]) (rest := []) S (k_X7_isWithin_n l G σ μ o k6 1000 h6_ (by omega)) (va_cwS 2 S.2.2.2.2 gX7_write_X7_isWithin rfl rfl rfl hy_X7_isWithin ⟨Nat.le_of_ble_eq_true rfl, Nat.le_of_ble_eq_true rfl⟩) (wPc_S Z) rfl rfl hl.1 rfl (lv_room (Nat.le_of_ble_eq_true rfl)) dX7_write_44 ⟨Nat.le_of_ble_eq_true rfl, Nat.le_of_ble_eq_true rfl⟩).run (fun r_25 h_26 => ?_)
  rw [h_26]; clear h_26 r_25
  refine va_csv (va_runS (As := [.int (bi true)]) (rest := []) S (k_X7_requireArgument l G σ μ o  ) (va_cwS 1 S.2.2.2.2 gX7_write_X7_requireArgument rfl rfl rfl hy_X7_requireArgument ⟨Nat.le_of_ble_eq_true rfl, Nat.le_of_ble_eq_true rfl⟩) (wPc_S Z) rfl rfl hl.1 rfl (lv_room (Nat.le_of_ble_eq_true rfl)) dX7_write_47 ⟨Nat.le_of_ble_eq_true rfl, Nat.le_of_ble_eq_true rfl⟩).run (fun h_28 => ?_)
  refine lv_iload S.1 S.2.1 dX7_write_50 (lv_at hl 6 rfl) ?_
  refine r_if_neN S (tgt := 59) (by omega) dX7_write_52 (by decide) (fun c_29 => ?_) (fun c_29 => ?_)
  · skip
    refine lv_aload_n S.1 S.2.1 dX7_write_59 rfl (lv_at hl 0 rfl) ?_
    refine r_get (C := RX7) (T := TX7) (N := 7) (ci := 7) S Z (by decide) rfl rfl i_X7_write_X7 4 (by decide) m_X7_write_f41 rfl (v := .int (cV σ 4)) rfl dX7_write_60 ?_
    refine lv_iload S.1 S.2.1 dX7_write_63 (lv_at hl 6 rfl) ?_
    refine lv_iadd S.1 S.2.1 dX7_write_65 ?_
    have q_30 : (enW σ k6 : Int32) = (cV σ 4 + nI k6) := by first | exact if_pos (by assumption) | exact if_neg (by assumption)
    rw [← q_30]
    exact L_66   _ _ Z ls (lv_sub hl [0, 1, 2, 3, 4, 5, 6] rfl)
  · skip
    refine lv_iconst (v := -1) S.1 S.2.1 dX7_write_55 (by decide) ?_
    refine lv_goto (tgt := 66) S.1 S.2.1 dX7_write_56 (by decide) ?_
    have q_31 : (enW σ k6 : Int32) = -1 := by first | exact if_pos (by assumption) | exact if_neg (by assumption)
    rw [← q_31]
    exact L_66   _ _ Z ls (lv_sub hl [0, 1, 2, 3, 4, 5, 6] rfl)

theorem i_X7_deleteCell_X6 : ∀ w ∈ wsX60, w ∈ wsX7_deleteCell := by decide +kernel
theorem m_X7_deleteCell_c83 : Cond.classLink RX7 83 RX6 ∈ wsX7_deleteCell := by decide +kernel
theorem m_X7_deleteCell_iX6_ : Cond.instantiable RX6 3 ∈ wsX7_deleteCell := by decide +kernel
theorem m_X7_deleteCell_zRX6 : Cond.initialized RX6 ∈ wsX7_deleteCell := by decide +kernel
theorem i_X7_deleteCell_X7 : ∀ w ∈ wsX70, w ∈ wsX7_deleteCell := by decide +kernel
theorem m_X7_deleteCell_f41 : Cond.fieldLink RX7 41 "WideCell" "now" "I" ∈ wsX7_deleteCell := by decide +kernel
theorem m_X7_deleteCell_nX6_init : Cond.instanceMethod yX6_init ∈ wsX7_deleteCell := by decide +kernel
theorem m_X7_deleteCell_k85 : Cond.methodLink RX7 85 yX6_init ∈ wsX7_deleteCell := by decide +kernel
abbrev rm_k_X7_deleteCell : Room := { frames := 7, cells := 4, slots := 33, locals := 153 }
set_option maxHeartbeats 4000000 in
set_option maxRecDepth 100000 in
theorem k_X7_deleteCell (l : Launch) (G : wG) (σ : cS) (μ : mS) (o : Nat → Int64) (k1 : Nat) (k2 : Nat) (k3 : Nat) (k4 : Nat) (L : Nat → List Ch) (h1_ : k1 ≤ 7) (h2_ : k2 ≤ 15) (h3_ : k3 ≤ 3) (h4_ : k4 ≤ 999) (hHI : HI G σ L) : Met l yX7_deleteCell wsX7_deleteCell rm_k_X7_deleteCell (wPc G σ μ o [.ref (gA G 0), .int (nI k1), .int (nI k2), .int (nI k3), .int (nI k4)]) (va_Qi (fun (rr : Int32) (u : cS × mS) => rr = nI (sdN σ (nI k1) 3) ∧ u.2 = μ ∧ (fun ns : cS => sc ns (sdS σ (64 + (k2 * 4 + k3), nI k4, cV σ 4, nI 0) (nI k1) 3) ∧ HI G ns (sdLL σ (nI k1) (64 + (k2 * 4 + k3), nI k4, cV σ 4, nI 0) L)) u.1) (fun u t => wI G u.1 u.2 o t) (gP G)) 4 33 (gP G) := by
  refine Met.ofW (cc := cX7_deleteCell) (maxL := 5) (ret := (some .int)) (by decide) rfl ?_
  intro p e s m args below meth c s₁ B hml hv
  obtain ⟨hargs, hI⟩ := hv
  have S : CallFix p m c cX7_deleteCell 5 s args wsX7_deleteCell RX7 := ⟨B.exec, B.bytes, hml, findClass_of_methodNamed B.named, atoms_spec (ws := wsX7_deleteCell) B.pre⟩
  have hret := B.returns
  have hlocks := B.notSynchronized
  have Z := wZ_0 hI
  clear hI
  obtain ⟨Q, hQ⟩ : ∃ Q, Q = MQ below (va_Qi (fun (rr : Int32) (u : cS × mS) => rr = nI (sdN σ (nI k1) 3) ∧ u.2 = μ ∧ (fun ns : cS => sc ns (sdS σ (64 + (k2 * 4 + k3), nI k4, cV σ 4, nI 0) (nI k1) 3) ∧ HI G ns (sdLL σ (nI k1) (64 + (k2 * 4 + k3), nI k4, cV σ 4, nI 0) L)) u.1) (fun u t => wI G u.1 u.2 o t) (gP G)) args s 4 33 (gP G) := ⟨_, rfl⟩
  rw [← hQ]
  have hl := lv_entry [.ref (gA G 0), .int (nI k1), .int (nI k2), .int (nI k3), .int (nI k4)] (n := 5) (Nat.le_of_ble_eq_true rfl)
  rw [show entryFrame m args 5 = entryFrame m ([.ref (gA G 0), .int (nI k1), .int (nI k2), .int (nI k3), .int (nI k4)] : List Value).toArray 5 from by rw [hargs], lg_entry_eq]
  generalize (lg_sl [.ref (gA G 0), .int (nI k1), .int (nI k2), .int (nI k3), .int (nI k4)] ++ List.replicate (5 - (lg_sl [.ref (gA G 0), .int (nI k1), .int (nI k2), .int (nI k3), .int (nI k4)]).length) Slot.unset).toArray = ls at hl ⊢
  have hl : lv_has ls 5 [(0, .ref (gA G 0)), (1, .int (nI k1)), (2, .int (nI k2)), (3, .int (nI k3)), (4, .int (nI k4))] := hl
  refine lv_iload_n S.1 S.2.1 dX7_deleteCell_0 rfl (lv_at hl 2 rfl) ?_
  refine va_csv (va_runS (As := [.int (nI k2)]) (rest := []) S (k_X7_requireRow l G σ μ o k2 h2_) (va_cwS 1 S.2.2.2.2 gX7_deleteCell_X7_requireRow rfl rfl rfl hy_X7_requireRow ⟨Nat.le_of_ble_eq_true rfl, Nat.le_of_ble_eq_true rfl⟩) (wPc_S Z) rfl rfl hl.1 rfl (lv_room (Nat.le_of_ble_eq_true rfl)) dX7_deleteCell_1 ⟨Nat.le_of_ble_eq_true rfl, Nat.le_of_ble_eq_true rfl⟩).run (fun h_2 => ?_)
  refine lv_iload_n S.1 S.2.1 dX7_deleteCell_4 rfl (lv_at hl 3 rfl) ?_
  refine va_csv (va_runS (As := [.int (nI k3)]) (rest := []) S (k_X7_requireColumn l G σ μ o k3 h3_) (va_cwS 1 S.2.2.2.2 gX7_deleteCell_X7_requireColumn rfl rfl rfl hy_X7_requireColumn ⟨Nat.le_of_ble_eq_true rfl, Nat.le_of_ble_eq_true rfl⟩) (wPc_S Z) rfl rfl hl.1 rfl (lv_room (Nat.le_of_ble_eq_true rfl)) dX7_deleteCell_5 ⟨Nat.le_of_ble_eq_true rfl, Nat.le_of_ble_eq_true rfl⟩).run (fun h_4 => ?_)
  refine lv_iload_n S.1 S.2.1 dX7_deleteCell_8 rfl (lv_at hl 1 rfl) ?_
  refine lv_iload S.1 S.2.1 dX7_deleteCell_9 (lv_at hl 4 rfl) ?_
  refine va_csv (va_runS (As := [.int (nI k1), .int (nI k4)]) (rest := []) S (k_X7_requireDeletion l G σ μ o k1 k4 h1_ h4_) (va_cwS 2 S.2.2.2.2 gX7_deleteCell_X7_requireDeletion rfl rfl rfl hy_X7_requireDeletion ⟨Nat.le_of_ble_eq_true rfl, Nat.le_of_ble_eq_true rfl⟩) (wPc_S Z) rfl rfl hl.1 rfl (lv_room (Nat.le_of_ble_eq_true rfl)) dX7_deleteCell_11 ⟨Nat.le_of_ble_eq_true rfl, Nat.le_of_ble_eq_true rfl⟩).run (fun h_6 => ?_)
  refine lv_aload_n S.1 S.2.1 dX7_deleteCell_14 rfl (lv_at hl 0 rfl) ?_
  refine lv_iload_n S.1 S.2.1 dX7_deleteCell_15 rfl (lv_at hl 1 rfl) ?_
  refine r_newO (C := RX6) (T := TX6) (N := 3) (ci := 6) (fs := [.int 0, .int 0, .int 0]) S Z tyX6 tyX6_ok i_X7_deleteCell_X6 m_X7_deleteCell_c83 m_X7_deleteCell_iX6_ m_X7_deleteCell_zRX6 rfl (fun j hj => by rcases (show j = 0 ∨ j = 1 ∨ j = 2 by omega) with rfl | rfl | rfl <;> rfl) (Nat.le_of_ble_eq_true rfl) (Nat.le_of_ble_eq_true rfl) dX7_deleteCell_16 (fun q0 H Z => ?_)
  obtain ⟨σ9, hσ9⟩ : ∃ q : cS, q = cW' σ (cW σ ++ [(q0, .inr (6, [.int 0, .int 0, .int 0]))]) := ⟨_, rfl⟩
  rw [← hσ9] at Z
  have hk9 : (cW σ9)[(cW σ).length]? = some (q0, .inr (6, [.int 0, .int 0, .int 0])) := by rw [hσ9]; exact app_at
  have hV9 : cV σ9 = cV σ := by rw [hσ9]; rfl
  refine lv_dup S.1 S.2.1 dX7_deleteCell_19 rfl ?_
  refine lv_iload_n S.1 S.2.1 dX7_deleteCell_20 rfl (lv_at hl 2 rfl) ?_
  refine lv_iload_n S.1 S.2.1 dX7_deleteCell_21 rfl (lv_at hl 3 rfl) ?_
  refine vp_callSi (va_runS (As := [.int (nI k2), .int (nI k3)]) (rest := [.ref (q0), .ref (q0), .int (nI k1), .ref (gA G 0)]) S (k_X7_cellAt l G σ9 μ o k2 k3 ) (va_cwS 2 S.2.2.2.2 gX7_deleteCell_X7_cellAt rfl rfl rfl hy_X7_cellAt ⟨Nat.le_of_ble_eq_true rfl, Nat.le_of_ble_eq_true rfl⟩) (wPc_S Z) rfl rfl hl.1 rfl (lv_room (Nat.le_of_ble_eq_true rfl)) dX7_deleteCell_22 ⟨Nat.le_of_ble_eq_true rfl, Nat.le_of_ble_eq_true rfl⟩).run (fun r_7 h_8 => ?_)
  rw [h_8]; clear h_8 r_7
  refine lv_iload S.1 S.2.1 dX7_deleteCell_25 (lv_at hl 4 rfl) ?_
  refine lv_aload_n S.1 S.2.1 dX7_deleteCell_27 rfl (lv_at hl 0 rfl) ?_
  refine r_get (C := RX7) (T := TX7) (N := 7) (ci := 7) S Z (by decide) rfl rfl i_X7_deleteCell_X7 4 (by decide) m_X7_deleteCell_f41 rfl (v := .int (cV σ 4)) (by show some (Value.int (cV σ9 4)) = some (Value.int (cV σ 4)); rw [hV9]) dX7_deleteCell_28 ?_
  refine va_callv (va_runI (As := [.int (nI (k2 * 4 + k3)), .int (nI k4), .int (cV σ 4)]) (rest := [.ref (q0), .int (nI k1), .ref (gA G 0)]) S (k_X6_init l G σ9 μ o q0 (cW σ).length (k2 * 4 + k3) (nI k4) (cV σ 4) hk9) (cwI 3 S.2.2.2.2 gX7_deleteCell_X6_init rfl rfl rfl (S.2.2.2.2 _ m_X7_deleteCell_zRX6) (S.2.2.2.2 _ m_X7_deleteCell_k85) (S.2.2.2.2 _ m_X7_deleteCell_nX6_init) rfl hy_X6_init ⟨Nat.le_of_ble_eq_true rfl, Nat.le_of_ble_eq_true rfl⟩) (wPc_S Z) rfl rfl hl.1 rfl (lv_room (Nat.le_of_ble_eq_true rfl)) dX7_deleteCell_31 ⟨Nat.le_of_ble_eq_true rfl, Nat.le_of_ble_eq_true rfl⟩) Z.2.2.2.2 (fun _ _ h => h) (fun _ h => h) (fun u_10 T9 H1 locs1 hT9 hvm hw hB hz hk9 hS => ?_)
  subst hw
  have Z : wZ G (cW' σ9 ((cW σ9).set (cW σ).length (q0, .inr (6, [.int (nI (k2 * 4 + k3)), .int (nI k4), .int (cV σ 4)])))) (μ) o s H1 locs1 := wZ_callP Z hB hT9 hS
  clear hB hT9 hS hk9 hz hvm T9
  revert Z; generalize H1 = H; generalize locs1 = locs; intro Z
  refine W.widen (k := 1) (n := 3) (by first | decide | omega) (by first | decide | omega) ?_
  rw [hσ9, new_set] at Z
  have Z : wZ G (cW' σ (cW σ ++ [(q0, chE (64 + (k2 * 4 + k3), nI k4, cV σ 4, nI 0))])) (μ) o s H locs := by rw [chE_t]; exact Z
  refine va_calli (va_runV (As := [.int (nI k1), .ref (q0)]) (rest := []) S (k_X7_send l G (cW' σ (cW σ ++ [(q0, chE (64 + (k2 * 4 + k3), nI k4, cV σ 4, nI 0))])) μ o q0 (nI k1) (64 + (k2 * 4 + k3), nI k4, cV σ 4, nI 0) L (HI_push hHI) ⟨_, app_at⟩ (by show _ < 156; omega)) (cwV 2 S.2.2.2.2 gX7_deleteCell_X7_send rfl rfl rfl ⟨rfl, hy_X7_send⟩ ⟨Nat.le_of_ble_eq_true rfl, Nat.le_of_ble_eq_true rfl⟩) (wPc_V (q := (RX7, TX7, 7)) Z (by decide) rfl rfl) rfl rfl hl.1 rfl (lv_room (Nat.le_of_ble_eq_true rfl)) dX7_deleteCell_34 ⟨Nat.le_of_ble_eq_true rfl, Nat.le_of_ble_eq_true rfl⟩) Z.2.2.2.2 (fun _ _ h => h) (fun _ h => h) (fun r_11 u_12 T9 H1 locs1 hT9 hvm hw hB hz hk9 hS => ?_)
  obtain ⟨τ_13, μ9⟩ := u_12
  obtain ⟨hr9, hm9, hp9⟩ := hw
  have hm9 : μ = μ9 := hm9.symm
  subst hm9
  have hp_14 : sc τ_13 (sdS (cW' σ (cW σ ++ [(q0, chE (64 + (k2 * 4 + k3), nI k4, cV σ 4, nI 0))])) (64 + (k2 * 4 + k3), nI k4, cV σ 4, nI 0) (nI k1) 3) ∧ HI G τ_13 (fun k => if bitB (nI k1) k = true ∧ cU (cW' σ (cW σ ++ [(q0, chE (64 + (k2 * 4 + k3), nI k4, cV σ 4, nI 0))])) k = false ∧ (L k).length < 10 then L k ++ [(64 + (k2 * 4 + k3), nI k4, cV σ 4, nI 0)] else L k) := hp9
  clear hp9
  rw [hr9]; clear hr9 r_11
  have Z : wZ G (τ_13) (μ) o s H1 locs1 := wZ_callP Z hB hT9 hS
  clear hB hT9 hS hk9 hz hvm T9
  revert Z; generalize H1 = H; generalize locs1 = locs; intro Z
  refine W.widen (k := 4) (n := 33) (by first | decide | omega) (by first | decide | omega) ?_
  rw [hQ]
  exact W.iret (v := nI (sdN (cW' σ (cW σ ++ [(q0, chE (64 + (k2 * 4 + k3), nI k4, cV σ 4, nI 0))])) (nI k1) 3)) S.1 S.2.1 hret (fun _ hT9 hW => ⟨⟨_, (τ_13, μ), rfl, ⟨(congrArg nI (sdN_W 3)), rfl, send_W hp_14⟩, wZ_P Z hT9 hW⟩, Z.2.2.2.2.F hT9⟩) Z.2.2.2.2.2.2 dX7_deleteCell_37

theorem i_X7_deleteColumn_X6 : ∀ w ∈ wsX60, w ∈ wsX7_deleteColumn := by decide +kernel
theorem m_X7_deleteColumn_c83 : Cond.classLink RX7 83 RX6 ∈ wsX7_deleteColumn := by decide +kernel
theorem m_X7_deleteColumn_iX6_ : Cond.instantiable RX6 3 ∈ wsX7_deleteColumn := by decide +kernel
theorem m_X7_deleteColumn_zRX6 : Cond.initialized RX6 ∈ wsX7_deleteColumn := by decide +kernel
theorem i_X7_deleteColumn_X7 : ∀ w ∈ wsX70, w ∈ wsX7_deleteColumn := by decide +kernel
theorem m_X7_deleteColumn_f41 : Cond.fieldLink RX7 41 "WideCell" "now" "I" ∈ wsX7_deleteColumn := by decide +kernel
theorem m_X7_deleteColumn_nX6_init : Cond.instanceMethod yX6_init ∈ wsX7_deleteColumn := by decide +kernel
theorem m_X7_deleteColumn_k85 : Cond.methodLink RX7 85 yX6_init ∈ wsX7_deleteColumn := by decide +kernel
abbrev rm_k_X7_deleteColumn : Room := { frames := 7, cells := 4, slots := 33, locals := 153 }
set_option maxHeartbeats 4000000 in
set_option maxRecDepth 100000 in
theorem k_X7_deleteColumn (l : Launch) (G : wG) (σ : cS) (μ : mS) (o : Nat → Int64) (k1 : Nat) (k2 : Nat) (k3 : Nat) (L : Nat → List Ch) (h1_ : k1 ≤ 7) (h2_ : k2 ≤ 3) (h3_ : k3 ≤ 999) (hHI : HI G σ L) : Met l yX7_deleteColumn wsX7_deleteColumn rm_k_X7_deleteColumn (wPc G σ μ o [.ref (gA G 0), .int (nI k1), .int (nI k2), .int (nI k3)]) (va_Qi (fun (rr : Int32) (u : cS × mS) => rr = nI (sdN σ (nI k1) 3) ∧ u.2 = μ ∧ (fun ns : cS => sc ns (sdS σ (64 + (64 + k2), nI k3, cV σ 4, nI 0) (nI k1) 3) ∧ HI G ns (sdLL σ (nI k1) (64 + (64 + k2), nI k3, cV σ 4, nI 0) L)) u.1) (fun u t => wI G u.1 u.2 o t) (gP G)) 4 33 (gP G) := by
  refine Met.ofW (cc := cX7_deleteColumn) (maxL := 4) (ret := (some .int)) (by decide) rfl ?_
  intro p e s m args below meth c s₁ B hml hv
  obtain ⟨hargs, hI⟩ := hv
  have S : CallFix p m c cX7_deleteColumn 4 s args wsX7_deleteColumn RX7 := ⟨B.exec, B.bytes, hml, findClass_of_methodNamed B.named, atoms_spec (ws := wsX7_deleteColumn) B.pre⟩
  have hret := B.returns
  have hlocks := B.notSynchronized
  have Z := wZ_0 hI
  clear hI
  obtain ⟨Q, hQ⟩ : ∃ Q, Q = MQ below (va_Qi (fun (rr : Int32) (u : cS × mS) => rr = nI (sdN σ (nI k1) 3) ∧ u.2 = μ ∧ (fun ns : cS => sc ns (sdS σ (64 + (64 + k2), nI k3, cV σ 4, nI 0) (nI k1) 3) ∧ HI G ns (sdLL σ (nI k1) (64 + (64 + k2), nI k3, cV σ 4, nI 0) L)) u.1) (fun u t => wI G u.1 u.2 o t) (gP G)) args s 4 33 (gP G) := ⟨_, rfl⟩
  rw [← hQ]
  have hl := lv_entry [.ref (gA G 0), .int (nI k1), .int (nI k2), .int (nI k3)] (n := 4) (Nat.le_of_ble_eq_true rfl)
  rw [show entryFrame m args 4 = entryFrame m ([.ref (gA G 0), .int (nI k1), .int (nI k2), .int (nI k3)] : List Value).toArray 4 from by rw [hargs], lg_entry_eq]
  generalize (lg_sl [.ref (gA G 0), .int (nI k1), .int (nI k2), .int (nI k3)] ++ List.replicate (4 - (lg_sl [.ref (gA G 0), .int (nI k1), .int (nI k2), .int (nI k3)]).length) Slot.unset).toArray = ls at hl ⊢
  have hl : lv_has ls 4 [(0, .ref (gA G 0)), (1, .int (nI k1)), (2, .int (nI k2)), (3, .int (nI k3))] := hl
  refine lv_iload_n S.1 S.2.1 dX7_deleteColumn_0 rfl (lv_at hl 2 rfl) ?_
  refine va_csv (va_runS (As := [.int (nI k2)]) (rest := []) S (k_X7_requireColumn l G σ μ o k2 h2_) (va_cwS 1 S.2.2.2.2 gX7_deleteColumn_X7_requireColumn rfl rfl rfl hy_X7_requireColumn ⟨Nat.le_of_ble_eq_true rfl, Nat.le_of_ble_eq_true rfl⟩) (wPc_S Z) rfl rfl hl.1 rfl (lv_room (Nat.le_of_ble_eq_true rfl)) dX7_deleteColumn_1 ⟨Nat.le_of_ble_eq_true rfl, Nat.le_of_ble_eq_true rfl⟩).run (fun h_2 => ?_)
  refine lv_iload_n S.1 S.2.1 dX7_deleteColumn_4 rfl (lv_at hl 1 rfl) ?_
  refine lv_iload_n S.1 S.2.1 dX7_deleteColumn_5 rfl (lv_at hl 3 rfl) ?_
  refine va_csv (va_runS (As := [.int (nI k1), .int (nI k3)]) (rest := []) S (k_X7_requireDeletion l G σ μ o k1 k3 h1_ h3_) (va_cwS 2 S.2.2.2.2 gX7_deleteColumn_X7_requireDeletion rfl rfl rfl hy_X7_requireDeletion ⟨Nat.le_of_ble_eq_true rfl, Nat.le_of_ble_eq_true rfl⟩) (wPc_S Z) rfl rfl hl.1 rfl (lv_room (Nat.le_of_ble_eq_true rfl)) dX7_deleteColumn_6 ⟨Nat.le_of_ble_eq_true rfl, Nat.le_of_ble_eq_true rfl⟩).run (fun h_4 => ?_)
  refine lv_aload_n S.1 S.2.1 dX7_deleteColumn_9 rfl (lv_at hl 0 rfl) ?_
  refine lv_iload_n S.1 S.2.1 dX7_deleteColumn_10 rfl (lv_at hl 1 rfl) ?_
  refine r_newO (C := RX6) (T := TX6) (N := 3) (ci := 6) (fs := [.int 0, .int 0, .int 0]) S Z tyX6 tyX6_ok i_X7_deleteColumn_X6 m_X7_deleteColumn_c83 m_X7_deleteColumn_iX6_ m_X7_deleteColumn_zRX6 rfl (fun j hj => by rcases (show j = 0 ∨ j = 1 ∨ j = 2 by omega) with rfl | rfl | rfl <;> rfl) (Nat.le_of_ble_eq_true rfl) (Nat.le_of_ble_eq_true rfl) dX7_deleteColumn_11 (fun q0 H Z => ?_)
  obtain ⟨σ9, hσ9⟩ : ∃ q : cS, q = cW' σ (cW σ ++ [(q0, .inr (6, [.int 0, .int 0, .int 0]))]) := ⟨_, rfl⟩
  rw [← hσ9] at Z
  have hk9 : (cW σ9)[(cW σ).length]? = some (q0, .inr (6, [.int 0, .int 0, .int 0])) := by rw [hσ9]; exact app_at
  have hV9 : cV σ9 = cV σ := by rw [hσ9]; rfl
  refine lv_dup S.1 S.2.1 dX7_deleteColumn_14 rfl ?_
  refine lv_bipush (v := nI 64) S.1 S.2.1 dX7_deleteColumn_15 (by decide) ?_
  refine lv_iload_n S.1 S.2.1 dX7_deleteColumn_17 rfl (lv_at hl 2 rfl) ?_
  refine r_addN S dX7_deleteColumn_18 ?_
  refine lv_iload_n S.1 S.2.1 dX7_deleteColumn_19 rfl (lv_at hl 3 rfl) ?_
  refine lv_aload_n S.1 S.2.1 dX7_deleteColumn_20 rfl (lv_at hl 0 rfl) ?_
  refine r_get (C := RX7) (T := TX7) (N := 7) (ci := 7) S Z (by decide) rfl rfl i_X7_deleteColumn_X7 4 (by decide) m_X7_deleteColumn_f41 rfl (v := .int (cV σ 4)) (by show some (Value.int (cV σ9 4)) = some (Value.int (cV σ 4)); rw [hV9]) dX7_deleteColumn_21 ?_
  refine va_callv (va_runI (As := [.int (nI (64 + k2)), .int (nI k3), .int (cV σ 4)]) (rest := [.ref (q0), .int (nI k1), .ref (gA G 0)]) S (k_X6_init l G σ9 μ o q0 (cW σ).length (64 + k2) (nI k3) (cV σ 4) hk9) (cwI 3 S.2.2.2.2 gX7_deleteColumn_X6_init rfl rfl rfl (S.2.2.2.2 _ m_X7_deleteColumn_zRX6) (S.2.2.2.2 _ m_X7_deleteColumn_k85) (S.2.2.2.2 _ m_X7_deleteColumn_nX6_init) rfl hy_X6_init ⟨Nat.le_of_ble_eq_true rfl, Nat.le_of_ble_eq_true rfl⟩) (wPc_S Z) rfl rfl hl.1 rfl (lv_room (Nat.le_of_ble_eq_true rfl)) dX7_deleteColumn_24 ⟨Nat.le_of_ble_eq_true rfl, Nat.le_of_ble_eq_true rfl⟩) Z.2.2.2.2 (fun _ _ h => h) (fun _ h => h) (fun u_6 T9 H1 locs1 hT9 hvm hw hB hz hk9 hS => ?_)
  subst hw
  have Z : wZ G (cW' σ9 ((cW σ9).set (cW σ).length (q0, .inr (6, [.int (nI (64 + k2)), .int (nI k3), .int (cV σ 4)])))) (μ) o s H1 locs1 := wZ_callP Z hB hT9 hS
  clear hB hT9 hS hk9 hz hvm T9
  revert Z; generalize H1 = H; generalize locs1 = locs; intro Z
  refine W.widen (k := 1) (n := 3) (by first | decide | omega) (by first | decide | omega) ?_
  rw [hσ9, new_set] at Z
  have Z : wZ G (cW' σ (cW σ ++ [(q0, chE (64 + (64 + k2), nI k3, cV σ 4, nI 0))])) (μ) o s H locs := by rw [chE_t]; exact Z
  refine va_calli (va_runV (As := [.int (nI k1), .ref (q0)]) (rest := []) S (k_X7_send l G (cW' σ (cW σ ++ [(q0, chE (64 + (64 + k2), nI k3, cV σ 4, nI 0))])) μ o q0 (nI k1) (64 + (64 + k2), nI k3, cV σ 4, nI 0) L (HI_push hHI) ⟨_, app_at⟩ (by show _ < 156; omega)) (cwV 2 S.2.2.2.2 gX7_deleteColumn_X7_send rfl rfl rfl ⟨rfl, hy_X7_send⟩ ⟨Nat.le_of_ble_eq_true rfl, Nat.le_of_ble_eq_true rfl⟩) (wPc_V (q := (RX7, TX7, 7)) Z (by decide) rfl rfl) rfl rfl hl.1 rfl (lv_room (Nat.le_of_ble_eq_true rfl)) dX7_deleteColumn_27 ⟨Nat.le_of_ble_eq_true rfl, Nat.le_of_ble_eq_true rfl⟩) Z.2.2.2.2 (fun _ _ h => h) (fun _ h => h) (fun r_7 u_8 T9 H1 locs1 hT9 hvm hw hB hz hk9 hS => ?_)
  obtain ⟨τ_9, μ9⟩ := u_8
  obtain ⟨hr9, hm9, hp9⟩ := hw
  have hm9 : μ = μ9 := hm9.symm
  subst hm9
  have hp_10 : sc τ_9 (sdS (cW' σ (cW σ ++ [(q0, chE (64 + (64 + k2), nI k3, cV σ 4, nI 0))])) (64 + (64 + k2), nI k3, cV σ 4, nI 0) (nI k1) 3) ∧ HI G τ_9 (fun k => if bitB (nI k1) k = true ∧ cU (cW' σ (cW σ ++ [(q0, chE (64 + (64 + k2), nI k3, cV σ 4, nI 0))])) k = false ∧ (L k).length < 10 then L k ++ [(64 + (64 + k2), nI k3, cV σ 4, nI 0)] else L k) := hp9
  clear hp9
  rw [hr9]; clear hr9 r_7
  have Z : wZ G (τ_9) (μ) o s H1 locs1 := wZ_callP Z hB hT9 hS
  clear hB hT9 hS hk9 hz hvm T9
  revert Z; generalize H1 = H; generalize locs1 = locs; intro Z
  refine W.widen (k := 4) (n := 33) (by first | decide | omega) (by first | decide | omega) ?_
  rw [hQ]
  exact W.iret (v := nI (sdN (cW' σ (cW σ ++ [(q0, chE (64 + (64 + k2), nI k3, cV σ 4, nI 0))])) (nI k1) 3)) S.1 S.2.1 hret (fun _ hT9 hW => ⟨⟨_, (τ_9, μ), rfl, ⟨(congrArg nI (sdN_W 3)), rfl, send_W hp_10⟩, wZ_P Z hT9 hW⟩, Z.2.2.2.2.F hT9⟩) Z.2.2.2.2.2.2 dX7_deleteColumn_30

theorem i_X7_deleteRow_X6 : ∀ w ∈ wsX60, w ∈ wsX7_deleteRow := by decide +kernel
theorem m_X7_deleteRow_c83 : Cond.classLink RX7 83 RX6 ∈ wsX7_deleteRow := by decide +kernel
theorem m_X7_deleteRow_iX6_ : Cond.instantiable RX6 3 ∈ wsX7_deleteRow := by decide +kernel
theorem m_X7_deleteRow_zRX6 : Cond.initialized RX6 ∈ wsX7_deleteRow := by decide +kernel
theorem i_X7_deleteRow_X7 : ∀ w ∈ wsX70, w ∈ wsX7_deleteRow := by decide +kernel
theorem m_X7_deleteRow_f41 : Cond.fieldLink RX7 41 "WideCell" "now" "I" ∈ wsX7_deleteRow := by decide +kernel
theorem m_X7_deleteRow_nX6_init : Cond.instanceMethod yX6_init ∈ wsX7_deleteRow := by decide +kernel
theorem m_X7_deleteRow_k85 : Cond.methodLink RX7 85 yX6_init ∈ wsX7_deleteRow := by decide +kernel
abbrev rm_k_X7_deleteRow : Room := { frames := 7, cells := 4, slots := 33, locals := 153 }
set_option maxHeartbeats 4000000 in
set_option maxRecDepth 100000 in
theorem k_X7_deleteRow (l : Launch) (G : wG) (σ : cS) (μ : mS) (o : Nat → Int64) (k1 : Nat) (k2 : Nat) (k3 : Nat) (L : Nat → List Ch) (h1_ : k1 ≤ 7) (h2_ : k2 ≤ 15) (h3_ : k3 ≤ 999) (hHI : HI G σ L) : Met l yX7_deleteRow wsX7_deleteRow rm_k_X7_deleteRow (wPc G σ μ o [.ref (gA G 0), .int (nI k1), .int (nI k2), .int (nI k3)]) (va_Qi (fun (rr : Int32) (u : cS × mS) => rr = nI (sdN σ (nI k1) 3) ∧ u.2 = μ ∧ (fun ns : cS => sc ns (sdS σ (64 + (68 + k2), nI k3, cV σ 4, nI 0) (nI k1) 3) ∧ HI G ns (sdLL σ (nI k1) (64 + (68 + k2), nI k3, cV σ 4, nI 0) L)) u.1) (fun u t => wI G u.1 u.2 o t) (gP G)) 4 33 (gP G) := by
  refine Met.ofW (cc := cX7_deleteRow) (maxL := 4) (ret := (some .int)) (by decide) rfl ?_
  intro p e s m args below meth c s₁ B hml hv
  obtain ⟨hargs, hI⟩ := hv
  have S : CallFix p m c cX7_deleteRow 4 s args wsX7_deleteRow RX7 := ⟨B.exec, B.bytes, hml, findClass_of_methodNamed B.named, atoms_spec (ws := wsX7_deleteRow) B.pre⟩
  have hret := B.returns
  have hlocks := B.notSynchronized
  have Z := wZ_0 hI
  clear hI
  obtain ⟨Q, hQ⟩ : ∃ Q, Q = MQ below (va_Qi (fun (rr : Int32) (u : cS × mS) => rr = nI (sdN σ (nI k1) 3) ∧ u.2 = μ ∧ (fun ns : cS => sc ns (sdS σ (64 + (68 + k2), nI k3, cV σ 4, nI 0) (nI k1) 3) ∧ HI G ns (sdLL σ (nI k1) (64 + (68 + k2), nI k3, cV σ 4, nI 0) L)) u.1) (fun u t => wI G u.1 u.2 o t) (gP G)) args s 4 33 (gP G) := ⟨_, rfl⟩
  rw [← hQ]
  have hl := lv_entry [.ref (gA G 0), .int (nI k1), .int (nI k2), .int (nI k3)] (n := 4) (Nat.le_of_ble_eq_true rfl)
  rw [show entryFrame m args 4 = entryFrame m ([.ref (gA G 0), .int (nI k1), .int (nI k2), .int (nI k3)] : List Value).toArray 4 from by rw [hargs], lg_entry_eq]
  generalize (lg_sl [.ref (gA G 0), .int (nI k1), .int (nI k2), .int (nI k3)] ++ List.replicate (4 - (lg_sl [.ref (gA G 0), .int (nI k1), .int (nI k2), .int (nI k3)]).length) Slot.unset).toArray = ls at hl ⊢
  have hl : lv_has ls 4 [(0, .ref (gA G 0)), (1, .int (nI k1)), (2, .int (nI k2)), (3, .int (nI k3))] := hl
  refine lv_iload_n S.1 S.2.1 dX7_deleteRow_0 rfl (lv_at hl 2 rfl) ?_
  refine va_csv (va_runS (As := [.int (nI k2)]) (rest := []) S (k_X7_requireRow l G σ μ o k2 h2_) (va_cwS 1 S.2.2.2.2 gX7_deleteRow_X7_requireRow rfl rfl rfl hy_X7_requireRow ⟨Nat.le_of_ble_eq_true rfl, Nat.le_of_ble_eq_true rfl⟩) (wPc_S Z) rfl rfl hl.1 rfl (lv_room (Nat.le_of_ble_eq_true rfl)) dX7_deleteRow_1 ⟨Nat.le_of_ble_eq_true rfl, Nat.le_of_ble_eq_true rfl⟩).run (fun h_2 => ?_)
  refine lv_iload_n S.1 S.2.1 dX7_deleteRow_4 rfl (lv_at hl 1 rfl) ?_
  refine lv_iload_n S.1 S.2.1 dX7_deleteRow_5 rfl (lv_at hl 3 rfl) ?_
  refine va_csv (va_runS (As := [.int (nI k1), .int (nI k3)]) (rest := []) S (k_X7_requireDeletion l G σ μ o k1 k3 h1_ h3_) (va_cwS 2 S.2.2.2.2 gX7_deleteRow_X7_requireDeletion rfl rfl rfl hy_X7_requireDeletion ⟨Nat.le_of_ble_eq_true rfl, Nat.le_of_ble_eq_true rfl⟩) (wPc_S Z) rfl rfl hl.1 rfl (lv_room (Nat.le_of_ble_eq_true rfl)) dX7_deleteRow_6 ⟨Nat.le_of_ble_eq_true rfl, Nat.le_of_ble_eq_true rfl⟩).run (fun h_4 => ?_)
  refine lv_aload_n S.1 S.2.1 dX7_deleteRow_9 rfl (lv_at hl 0 rfl) ?_
  refine lv_iload_n S.1 S.2.1 dX7_deleteRow_10 rfl (lv_at hl 1 rfl) ?_
  refine r_newO (C := RX6) (T := TX6) (N := 3) (ci := 6) (fs := [.int 0, .int 0, .int 0]) S Z tyX6 tyX6_ok i_X7_deleteRow_X6 m_X7_deleteRow_c83 m_X7_deleteRow_iX6_ m_X7_deleteRow_zRX6 rfl (fun j hj => by rcases (show j = 0 ∨ j = 1 ∨ j = 2 by omega) with rfl | rfl | rfl <;> rfl) (Nat.le_of_ble_eq_true rfl) (Nat.le_of_ble_eq_true rfl) dX7_deleteRow_11 (fun q0 H Z => ?_)
  obtain ⟨σ9, hσ9⟩ : ∃ q : cS, q = cW' σ (cW σ ++ [(q0, .inr (6, [.int 0, .int 0, .int 0]))]) := ⟨_, rfl⟩
  rw [← hσ9] at Z
  have hk9 : (cW σ9)[(cW σ).length]? = some (q0, .inr (6, [.int 0, .int 0, .int 0])) := by rw [hσ9]; exact app_at
  have hV9 : cV σ9 = cV σ := by rw [hσ9]; rfl
  refine lv_dup S.1 S.2.1 dX7_deleteRow_14 rfl ?_
  refine lv_bipush (v := nI 68) S.1 S.2.1 dX7_deleteRow_15 (by decide) ?_
  refine lv_iload_n S.1 S.2.1 dX7_deleteRow_17 rfl (lv_at hl 2 rfl) ?_
  refine r_addN S dX7_deleteRow_18 ?_
  refine lv_iload_n S.1 S.2.1 dX7_deleteRow_19 rfl (lv_at hl 3 rfl) ?_
  refine lv_aload_n S.1 S.2.1 dX7_deleteRow_20 rfl (lv_at hl 0 rfl) ?_
  refine r_get (C := RX7) (T := TX7) (N := 7) (ci := 7) S Z (by decide) rfl rfl i_X7_deleteRow_X7 4 (by decide) m_X7_deleteRow_f41 rfl (v := .int (cV σ 4)) (by show some (Value.int (cV σ9 4)) = some (Value.int (cV σ 4)); rw [hV9]) dX7_deleteRow_21 ?_
  refine va_callv (va_runI (As := [.int (nI (68 + k2)), .int (nI k3), .int (cV σ 4)]) (rest := [.ref (q0), .int (nI k1), .ref (gA G 0)]) S (k_X6_init l G σ9 μ o q0 (cW σ).length (68 + k2) (nI k3) (cV σ 4) hk9) (cwI 3 S.2.2.2.2 gX7_deleteRow_X6_init rfl rfl rfl (S.2.2.2.2 _ m_X7_deleteRow_zRX6) (S.2.2.2.2 _ m_X7_deleteRow_k85) (S.2.2.2.2 _ m_X7_deleteRow_nX6_init) rfl hy_X6_init ⟨Nat.le_of_ble_eq_true rfl, Nat.le_of_ble_eq_true rfl⟩) (wPc_S Z) rfl rfl hl.1 rfl (lv_room (Nat.le_of_ble_eq_true rfl)) dX7_deleteRow_24 ⟨Nat.le_of_ble_eq_true rfl, Nat.le_of_ble_eq_true rfl⟩) Z.2.2.2.2 (fun _ _ h => h) (fun _ h => h) (fun u_6 T9 H1 locs1 hT9 hvm hw hB hz hk9 hS => ?_)
  subst hw
  have Z : wZ G (cW' σ9 ((cW σ9).set (cW σ).length (q0, .inr (6, [.int (nI (68 + k2)), .int (nI k3), .int (cV σ 4)])))) (μ) o s H1 locs1 := wZ_callP Z hB hT9 hS
  clear hB hT9 hS hk9 hz hvm T9
  revert Z; generalize H1 = H; generalize locs1 = locs; intro Z
  refine W.widen (k := 1) (n := 3) (by first | decide | omega) (by first | decide | omega) ?_
  rw [hσ9, new_set] at Z
  have Z : wZ G (cW' σ (cW σ ++ [(q0, chE (64 + (68 + k2), nI k3, cV σ 4, nI 0))])) (μ) o s H locs := by rw [chE_t]; exact Z
  refine va_calli (va_runV (As := [.int (nI k1), .ref (q0)]) (rest := []) S (k_X7_send l G (cW' σ (cW σ ++ [(q0, chE (64 + (68 + k2), nI k3, cV σ 4, nI 0))])) μ o q0 (nI k1) (64 + (68 + k2), nI k3, cV σ 4, nI 0) L (HI_push hHI) ⟨_, app_at⟩ (by show _ < 156; omega)) (cwV 2 S.2.2.2.2 gX7_deleteRow_X7_send rfl rfl rfl ⟨rfl, hy_X7_send⟩ ⟨Nat.le_of_ble_eq_true rfl, Nat.le_of_ble_eq_true rfl⟩) (wPc_V (q := (RX7, TX7, 7)) Z (by decide) rfl rfl) rfl rfl hl.1 rfl (lv_room (Nat.le_of_ble_eq_true rfl)) dX7_deleteRow_27 ⟨Nat.le_of_ble_eq_true rfl, Nat.le_of_ble_eq_true rfl⟩) Z.2.2.2.2 (fun _ _ h => h) (fun _ h => h) (fun r_7 u_8 T9 H1 locs1 hT9 hvm hw hB hz hk9 hS => ?_)
  obtain ⟨τ_9, μ9⟩ := u_8
  obtain ⟨hr9, hm9, hp9⟩ := hw
  have hm9 : μ = μ9 := hm9.symm
  subst hm9
  have hp_10 : sc τ_9 (sdS (cW' σ (cW σ ++ [(q0, chE (64 + (68 + k2), nI k3, cV σ 4, nI 0))])) (64 + (68 + k2), nI k3, cV σ 4, nI 0) (nI k1) 3) ∧ HI G τ_9 (fun k => if bitB (nI k1) k = true ∧ cU (cW' σ (cW σ ++ [(q0, chE (64 + (68 + k2), nI k3, cV σ 4, nI 0))])) k = false ∧ (L k).length < 10 then L k ++ [(64 + (68 + k2), nI k3, cV σ 4, nI 0)] else L k) := hp9
  clear hp9
  rw [hr9]; clear hr9 r_7
  have Z : wZ G (τ_9) (μ) o s H1 locs1 := wZ_callP Z hB hT9 hS
  clear hB hT9 hS hk9 hz hvm T9
  revert Z; generalize H1 = H; generalize locs1 = locs; intro Z
  refine W.widen (k := 4) (n := 33) (by first | decide | omega) (by first | decide | omega) ?_
  rw [hQ]
  exact W.iret (v := nI (sdN (cW' σ (cW σ ++ [(q0, chE (64 + (68 + k2), nI k3, cV σ 4, nI 0))])) (nI k1) 3)) S.1 S.2.1 hret (fun _ hT9 hW => ⟨⟨_, (τ_9, μ), rfl, ⟨(congrArg nI (sdN_W 3)), rfl, send_W hp_10⟩, wZ_P Z hT9 hW⟩, Z.2.2.2.2.F hT9⟩) Z.2.2.2.2.2.2 dX7_deleteRow_30

theorem i_X7_deleteRange_X6 : ∀ w ∈ wsX60, w ∈ wsX7_deleteRange := by decide +kernel
theorem m_X7_deleteRange_c83 : Cond.classLink RX7 83 RX6 ∈ wsX7_deleteRange := by decide +kernel
theorem m_X7_deleteRange_iX6_ : Cond.instantiable RX6 3 ∈ wsX7_deleteRange := by decide +kernel
theorem m_X7_deleteRange_zRX6 : Cond.initialized RX6 ∈ wsX7_deleteRange := by decide +kernel
theorem m_X7_deleteRange_f41 : Cond.fieldLink RX7 41 "WideCell" "now" "I" ∈ wsX7_deleteRange := by decide +kernel
theorem m_X7_deleteRange_nX6_init : Cond.instanceMethod yX6_init ∈ wsX7_deleteRange := by decide +kernel
theorem m_X7_deleteRange_k85 : Cond.methodLink RX7 85 yX6_init ∈ wsX7_deleteRange := by decide +kernel
abbrev rm_k_X7_deleteRange : Room := { frames := 7, cells := 4, slots := 33, locals := 153 }
set_option maxHeartbeats 4000000 in
set_option maxRecDepth 100000 in
theorem k_X7_deleteRange (l : Launch) (G : wG) (σ : cS) (μ : mS) (o : Nat → Int64) (k1 : Nat) (k2 : Nat) (k3 : Nat) (k4 : Nat) (L : Nat → List Ch) (h1_ : k1 ≤ 7) (h2_ : k2 ≤ 15) (h3_ : k3 ≤ 15) (h4_ : k4 ≤ 999) (hab : k2 ≤ k3) (hz : rgi σ k2 k3 < 8) (hHI : HI G σ L) : Met l yX7_deleteRange wsX7_deleteRange rm_k_X7_deleteRange (wPc G σ μ o [.ref (gA G 0), .int (nI k1), .int (nI k2), .int (nI k3), .int (nI k4)]) (va_Qi (fun (rr : Int32) (u : cS × mS) => rr = nI (sdN (rgS σ k2 k3) (nI k1) 3) ∧ u.2 = μ ∧ (fun ns : cS => sc ns (sdS (rgS σ k2 k3) (64 + (84 + rgi σ k2 k3), nI k4, cV (rgS σ k2 k3) 4, nI 0) (nI k1) 3) ∧ HI G ns (sdLL (rgS σ k2 k3) (nI k1) (64 + (84 + rgi σ k2 k3), nI k4, cV (rgS σ k2 k3) 4, nI 0) L)) u.1) (fun u t => wI G u.1 u.2 o t) (gP G)) 4 33 (gP G) := by
  refine Met.ofW (cc := cX7_deleteRange) (maxL := 6) (ret := (some .int)) (by decide) rfl ?_
  intro p e s m args below meth c s₁ B hml hv
  obtain ⟨hargs, hI⟩ := hv
  have S : CallFix p m c cX7_deleteRange 6 s args wsX7_deleteRange RX7 := ⟨B.exec, B.bytes, hml, findClass_of_methodNamed B.named, atoms_spec (ws := wsX7_deleteRange) B.pre⟩
  have hret := B.returns
  have hlocks := B.notSynchronized
  have Z := wZ_0 hI
  clear hI
  obtain ⟨Q, hQ⟩ : ∃ Q, Q = MQ below (va_Qi (fun (rr : Int32) (u : cS × mS) => rr = nI (sdN (rgS σ k2 k3) (nI k1) 3) ∧ u.2 = μ ∧ (fun ns : cS => sc ns (sdS (rgS σ k2 k3) (64 + (84 + rgi σ k2 k3), nI k4, cV (rgS σ k2 k3) 4, nI 0) (nI k1) 3) ∧ HI G ns (sdLL (rgS σ k2 k3) (nI k1) (64 + (84 + rgi σ k2 k3), nI k4, cV (rgS σ k2 k3) 4, nI 0) L)) u.1) (fun u t => wI G u.1 u.2 o t) (gP G)) args s 4 33 (gP G) := ⟨_, rfl⟩
  rw [← hQ]
  have hl := lv_entry [.ref (gA G 0), .int (nI k1), .int (nI k2), .int (nI k3), .int (nI k4)] (n := 6) (Nat.le_of_ble_eq_true rfl)
  rw [show entryFrame m args 6 = entryFrame m ([.ref (gA G 0), .int (nI k1), .int (nI k2), .int (nI k3), .int (nI k4)] : List Value).toArray 6 from by rw [hargs], lg_entry_eq]
  generalize (lg_sl [.ref (gA G 0), .int (nI k1), .int (nI k2), .int (nI k3), .int (nI k4)] ++ List.replicate (6 - (lg_sl [.ref (gA G 0), .int (nI k1), .int (nI k2), .int (nI k3), .int (nI k4)]).length) Slot.unset).toArray = ls at hl ⊢
  have hl : lv_has ls 6 [(0, .ref (gA G 0)), (1, .int (nI k1)), (2, .int (nI k2)), (3, .int (nI k3)), (4, .int (nI k4))] := hl
  refine lv_iload_n S.1 S.2.1 dX7_deleteRange_0 rfl (lv_at hl 2 rfl) ?_
  refine va_csv (va_runS (As := [.int (nI k2)]) (rest := []) S (k_X7_requireRow l G σ μ o k2 h2_) (va_cwS 1 S.2.2.2.2 gX7_deleteRange_X7_requireRow rfl rfl rfl hy_X7_requireRow ⟨Nat.le_of_ble_eq_true rfl, Nat.le_of_ble_eq_true rfl⟩) (wPc_S Z) rfl rfl hl.1 rfl (lv_room (Nat.le_of_ble_eq_true rfl)) dX7_deleteRange_1 ⟨Nat.le_of_ble_eq_true rfl, Nat.le_of_ble_eq_true rfl⟩).run (fun h_2 => ?_)
  refine lv_iload_n S.1 S.2.1 dX7_deleteRange_4 rfl (lv_at hl 3 rfl) ?_
  refine va_csv (va_runS (As := [.int (nI k3)]) (rest := []) S (k_X7_requireRow l G σ μ o k3 h3_) (va_cwS 1 S.2.2.2.2 gX7_deleteRange_X7_requireRow rfl rfl rfl hy_X7_requireRow ⟨Nat.le_of_ble_eq_true rfl, Nat.le_of_ble_eq_true rfl⟩) (wPc_S Z) rfl rfl hl.1 rfl (lv_room (Nat.le_of_ble_eq_true rfl)) dX7_deleteRange_5 ⟨Nat.le_of_ble_eq_true rfl, Nat.le_of_ble_eq_true rfl⟩).run (fun h_4 => ?_)
  refine lv_iload_n S.1 S.2.1 dX7_deleteRange_8 rfl (lv_at hl 1 rfl) ?_
  refine lv_iload S.1 S.2.1 dX7_deleteRange_9 (lv_at hl 4 rfl) ?_
  refine va_csv (va_runS (As := [.int (nI k1), .int (nI k4)]) (rest := []) S (k_X7_requireDeletion l G σ μ o k1 k4 h1_ h4_) (va_cwS 2 S.2.2.2.2 gX7_deleteRange_X7_requireDeletion rfl rfl rfl hy_X7_requireDeletion ⟨Nat.le_of_ble_eq_true rfl, Nat.le_of_ble_eq_true rfl⟩) (wPc_S Z) rfl rfl hl.1 rfl (lv_room (Nat.le_of_ble_eq_true rfl)) dX7_deleteRange_11 ⟨Nat.le_of_ble_eq_true rfl, Nat.le_of_ble_eq_true rfl⟩).run (fun h_6 => ?_)
  refine lv_iload_n S.1 S.2.1 dX7_deleteRange_14 rfl (lv_at hl 2 rfl) ?_
  refine lv_iload_n S.1 S.2.1 dX7_deleteRange_15 rfl (lv_at hl 3 rfl) ?_
  refine r_icmpN_gt S (tgt := 23) (by omega) (by omega) dX7_deleteRange_16 (by decide) (fun c_7 => absurd c_7 (by omega)) (fun c_7 => ?_)
  refine lv_iconst (v := nI 1) S.1 S.2.1 dX7_deleteRange_19 (by decide) ?_
  refine lv_goto (tgt := 24) S.1 S.2.1 dX7_deleteRange_20 (by decide) ?_
  refine va_csv (va_runS (As := [.int (bi true)]) (rest := []) S (k_X7_requireArgument l G σ μ o  ) (va_cwS 1 S.2.2.2.2 gX7_deleteRange_X7_requireArgument rfl rfl rfl hy_X7_requireArgument ⟨Nat.le_of_ble_eq_true rfl, Nat.le_of_ble_eq_true rfl⟩) (wPc_S Z) rfl rfl hl.1 rfl (lv_room (Nat.le_of_ble_eq_true rfl)) dX7_deleteRange_24 ⟨Nat.le_of_ble_eq_true rfl, Nat.le_of_ble_eq_true rfl⟩).run (fun h_9 => ?_)
  refine lv_aload_n S.1 S.2.1 dX7_deleteRange_27 rfl (lv_at hl 0 rfl) ?_
  refine r_get (C := RX7) (T := TX7) (N := 7) (ci := 7) S Z (by decide) rfl rfl i_X7_deleteRange_X7 0 (by decide) m_X7_deleteRange_f12 rfl (v := .ref (gA G 1)) rfl dX7_deleteRange_28 ?_
  refine lv_iload_n S.1 S.2.1 dX7_deleteRange_31 rfl (lv_at hl 2 rfl) ?_
  refine lv_iload_n S.1 S.2.1 dX7_deleteRange_32 rfl (lv_at hl 3 rfl) ?_
  refine va_calli (va_runV (As := [.int (nI k2), .int (nI k3)]) (rest := []) S (k_X4_numberOf_n l G σ μ o k2 k3 hz) (cwV 2 S.2.2.2.2 gX7_deleteRange_X4_numberOf rfl rfl rfl ⟨rfl, hy_X4_numberOf⟩ ⟨Nat.le_of_ble_eq_true rfl, Nat.le_of_ble_eq_true rfl⟩) (wPc_V (q := (RX4, TX4, 2)) Z (by decide) rfl rfl) rfl rfl hl.1 rfl (lv_room (Nat.le_of_ble_eq_true rfl)) dX7_deleteRange_33 ⟨Nat.le_of_ble_eq_true rfl, Nat.le_of_ble_eq_true rfl⟩) Z.2.2.2.2 (fun _ _ h => h) (fun _ h => h) (fun r_10 u_11 T9 H1 locs1 hT9 hvm hw hB hz hk9 hS => ?_)
  obtain ⟨hr9, rfl⟩ := hw
  rw [hr9]; clear hr9 r_10
  have Z : wZ G (rgS σ k2 k3) (μ) o s H1 locs1 := wZ_callP Z hB hT9 hS
  clear hB hT9 hS hk9 hz hvm T9
  revert Z; generalize H1 = H; generalize locs1 = locs; intro Z
  refine W.widen (k := 0) (n := 0) (by decide) (by decide) ?_
  refine lv_istore (lv' := [(5, .int (nI (rgi σ k2 k3))), (0, .ref (gA G 0)), (1, .int (nI k1)), (2, .int (nI k2)), (3, .int (nI k3)), (4, .int (nI k4))]) S.1 S.2.1 dX7_deleteRange_36 hl (by decide) rfl (fun ls hl => ?_)
  refine lv_iload S.1 S.2.1 dX7_deleteRange_38 (lv_at hl 0 rfl) ?_
  refine lv_iconst (v := -1) S.1 S.2.1 dX7_deleteRange_40 (by decide) ?_
  refine lv_icmp_eq (tgt := 48) S.1 S.2.1 dX7_deleteRange_41 (by decide) (fun c_12 => absurd c_12 (nI_nm1 (by omega))) (fun c_12 => ?_)
  refine lv_iconst (v := nI 1) S.1 S.2.1 dX7_deleteRange_44 (by decide) ?_
  refine lv_goto (tgt := 49) S.1 S.2.1 dX7_deleteRange_45 (by decide) ?_
  refine va_csv (va_runS (As := [.int (bi true)]) (rest := []) S (k_X7_requireState l G (rgS σ k2 k3) μ o  ) (va_cwS 1 S.2.2.2.2 gX7_deleteRange_X7_requireState rfl rfl rfl hy_X7_requireState ⟨Nat.le_of_ble_eq_true rfl, Nat.le_of_ble_eq_true rfl⟩) (wPc_S Z) rfl rfl hl.1 rfl (lv_room (Nat.le_of_ble_eq_true rfl)) dX7_deleteRange_49 ⟨Nat.le_of_ble_eq_true rfl, Nat.le_of_ble_eq_true rfl⟩).run (fun h_14 => ?_)
  refine lv_aload_n S.1 S.2.1 dX7_deleteRange_52 rfl (lv_at hl 1 rfl) ?_
  refine lv_iload_n S.1 S.2.1 dX7_deleteRange_53 rfl (lv_at hl 2 rfl) ?_
  refine r_newO (C := RX6) (T := TX6) (N := 3) (ci := 6) (fs := [.int 0, .int 0, .int 0]) S Z tyX6 tyX6_ok i_X7_deleteRange_X6 m_X7_deleteRange_c83 m_X7_deleteRange_iX6_ m_X7_deleteRange_zRX6 rfl (fun j hj => by rcases (show j = 0 ∨ j = 1 ∨ j = 2 by omega) with rfl | rfl | rfl <;> rfl) (Nat.le_of_ble_eq_true rfl) (Nat.le_of_ble_eq_true rfl) dX7_deleteRange_54 (fun q0 H Z => ?_)
  obtain ⟨σ9, hσ9⟩ : ∃ q : cS, q = cW' (rgS σ k2 k3) (cW (rgS σ k2 k3) ++ [(q0, .inr (6, [.int 0, .int 0, .int 0]))]) := ⟨_, rfl⟩
  rw [← hσ9] at Z
  have hk9 : (cW σ9)[(cW (rgS σ k2 k3)).length]? = some (q0, .inr (6, [.int 0, .int 0, .int 0])) := by rw [hσ9]; exact app_at
  have hV9 : cV σ9 = cV (rgS σ k2 k3) := by rw [hσ9]; rfl
  refine lv_dup S.1 S.2.1 dX7_deleteRange_57 rfl ?_
  refine lv_bipush (v := nI 84) S.1 S.2.1 dX7_deleteRange_58 (by decide) ?_
  refine lv_iload S.1 S.2.1 dX7_deleteRange_60 (lv_at hl 0 rfl) ?_
  refine r_addN S dX7_deleteRange_62 ?_
  refine lv_iload S.1 S.2.1 dX7_deleteRange_63 (lv_at hl 5 rfl) ?_
  refine lv_aload_n S.1 S.2.1 dX7_deleteRange_65 rfl (lv_at hl 1 rfl) ?_
  refine r_get (C := RX7) (T := TX7) (N := 7) (ci := 7) S Z (by decide) rfl rfl i_X7_deleteRange_X7 4 (by decide) m_X7_deleteRange_f41 rfl (v := .int (cV (rgS σ k2 k3) 4)) (by show some (Value.int (cV σ9 4)) = some (Value.int (cV (rgS σ k2 k3) 4)); rw [hV9]) dX7_deleteRange_66 ?_
  refine va_callv (va_runI (As := [.int (nI (84 + (rgi σ k2 k3))), .int (nI k4), .int (cV (rgS σ k2 k3) 4)]) (rest := [.ref (q0), .int (nI k1), .ref (gA G 0)]) S (k_X6_init l G σ9 μ o q0 (cW (rgS σ k2 k3)).length (84 + (rgi σ k2 k3)) (nI k4) (cV (rgS σ k2 k3) 4) hk9) (cwI 3 S.2.2.2.2 gX7_deleteRange_X6_init rfl rfl rfl (S.2.2.2.2 _ m_X7_deleteRange_zRX6) (S.2.2.2.2 _ m_X7_deleteRange_k85) (S.2.2.2.2 _ m_X7_deleteRange_nX6_init) rfl hy_X6_init ⟨Nat.le_of_ble_eq_true rfl, Nat.le_of_ble_eq_true rfl⟩) (wPc_S Z) rfl rfl hl.1 rfl (lv_room (Nat.le_of_ble_eq_true rfl)) dX7_deleteRange_69 ⟨Nat.le_of_ble_eq_true rfl, Nat.le_of_ble_eq_true rfl⟩) Z.2.2.2.2 (fun _ _ h => h) (fun _ h => h) (fun u_16 T9 H1 locs1 hT9 hvm hw hB hz hk9 hS => ?_)
  subst hw
  have Z : wZ G (cW' σ9 ((cW σ9).set (cW (rgS σ k2 k3)).length (q0, .inr (6, [.int (nI (84 + (rgi σ k2 k3))), .int (nI k4), .int (cV (rgS σ k2 k3) 4)])))) (μ) o s H1 locs1 := wZ_callP Z hB hT9 hS
  clear hB hT9 hS hk9 hz hvm T9
  revert Z; generalize H1 = H; generalize locs1 = locs; intro Z
  refine W.widen (k := 1) (n := 3) (by first | decide | omega) (by first | decide | omega) ?_
  rw [hσ9, new_set] at Z
  have Z : wZ G (cW' (rgS σ k2 k3) (cW (rgS σ k2 k3) ++ [(q0, chE (64 + (84 + rgi σ k2 k3), nI k4, cV (rgS σ k2 k3) 4, nI 0))])) (μ) o s H locs := by rw [chE_t]; exact Z
  refine va_calli (va_runV (As := [.int (nI k1), .ref (q0)]) (rest := []) S (k_X7_send l G (cW' (rgS σ k2 k3) (cW (rgS σ k2 k3) ++ [(q0, chE (64 + (84 + rgi σ k2 k3), nI k4, cV (rgS σ k2 k3) 4, nI 0))])) μ o q0 (nI k1) (64 + (84 + rgi σ k2 k3), nI k4, cV (rgS σ k2 k3) 4, nI 0) L (HI_push (HI_rgS hHI)) ⟨_, app_at⟩ (by show _ < 156; omega)) (cwV 2 S.2.2.2.2 gX7_deleteRange_X7_send rfl rfl rfl ⟨rfl, hy_X7_send⟩ ⟨Nat.le_of_ble_eq_true rfl, Nat.le_of_ble_eq_true rfl⟩) (wPc_V (q := (RX7, TX7, 7)) Z (by decide) rfl rfl) rfl rfl hl.1 rfl (lv_room (Nat.le_of_ble_eq_true rfl)) dX7_deleteRange_72 ⟨Nat.le_of_ble_eq_true rfl, Nat.le_of_ble_eq_true rfl⟩) Z.2.2.2.2 (fun _ _ h => h) (fun _ h => h) (fun r_17 u_18 T9 H1 locs1 hT9 hvm hw hB hz hk9 hS => ?_)
  obtain ⟨τ_19, μ9⟩ := u_18
  obtain ⟨hr9, hm9, hp9⟩ := hw
  have hm9 : μ = μ9 := hm9.symm
  subst hm9
  have hp_20 : sc τ_19 (sdS (cW' (rgS σ k2 k3) (cW (rgS σ k2 k3) ++ [(q0, chE (64 + (84 + rgi σ k2 k3), nI k4, cV (rgS σ k2 k3) 4, nI 0))])) (64 + (84 + rgi σ k2 k3), nI k4, cV (rgS σ k2 k3) 4, nI 0) (nI k1) 3) ∧ HI G τ_19 (fun k => if bitB (nI k1) k = true ∧ cU (cW' (rgS σ k2 k3) (cW (rgS σ k2 k3) ++ [(q0, chE (64 + (84 + rgi σ k2 k3), nI k4, cV (rgS σ k2 k3) 4, nI 0))])) k = false ∧ (L k).length < 10 then L k ++ [(64 + (84 + rgi σ k2 k3), nI k4, cV (rgS σ k2 k3) 4, nI 0)] else L k) := hp9
  clear hp9
  rw [hr9]; clear hr9 r_17
  have Z : wZ G (τ_19) (μ) o s H1 locs1 := wZ_callP Z hB hT9 hS
  clear hB hT9 hS hk9 hz hvm T9
  revert Z; generalize H1 = H; generalize locs1 = locs; intro Z
  refine W.widen (k := 4) (n := 33) (by first | decide | omega) (by first | decide | omega) ?_
  rw [hQ]
  exact W.iret (v := nI (sdN (cW' (rgS σ k2 k3) (cW (rgS σ k2 k3) ++ [(q0, chE (64 + (84 + rgi σ k2 k3), nI k4, cV (rgS σ k2 k3) 4, nI 0))])) (nI k1) 3)) S.1 S.2.1 hret (fun _ hT9 hW => ⟨⟨_, (τ_19, μ), rfl, ⟨(congrArg nI (sdN_W 3)), rfl, send_W hp_20⟩, wZ_P Z hT9 hW⟩, Z.2.2.2.2.F hT9⟩) Z.2.2.2.2.2.2 dX7_deleteRange_75

abbrev rm_k_X7_setUp_t : Room := { frames := 5, cells := 0, slots := 0, locals := 110 }
set_option maxHeartbeats 4000000 in
set_option maxRecDepth 100000 in
theorem k_X7_setUp_t (l : Launch) (G : wG) (σ : cS) (μ : mS) (o : Nat → Int64) (i : Nat) (L : Nat → List Ch) (hi : i < 3) (hHI : HI G σ L) (hokL : ∀ cc ∈ L i, okC cc) : Met l yX7_setUp wsX7_setUp rm_k_X7_setUp_t (wPc G σ μ o [.ref (gA G 0), .int (nI i), .int (bi true)]) (va_Qi (fun (rr : Int32) (u : cS × mS) => rr = nI ((L i).length) ∧ u.2 = μ ∧ (fun ns : cS => sc ns (cuS σ i (L i)) ∧ HI G ns (va_up L i [])) u.1) (fun u t => wI G u.1 u.2 o t) (gP G)) 0 0 (gP G) := by
  refine Met.ofW (cc := cX7_setUp) (maxL := 4) (ret := (some .int)) (by decide) rfl ?_
  intro p e s m args below meth c s₁ B hml hv
  obtain ⟨hargs, hI⟩ := hv
  have S : CallFix p m c cX7_setUp 4 s args wsX7_setUp RX7 := ⟨B.exec, B.bytes, hml, findClass_of_methodNamed B.named, atoms_spec (ws := wsX7_setUp) B.pre⟩
  have hret := B.returns
  have hlocks := B.notSynchronized
  have Z := wZ_0 hI
  clear hI
  obtain ⟨Q, hQ⟩ : ∃ Q, Q = MQ below (va_Qi (fun (rr : Int32) (u : cS × mS) => rr = nI ((L i).length) ∧ u.2 = μ ∧ (fun ns : cS => sc ns (cuS σ i (L i)) ∧ HI G ns (va_up L i [])) u.1) (fun u t => wI G u.1 u.2 o t) (gP G)) args s 0 0 (gP G) := ⟨_, rfl⟩
  rw [← hQ]
  have hl := lv_entry [.ref (gA G 0), .int (nI i), .int (bi true)] (n := 4) (Nat.le_of_ble_eq_true rfl)
  rw [show entryFrame m args 4 = entryFrame m ([.ref (gA G 0), .int (nI i), .int (bi true)] : List Value).toArray 4 from by rw [hargs], lg_entry_eq]
  generalize (lg_sl [.ref (gA G 0), .int (nI i), .int (bi true)] ++ List.replicate (4 - (lg_sl [.ref (gA G 0), .int (nI i), .int (bi true)]).length) Slot.unset).toArray = ls at hl ⊢
  have hl : lv_has ls 4 [(0, .ref (gA G 0)), (1, .int (nI i)), (2, .int (bi true))] := hl
  refine lv_aload_n S.1 S.2.1 dX7_setUp_0 rfl (lv_at hl 0 rfl) ?_
  refine lv_iload_n S.1 S.2.1 dX7_setUp_1 rfl (lv_at hl 1 rfl) ?_
  refine va_csr (va_runV (As := [.int (nI i)]) (rest := []) S (k_X7_keeperOf l G σ μ o i hi) (cwV 1 S.2.2.2.2 gX7_setUp_X7_keeperOf rfl rfl rfl ⟨rfl, hy_X7_keeperOf⟩ ⟨Nat.le_of_ble_eq_true rfl, Nat.le_of_ble_eq_true rfl⟩) (wPc_V (q := (RX7, TX7, 7)) Z (by decide) rfl rfl) rfl rfl hl.1 rfl (lv_room (Nat.le_of_ble_eq_true rfl)) dX7_setUp_2 ⟨Nat.le_of_ble_eq_true rfl, Nat.le_of_ble_eq_true rfl⟩).run (fun r_1 h_2 => ?_)
  rw [h_2]; clear h_2 r_1
  refine lv_astore_n (lv' := [(3, .ref (gA G (9 + i))), (0, .ref (gA G 0)), (1, .int (nI i)), (2, .int (bi true))]) S.1 S.2.1 dX7_setUp_5 rfl hl (by decide) rfl (fun ls hl => ?_)
  refine lv_iload_n S.1 S.2.1 dX7_setUp_6 rfl (lv_at hl 3 rfl) ?_
  refine r_if_eqB S (tgt := 17) dX7_setUp_7 (by decide) (fun c_3 => absurd c_3 (by decide)) (fun c_3 => ?_)
  refine lv_aload_n S.1 S.2.1 dX7_setUp_10 rfl (lv_at hl 0 rfl) ?_
  refine va_calli (va_runV (As := []) (rest := []) S (k_X3_comeUp l G σ μ o i L hi hHI hokL) (cwV 0 S.2.2.2.2 gX7_setUp_X3_comeUp rfl rfl rfl ⟨rfl, hy_X3_comeUp⟩ ⟨Nat.le_of_ble_eq_true rfl, Nat.le_of_ble_eq_true rfl⟩) (wPc_V (q := (RX3, TX3, 3)) Z (by omega) (eK hi) rfl) rfl rfl hl.1 rfl (lv_room (Nat.le_of_ble_eq_true rfl)) dX7_setUp_11 ⟨Nat.le_of_ble_eq_true rfl, Nat.le_of_ble_eq_true rfl⟩) Z.2.2.2.2 (fun _ _ h => h) (fun _ h => h) (fun r_4 u_5 T9 H1 locs1 hT9 hvm hw hB hz hk9 hS => ?_)
  obtain ⟨τ_6, μ9⟩ := u_5
  obtain ⟨hr9, hm9, hp9⟩ := hw
  have hm9 : μ = μ9 := hm9.symm
  subst hm9
  have hp_7 : sc τ_6 (cuS σ i (L i)) ∧ HI G τ_6 (va_up L i []) := hp9
  clear hp9
  rw [hr9]; clear hr9 r_4
  have Z : wZ G (τ_6) (μ) o s H1 locs1 := wZ_callP Z hB hT9 hS
  clear hB hT9 hS hk9 hz hvm T9
  revert Z; generalize H1 = H; generalize locs1 = locs; intro Z
  refine W.widen (k := 0) (n := 0) (by first | decide | omega) (by first | decide | omega) ?_
  refine lv_goto (tgt := 21) S.1 S.2.1 dX7_setUp_14 (by decide) ?_
  rw [hQ]
  exact W.iret (v := nI ((L i).length)) S.1 S.2.1 hret (fun _ hT9 hW => ⟨⟨_, (τ_6, μ), rfl, ⟨rfl, rfl, hp_7⟩, wZ_P Z hT9 hW⟩, Z.2.2.2.2.F hT9⟩) Z.2.2.2.2.2.2 dX7_setUp_21

abbrev rm_k_X7_setUp_f : Room := { frames := 2, cells := 0, slots := 0, locals := 42 }
set_option maxHeartbeats 4000000 in
set_option maxRecDepth 100000 in
theorem k_X7_setUp_f (l : Launch) (G : wG) (σ : cS) (μ : mS) (o : Nat → Int64) (i : Nat) (hi : i < 3) : Met l yX7_setUp wsX7_setUp rm_k_X7_setUp_f (wPc G σ μ o [.ref (gA G 0), .int (nI i), .int (bi false)]) (va_Qi (fun (rr : Int32) (u : cS × mS) => rr = nI (0) ∧ u = (cU' σ i false, μ)) (fun u t => wI G u.1 u.2 o t) (gP G)) 0 0 (gP G) := by
  refine Met.ofW (cc := cX7_setUp) (maxL := 4) (ret := (some .int)) (by decide) rfl ?_
  intro p e s m args below meth c s₁ B hml hv
  obtain ⟨hargs, hI⟩ := hv
  have S : CallFix p m c cX7_setUp 4 s args wsX7_setUp RX7 := ⟨B.exec, B.bytes, hml, findClass_of_methodNamed B.named, atoms_spec (ws := wsX7_setUp) B.pre⟩
  have hret := B.returns
  have hlocks := B.notSynchronized
  have Z := wZ_0 hI
  clear hI
  obtain ⟨Q, hQ⟩ : ∃ Q, Q = MQ below (va_Qi (fun (rr : Int32) (u : cS × mS) => rr = nI (0) ∧ u = (cU' σ i false, μ)) (fun u t => wI G u.1 u.2 o t) (gP G)) args s 0 0 (gP G) := ⟨_, rfl⟩
  rw [← hQ]
  have hl := lv_entry [.ref (gA G 0), .int (nI i), .int (bi false)] (n := 4) (Nat.le_of_ble_eq_true rfl)
  rw [show entryFrame m args 4 = entryFrame m ([.ref (gA G 0), .int (nI i), .int (bi false)] : List Value).toArray 4 from by rw [hargs], lg_entry_eq]
  generalize (lg_sl [.ref (gA G 0), .int (nI i), .int (bi false)] ++ List.replicate (4 - (lg_sl [.ref (gA G 0), .int (nI i), .int (bi false)]).length) Slot.unset).toArray = ls at hl ⊢
  have hl : lv_has ls 4 [(0, .ref (gA G 0)), (1, .int (nI i)), (2, .int (bi false))] := hl
  refine lv_aload_n S.1 S.2.1 dX7_setUp_0 rfl (lv_at hl 0 rfl) ?_
  refine lv_iload_n S.1 S.2.1 dX7_setUp_1 rfl (lv_at hl 1 rfl) ?_
  refine va_csr (va_runV (As := [.int (nI i)]) (rest := []) S (k_X7_keeperOf l G σ μ o i hi) (cwV 1 S.2.2.2.2 gX7_setUp_X7_keeperOf rfl rfl rfl ⟨rfl, hy_X7_keeperOf⟩ ⟨Nat.le_of_ble_eq_true rfl, Nat.le_of_ble_eq_true rfl⟩) (wPc_V (q := (RX7, TX7, 7)) Z (by decide) rfl rfl) rfl rfl hl.1 rfl (lv_room (Nat.le_of_ble_eq_true rfl)) dX7_setUp_2 ⟨Nat.le_of_ble_eq_true rfl, Nat.le_of_ble_eq_true rfl⟩).run (fun r_1 h_2 => ?_)
  rw [h_2]; clear h_2 r_1
  refine lv_astore_n (lv' := [(3, .ref (gA G (9 + i))), (0, .ref (gA G 0)), (1, .int (nI i)), (2, .int (bi false))]) S.1 S.2.1 dX7_setUp_5 rfl hl (by decide) rfl (fun ls hl => ?_)
  refine lv_iload_n S.1 S.2.1 dX7_setUp_6 rfl (lv_at hl 3 rfl) ?_
  refine r_if_eqB S (tgt := 17) dX7_setUp_7 (by decide) (fun c_3 => ?_) (fun c_3 => absurd c_3 (by decide))
  refine lv_aload_n S.1 S.2.1 dX7_setUp_17 rfl (lv_at hl 0 rfl) ?_
  refine va_calli (va_runV (As := []) (rest := []) S (k_X3_goDown l G σ μ o i hi) (cwV 0 S.2.2.2.2 gX7_setUp_X3_goDown rfl rfl rfl ⟨rfl, hy_X3_goDown⟩ ⟨Nat.le_of_ble_eq_true rfl, Nat.le_of_ble_eq_true rfl⟩) (wPc_V (q := (RX3, TX3, 3)) Z (by omega) (eK hi) rfl) rfl rfl hl.1 rfl (lv_room (Nat.le_of_ble_eq_true rfl)) dX7_setUp_18 ⟨Nat.le_of_ble_eq_true rfl, Nat.le_of_ble_eq_true rfl⟩) Z.2.2.2.2 (fun _ _ h => h) (fun _ h => h) (fun r_4 u_5 T9 H1 locs1 hT9 hvm hw hB hz hk9 hS => ?_)
  obtain ⟨hr9, rfl⟩ := hw
  rw [hr9]; clear hr9 r_4
  have Z : wZ G (cU' σ i false) (μ) o s H1 locs1 := wZ_callP Z hB hT9 hS
  clear hB hT9 hS hk9 hz hvm T9
  revert Z; generalize H1 = H; generalize locs1 = locs; intro Z
  refine W.widen (k := 0) (n := 0) (by decide) (by decide) ?_
  rw [hQ]
  exact W.iret (v := nI 0) S.1 S.2.1 hret (fun _ hT9 hW => ⟨⟨_, (cU' σ i false, μ), rfl, ⟨rfl, rfl⟩, wZ_P Z hT9 hW⟩, Z.2.2.2.2.F hT9⟩) Z.2.2.2.2.2.2 dX7_setUp_21
