abbrev rm_k_X7_write_X1 : Room := { frames := 8, cells := 1, slots := 6, locals := 122 }
set_option maxHeartbeats 4000000 in
set_option maxRecDepth 100000 in
theorem k_X7_write_X1 (l : Launch) (hst : l.stackTraces = false) (G : wG) (σ : cS) (μ : mS) (o : Nat → Int64) (v1 : Int32) (v2 : Int32) (v3 : Int32) (v4 : Int32) (v5 : Int32) (v6 : Int32) (hx : wi v2 (nI 15) = false) : vx_Met l yX7_write wsX7_write rm_k_X7_write_X1 (wPc G σ μ o [.ref (gA G 0), .int (v1), .int (v2), .int (v3), .int (v4), .int (v5), .int (v6)]) QX (XX G σ μ o "java/lang/IndexOutOfBoundsException") 1 6 (gP G) := by
  refine vx_ofW (cc := cX7_write) (maxL := 8) (ret := (some .int)) (by decide) rfl ?_
  intro p e s m args below meth c s₁ B hml hout hv
  obtain ⟨hargs, hI⟩ := hv
  have S : CallFix p m c cX7_write 8 s args wsX7_write RX7 := ⟨B.exec, B.bytes, hml, findClass_of_methodNamed B.named, atoms_spec (ws := wsX7_write) B.pre⟩
  have hret := B.returns
  have hlocks := B.notSynchronized
  have Z := wZ_0 hI
  clear hI
  obtain ⟨Q, hQ⟩ : ∃ Q, Q = vx_MQ below QX (XX G σ μ o "java/lang/IndexOutOfBoundsException") args s 1 6 (gP G) := ⟨_, rfl⟩
  rw [← hQ]
  have hl := lv_entry [.ref (gA G 0), .int (v1), .int (v2), .int (v3), .int (v4), .int (v5), .int (v6)] (n := 8) (Nat.le_of_ble_eq_true rfl)
  rw [show entryFrame m args 8 = entryFrame m ([.ref (gA G 0), .int (v1), .int (v2), .int (v3), .int (v4), .int (v5), .int (v6)] : List Value).toArray 8 from by rw [hargs], lg_entry_eq]
  generalize (lg_sl [.ref (gA G 0), .int (v1), .int (v2), .int (v3), .int (v4), .int (v5), .int (v6)] ++ List.replicate (8 - (lg_sl [.ref (gA G 0), .int (v1), .int (v2), .int (v3), .int (v4), .int (v5), .int (v6)]).length) Slot.unset).toArray = ls at hl ⊢
  have hl : lv_has ls 8 [(0, .ref (gA G 0)), (1, .int (v1)), (2, .int (v2)), (3, .int (v3)), (4, .int (v4)), (5, .int (v5)), (6, .int (v6))] := hl
  refine lv_iload_n S.1 S.2.1 dX7_write_0 rfl (lv_at hl 2 rfl) ?_
  refine x_call (vx_runS (As := [.int (v2)]) (rest := []) S (k_X7_requireRow_X l hst G σ μ o v2 hx) (va_cwS 1 S.2.2.2.2 gX7_write_X7_requireRow rfl rfl rfl hy_X7_requireRow ⟨Nat.le_of_ble_eq_true rfl, Nat.le_of_ble_eq_true rfl⟩) (wPc_S Z) rfl rfl hl.1 rfl (lv_room (Nat.le_of_ble_eq_true rfl)) dX7_write_1 ⟨Nat.le_of_ble_eq_true rfl, Nat.le_of_ble_eq_true rfl⟩) (fun _ _ _ h => h) Z (fun ce q9 H locs Z h1 h2 h3 => ?_)
  rw [hQ]
  exact x_out hout hlocks Z h1 h2 h3 (by decide) (by decide)

abbrev rm_k_X7_write_X2 : Room := { frames := 8, cells := 1, slots := 6, locals := 122 }
set_option maxHeartbeats 4000000 in
set_option maxRecDepth 100000 in
theorem k_X7_write_X2 (l : Launch) (hst : l.stackTraces = false) (G : wG) (σ : cS) (μ : mS) (o : Nat → Int64) (v1 : Int32) (k2 : Nat) (v3 : Int32) (v4 : Int32) (v5 : Int32) (v6 : Int32) (h2_ : k2 ≤ 15) (hx : wi v3 (nI 3) = false) : vx_Met l yX7_write wsX7_write rm_k_X7_write_X2 (wPc G σ μ o [.ref (gA G 0), .int (v1), .int (nI k2), .int (v3), .int (v4), .int (v5), .int (v6)]) QX (XX G σ μ o "java/lang/IndexOutOfBoundsException") 1 6 (gP G) := by
  refine vx_ofW (cc := cX7_write) (maxL := 8) (ret := (some .int)) (by decide) rfl ?_
  intro p e s m args below meth c s₁ B hml hout hv
  obtain ⟨hargs, hI⟩ := hv
  have S : CallFix p m c cX7_write 8 s args wsX7_write RX7 := ⟨B.exec, B.bytes, hml, findClass_of_methodNamed B.named, atoms_spec (ws := wsX7_write) B.pre⟩
  have hret := B.returns
  have hlocks := B.notSynchronized
  have Z := wZ_0 hI
  clear hI
  obtain ⟨Q, hQ⟩ : ∃ Q, Q = vx_MQ below QX (XX G σ μ o "java/lang/IndexOutOfBoundsException") args s 1 6 (gP G) := ⟨_, rfl⟩
  rw [← hQ]
  have hl := lv_entry [.ref (gA G 0), .int (v1), .int (nI k2), .int (v3), .int (v4), .int (v5), .int (v6)] (n := 8) (Nat.le_of_ble_eq_true rfl)
  rw [show entryFrame m args 8 = entryFrame m ([.ref (gA G 0), .int (v1), .int (nI k2), .int (v3), .int (v4), .int (v5), .int (v6)] : List Value).toArray 8 from by rw [hargs], lg_entry_eq]
  generalize (lg_sl [.ref (gA G 0), .int (v1), .int (nI k2), .int (v3), .int (v4), .int (v5), .int (v6)] ++ List.replicate (8 - (lg_sl [.ref (gA G 0), .int (v1), .int (nI k2), .int (v3), .int (v4), .int (v5), .int (v6)]).length) Slot.unset).toArray = ls at hl ⊢
  have hl : lv_has ls 8 [(0, .ref (gA G 0)), (1, .int (v1)), (2, .int (nI k2)), (3, .int (v3)), (4, .int (v4)), (5, .int (v5)), (6, .int (v6))] := hl
  refine lv_iload_n S.1 S.2.1 dX7_write_0 rfl (lv_at hl 2 rfl) ?_
  refine va_csv (va_runS (As := [.int (nI k2)]) (rest := []) S (k_X7_requireRow l G σ μ o k2 h2_) (va_cwS 1 S.2.2.2.2 gX7_write_X7_requireRow rfl rfl rfl hy_X7_requireRow ⟨Nat.le_of_ble_eq_true rfl, Nat.le_of_ble_eq_true rfl⟩) (wPc_S Z) rfl rfl hl.1 rfl (lv_room (Nat.le_of_ble_eq_true rfl)) dX7_write_1 ⟨Nat.le_of_ble_eq_true rfl, Nat.le_of_ble_eq_true rfl⟩).run (fun h_2 => ?_)
  refine lv_iload_n S.1 S.2.1 dX7_write_4 rfl (lv_at hl 3 rfl) ?_
  refine x_call (vx_runS (As := [.int (v3)]) (rest := []) S (k_X7_requireColumn_X l hst G σ μ o v3 hx) (va_cwS 1 S.2.2.2.2 gX7_write_X7_requireColumn rfl rfl rfl hy_X7_requireColumn ⟨Nat.le_of_ble_eq_true rfl, Nat.le_of_ble_eq_true rfl⟩) (wPc_S Z) rfl rfl hl.1 rfl (lv_room (Nat.le_of_ble_eq_true rfl)) dX7_write_5 ⟨Nat.le_of_ble_eq_true rfl, Nat.le_of_ble_eq_true rfl⟩) (fun _ _ _ h => h) Z (fun ce q9 H locs Z h1 h2 h3 => ?_)
  rw [hQ]
  exact x_out hout hlocks Z h1 h2 h3 (by decide) (by decide)

abbrev rm_k_X7_write_X3 : Room := { frames := 7, cells := 1, slots := 6, locals := 102 }
set_option maxHeartbeats 4000000 in
set_option maxRecDepth 100000 in
theorem k_X7_write_X3 (l : Launch) (hst : l.stackTraces = false) (G : wG) (σ : cS) (μ : mS) (o : Nat → Int64) (v1 : Int32) (k2 : Nat) (k3 : Nat) (v4 : Int32) (v5 : Int32) (v6 : Int32) (h2_ : k2 ≤ 15) (h3_ : k3 ≤ 3) (hx : wi v1 (nI 7) = false) : vx_Met l yX7_write wsX7_write rm_k_X7_write_X3 (wPc G σ μ o [.ref (gA G 0), .int (v1), .int (nI k2), .int (nI k3), .int (v4), .int (v5), .int (v6)]) QX (XX G σ μ o "java/lang/IllegalArgumentException") 1 6 (gP G) := by
  refine vx_ofW (cc := cX7_write) (maxL := 8) (ret := (some .int)) (by decide) rfl ?_
  intro p e s m args below meth c s₁ B hml hout hv
  obtain ⟨hargs, hI⟩ := hv
  have S : CallFix p m c cX7_write 8 s args wsX7_write RX7 := ⟨B.exec, B.bytes, hml, findClass_of_methodNamed B.named, atoms_spec (ws := wsX7_write) B.pre⟩
  have hret := B.returns
  have hlocks := B.notSynchronized
  have Z := wZ_0 hI
  clear hI
  obtain ⟨Q, hQ⟩ : ∃ Q, Q = vx_MQ below QX (XX G σ μ o "java/lang/IllegalArgumentException") args s 1 6 (gP G) := ⟨_, rfl⟩
  rw [← hQ]
  have hl := lv_entry [.ref (gA G 0), .int (v1), .int (nI k2), .int (nI k3), .int (v4), .int (v5), .int (v6)] (n := 8) (Nat.le_of_ble_eq_true rfl)
  rw [show entryFrame m args 8 = entryFrame m ([.ref (gA G 0), .int (v1), .int (nI k2), .int (nI k3), .int (v4), .int (v5), .int (v6)] : List Value).toArray 8 from by rw [hargs], lg_entry_eq]
  generalize (lg_sl [.ref (gA G 0), .int (v1), .int (nI k2), .int (nI k3), .int (v4), .int (v5), .int (v6)] ++ List.replicate (8 - (lg_sl [.ref (gA G 0), .int (v1), .int (nI k2), .int (nI k3), .int (v4), .int (v5), .int (v6)]).length) Slot.unset).toArray = ls at hl ⊢
  have hl : lv_has ls 8 [(0, .ref (gA G 0)), (1, .int (v1)), (2, .int (nI k2)), (3, .int (nI k3)), (4, .int (v4)), (5, .int (v5)), (6, .int (v6))] := hl
  refine lv_iload_n S.1 S.2.1 dX7_write_0 rfl (lv_at hl 2 rfl) ?_
  refine va_csv (va_runS (As := [.int (nI k2)]) (rest := []) S (k_X7_requireRow l G σ μ o k2 h2_) (va_cwS 1 S.2.2.2.2 gX7_write_X7_requireRow rfl rfl rfl hy_X7_requireRow ⟨Nat.le_of_ble_eq_true rfl, Nat.le_of_ble_eq_true rfl⟩) (wPc_S Z) rfl rfl hl.1 rfl (lv_room (Nat.le_of_ble_eq_true rfl)) dX7_write_1 ⟨Nat.le_of_ble_eq_true rfl, Nat.le_of_ble_eq_true rfl⟩).run (fun h_2 => ?_)
  refine lv_iload_n S.1 S.2.1 dX7_write_4 rfl (lv_at hl 3 rfl) ?_
  refine va_csv (va_runS (As := [.int (nI k3)]) (rest := []) S (k_X7_requireColumn l G σ μ o k3 h3_) (va_cwS 1 S.2.2.2.2 gX7_write_X7_requireColumn rfl rfl rfl hy_X7_requireColumn ⟨Nat.le_of_ble_eq_true rfl, Nat.le_of_ble_eq_true rfl⟩) (wPc_S Z) rfl rfl hl.1 rfl (lv_room (Nat.le_of_ble_eq_true rfl)) dX7_write_5 ⟨Nat.le_of_ble_eq_true rfl, Nat.le_of_ble_eq_true rfl⟩).run (fun h_4 => ?_)
  refine lv_iload_n S.1 S.2.1 dX7_write_8 rfl (lv_at hl 1 rfl) ?_
  refine lv_bipush (v := nI 7) S.1 S.2.1 dX7_write_9 (by decide) ?_
  refine vp_callSi (va_runS (As := [.int (v1), .int (nI 7)]) (rest := []) S (k_X7_isWithin_w l G σ μ o v1 (nI 7) ) (va_cwS 2 S.2.2.2.2 gX7_write_X7_isWithin rfl rfl rfl hy_X7_isWithin ⟨Nat.le_of_ble_eq_true rfl, Nat.le_of_ble_eq_true rfl⟩) (wPc_S Z) rfl rfl hl.1 rfl (lv_room (Nat.le_of_ble_eq_true rfl)) dX7_write_11 ⟨Nat.le_of_ble_eq_true rfl, Nat.le_of_ble_eq_true rfl⟩).run (fun r_5 h_6 => ?_)
  rw [h_6]; clear h_6 r_5
  rw [show (wi v1 (nI 7)) = false from hx]
  refine x_call (vx_runS (As := [.int (bi false)]) (rest := []) S (k_X7_requireArgument_X l hst G σ μ o  ) (va_cwS 1 S.2.2.2.2 gX7_write_X7_requireArgument rfl rfl rfl hy_X7_requireArgument ⟨Nat.le_of_ble_eq_true rfl, Nat.le_of_ble_eq_true rfl⟩) (wPc_S Z) rfl rfl hl.1 rfl (lv_room (Nat.le_of_ble_eq_true rfl)) dX7_write_14 ⟨Nat.le_of_ble_eq_true rfl, Nat.le_of_ble_eq_true rfl⟩) (fun _ _ _ h => h) Z (fun ce q9 H locs Z h1 h2 h3 => ?_)
  rw [hQ]
  exact x_out hout hlocks Z h1 h2 h3 (by decide) (by decide)

abbrev rm_k_X7_write_X4 : Room := { frames := 7, cells := 1, slots := 6, locals := 102 }
set_option maxHeartbeats 4000000 in
set_option maxRecDepth 100000 in
theorem k_X7_write_X4 (l : Launch) (hst : l.stackTraces = false) (G : wG) (σ : cS) (μ : mS) (o : Nat → Int64) (k1 : Nat) (k2 : Nat) (k3 : Nat) (v4 : Int32) (v5 : Int32) (v6 : Int32) (h1_ : k1 ≤ 7) (h2_ : k2 ≤ 15) (h3_ : k3 ≤ 3) (hx : wi v4 (nI 999) = false) : vx_Met l yX7_write wsX7_write rm_k_X7_write_X4 (wPc G σ μ o [.ref (gA G 0), .int (nI k1), .int (nI k2), .int (nI k3), .int (v4), .int (v5), .int (v6)]) QX (XX G σ μ o "java/lang/IllegalArgumentException") 1 6 (gP G) := by
  refine vx_ofW (cc := cX7_write) (maxL := 8) (ret := (some .int)) (by decide) rfl ?_
  intro p e s m args below meth c s₁ B hml hout hv
  obtain ⟨hargs, hI⟩ := hv
  have S : CallFix p m c cX7_write 8 s args wsX7_write RX7 := ⟨B.exec, B.bytes, hml, findClass_of_methodNamed B.named, atoms_spec (ws := wsX7_write) B.pre⟩
  have hret := B.returns
  have hlocks := B.notSynchronized
  have Z := wZ_0 hI
  clear hI
  obtain ⟨Q, hQ⟩ : ∃ Q, Q = vx_MQ below QX (XX G σ μ o "java/lang/IllegalArgumentException") args s 1 6 (gP G) := ⟨_, rfl⟩
  rw [← hQ]
  have hl := lv_entry [.ref (gA G 0), .int (nI k1), .int (nI k2), .int (nI k3), .int (v4), .int (v5), .int (v6)] (n := 8) (Nat.le_of_ble_eq_true rfl)
  rw [show entryFrame m args 8 = entryFrame m ([.ref (gA G 0), .int (nI k1), .int (nI k2), .int (nI k3), .int (v4), .int (v5), .int (v6)] : List Value).toArray 8 from by rw [hargs], lg_entry_eq]
  generalize (lg_sl [.ref (gA G 0), .int (nI k1), .int (nI k2), .int (nI k3), .int (v4), .int (v5), .int (v6)] ++ List.replicate (8 - (lg_sl [.ref (gA G 0), .int (nI k1), .int (nI k2), .int (nI k3), .int (v4), .int (v5), .int (v6)]).length) Slot.unset).toArray = ls at hl ⊢
  have hl : lv_has ls 8 [(0, .ref (gA G 0)), (1, .int (nI k1)), (2, .int (nI k2)), (3, .int (nI k3)), (4, .int (v4)), (5, .int (v5)), (6, .int (v6))] := hl
  refine lv_iload_n S.1 S.2.1 dX7_write_0 rfl (lv_at hl 2 rfl) ?_
  refine va_csv (va_runS (As := [.int (nI k2)]) (rest := []) S (k_X7_requireRow l G σ μ o k2 h2_) (va_cwS 1 S.2.2.2.2 gX7_write_X7_requireRow rfl rfl rfl hy_X7_requireRow ⟨Nat.le_of_ble_eq_true rfl, Nat.le_of_ble_eq_true rfl⟩) (wPc_S Z) rfl rfl hl.1 rfl (lv_room (Nat.le_of_ble_eq_true rfl)) dX7_write_1 ⟨Nat.le_of_ble_eq_true rfl, Nat.le_of_ble_eq_true rfl⟩).run (fun h_2 => ?_)
  refine lv_iload_n S.1 S.2.1 dX7_write_4 rfl (lv_at hl 3 rfl) ?_
  refine va_csv (va_runS (As := [.int (nI k3)]) (rest := []) S (k_X7_requireColumn l G σ μ o k3 h3_) (va_cwS 1 S.2.2.2.2 gX7_write_X7_requireColumn rfl rfl rfl hy_X7_requireColumn ⟨Nat.le_of_ble_eq_true rfl, Nat.le_of_ble_eq_true rfl⟩) (wPc_S Z) rfl rfl hl.1 rfl (lv_room (Nat.le_of_ble_eq_true rfl)) dX7_write_5 ⟨Nat.le_of_ble_eq_true rfl, Nat.le_of_ble_eq_true rfl⟩).run (fun h_4 => ?_)
  refine lv_iload_n S.1 S.2.1 dX7_write_8 rfl (lv_at hl 1 rfl) ?_
  refine lv_bipush (v := nI 7) S.1 S.2.1 dX7_write_9 (by decide) ?_
  refine vp_callSi (va_runS (As := [.int (nI k1), .int (nI 7)]) (rest := []) S (k_X7_isWithin_n l G σ μ o k1 7 h1_ (by omega)) (va_cwS 2 S.2.2.2.2 gX7_write_X7_isWithin rfl rfl rfl hy_X7_isWithin ⟨Nat.le_of_ble_eq_true rfl, Nat.le_of_ble_eq_true rfl⟩) (wPc_S Z) rfl rfl hl.1 rfl (lv_room (Nat.le_of_ble_eq_true rfl)) dX7_write_11 ⟨Nat.le_of_ble_eq_true rfl, Nat.le_of_ble_eq_true rfl⟩).run (fun r_5 h_6 => ?_)
  rw [h_6]; clear h_6 r_5
  refine va_csv (va_runS (As := [.int (bi true)]) (rest := []) S (k_X7_requireArgument l G σ μ o  ) (va_cwS 1 S.2.2.2.2 gX7_write_X7_requireArgument rfl rfl rfl hy_X7_requireArgument ⟨Nat.le_of_ble_eq_true rfl, Nat.le_of_ble_eq_true rfl⟩) (wPc_S Z) rfl rfl hl.1 rfl (lv_room (Nat.le_of_ble_eq_true rfl)) dX7_write_14 ⟨Nat.le_of_ble_eq_true rfl, Nat.le_of_ble_eq_true rfl⟩).run (fun h_8 => ?_)
  refine lv_iload S.1 S.2.1 dX7_write_17 (lv_at hl 4 rfl) ?_
  refine lv_sipush (v := nI 999) S.1 S.2.1 dX7_write_19 (by decide) ?_
  refine vp_callSi (va_runS (As := [.int (v4), .int (nI 999)]) (rest := []) S (k_X7_isWithin_w l G σ μ o v4 (nI 999) ) (va_cwS 2 S.2.2.2.2 gX7_write_X7_isWithin rfl rfl rfl hy_X7_isWithin ⟨Nat.le_of_ble_eq_true rfl, Nat.le_of_ble_eq_true rfl⟩) (wPc_S Z) rfl rfl hl.1 rfl (lv_room (Nat.le_of_ble_eq_true rfl)) dX7_write_22 ⟨Nat.le_of_ble_eq_true rfl, Nat.le_of_ble_eq_true rfl⟩).run (fun r_9 h_10 => ?_)
  rw [h_10]; clear h_10 r_9
  rw [show (wi v4 (nI 999)) = false from hx]
  refine x_call (vx_runS (As := [.int (bi false)]) (rest := []) S (k_X7_requireArgument_X l hst G σ μ o  ) (va_cwS 1 S.2.2.2.2 gX7_write_X7_requireArgument rfl rfl rfl hy_X7_requireArgument ⟨Nat.le_of_ble_eq_true rfl, Nat.le_of_ble_eq_true rfl⟩) (wPc_S Z) rfl rfl hl.1 rfl (lv_room (Nat.le_of_ble_eq_true rfl)) dX7_write_25 ⟨Nat.le_of_ble_eq_true rfl, Nat.le_of_ble_eq_true rfl⟩) (fun _ _ _ h => h) Z (fun ce q9 H locs Z h1 h2 h3 => ?_)
  rw [hQ]
  exact x_out hout hlocks Z h1 h2 h3 (by decide) (by decide)

abbrev rm_k_X7_write_X5 : Room := { frames := 7, cells := 1, slots := 6, locals := 102 }
set_option maxHeartbeats 4000000 in
set_option maxRecDepth 100000 in
theorem k_X7_write_X5 (l : Launch) (hst : l.stackTraces = false) (G : wG) (σ : cS) (μ : mS) (o : Nat → Int64) (k1 : Nat) (k2 : Nat) (k3 : Nat) (k4 : Nat) (v5 : Int32) (v6 : Int32) (h1_ : k1 ≤ 7) (h2_ : k2 ≤ 15) (h3_ : k3 ≤ 3) (h4_ : k4 ≤ 999) (hx : wi v5 (nI 999) = false) : vx_Met l yX7_write wsX7_write rm_k_X7_write_X5 (wPc G σ μ o [.ref (gA G 0), .int (nI k1), .int (nI k2), .int (nI k3), .int (nI k4), .int (v5), .int (v6)]) QX (XX G σ μ o "java/lang/IllegalArgumentException") 1 6 (gP G) := by
  refine vx_ofW (cc := cX7_write) (maxL := 8) (ret := (some .int)) (by decide) rfl ?_
  intro p e s m args below meth c s₁ B hml hout hv
  obtain ⟨hargs, hI⟩ := hv
  have S : CallFix p m c cX7_write 8 s args wsX7_write RX7 := ⟨B.exec, B.bytes, hml, findClass_of_methodNamed B.named, atoms_spec (ws := wsX7_write) B.pre⟩
  have hret := B.returns
  have hlocks := B.notSynchronized
  have Z := wZ_0 hI
  clear hI
  obtain ⟨Q, hQ⟩ : ∃ Q, Q = vx_MQ below QX (XX G σ μ o "java/lang/IllegalArgumentException") args s 1 6 (gP G) := ⟨_, rfl⟩
  rw [← hQ]
  have hl := lv_entry [.ref (gA G 0), .int (nI k1), .int (nI k2), .int (nI k3), .int (nI k4), .int (v5), .int (v6)] (n := 8) (Nat.le_of_ble_eq_true rfl)
  rw [show entryFrame m args 8 = entryFrame m ([.ref (gA G 0), .int (nI k1), .int (nI k2), .int (nI k3), .int (nI k4), .int (v5), .int (v6)] : List Value).toArray 8 from by rw [hargs], lg_entry_eq]
  generalize (lg_sl [.ref (gA G 0), .int (nI k1), .int (nI k2), .int (nI k3), .int (nI k4), .int (v5), .int (v6)] ++ List.replicate (8 - (lg_sl [.ref (gA G 0), .int (nI k1), .int (nI k2), .int (nI k3), .int (nI k4), .int (v5), .int (v6)]).length) Slot.unset).toArray = ls at hl ⊢
  have hl : lv_has ls 8 [(0, .ref (gA G 0)), (1, .int (nI k1)), (2, .int (nI k2)), (3, .int (nI k3)), (4, .int (nI k4)), (5, .int (v5)), (6, .int (v6))] := hl
  refine lv_iload_n S.1 S.2.1 dX7_write_0 rfl (lv_at hl 2 rfl) ?_
  refine va_csv (va_runS (As := [.int (nI k2)]) (rest := []) S (k_X7_requireRow l G σ μ o k2 h2_) (va_cwS 1 S.2.2.2.2 gX7_write_X7_requireRow rfl rfl rfl hy_X7_requireRow ⟨Nat.le_of_ble_eq_true rfl, Nat.le_of_ble_eq_true rfl⟩) (wPc_S Z) rfl rfl hl.1 rfl (lv_room (Nat.le_of_ble_eq_true rfl)) dX7_write_1 ⟨Nat.le_of_ble_eq_true rfl, Nat.le_of_ble_eq_true rfl⟩).run (fun h_2 => ?_)
  refine lv_iload_n S.1 S.2.1 dX7_write_4 rfl (lv_at hl 3 rfl) ?_
  refine va_csv (va_runS (As := [.int (nI k3)]) (rest := []) S (k_X7_requireColumn l G σ μ o k3 h3_) (va_cwS 1 S.2.2.2.2 gX7_write_X7_requireColumn rfl rfl rfl hy_X7_requireColumn ⟨Nat.le_of_ble_eq_true rfl, Nat.le_of_ble_eq_true rfl⟩) (wPc_S Z) rfl rfl hl.1 rfl (lv_room (Nat.le_of_ble_eq_true rfl)) dX7_write_5 ⟨Nat.le_of_ble_eq_true rfl, Nat.le_of_ble_eq_true rfl⟩).run (fun h_4 => ?_)
  refine lv_iload_n S.1 S.2.1 dX7_write_8 rfl (lv_at hl 1 rfl) ?_
  refine lv_bipush (v := nI 7) S.1 S.2.1 dX7_write_9 (by decide) ?_
  refine vp_callSi (va_runS (As := [.int (nI k1), .int (nI 7)]) (rest := []) S (k_X7_isWithin_n l G σ μ o k1 7 h1_ (by omega)) (va_cwS 2 S.2.2.2.2 gX7_write_X7_isWithin rfl rfl rfl hy_X7_isWithin ⟨Nat.le_of_ble_eq_true rfl, Nat.le_of_ble_eq_true rfl⟩) (wPc_S Z) rfl rfl hl.1 rfl (lv_room (Nat.le_of_ble_eq_true rfl)) dX7_write_11 ⟨Nat.le_of_ble_eq_true rfl, Nat.le_of_ble_eq_true rfl⟩).run (fun r_5 h_6 => ?_)
  rw [h_6]; clear h_6 r_5
  refine va_csv (va_runS (As := [.int (bi true)]) (rest := []) S (k_X7_requireArgument l G σ μ o  ) (va_cwS 1 S.2.2.2.2 gX7_write_X7_requireArgument rfl rfl rfl hy_X7_requireArgument ⟨Nat.le_of_ble_eq_true rfl, Nat.le_of_ble_eq_true rfl⟩) (wPc_S Z) rfl rfl hl.1 rfl (lv_room (Nat.le_of_ble_eq_true rfl)) dX7_write_14 ⟨Nat.le_of_ble_eq_true rfl, Nat.le_of_ble_eq_true rfl⟩).run (fun h_8 => ?_)
  refine lv_iload S.1 S.2.1 dX7_write_17 (lv_at hl 4 rfl) ?_
  refine lv_sipush (v := nI 999) S.1 S.2.1 dX7_write_19 (by decide) ?_
  refine vp_callSi (va_runS (As := [.int (nI k4), .int (nI 999)]) (rest := []) S (k_X7_isWithin_n l G σ μ o k4 999 h4_ (by omega)) (va_cwS 2 S.2.2.2.2 gX7_write_X7_isWithin rfl rfl rfl hy_X7_isWithin ⟨Nat.le_of_ble_eq_true rfl, Nat.le_of_ble_eq_true rfl⟩) (wPc_S Z) rfl rfl hl.1 rfl (lv_room (Nat.le_of_ble_eq_true rfl)) dX7_write_22 ⟨Nat.le_of_ble_eq_true rfl, Nat.le_of_ble_eq_true rfl⟩).run (fun r_9 h_10 => ?_)
  rw [h_10]; clear h_10 r_9
  refine va_csv (va_runS (As := [.int (bi true)]) (rest := []) S (k_X7_requireArgument l G σ μ o  ) (va_cwS 1 S.2.2.2.2 gX7_write_X7_requireArgument rfl rfl rfl hy_X7_requireArgument ⟨Nat.le_of_ble_eq_true rfl, Nat.le_of_ble_eq_true rfl⟩) (wPc_S Z) rfl rfl hl.1 rfl (lv_room (Nat.le_of_ble_eq_true rfl)) dX7_write_25 ⟨Nat.le_of_ble_eq_true rfl, Nat.le_of_ble_eq_true rfl⟩).run (fun h_12 => ?_)
  refine lv_iload S.1 S.2.1 dX7_write_28 (lv_at hl 5 rfl) ?_
  refine lv_sipush (v := nI 999) S.1 S.2.1 dX7_write_30 (by decide) ?_
  refine vp_callSi (va_runS (As := [.int (v5), .int (nI 999)]) (rest := []) S (k_X7_isWithin_w l G σ μ o v5 (nI 999) ) (va_cwS 2 S.2.2.2.2 gX7_write_X7_isWithin rfl rfl rfl hy_X7_isWithin ⟨Nat.le_of_ble_eq_true rfl, Nat.le_of_ble_eq_true rfl⟩) (wPc_S Z) rfl rfl hl.1 rfl (lv_room (Nat.le_of_ble_eq_true rfl)) dX7_write_33 ⟨Nat.le_of_ble_eq_true rfl, Nat.le_of_ble_eq_true rfl⟩).run (fun r_13 h_14 => ?_)
  rw [h_14]; clear h_14 r_13
  rw [show (wi v5 (nI 999)) = false from hx]
  refine x_call (vx_runS (As := [.int (bi false)]) (rest := []) S (k_X7_requireArgument_X l hst G σ μ o  ) (va_cwS 1 S.2.2.2.2 gX7_write_X7_requireArgument rfl rfl rfl hy_X7_requireArgument ⟨Nat.le_of_ble_eq_true rfl, Nat.le_of_ble_eq_true rfl⟩) (wPc_S Z) rfl rfl hl.1 rfl (lv_room (Nat.le_of_ble_eq_true rfl)) dX7_write_36 ⟨Nat.le_of_ble_eq_true rfl, Nat.le_of_ble_eq_true rfl⟩) (fun _ _ _ h => h) Z (fun ce q9 H locs Z h1 h2 h3 => ?_)
  rw [hQ]
  exact x_out hout hlocks Z h1 h2 h3 (by decide) (by decide)

abbrev rm_k_X7_write_X6 : Room := { frames := 7, cells := 1, slots := 6, locals := 102 }
set_option maxHeartbeats 4000000 in
set_option maxRecDepth 100000 in
theorem k_X7_write_X6 (l : Launch) (hst : l.stackTraces = false) (G : wG) (σ : cS) (μ : mS) (o : Nat → Int64) (k1 : Nat) (k2 : Nat) (k3 : Nat) (k4 : Nat) (k5 : Nat) (v6 : Int32) (h1_ : k1 ≤ 7) (h2_ : k2 ≤ 15) (h3_ : k3 ≤ 3) (h4_ : k4 ≤ 999) (h5_ : k5 ≤ 999) (hx : wi v6 (nI 1000) = false) : vx_Met l yX7_write wsX7_write rm_k_X7_write_X6 (wPc G σ μ o [.ref (gA G 0), .int (nI k1), .int (nI k2), .int (nI k3), .int (nI k4), .int (nI k5), .int (v6)]) QX (XX G σ μ o "java/lang/IllegalArgumentException") 1 6 (gP G) := by
  refine vx_ofW (cc := cX7_write) (maxL := 8) (ret := (some .int)) (by decide) rfl ?_
  intro p e s m args below meth c s₁ B hml hout hv
  obtain ⟨hargs, hI⟩ := hv
  have S : CallFix p m c cX7_write 8 s args wsX7_write RX7 := ⟨B.exec, B.bytes, hml, findClass_of_methodNamed B.named, atoms_spec (ws := wsX7_write) B.pre⟩
  have hret := B.returns
  have hlocks := B.notSynchronized
  have Z := wZ_0 hI
  clear hI
  obtain ⟨Q, hQ⟩ : ∃ Q, Q = vx_MQ below QX (XX G σ μ o "java/lang/IllegalArgumentException") args s 1 6 (gP G) := ⟨_, rfl⟩
  rw [← hQ]
  have hl := lv_entry [.ref (gA G 0), .int (nI k1), .int (nI k2), .int (nI k3), .int (nI k4), .int (nI k5), .int (v6)] (n := 8) (Nat.le_of_ble_eq_true rfl)
  rw [show entryFrame m args 8 = entryFrame m ([.ref (gA G 0), .int (nI k1), .int (nI k2), .int (nI k3), .int (nI k4), .int (nI k5), .int (v6)] : List Value).toArray 8 from by rw [hargs], lg_entry_eq]
  generalize (lg_sl [.ref (gA G 0), .int (nI k1), .int (nI k2), .int (nI k3), .int (nI k4), .int (nI k5), .int (v6)] ++ List.replicate (8 - (lg_sl [.ref (gA G 0), .int (nI k1), .int (nI k2), .int (nI k3), .int (nI k4), .int (nI k5), .int (v6)]).length) Slot.unset).toArray = ls at hl ⊢
  have hl : lv_has ls 8 [(0, .ref (gA G 0)), (1, .int (nI k1)), (2, .int (nI k2)), (3, .int (nI k3)), (4, .int (nI k4)), (5, .int (nI k5)), (6, .int (v6))] := hl
  refine lv_iload_n S.1 S.2.1 dX7_write_0 rfl (lv_at hl 2 rfl) ?_
  refine va_csv (va_runS (As := [.int (nI k2)]) (rest := []) S (k_X7_requireRow l G σ μ o k2 h2_) (va_cwS 1 S.2.2.2.2 gX7_write_X7_requireRow rfl rfl rfl hy_X7_requireRow ⟨Nat.le_of_ble_eq_true rfl, Nat.le_of_ble_eq_true rfl⟩) (wPc_S Z) rfl rfl hl.1 rfl (lv_room (Nat.le_of_ble_eq_true rfl)) dX7_write_1 ⟨Nat.le_of_ble_eq_true rfl, Nat.le_of_ble_eq_true rfl⟩).run (fun h_2 => ?_)
  refine lv_iload_n S.1 S.2.1 dX7_write_4 rfl (lv_at hl 3 rfl) ?_
  refine va_csv (va_runS (As := [.int (nI k3)]) (rest := []) S (k_X7_requireColumn l G σ μ o k3 h3_) (va_cwS 1 S.2.2.2.2 gX7_write_X7_requireColumn rfl rfl rfl hy_X7_requireColumn ⟨Nat.le_of_ble_eq_true rfl, Nat.le_of_ble_eq_true rfl⟩) (wPc_S Z) rfl rfl hl.1 rfl (lv_room (Nat.le_of_ble_eq_true rfl)) dX7_write_5 ⟨Nat.le_of_ble_eq_true rfl, Nat.le_of_ble_eq_true rfl⟩).run (fun h_4 => ?_)
  refine lv_iload_n S.1 S.2.1 dX7_write_8 rfl (lv_at hl 1 rfl) ?_
  refine lv_bipush (v := nI 7) S.1 S.2.1 dX7_write_9 (by decide) ?_
  refine vp_callSi (va_runS (As := [.int (nI k1), .int (nI 7)]) (rest := []) S (k_X7_isWithin_n l G σ μ o k1 7 h1_ (by omega)) (va_cwS 2 S.2.2.2.2 gX7_write_X7_isWithin rfl rfl rfl hy_X7_isWithin ⟨Nat.le_of_ble_eq_true rfl, Nat.le_of_ble_eq_true rfl⟩) (wPc_S Z) rfl rfl hl.1 rfl (lv_room (Nat.le_of_ble_eq_true rfl)) dX7_write_11 ⟨Nat.le_of_ble_eq_true rfl, Nat.le_of_ble_eq_true rfl⟩).run (fun r_5 h_6 => ?_)
  rw [h_6]; clear h_6 r_5
  refine va_csv (va_runS (As := [.int (bi true)]) (rest := []) S (k_X7_requireArgument l G σ μ o  ) (va_cwS 1 S.2.2.2.2 gX7_write_X7_requireArgument rfl rfl rfl hy_X7_requireArgument ⟨Nat.le_of_ble_eq_true rfl, Nat.le_of_ble_eq_true rfl⟩) (wPc_S Z) rfl rfl hl.1 rfl (lv_room (Nat.le_of_ble_eq_true rfl)) dX7_write_14 ⟨Nat.le_of_ble_eq_true rfl, Nat.le_of_ble_eq_true rfl⟩).run (fun h_8 => ?_)
  refine lv_iload S.1 S.2.1 dX7_write_17 (lv_at hl 4 rfl) ?_
  refine lv_sipush (v := nI 999) S.1 S.2.1 dX7_write_19 (by decide) ?_
  refine vp_callSi (va_runS (As := [.int (nI k4), .int (nI 999)]) (rest := []) S (k_X7_isWithin_n l G σ μ o k4 999 h4_ (by omega)) (va_cwS 2 S.2.2.2.2 gX7_write_X7_isWithin rfl rfl rfl hy_X7_isWithin ⟨Nat.le_of_ble_eq_true rfl, Nat.le_of_ble_eq_true rfl⟩) (wPc_S Z) rfl rfl hl.1 rfl (lv_room (Nat.le_of_ble_eq_true rfl)) dX7_write_22 ⟨Nat.le_of_ble_eq_true rfl, Nat.le_of_ble_eq_true rfl⟩).run (fun r_9 h_10 => ?_)
  rw [h_10]; clear h_10 r_9
  refine va_csv (va_runS (As := [.int (bi true)]) (rest := []) S (k_X7_requireArgument l G σ μ o  ) (va_cwS 1 S.2.2.2.2 gX7_write_X7_requireArgument rfl rfl rfl hy_X7_requireArgument ⟨Nat.le_of_ble_eq_true rfl, Nat.le_of_ble_eq_true rfl⟩) (wPc_S Z) rfl rfl hl.1 rfl (lv_room (Nat.le_of_ble_eq_true rfl)) dX7_write_25 ⟨Nat.le_of_ble_eq_true rfl, Nat.le_of_ble_eq_true rfl⟩).run (fun h_12 => ?_)
  refine lv_iload S.1 S.2.1 dX7_write_28 (lv_at hl 5 rfl) ?_
  refine lv_sipush (v := nI 999) S.1 S.2.1 dX7_write_30 (by decide) ?_
  refine vp_callSi (va_runS (As := [.int (nI k5), .int (nI 999)]) (rest := []) S (k_X7_isWithin_n l G σ μ o k5 999 h5_ (by omega)) (va_cwS 2 S.2.2.2.2 gX7_write_X7_isWithin rfl rfl rfl hy_X7_isWithin ⟨Nat.le_of_ble_eq_true rfl, Nat.le_of_ble_eq_true rfl⟩) (wPc_S Z) rfl rfl hl.1 rfl (lv_room (Nat.le_of_ble_eq_true rfl)) dX7_write_33 ⟨Nat.le_of_ble_eq_true rfl, Nat.le_of_ble_eq_true rfl⟩).run (fun r_13 h_14 => ?_)
  rw [h_14]; clear h_14 r_13
  refine va_csv (va_runS (As := [.int (bi true)]) (rest := []) S (k_X7_requireArgument l G σ μ o  ) (va_cwS 1 S.2.2.2.2 gX7_write_X7_requireArgument rfl rfl rfl hy_X7_requireArgument ⟨Nat.le_of_ble_eq_true rfl, Nat.le_of_ble_eq_true rfl⟩) (wPc_S Z) rfl rfl hl.1 rfl (lv_room (Nat.le_of_ble_eq_true rfl)) dX7_write_36 ⟨Nat.le_of_ble_eq_true rfl, Nat.le_of_ble_eq_true rfl⟩).run (fun h_16 => ?_)
  refine lv_iload S.1 S.2.1 dX7_write_39 (lv_at hl 6 rfl) ?_
  refine lv_sipush (v := nI 1000) S.1 S.2.1 dX7_write_41 (by decide) ?_
  refine vp_callSi (va_runS (As := [.int (v6), .int (nI 1000)]) (rest := []) S (k_X7_isWithin_w l G σ μ o v6 (nI 1000) ) (va_cwS 2 S.2.2.2.2 gX7_write_X7_isWithin rfl rfl rfl hy_X7_isWithin ⟨Nat.le_of_ble_eq_true rfl, Nat.le_of_ble_eq_true rfl⟩) (wPc_S Z) rfl rfl hl.1 rfl (lv_room (Nat.le_of_ble_eq_true rfl)) dX7_write_44 ⟨Nat.le_of_ble_eq_true rfl, Nat.le_of_ble_eq_true rfl⟩).run (fun r_17 h_18 => ?_)
  rw [h_18]; clear h_18 r_17
  rw [show (wi v6 (nI 1000)) = false from hx]
  refine x_call (vx_runS (As := [.int (bi false)]) (rest := []) S (k_X7_requireArgument_X l hst G σ μ o  ) (va_cwS 1 S.2.2.2.2 gX7_write_X7_requireArgument rfl rfl rfl hy_X7_requireArgument ⟨Nat.le_of_ble_eq_true rfl, Nat.le_of_ble_eq_true rfl⟩) (wPc_S Z) rfl rfl hl.1 rfl (lv_room (Nat.le_of_ble_eq_true rfl)) dX7_write_47 ⟨Nat.le_of_ble_eq_true rfl, Nat.le_of_ble_eq_true rfl⟩) (fun _ _ _ h => h) Z (fun ce q9 H locs Z h1 h2 h3 => ?_)
  rw [hQ]
  exact x_out hout hlocks Z h1 h2 h3 (by decide) (by decide)

abbrev rm_k_X7_deleteCell_X1 : Room := { frames := 8, cells := 1, slots := 6, locals := 122 }
set_option maxHeartbeats 4000000 in
set_option maxRecDepth 100000 in
theorem k_X7_deleteCell_X1 (l : Launch) (hst : l.stackTraces = false) (G : wG) (σ : cS) (μ : mS) (o : Nat → Int64) (v1 : Int32) (v2 : Int32) (v3 : Int32) (v4 : Int32) (hx : wi v2 (nI 15) = false) : vx_Met l yX7_deleteCell wsX7_deleteCell rm_k_X7_deleteCell_X1 (wPc G σ μ o [.ref (gA G 0), .int (v1), .int (v2), .int (v3), .int (v4)]) QX (XX G σ μ o "java/lang/IndexOutOfBoundsException") 1 6 (gP G) := by
  refine vx_ofW (cc := cX7_deleteCell) (maxL := 5) (ret := (some .int)) (by decide) rfl ?_
  intro p e s m args below meth c s₁ B hml hout hv
  obtain ⟨hargs, hI⟩ := hv
  have S : CallFix p m c cX7_deleteCell 5 s args wsX7_deleteCell RX7 := ⟨B.exec, B.bytes, hml, findClass_of_methodNamed B.named, atoms_spec (ws := wsX7_deleteCell) B.pre⟩
  have hret := B.returns
  have hlocks := B.notSynchronized
  have Z := wZ_0 hI
  clear hI
  obtain ⟨Q, hQ⟩ : ∃ Q, Q = vx_MQ below QX (XX G σ μ o "java/lang/IndexOutOfBoundsException") args s 1 6 (gP G) := ⟨_, rfl⟩
  rw [← hQ]
  have hl := lv_entry [.ref (gA G 0), .int (v1), .int (v2), .int (v3), .int (v4)] (n := 5) (Nat.le_of_ble_eq_true rfl)
  rw [show entryFrame m args 5 = entryFrame m ([.ref (gA G 0), .int (v1), .int (v2), .int (v3), .int (v4)] : List Value).toArray 5 from by rw [hargs], lg_entry_eq]
  generalize (lg_sl [.ref (gA G 0), .int (v1), .int (v2), .int (v3), .int (v4)] ++ List.replicate (5 - (lg_sl [.ref (gA G 0), .int (v1), .int (v2), .int (v3), .int (v4)]).length) Slot.unset).toArray = ls at hl ⊢
  have hl : lv_has ls 5 [(0, .ref (gA G 0)), (1, .int (v1)), (2, .int (v2)), (3, .int (v3)), (4, .int (v4))] := hl
  refine lv_iload_n S.1 S.2.1 dX7_deleteCell_0 rfl (lv_at hl 2 rfl) ?_
  refine x_call (vx_runS (As := [.int (v2)]) (rest := []) S (k_X7_requireRow_X l hst G σ μ o v2 hx) (va_cwS 1 S.2.2.2.2 gX7_deleteCell_X7_requireRow rfl rfl rfl hy_X7_requireRow ⟨Nat.le_of_ble_eq_true rfl, Nat.le_of_ble_eq_true rfl⟩) (wPc_S Z) rfl rfl hl.1 rfl (lv_room (Nat.le_of_ble_eq_true rfl)) dX7_deleteCell_1 ⟨Nat.le_of_ble_eq_true rfl, Nat.le_of_ble_eq_true rfl⟩) (fun _ _ _ h => h) Z (fun ce q9 H locs Z h1 h2 h3 => ?_)
  rw [hQ]
  exact x_out hout hlocks Z h1 h2 h3 (by decide) (by decide)

abbrev rm_k_X7_deleteCell_X2 : Room := { frames := 8, cells := 1, slots := 6, locals := 122 }
set_option maxHeartbeats 4000000 in
set_option maxRecDepth 100000 in
theorem k_X7_deleteCell_X2 (l : Launch) (hst : l.stackTraces = false) (G : wG) (σ : cS) (μ : mS) (o : Nat → Int64) (v1 : Int32) (k2 : Nat) (v3 : Int32) (v4 : Int32) (h2_ : k2 ≤ 15) (hx : wi v3 (nI 3) = false) : vx_Met l yX7_deleteCell wsX7_deleteCell rm_k_X7_deleteCell_X2 (wPc G σ μ o [.ref (gA G 0), .int (v1), .int (nI k2), .int (v3), .int (v4)]) QX (XX G σ μ o "java/lang/IndexOutOfBoundsException") 1 6 (gP G) := by
  refine vx_ofW (cc := cX7_deleteCell) (maxL := 5) (ret := (some .int)) (by decide) rfl ?_
  intro p e s m args below meth c s₁ B hml hout hv
  obtain ⟨hargs, hI⟩ := hv
  have S : CallFix p m c cX7_deleteCell 5 s args wsX7_deleteCell RX7 := ⟨B.exec, B.bytes, hml, findClass_of_methodNamed B.named, atoms_spec (ws := wsX7_deleteCell) B.pre⟩
  have hret := B.returns
  have hlocks := B.notSynchronized
  have Z := wZ_0 hI
  clear hI
  obtain ⟨Q, hQ⟩ : ∃ Q, Q = vx_MQ below QX (XX G σ μ o "java/lang/IndexOutOfBoundsException") args s 1 6 (gP G) := ⟨_, rfl⟩
  rw [← hQ]
  have hl := lv_entry [.ref (gA G 0), .int (v1), .int (nI k2), .int (v3), .int (v4)] (n := 5) (Nat.le_of_ble_eq_true rfl)
  rw [show entryFrame m args 5 = entryFrame m ([.ref (gA G 0), .int (v1), .int (nI k2), .int (v3), .int (v4)] : List Value).toArray 5 from by rw [hargs], lg_entry_eq]
  generalize (lg_sl [.ref (gA G 0), .int (v1), .int (nI k2), .int (v3), .int (v4)] ++ List.replicate (5 - (lg_sl [.ref (gA G 0), .int (v1), .int (nI k2), .int (v3), .int (v4)]).length) Slot.unset).toArray = ls at hl ⊢
  have hl : lv_has ls 5 [(0, .ref (gA G 0)), (1, .int (v1)), (2, .int (nI k2)), (3, .int (v3)), (4, .int (v4))] := hl
  refine lv_iload_n S.1 S.2.1 dX7_deleteCell_0 rfl (lv_at hl 2 rfl) ?_
  refine va_csv (va_runS (As := [.int (nI k2)]) (rest := []) S (k_X7_requireRow l G σ μ o k2 h2_) (va_cwS 1 S.2.2.2.2 gX7_deleteCell_X7_requireRow rfl rfl rfl hy_X7_requireRow ⟨Nat.le_of_ble_eq_true rfl, Nat.le_of_ble_eq_true rfl⟩) (wPc_S Z) rfl rfl hl.1 rfl (lv_room (Nat.le_of_ble_eq_true rfl)) dX7_deleteCell_1 ⟨Nat.le_of_ble_eq_true rfl, Nat.le_of_ble_eq_true rfl⟩).run (fun h_2 => ?_)
  refine lv_iload_n S.1 S.2.1 dX7_deleteCell_4 rfl (lv_at hl 3 rfl) ?_
  refine x_call (vx_runS (As := [.int (v3)]) (rest := []) S (k_X7_requireColumn_X l hst G σ μ o v3 hx) (va_cwS 1 S.2.2.2.2 gX7_deleteCell_X7_requireColumn rfl rfl rfl hy_X7_requireColumn ⟨Nat.le_of_ble_eq_true rfl, Nat.le_of_ble_eq_true rfl⟩) (wPc_S Z) rfl rfl hl.1 rfl (lv_room (Nat.le_of_ble_eq_true rfl)) dX7_deleteCell_5 ⟨Nat.le_of_ble_eq_true rfl, Nat.le_of_ble_eq_true rfl⟩) (fun _ _ _ h => h) Z (fun ce q9 H locs Z h1 h2 h3 => ?_)
  rw [hQ]
  exact x_out hout hlocks Z h1 h2 h3 (by decide) (by decide)

abbrev rm_k_X7_deleteCell_X3 : Room := { frames := 8, cells := 1, slots := 6, locals := 123 }
set_option maxHeartbeats 4000000 in
set_option maxRecDepth 100000 in
theorem k_X7_deleteCell_X3 (l : Launch) (hst : l.stackTraces = false) (G : wG) (σ : cS) (μ : mS) (o : Nat → Int64) (v1 : Int32) (k2 : Nat) (k3 : Nat) (v4 : Int32) (h2_ : k2 ≤ 15) (h3_ : k3 ≤ 3) (hx : wi v1 (nI 7) = false) : vx_Met l yX7_deleteCell wsX7_deleteCell rm_k_X7_deleteCell_X3 (wPc G σ μ o [.ref (gA G 0), .int (v1), .int (nI k2), .int (nI k3), .int (v4)]) QX (XX G σ μ o "java/lang/IllegalArgumentException") 1 6 (gP G) := by
  refine vx_ofW (cc := cX7_deleteCell) (maxL := 5) (ret := (some .int)) (by decide) rfl ?_
  intro p e s m args below meth c s₁ B hml hout hv
  obtain ⟨hargs, hI⟩ := hv
  have S : CallFix p m c cX7_deleteCell 5 s args wsX7_deleteCell RX7 := ⟨B.exec, B.bytes, hml, findClass_of_methodNamed B.named, atoms_spec (ws := wsX7_deleteCell) B.pre⟩
  have hret := B.returns
  have hlocks := B.notSynchronized
  have Z := wZ_0 hI
  clear hI
  obtain ⟨Q, hQ⟩ : ∃ Q, Q = vx_MQ below QX (XX G σ μ o "java/lang/IllegalArgumentException") args s 1 6 (gP G) := ⟨_, rfl⟩
  rw [← hQ]
  have hl := lv_entry [.ref (gA G 0), .int (v1), .int (nI k2), .int (nI k3), .int (v4)] (n := 5) (Nat.le_of_ble_eq_true rfl)
  rw [show entryFrame m args 5 = entryFrame m ([.ref (gA G 0), .int (v1), .int (nI k2), .int (nI k3), .int (v4)] : List Value).toArray 5 from by rw [hargs], lg_entry_eq]
  generalize (lg_sl [.ref (gA G 0), .int (v1), .int (nI k2), .int (nI k3), .int (v4)] ++ List.replicate (5 - (lg_sl [.ref (gA G 0), .int (v1), .int (nI k2), .int (nI k3), .int (v4)]).length) Slot.unset).toArray = ls at hl ⊢
  have hl : lv_has ls 5 [(0, .ref (gA G 0)), (1, .int (v1)), (2, .int (nI k2)), (3, .int (nI k3)), (4, .int (v4))] := hl
  refine lv_iload_n S.1 S.2.1 dX7_deleteCell_0 rfl (lv_at hl 2 rfl) ?_
  refine va_csv (va_runS (As := [.int (nI k2)]) (rest := []) S (k_X7_requireRow l G σ μ o k2 h2_) (va_cwS 1 S.2.2.2.2 gX7_deleteCell_X7_requireRow rfl rfl rfl hy_X7_requireRow ⟨Nat.le_of_ble_eq_true rfl, Nat.le_of_ble_eq_true rfl⟩) (wPc_S Z) rfl rfl hl.1 rfl (lv_room (Nat.le_of_ble_eq_true rfl)) dX7_deleteCell_1 ⟨Nat.le_of_ble_eq_true rfl, Nat.le_of_ble_eq_true rfl⟩).run (fun h_2 => ?_)
  refine lv_iload_n S.1 S.2.1 dX7_deleteCell_4 rfl (lv_at hl 3 rfl) ?_
  refine va_csv (va_runS (As := [.int (nI k3)]) (rest := []) S (k_X7_requireColumn l G σ μ o k3 h3_) (va_cwS 1 S.2.2.2.2 gX7_deleteCell_X7_requireColumn rfl rfl rfl hy_X7_requireColumn ⟨Nat.le_of_ble_eq_true rfl, Nat.le_of_ble_eq_true rfl⟩) (wPc_S Z) rfl rfl hl.1 rfl (lv_room (Nat.le_of_ble_eq_true rfl)) dX7_deleteCell_5 ⟨Nat.le_of_ble_eq_true rfl, Nat.le_of_ble_eq_true rfl⟩).run (fun h_4 => ?_)
  refine lv_iload_n S.1 S.2.1 dX7_deleteCell_8 rfl (lv_at hl 1 rfl) ?_
  refine lv_iload S.1 S.2.1 dX7_deleteCell_9 (lv_at hl 4 rfl) ?_
  refine x_call (vx_runS (As := [.int (v1), .int (v4)]) (rest := []) S (k_X7_requireDeletion_X1 l hst G σ μ o v1 v4 hx) (va_cwS 2 S.2.2.2.2 gX7_deleteCell_X7_requireDeletion rfl rfl rfl hy_X7_requireDeletion ⟨Nat.le_of_ble_eq_true rfl, Nat.le_of_ble_eq_true rfl⟩) (wPc_S Z) rfl rfl hl.1 rfl (lv_room (Nat.le_of_ble_eq_true rfl)) dX7_deleteCell_11 ⟨Nat.le_of_ble_eq_true rfl, Nat.le_of_ble_eq_true rfl⟩) (fun _ _ _ h => h) Z (fun ce q9 H locs Z h1 h2 h3 => ?_)
  rw [hQ]
  exact x_out hout hlocks Z h1 h2 h3 (by decide) (by decide)

abbrev rm_k_X7_deleteCell_X4 : Room := { frames := 8, cells := 1, slots := 6, locals := 123 }
set_option maxHeartbeats 4000000 in
set_option maxRecDepth 100000 in
theorem k_X7_deleteCell_X4 (l : Launch) (hst : l.stackTraces = false) (G : wG) (σ : cS) (μ : mS) (o : Nat → Int64) (k1 : Nat) (k2 : Nat) (k3 : Nat) (v4 : Int32) (h1_ : k1 ≤ 7) (h2_ : k2 ≤ 15) (h3_ : k3 ≤ 3) (hx : wi v4 (nI 999) = false) : vx_Met l yX7_deleteCell wsX7_deleteCell rm_k_X7_deleteCell_X4 (wPc G σ μ o [.ref (gA G 0), .int (nI k1), .int (nI k2), .int (nI k3), .int (v4)]) QX (XX G σ μ o "java/lang/IllegalArgumentException") 1 6 (gP G) := by
  refine vx_ofW (cc := cX7_deleteCell) (maxL := 5) (ret := (some .int)) (by decide) rfl ?_
  intro p e s m args below meth c s₁ B hml hout hv
  obtain ⟨hargs, hI⟩ := hv
  have S : CallFix p m c cX7_deleteCell 5 s args wsX7_deleteCell RX7 := ⟨B.exec, B.bytes, hml, findClass_of_methodNamed B.named, atoms_spec (ws := wsX7_deleteCell) B.pre⟩
  have hret := B.returns
  have hlocks := B.notSynchronized
  have Z := wZ_0 hI
  clear hI
  obtain ⟨Q, hQ⟩ : ∃ Q, Q = vx_MQ below QX (XX G σ μ o "java/lang/IllegalArgumentException") args s 1 6 (gP G) := ⟨_, rfl⟩
  rw [← hQ]
  have hl := lv_entry [.ref (gA G 0), .int (nI k1), .int (nI k2), .int (nI k3), .int (v4)] (n := 5) (Nat.le_of_ble_eq_true rfl)
  rw [show entryFrame m args 5 = entryFrame m ([.ref (gA G 0), .int (nI k1), .int (nI k2), .int (nI k3), .int (v4)] : List Value).toArray 5 from by rw [hargs], lg_entry_eq]
  generalize (lg_sl [.ref (gA G 0), .int (nI k1), .int (nI k2), .int (nI k3), .int (v4)] ++ List.replicate (5 - (lg_sl [.ref (gA G 0), .int (nI k1), .int (nI k2), .int (nI k3), .int (v4)]).length) Slot.unset).toArray = ls at hl ⊢
  have hl : lv_has ls 5 [(0, .ref (gA G 0)), (1, .int (nI k1)), (2, .int (nI k2)), (3, .int (nI k3)), (4, .int (v4))] := hl
  refine lv_iload_n S.1 S.2.1 dX7_deleteCell_0 rfl (lv_at hl 2 rfl) ?_
  refine va_csv (va_runS (As := [.int (nI k2)]) (rest := []) S (k_X7_requireRow l G σ μ o k2 h2_) (va_cwS 1 S.2.2.2.2 gX7_deleteCell_X7_requireRow rfl rfl rfl hy_X7_requireRow ⟨Nat.le_of_ble_eq_true rfl, Nat.le_of_ble_eq_true rfl⟩) (wPc_S Z) rfl rfl hl.1 rfl (lv_room (Nat.le_of_ble_eq_true rfl)) dX7_deleteCell_1 ⟨Nat.le_of_ble_eq_true rfl, Nat.le_of_ble_eq_true rfl⟩).run (fun h_2 => ?_)
  refine lv_iload_n S.1 S.2.1 dX7_deleteCell_4 rfl (lv_at hl 3 rfl) ?_
  refine va_csv (va_runS (As := [.int (nI k3)]) (rest := []) S (k_X7_requireColumn l G σ μ o k3 h3_) (va_cwS 1 S.2.2.2.2 gX7_deleteCell_X7_requireColumn rfl rfl rfl hy_X7_requireColumn ⟨Nat.le_of_ble_eq_true rfl, Nat.le_of_ble_eq_true rfl⟩) (wPc_S Z) rfl rfl hl.1 rfl (lv_room (Nat.le_of_ble_eq_true rfl)) dX7_deleteCell_5 ⟨Nat.le_of_ble_eq_true rfl, Nat.le_of_ble_eq_true rfl⟩).run (fun h_4 => ?_)
  refine lv_iload_n S.1 S.2.1 dX7_deleteCell_8 rfl (lv_at hl 1 rfl) ?_
  refine lv_iload S.1 S.2.1 dX7_deleteCell_9 (lv_at hl 4 rfl) ?_
  refine x_call (vx_runS (As := [.int (nI k1), .int (v4)]) (rest := []) S (k_X7_requireDeletion_X2 l hst G σ μ o k1 v4 h1_ hx) (va_cwS 2 S.2.2.2.2 gX7_deleteCell_X7_requireDeletion rfl rfl rfl hy_X7_requireDeletion ⟨Nat.le_of_ble_eq_true rfl, Nat.le_of_ble_eq_true rfl⟩) (wPc_S Z) rfl rfl hl.1 rfl (lv_room (Nat.le_of_ble_eq_true rfl)) dX7_deleteCell_11 ⟨Nat.le_of_ble_eq_true rfl, Nat.le_of_ble_eq_true rfl⟩) (fun _ _ _ h => h) Z (fun ce q9 H locs Z h1 h2 h3 => ?_)
  rw [hQ]
  exact x_out hout hlocks Z h1 h2 h3 (by decide) (by decide)

abbrev rm_k_X7_deleteColumn_X1 : Room := { frames := 8, cells := 1, slots := 6, locals := 122 }
set_option maxHeartbeats 4000000 in
set_option maxRecDepth 100000 in
theorem k_X7_deleteColumn_X1 (l : Launch) (hst : l.stackTraces = false) (G : wG) (σ : cS) (μ : mS) (o : Nat → Int64) (v1 : Int32) (v2 : Int32) (v3 : Int32) (hx : wi v2 (nI 3) = false) : vx_Met l yX7_deleteColumn wsX7_deleteColumn rm_k_X7_deleteColumn_X1 (wPc G σ μ o [.ref (gA G 0), .int (v1), .int (v2), .int (v3)]) QX (XX G σ μ o "java/lang/IndexOutOfBoundsException") 1 6 (gP G) := by
  refine vx_ofW (cc := cX7_deleteColumn) (maxL := 4) (ret := (some .int)) (by decide) rfl ?_
  intro p e s m args below meth c s₁ B hml hout hv
  obtain ⟨hargs, hI⟩ := hv
  have S : CallFix p m c cX7_deleteColumn 4 s args wsX7_deleteColumn RX7 := ⟨B.exec, B.bytes, hml, findClass_of_methodNamed B.named, atoms_spec (ws := wsX7_deleteColumn) B.pre⟩
  have hret := B.returns
  have hlocks := B.notSynchronized
  have Z := wZ_0 hI
  clear hI
  obtain ⟨Q, hQ⟩ : ∃ Q, Q = vx_MQ below QX (XX G σ μ o "java/lang/IndexOutOfBoundsException") args s 1 6 (gP G) := ⟨_, rfl⟩
  rw [← hQ]
  have hl := lv_entry [.ref (gA G 0), .int (v1), .int (v2), .int (v3)] (n := 4) (Nat.le_of_ble_eq_true rfl)
  rw [show entryFrame m args 4 = entryFrame m ([.ref (gA G 0), .int (v1), .int (v2), .int (v3)] : List Value).toArray 4 from by rw [hargs], lg_entry_eq]
  generalize (lg_sl [.ref (gA G 0), .int (v1), .int (v2), .int (v3)] ++ List.replicate (4 - (lg_sl [.ref (gA G 0), .int (v1), .int (v2), .int (v3)]).length) Slot.unset).toArray = ls at hl ⊢
  have hl : lv_has ls 4 [(0, .ref (gA G 0)), (1, .int (v1)), (2, .int (v2)), (3, .int (v3))] := hl
  refine lv_iload_n S.1 S.2.1 dX7_deleteColumn_0 rfl (lv_at hl 2 rfl) ?_
  refine x_call (vx_runS (As := [.int (v2)]) (rest := []) S (k_X7_requireColumn_X l hst G σ μ o v2 hx) (va_cwS 1 S.2.2.2.2 gX7_deleteColumn_X7_requireColumn rfl rfl rfl hy_X7_requireColumn ⟨Nat.le_of_ble_eq_true rfl, Nat.le_of_ble_eq_true rfl⟩) (wPc_S Z) rfl rfl hl.1 rfl (lv_room (Nat.le_of_ble_eq_true rfl)) dX7_deleteColumn_1 ⟨Nat.le_of_ble_eq_true rfl, Nat.le_of_ble_eq_true rfl⟩) (fun _ _ _ h => h) Z (fun ce q9 H locs Z h1 h2 h3 => ?_)
  rw [hQ]
  exact x_out hout hlocks Z h1 h2 h3 (by decide) (by decide)

abbrev rm_k_X7_deleteColumn_X2 : Room := { frames := 8, cells := 1, slots := 6, locals := 123 }
set_option maxHeartbeats 4000000 in
set_option maxRecDepth 100000 in
theorem k_X7_deleteColumn_X2 (l : Launch) (hst : l.stackTraces = false) (G : wG) (σ : cS) (μ : mS) (o : Nat → Int64) (v1 : Int32) (k2 : Nat) (v3 : Int32) (h2_ : k2 ≤ 3) (hx : wi v1 (nI 7) = false) : vx_Met l yX7_deleteColumn wsX7_deleteColumn rm_k_X7_deleteColumn_X2 (wPc G σ μ o [.ref (gA G 0), .int (v1), .int (nI k2), .int (v3)]) QX (XX G σ μ o "java/lang/IllegalArgumentException") 1 6 (gP G) := by
  refine vx_ofW (cc := cX7_deleteColumn) (maxL := 4) (ret := (some .int)) (by decide) rfl ?_
  intro p e s m args below meth c s₁ B hml hout hv
  obtain ⟨hargs, hI⟩ := hv
  have S : CallFix p m c cX7_deleteColumn 4 s args wsX7_deleteColumn RX7 := ⟨B.exec, B.bytes, hml, findClass_of_methodNamed B.named, atoms_spec (ws := wsX7_deleteColumn) B.pre⟩
  have hret := B.returns
  have hlocks := B.notSynchronized
  have Z := wZ_0 hI
  clear hI
  obtain ⟨Q, hQ⟩ : ∃ Q, Q = vx_MQ below QX (XX G σ μ o "java/lang/IllegalArgumentException") args s 1 6 (gP G) := ⟨_, rfl⟩
  rw [← hQ]
  have hl := lv_entry [.ref (gA G 0), .int (v1), .int (nI k2), .int (v3)] (n := 4) (Nat.le_of_ble_eq_true rfl)
  rw [show entryFrame m args 4 = entryFrame m ([.ref (gA G 0), .int (v1), .int (nI k2), .int (v3)] : List Value).toArray 4 from by rw [hargs], lg_entry_eq]
  generalize (lg_sl [.ref (gA G 0), .int (v1), .int (nI k2), .int (v3)] ++ List.replicate (4 - (lg_sl [.ref (gA G 0), .int (v1), .int (nI k2), .int (v3)]).length) Slot.unset).toArray = ls at hl ⊢
  have hl : lv_has ls 4 [(0, .ref (gA G 0)), (1, .int (v1)), (2, .int (nI k2)), (3, .int (v3))] := hl
  refine lv_iload_n S.1 S.2.1 dX7_deleteColumn_0 rfl (lv_at hl 2 rfl) ?_
  refine va_csv (va_runS (As := [.int (nI k2)]) (rest := []) S (k_X7_requireColumn l G σ μ o k2 h2_) (va_cwS 1 S.2.2.2.2 gX7_deleteColumn_X7_requireColumn rfl rfl rfl hy_X7_requireColumn ⟨Nat.le_of_ble_eq_true rfl, Nat.le_of_ble_eq_true rfl⟩) (wPc_S Z) rfl rfl hl.1 rfl (lv_room (Nat.le_of_ble_eq_true rfl)) dX7_deleteColumn_1 ⟨Nat.le_of_ble_eq_true rfl, Nat.le_of_ble_eq_true rfl⟩).run (fun h_2 => ?_)
  refine lv_iload_n S.1 S.2.1 dX7_deleteColumn_4 rfl (lv_at hl 1 rfl) ?_
  refine lv_iload_n S.1 S.2.1 dX7_deleteColumn_5 rfl (lv_at hl 3 rfl) ?_
  refine x_call (vx_runS (As := [.int (v1), .int (v3)]) (rest := []) S (k_X7_requireDeletion_X1 l hst G σ μ o v1 v3 hx) (va_cwS 2 S.2.2.2.2 gX7_deleteColumn_X7_requireDeletion rfl rfl rfl hy_X7_requireDeletion ⟨Nat.le_of_ble_eq_true rfl, Nat.le_of_ble_eq_true rfl⟩) (wPc_S Z) rfl rfl hl.1 rfl (lv_room (Nat.le_of_ble_eq_true rfl)) dX7_deleteColumn_6 ⟨Nat.le_of_ble_eq_true rfl, Nat.le_of_ble_eq_true rfl⟩) (fun _ _ _ h => h) Z (fun ce q9 H locs Z h1 h2 h3 => ?_)
  rw [hQ]
  exact x_out hout hlocks Z h1 h2 h3 (by decide) (by decide)

abbrev rm_k_X7_deleteColumn_X3 : Room := { frames := 8, cells := 1, slots := 6, locals := 123 }
set_option maxHeartbeats 4000000 in
set_option maxRecDepth 100000 in
theorem k_X7_deleteColumn_X3 (l : Launch) (hst : l.stackTraces = false) (G : wG) (σ : cS) (μ : mS) (o : Nat → Int64) (k1 : Nat) (k2 : Nat) (v3 : Int32) (h1_ : k1 ≤ 7) (h2_ : k2 ≤ 3) (hx : wi v3 (nI 999) = false) : vx_Met l yX7_deleteColumn wsX7_deleteColumn rm_k_X7_deleteColumn_X3 (wPc G σ μ o [.ref (gA G 0), .int (nI k1), .int (nI k2), .int (v3)]) QX (XX G σ μ o "java/lang/IllegalArgumentException") 1 6 (gP G) := by
  refine vx_ofW (cc := cX7_deleteColumn) (maxL := 4) (ret := (some .int)) (by decide) rfl ?_
  intro p e s m args below meth c s₁ B hml hout hv
  obtain ⟨hargs, hI⟩ := hv
  have S : CallFix p m c cX7_deleteColumn 4 s args wsX7_deleteColumn RX7 := ⟨B.exec, B.bytes, hml, findClass_of_methodNamed B.named, atoms_spec (ws := wsX7_deleteColumn) B.pre⟩
  have hret := B.returns
  have hlocks := B.notSynchronized
  have Z := wZ_0 hI
  clear hI
  obtain ⟨Q, hQ⟩ : ∃ Q, Q = vx_MQ below QX (XX G σ μ o "java/lang/IllegalArgumentException") args s 1 6 (gP G) := ⟨_, rfl⟩
  rw [← hQ]
  have hl := lv_entry [.ref (gA G 0), .int (nI k1), .int (nI k2), .int (v3)] (n := 4) (Nat.le_of_ble_eq_true rfl)
  rw [show entryFrame m args 4 = entryFrame m ([.ref (gA G 0), .int (nI k1), .int (nI k2), .int (v3)] : List Value).toArray 4 from by rw [hargs], lg_entry_eq]
  generalize (lg_sl [.ref (gA G 0), .int (nI k1), .int (nI k2), .int (v3)] ++ List.replicate (4 - (lg_sl [.ref (gA G 0), .int (nI k1), .int (nI k2), .int (v3)]).length) Slot.unset).toArray = ls at hl ⊢
  have hl : lv_has ls 4 [(0, .ref (gA G 0)), (1, .int (nI k1)), (2, .int (nI k2)), (3, .int (v3))] := hl
  refine lv_iload_n S.1 S.2.1 dX7_deleteColumn_0 rfl (lv_at hl 2 rfl) ?_
  refine va_csv (va_runS (As := [.int (nI k2)]) (rest := []) S (k_X7_requireColumn l G σ μ o k2 h2_) (va_cwS 1 S.2.2.2.2 gX7_deleteColumn_X7_requireColumn rfl rfl rfl hy_X7_requireColumn ⟨Nat.le_of_ble_eq_true rfl, Nat.le_of_ble_eq_true rfl⟩) (wPc_S Z) rfl rfl hl.1 rfl (lv_room (Nat.le_of_ble_eq_true rfl)) dX7_deleteColumn_1 ⟨Nat.le_of_ble_eq_true rfl, Nat.le_of_ble_eq_true rfl⟩).run (fun h_2 => ?_)
  refine lv_iload_n S.1 S.2.1 dX7_deleteColumn_4 rfl (lv_at hl 1 rfl) ?_
  refine lv_iload_n S.1 S.2.1 dX7_deleteColumn_5 rfl (lv_at hl 3 rfl) ?_
  refine x_call (vx_runS (As := [.int (nI k1), .int (v3)]) (rest := []) S (k_X7_requireDeletion_X2 l hst G σ μ o k1 v3 h1_ hx) (va_cwS 2 S.2.2.2.2 gX7_deleteColumn_X7_requireDeletion rfl rfl rfl hy_X7_requireDeletion ⟨Nat.le_of_ble_eq_true rfl, Nat.le_of_ble_eq_true rfl⟩) (wPc_S Z) rfl rfl hl.1 rfl (lv_room (Nat.le_of_ble_eq_true rfl)) dX7_deleteColumn_6 ⟨Nat.le_of_ble_eq_true rfl, Nat.le_of_ble_eq_true rfl⟩) (fun _ _ _ h => h) Z (fun ce q9 H locs Z h1 h2 h3 => ?_)
  rw [hQ]
  exact x_out hout hlocks Z h1 h2 h3 (by decide) (by decide)

abbrev rm_k_X7_deleteRow_X1 : Room := { frames := 8, cells := 1, slots := 6, locals := 122 }
set_option maxHeartbeats 4000000 in
set_option maxRecDepth 100000 in
theorem k_X7_deleteRow_X1 (l : Launch) (hst : l.stackTraces = false) (G : wG) (σ : cS) (μ : mS) (o : Nat → Int64) (v1 : Int32) (v2 : Int32) (v3 : Int32) (hx : wi v2 (nI 15) = false) : vx_Met l yX7_deleteRow wsX7_deleteRow rm_k_X7_deleteRow_X1 (wPc G σ μ o [.ref (gA G 0), .int (v1), .int (v2), .int (v3)]) QX (XX G σ μ o "java/lang/IndexOutOfBoundsException") 1 6 (gP G) := by
  refine vx_ofW (cc := cX7_deleteRow) (maxL := 4) (ret := (some .int)) (by decide) rfl ?_
  intro p e s m args below meth c s₁ B hml hout hv
  obtain ⟨hargs, hI⟩ := hv
  have S : CallFix p m c cX7_deleteRow 4 s args wsX7_deleteRow RX7 := ⟨B.exec, B.bytes, hml, findClass_of_methodNamed B.named, atoms_spec (ws := wsX7_deleteRow) B.pre⟩
  have hret := B.returns
  have hlocks := B.notSynchronized
  have Z := wZ_0 hI
  clear hI
  obtain ⟨Q, hQ⟩ : ∃ Q, Q = vx_MQ below QX (XX G σ μ o "java/lang/IndexOutOfBoundsException") args s 1 6 (gP G) := ⟨_, rfl⟩
  rw [← hQ]
  have hl := lv_entry [.ref (gA G 0), .int (v1), .int (v2), .int (v3)] (n := 4) (Nat.le_of_ble_eq_true rfl)
  rw [show entryFrame m args 4 = entryFrame m ([.ref (gA G 0), .int (v1), .int (v2), .int (v3)] : List Value).toArray 4 from by rw [hargs], lg_entry_eq]
  generalize (lg_sl [.ref (gA G 0), .int (v1), .int (v2), .int (v3)] ++ List.replicate (4 - (lg_sl [.ref (gA G 0), .int (v1), .int (v2), .int (v3)]).length) Slot.unset).toArray = ls at hl ⊢
  have hl : lv_has ls 4 [(0, .ref (gA G 0)), (1, .int (v1)), (2, .int (v2)), (3, .int (v3))] := hl
  refine lv_iload_n S.1 S.2.1 dX7_deleteRow_0 rfl (lv_at hl 2 rfl) ?_
  refine x_call (vx_runS (As := [.int (v2)]) (rest := []) S (k_X7_requireRow_X l hst G σ μ o v2 hx) (va_cwS 1 S.2.2.2.2 gX7_deleteRow_X7_requireRow rfl rfl rfl hy_X7_requireRow ⟨Nat.le_of_ble_eq_true rfl, Nat.le_of_ble_eq_true rfl⟩) (wPc_S Z) rfl rfl hl.1 rfl (lv_room (Nat.le_of_ble_eq_true rfl)) dX7_deleteRow_1 ⟨Nat.le_of_ble_eq_true rfl, Nat.le_of_ble_eq_true rfl⟩) (fun _ _ _ h => h) Z (fun ce q9 H locs Z h1 h2 h3 => ?_)
  rw [hQ]
  exact x_out hout hlocks Z h1 h2 h3 (by decide) (by decide)

abbrev rm_k_X7_deleteRow_X2 : Room := { frames := 8, cells := 1, slots := 6, locals := 123 }
set_option maxHeartbeats 4000000 in
set_option maxRecDepth 100000 in
theorem k_X7_deleteRow_X2 (l : Launch) (hst : l.stackTraces = false) (G : wG) (σ : cS) (μ : mS) (o : Nat → Int64) (v1 : Int32) (k2 : Nat) (v3 : Int32) (h2_ : k2 ≤ 15) (hx : wi v1 (nI 7) = false) : vx_Met l yX7_deleteRow wsX7_deleteRow rm_k_X7_deleteRow_X2 (wPc G σ μ o [.ref (gA G 0), .int (v1), .int (nI k2), .int (v3)]) QX (XX G σ μ o "java/lang/IllegalArgumentException") 1 6 (gP G) := by
  refine vx_ofW (cc := cX7_deleteRow) (maxL := 4) (ret := (some .int)) (by decide) rfl ?_
  intro p e s m args below meth c s₁ B hml hout hv
  obtain ⟨hargs, hI⟩ := hv
  have S : CallFix p m c cX7_deleteRow 4 s args wsX7_deleteRow RX7 := ⟨B.exec, B.bytes, hml, findClass_of_methodNamed B.named, atoms_spec (ws := wsX7_deleteRow) B.pre⟩
  have hret := B.returns
  have hlocks := B.notSynchronized
  have Z := wZ_0 hI
  clear hI
  obtain ⟨Q, hQ⟩ : ∃ Q, Q = vx_MQ below QX (XX G σ μ o "java/lang/IllegalArgumentException") args s 1 6 (gP G) := ⟨_, rfl⟩
  rw [← hQ]
  have hl := lv_entry [.ref (gA G 0), .int (v1), .int (nI k2), .int (v3)] (n := 4) (Nat.le_of_ble_eq_true rfl)
  rw [show entryFrame m args 4 = entryFrame m ([.ref (gA G 0), .int (v1), .int (nI k2), .int (v3)] : List Value).toArray 4 from by rw [hargs], lg_entry_eq]
  generalize (lg_sl [.ref (gA G 0), .int (v1), .int (nI k2), .int (v3)] ++ List.replicate (4 - (lg_sl [.ref (gA G 0), .int (v1), .int (nI k2), .int (v3)]).length) Slot.unset).toArray = ls at hl ⊢
  have hl : lv_has ls 4 [(0, .ref (gA G 0)), (1, .int (v1)), (2, .int (nI k2)), (3, .int (v3))] := hl
  refine lv_iload_n S.1 S.2.1 dX7_deleteRow_0 rfl (lv_at hl 2 rfl) ?_
  refine va_csv (va_runS (As := [.int (nI k2)]) (rest := []) S (k_X7_requireRow l G σ μ o k2 h2_) (va_cwS 1 S.2.2.2.2 gX7_deleteRow_X7_requireRow rfl rfl rfl hy_X7_requireRow ⟨Nat.le_of_ble_eq_true rfl, Nat.le_of_ble_eq_true rfl⟩) (wPc_S Z) rfl rfl hl.1 rfl (lv_room (Nat.le_of_ble_eq_true rfl)) dX7_deleteRow_1 ⟨Nat.le_of_ble_eq_true rfl, Nat.le_of_ble_eq_true rfl⟩).run (fun h_2 => ?_)
  refine lv_iload_n S.1 S.2.1 dX7_deleteRow_4 rfl (lv_at hl 1 rfl) ?_
  refine lv_iload_n S.1 S.2.1 dX7_deleteRow_5 rfl (lv_at hl 3 rfl) ?_
  refine x_call (vx_runS (As := [.int (v1), .int (v3)]) (rest := []) S (k_X7_requireDeletion_X1 l hst G σ μ o v1 v3 hx) (va_cwS 2 S.2.2.2.2 gX7_deleteRow_X7_requireDeletion rfl rfl rfl hy_X7_requireDeletion ⟨Nat.le_of_ble_eq_true rfl, Nat.le_of_ble_eq_true rfl⟩) (wPc_S Z) rfl rfl hl.1 rfl (lv_room (Nat.le_of_ble_eq_true rfl)) dX7_deleteRow_6 ⟨Nat.le_of_ble_eq_true rfl, Nat.le_of_ble_eq_true rfl⟩) (fun _ _ _ h => h) Z (fun ce q9 H locs Z h1 h2 h3 => ?_)
  rw [hQ]
  exact x_out hout hlocks Z h1 h2 h3 (by decide) (by decide)

abbrev rm_k_X7_deleteRow_X3 : Room := { frames := 8, cells := 1, slots := 6, locals := 123 }
set_option maxHeartbeats 4000000 in
set_option maxRecDepth 100000 in
theorem k_X7_deleteRow_X3 (l : Launch) (hst : l.stackTraces = false) (G : wG) (σ : cS) (μ : mS) (o : Nat → Int64) (k1 : Nat) (k2 : Nat) (v3 : Int32) (h1_ : k1 ≤ 7) (h2_ : k2 ≤ 15) (hx : wi v3 (nI 999) = false) : vx_Met l yX7_deleteRow wsX7_deleteRow rm_k_X7_deleteRow_X3 (wPc G σ μ o [.ref (gA G 0), .int (nI k1), .int (nI k2), .int (v3)]) QX (XX G σ μ o "java/lang/IllegalArgumentException") 1 6 (gP G) := by
  refine vx_ofW (cc := cX7_deleteRow) (maxL := 4) (ret := (some .int)) (by decide) rfl ?_
  intro p e s m args below meth c s₁ B hml hout hv
  obtain ⟨hargs, hI⟩ := hv
  have S : CallFix p m c cX7_deleteRow 4 s args wsX7_deleteRow RX7 := ⟨B.exec, B.bytes, hml, findClass_of_methodNamed B.named, atoms_spec (ws := wsX7_deleteRow) B.pre⟩
  have hret := B.returns
  have hlocks := B.notSynchronized
  have Z := wZ_0 hI
  clear hI
  obtain ⟨Q, hQ⟩ : ∃ Q, Q = vx_MQ below QX (XX G σ μ o "java/lang/IllegalArgumentException") args s 1 6 (gP G) := ⟨_, rfl⟩
  rw [← hQ]
  have hl := lv_entry [.ref (gA G 0), .int (nI k1), .int (nI k2), .int (v3)] (n := 4) (Nat.le_of_ble_eq_true rfl)
  rw [show entryFrame m args 4 = entryFrame m ([.ref (gA G 0), .int (nI k1), .int (nI k2), .int (v3)] : List Value).toArray 4 from by rw [hargs], lg_entry_eq]
  generalize (lg_sl [.ref (gA G 0), .int (nI k1), .int (nI k2), .int (v3)] ++ List.replicate (4 - (lg_sl [.ref (gA G 0), .int (nI k1), .int (nI k2), .int (v3)]).length) Slot.unset).toArray = ls at hl ⊢
  have hl : lv_has ls 4 [(0, .ref (gA G 0)), (1, .int (nI k1)), (2, .int (nI k2)), (3, .int (v3))] := hl
  refine lv_iload_n S.1 S.2.1 dX7_deleteRow_0 rfl (lv_at hl 2 rfl) ?_
  refine va_csv (va_runS (As := [.int (nI k2)]) (rest := []) S (k_X7_requireRow l G σ μ o k2 h2_) (va_cwS 1 S.2.2.2.2 gX7_deleteRow_X7_requireRow rfl rfl rfl hy_X7_requireRow ⟨Nat.le_of_ble_eq_true rfl, Nat.le_of_ble_eq_true rfl⟩) (wPc_S Z) rfl rfl hl.1 rfl (lv_room (Nat.le_of_ble_eq_true rfl)) dX7_deleteRow_1 ⟨Nat.le_of_ble_eq_true rfl, Nat.le_of_ble_eq_true rfl⟩).run (fun h_2 => ?_)
  refine lv_iload_n S.1 S.2.1 dX7_deleteRow_4 rfl (lv_at hl 1 rfl) ?_
  refine lv_iload_n S.1 S.2.1 dX7_deleteRow_5 rfl (lv_at hl 3 rfl) ?_
  refine x_call (vx_runS (As := [.int (nI k1), .int (v3)]) (rest := []) S (k_X7_requireDeletion_X2 l hst G σ μ o k1 v3 h1_ hx) (va_cwS 2 S.2.2.2.2 gX7_deleteRow_X7_requireDeletion rfl rfl rfl hy_X7_requireDeletion ⟨Nat.le_of_ble_eq_true rfl, Nat.le_of_ble_eq_true rfl⟩) (wPc_S Z) rfl rfl hl.1 rfl (lv_room (Nat.le_of_ble_eq_true rfl)) dX7_deleteRow_6 ⟨Nat.le_of_ble_eq_true rfl, Nat.le_of_ble_eq_true rfl⟩) (fun _ _ _ h => h) Z (fun ce q9 H locs Z h1 h2 h3 => ?_)
  rw [hQ]
  exact x_out hout hlocks Z h1 h2 h3 (by decide) (by decide)

abbrev rm_k_X7_deleteRange_X1 : Room := { frames := 8, cells := 1, slots := 6, locals := 122 }
set_option maxHeartbeats 4000000 in
set_option maxRecDepth 100000 in
theorem k_X7_deleteRange_X1 (l : Launch) (hst : l.stackTraces = false) (G : wG) (σ : cS) (μ : mS) (o : Nat → Int64) (v1 : Int32) (v2 : Int32) (v3 : Int32) (v4 : Int32) (hx : wi v2 (nI 15) = false) : vx_Met l yX7_deleteRange wsX7_deleteRange rm_k_X7_deleteRange_X1 (wPc G σ μ o [.ref (gA G 0), .int (v1), .int (v2), .int (v3), .int (v4)]) QX (XX G σ μ o "java/lang/IndexOutOfBoundsException") 1 6 (gP G) := by
  refine vx_ofW (cc := cX7_deleteRange) (maxL := 6) (ret := (some .int)) (by decide) rfl ?_
  intro p e s m args below meth c s₁ B hml hout hv
  obtain ⟨hargs, hI⟩ := hv
  have S : CallFix p m c cX7_deleteRange 6 s args wsX7_deleteRange RX7 := ⟨B.exec, B.bytes, hml, findClass_of_methodNamed B.named, atoms_spec (ws := wsX7_deleteRange) B.pre⟩
  have hret := B.returns
  have hlocks := B.notSynchronized
  have Z := wZ_0 hI
  clear hI
  obtain ⟨Q, hQ⟩ : ∃ Q, Q = vx_MQ below QX (XX G σ μ o "java/lang/IndexOutOfBoundsException") args s 1 6 (gP G) := ⟨_, rfl⟩
  rw [← hQ]
  have hl := lv_entry [.ref (gA G 0), .int (v1), .int (v2), .int (v3), .int (v4)] (n := 6) (Nat.le_of_ble_eq_true rfl)
  rw [show entryFrame m args 6 = entryFrame m ([.ref (gA G 0), .int (v1), .int (v2), .int (v3), .int (v4)] : List Value).toArray 6 from by rw [hargs], lg_entry_eq]
  generalize (lg_sl [.ref (gA G 0), .int (v1), .int (v2), .int (v3), .int (v4)] ++ List.replicate (6 - (lg_sl [.ref (gA G 0), .int (v1), .int (v2), .int (v3), .int (v4)]).length) Slot.unset).toArray = ls at hl ⊢
  have hl : lv_has ls 6 [(0, .ref (gA G 0)), (1, .int (v1)), (2, .int (v2)), (3, .int (v3)), (4, .int (v4))] := hl
  refine lv_iload_n S.1 S.2.1 dX7_deleteRange_0 rfl (lv_at hl 2 rfl) ?_
  refine x_call (vx_runS (As := [.int (v2)]) (rest := []) S (k_X7_requireRow_X l hst G σ μ o v2 hx) (va_cwS 1 S.2.2.2.2 gX7_deleteRange_X7_requireRow rfl rfl rfl hy_X7_requireRow ⟨Nat.le_of_ble_eq_true rfl, Nat.le_of_ble_eq_true rfl⟩) (wPc_S Z) rfl rfl hl.1 rfl (lv_room (Nat.le_of_ble_eq_true rfl)) dX7_deleteRange_1 ⟨Nat.le_of_ble_eq_true rfl, Nat.le_of_ble_eq_true rfl⟩) (fun _ _ _ h => h) Z (fun ce q9 H locs Z h1 h2 h3 => ?_)
  rw [hQ]
  exact x_out hout hlocks Z h1 h2 h3 (by decide) (by decide)

abbrev rm_k_X7_deleteRange_X2 : Room := { frames := 8, cells := 1, slots := 6, locals := 122 }
set_option maxHeartbeats 4000000 in
set_option maxRecDepth 100000 in
theorem k_X7_deleteRange_X2 (l : Launch) (hst : l.stackTraces = false) (G : wG) (σ : cS) (μ : mS) (o : Nat → Int64) (v1 : Int32) (k2 : Nat) (v3 : Int32) (v4 : Int32) (h2_ : k2 ≤ 15) (hx : wi v3 (nI 15) = false) : vx_Met l yX7_deleteRange wsX7_deleteRange rm_k_X7_deleteRange_X2 (wPc G σ μ o [.ref (gA G 0), .int (v1), .int (nI k2), .int (v3), .int (v4)]) QX (XX G σ μ o "java/lang/IndexOutOfBoundsException") 1 6 (gP G) := by
  refine vx_ofW (cc := cX7_deleteRange) (maxL := 6) (ret := (some .int)) (by decide) rfl ?_
  intro p e s m args below meth c s₁ B hml hout hv
  obtain ⟨hargs, hI⟩ := hv
  have S : CallFix p m c cX7_deleteRange 6 s args wsX7_deleteRange RX7 := ⟨B.exec, B.bytes, hml, findClass_of_methodNamed B.named, atoms_spec (ws := wsX7_deleteRange) B.pre⟩
  have hret := B.returns
  have hlocks := B.notSynchronized
  have Z := wZ_0 hI
  clear hI
  obtain ⟨Q, hQ⟩ : ∃ Q, Q = vx_MQ below QX (XX G σ μ o "java/lang/IndexOutOfBoundsException") args s 1 6 (gP G) := ⟨_, rfl⟩
  rw [← hQ]
  have hl := lv_entry [.ref (gA G 0), .int (v1), .int (nI k2), .int (v3), .int (v4)] (n := 6) (Nat.le_of_ble_eq_true rfl)
  rw [show entryFrame m args 6 = entryFrame m ([.ref (gA G 0), .int (v1), .int (nI k2), .int (v3), .int (v4)] : List Value).toArray 6 from by rw [hargs], lg_entry_eq]
  generalize (lg_sl [.ref (gA G 0), .int (v1), .int (nI k2), .int (v3), .int (v4)] ++ List.replicate (6 - (lg_sl [.ref (gA G 0), .int (v1), .int (nI k2), .int (v3), .int (v4)]).length) Slot.unset).toArray = ls at hl ⊢
  have hl : lv_has ls 6 [(0, .ref (gA G 0)), (1, .int (v1)), (2, .int (nI k2)), (3, .int (v3)), (4, .int (v4))] := hl
  refine lv_iload_n S.1 S.2.1 dX7_deleteRange_0 rfl (lv_at hl 2 rfl) ?_
  refine va_csv (va_runS (As := [.int (nI k2)]) (rest := []) S (k_X7_requireRow l G σ μ o k2 h2_) (va_cwS 1 S.2.2.2.2 gX7_deleteRange_X7_requireRow rfl rfl rfl hy_X7_requireRow ⟨Nat.le_of_ble_eq_true rfl, Nat.le_of_ble_eq_true rfl⟩) (wPc_S Z) rfl rfl hl.1 rfl (lv_room (Nat.le_of_ble_eq_true rfl)) dX7_deleteRange_1 ⟨Nat.le_of_ble_eq_true rfl, Nat.le_of_ble_eq_true rfl⟩).run (fun h_2 => ?_)
  refine lv_iload_n S.1 S.2.1 dX7_deleteRange_4 rfl (lv_at hl 3 rfl) ?_
  refine x_call (vx_runS (As := [.int (v3)]) (rest := []) S (k_X7_requireRow_X l hst G σ μ o v3 hx) (va_cwS 1 S.2.2.2.2 gX7_deleteRange_X7_requireRow rfl rfl rfl hy_X7_requireRow ⟨Nat.le_of_ble_eq_true rfl, Nat.le_of_ble_eq_true rfl⟩) (wPc_S Z) rfl rfl hl.1 rfl (lv_room (Nat.le_of_ble_eq_true rfl)) dX7_deleteRange_5 ⟨Nat.le_of_ble_eq_true rfl, Nat.le_of_ble_eq_true rfl⟩) (fun _ _ _ h => h) Z (fun ce q9 H locs Z h1 h2 h3 => ?_)
  rw [hQ]
  exact x_out hout hlocks Z h1 h2 h3 (by decide) (by decide)

abbrev rm_k_X7_deleteRange_X3 : Room := { frames := 8, cells := 1, slots := 6, locals := 123 }
set_option maxHeartbeats 4000000 in
set_option maxRecDepth 100000 in
theorem k_X7_deleteRange_X3 (l : Launch) (hst : l.stackTraces = false) (G : wG) (σ : cS) (μ : mS) (o : Nat → Int64) (v1 : Int32) (k2 : Nat) (k3 : Nat) (v4 : Int32) (h2_ : k2 ≤ 15) (h3_ : k3 ≤ 15) (hx : wi v1 (nI 7) = false) : vx_Met l yX7_deleteRange wsX7_deleteRange rm_k_X7_deleteRange_X3 (wPc G σ μ o [.ref (gA G 0), .int (v1), .int (nI k2), .int (nI k3), .int (v4)]) QX (XX G σ μ o "java/lang/IllegalArgumentException") 1 6 (gP G) := by
  refine vx_ofW (cc := cX7_deleteRange) (maxL := 6) (ret := (some .int)) (by decide) rfl ?_
  intro p e s m args below meth c s₁ B hml hout hv
  obtain ⟨hargs, hI⟩ := hv
  have S : CallFix p m c cX7_deleteRange 6 s args wsX7_deleteRange RX7 := ⟨B.exec, B.bytes, hml, findClass_of_methodNamed B.named, atoms_spec (ws := wsX7_deleteRange) B.pre⟩
  have hret := B.returns
  have hlocks := B.notSynchronized
  have Z := wZ_0 hI
  clear hI
  obtain ⟨Q, hQ⟩ : ∃ Q, Q = vx_MQ below QX (XX G σ μ o "java/lang/IllegalArgumentException") args s 1 6 (gP G) := ⟨_, rfl⟩
  rw [← hQ]
  have hl := lv_entry [.ref (gA G 0), .int (v1), .int (nI k2), .int (nI k3), .int (v4)] (n := 6) (Nat.le_of_ble_eq_true rfl)
  rw [show entryFrame m args 6 = entryFrame m ([.ref (gA G 0), .int (v1), .int (nI k2), .int (nI k3), .int (v4)] : List Value).toArray 6 from by rw [hargs], lg_entry_eq]
  generalize (lg_sl [.ref (gA G 0), .int (v1), .int (nI k2), .int (nI k3), .int (v4)] ++ List.replicate (6 - (lg_sl [.ref (gA G 0), .int (v1), .int (nI k2), .int (nI k3), .int (v4)]).length) Slot.unset).toArray = ls at hl ⊢
  have hl : lv_has ls 6 [(0, .ref (gA G 0)), (1, .int (v1)), (2, .int (nI k2)), (3, .int (nI k3)), (4, .int (v4))] := hl
  refine lv_iload_n S.1 S.2.1 dX7_deleteRange_0 rfl (lv_at hl 2 rfl) ?_
  refine va_csv (va_runS (As := [.int (nI k2)]) (rest := []) S (k_X7_requireRow l G σ μ o k2 h2_) (va_cwS 1 S.2.2.2.2 gX7_deleteRange_X7_requireRow rfl rfl rfl hy_X7_requireRow ⟨Nat.le_of_ble_eq_true rfl, Nat.le_of_ble_eq_true rfl⟩) (wPc_S Z) rfl rfl hl.1 rfl (lv_room (Nat.le_of_ble_eq_true rfl)) dX7_deleteRange_1 ⟨Nat.le_of_ble_eq_true rfl, Nat.le_of_ble_eq_true rfl⟩).run (fun h_2 => ?_)
  refine lv_iload_n S.1 S.2.1 dX7_deleteRange_4 rfl (lv_at hl 3 rfl) ?_
  refine va_csv (va_runS (As := [.int (nI k3)]) (rest := []) S (k_X7_requireRow l G σ μ o k3 h3_) (va_cwS 1 S.2.2.2.2 gX7_deleteRange_X7_requireRow rfl rfl rfl hy_X7_requireRow ⟨Nat.le_of_ble_eq_true rfl, Nat.le_of_ble_eq_true rfl⟩) (wPc_S Z) rfl rfl hl.1 rfl (lv_room (Nat.le_of_ble_eq_true rfl)) dX7_deleteRange_5 ⟨Nat.le_of_ble_eq_true rfl, Nat.le_of_ble_eq_true rfl⟩).run (fun h_4 => ?_)
  refine lv_iload_n S.1 S.2.1 dX7_deleteRange_8 rfl (lv_at hl 1 rfl) ?_
  refine lv_iload S.1 S.2.1 dX7_deleteRange_9 (lv_at hl 4 rfl) ?_
  refine x_call (vx_runS (As := [.int (v1), .int (v4)]) (rest := []) S (k_X7_requireDeletion_X1 l hst G σ μ o v1 v4 hx) (va_cwS 2 S.2.2.2.2 gX7_deleteRange_X7_requireDeletion rfl rfl rfl hy_X7_requireDeletion ⟨Nat.le_of_ble_eq_true rfl, Nat.le_of_ble_eq_true rfl⟩) (wPc_S Z) rfl rfl hl.1 rfl (lv_room (Nat.le_of_ble_eq_true rfl)) dX7_deleteRange_11 ⟨Nat.le_of_ble_eq_true rfl, Nat.le_of_ble_eq_true rfl⟩) (fun _ _ _ h => h) Z (fun ce q9 H locs Z h1 h2 h3 => ?_)
  rw [hQ]
  exact x_out hout hlocks Z h1 h2 h3 (by decide) (by decide)

abbrev rm_k_X7_deleteRange_X4 : Room := { frames := 8, cells := 1, slots := 6, locals := 123 }
set_option maxHeartbeats 4000000 in
set_option maxRecDepth 100000 in
theorem k_X7_deleteRange_X4 (l : Launch) (hst : l.stackTraces = false) (G : wG) (σ : cS) (μ : mS) (o : Nat → Int64) (k1 : Nat) (k2 : Nat) (k3 : Nat) (v4 : Int32) (h1_ : k1 ≤ 7) (h2_ : k2 ≤ 15) (h3_ : k3 ≤ 15) (hx : wi v4 (nI 999) = false) : vx_Met l yX7_deleteRange wsX7_deleteRange rm_k_X7_deleteRange_X4 (wPc G σ μ o [.ref (gA G 0), .int (nI k1), .int (nI k2), .int (nI k3), .int (v4)]) QX (XX G σ μ o "java/lang/IllegalArgumentException") 1 6 (gP G) := by
  refine vx_ofW (cc := cX7_deleteRange) (maxL := 6) (ret := (some .int)) (by decide) rfl ?_
  intro p e s m args below meth c s₁ B hml hout hv
  obtain ⟨hargs, hI⟩ := hv
  have S : CallFix p m c cX7_deleteRange 6 s args wsX7_deleteRange RX7 := ⟨B.exec, B.bytes, hml, findClass_of_methodNamed B.named, atoms_spec (ws := wsX7_deleteRange) B.pre⟩
  have hret := B.returns
  have hlocks := B.notSynchronized
  have Z := wZ_0 hI
  clear hI
  obtain ⟨Q, hQ⟩ : ∃ Q, Q = vx_MQ below QX (XX G σ μ o "java/lang/IllegalArgumentException") args s 1 6 (gP G) := ⟨_, rfl⟩
  rw [← hQ]
  have hl := lv_entry [.ref (gA G 0), .int (nI k1), .int (nI k2), .int (nI k3), .int (v4)] (n := 6) (Nat.le_of_ble_eq_true rfl)
  rw [show entryFrame m args 6 = entryFrame m ([.ref (gA G 0), .int (nI k1), .int (nI k2), .int (nI k3), .int (v4)] : List Value).toArray 6 from by rw [hargs], lg_entry_eq]
  generalize (lg_sl [.ref (gA G 0), .int (nI k1), .int (nI k2), .int (nI k3), .int (v4)] ++ List.replicate (6 - (lg_sl [.ref (gA G 0), .int (nI k1), .int (nI k2), .int (nI k3), .int (v4)]).length) Slot.unset).toArray = ls at hl ⊢
  have hl : lv_has ls 6 [(0, .ref (gA G 0)), (1, .int (nI k1)), (2, .int (nI k2)), (3, .int (nI k3)), (4, .int (v4))] := hl
  refine lv_iload_n S.1 S.2.1 dX7_deleteRange_0 rfl (lv_at hl 2 rfl) ?_
  refine va_csv (va_runS (As := [.int (nI k2)]) (rest := []) S (k_X7_requireRow l G σ μ o k2 h2_) (va_cwS 1 S.2.2.2.2 gX7_deleteRange_X7_requireRow rfl rfl rfl hy_X7_requireRow ⟨Nat.le_of_ble_eq_true rfl, Nat.le_of_ble_eq_true rfl⟩) (wPc_S Z) rfl rfl hl.1 rfl (lv_room (Nat.le_of_ble_eq_true rfl)) dX7_deleteRange_1 ⟨Nat.le_of_ble_eq_true rfl, Nat.le_of_ble_eq_true rfl⟩).run (fun h_2 => ?_)
  refine lv_iload_n S.1 S.2.1 dX7_deleteRange_4 rfl (lv_at hl 3 rfl) ?_
  refine va_csv (va_runS (As := [.int (nI k3)]) (rest := []) S (k_X7_requireRow l G σ μ o k3 h3_) (va_cwS 1 S.2.2.2.2 gX7_deleteRange_X7_requireRow rfl rfl rfl hy_X7_requireRow ⟨Nat.le_of_ble_eq_true rfl, Nat.le_of_ble_eq_true rfl⟩) (wPc_S Z) rfl rfl hl.1 rfl (lv_room (Nat.le_of_ble_eq_true rfl)) dX7_deleteRange_5 ⟨Nat.le_of_ble_eq_true rfl, Nat.le_of_ble_eq_true rfl⟩).run (fun h_4 => ?_)
  refine lv_iload_n S.1 S.2.1 dX7_deleteRange_8 rfl (lv_at hl 1 rfl) ?_
  refine lv_iload S.1 S.2.1 dX7_deleteRange_9 (lv_at hl 4 rfl) ?_
  refine x_call (vx_runS (As := [.int (nI k1), .int (v4)]) (rest := []) S (k_X7_requireDeletion_X2 l hst G σ μ o k1 v4 h1_ hx) (va_cwS 2 S.2.2.2.2 gX7_deleteRange_X7_requireDeletion rfl rfl rfl hy_X7_requireDeletion ⟨Nat.le_of_ble_eq_true rfl, Nat.le_of_ble_eq_true rfl⟩) (wPc_S Z) rfl rfl hl.1 rfl (lv_room (Nat.le_of_ble_eq_true rfl)) dX7_deleteRange_11 ⟨Nat.le_of_ble_eq_true rfl, Nat.le_of_ble_eq_true rfl⟩) (fun _ _ _ h => h) Z (fun ce q9 H locs Z h1 h2 h3 => ?_)
  rw [hQ]
  exact x_out hout hlocks Z h1 h2 h3 (by decide) (by decide)

abbrev rm_k_X7_deleteRange_X5 : Room := { frames := 7, cells := 1, slots := 6, locals := 102 }
set_option maxHeartbeats 4000000 in
set_option maxRecDepth 100000 in
theorem k_X7_deleteRange_X5 (l : Launch) (hst : l.stackTraces = false) (G : wG) (σ : cS) (μ : mS) (o : Nat → Int64) (k1 : Nat) (k2 : Nat) (k3 : Nat) (k4 : Nat) (h1_ : k1 ≤ 7) (h2_ : k2 ≤ 15) (h3_ : k3 ≤ 15) (h4_ : k4 ≤ 999) (hab : k3 < k2) : vx_Met l yX7_deleteRange wsX7_deleteRange rm_k_X7_deleteRange_X5 (wPc G σ μ o [.ref (gA G 0), .int (nI k1), .int (nI k2), .int (nI k3), .int (nI k4)]) QX (XX G σ μ o "java/lang/IllegalArgumentException") 1 6 (gP G) := by
  refine vx_ofW (cc := cX7_deleteRange) (maxL := 6) (ret := (some .int)) (by decide) rfl ?_
  intro p e s m args below meth c s₁ B hml hout hv
  obtain ⟨hargs, hI⟩ := hv
  have S : CallFix p m c cX7_deleteRange 6 s args wsX7_deleteRange RX7 := ⟨B.exec, B.bytes, hml, findClass_of_methodNamed B.named, atoms_spec (ws := wsX7_deleteRange) B.pre⟩
  have hret := B.returns
  have hlocks := B.notSynchronized
  have Z := wZ_0 hI
  clear hI
  obtain ⟨Q, hQ⟩ : ∃ Q, Q = vx_MQ below QX (XX G σ μ o "java/lang/IllegalArgumentException") args s 1 6 (gP G) := ⟨_, rfl⟩
  rw [← hQ]
  have hl := lv_entry [.ref (gA G 0), .int (nI k1), .int (nI k2), .int (nI k3), .int (nI k4)] (n := 6) (Nat.le_of_ble_eq_true rfl)
  rw [show entryFrame m args 6 = entryFrame m ([.ref (gA G 0), .int (nI k1), .int (nI k2), .int (nI k3), .int (nI k4)] : List Value).toArray 6 from by rw [hargs], lg_entry_eq]
  generalize (lg_sl [.ref (gA G 0), .int (nI k1), .int (nI k2), .int (nI k3), .int (nI k4)] ++ List.replicate (6 - (lg_sl [.ref (gA G 0), .int (nI k1), .int (nI k2), .int (nI k3), .int (nI k4)]).length) Slot.unset).toArray = ls at hl ⊢
  have hl : lv_has ls 6 [(0, .ref (gA G 0)), (1, .int (nI k1)), (2, .int (nI k2)), (3, .int (nI k3)), (4, .int (nI k4))] := hl
  refine lv_iload_n S.1 S.2.1 dX7_deleteRange_0 rfl (lv_at hl 2 rfl) ?_
  refine va_csv (va_runS (As := [.int (nI k2)]) (rest := []) S (k_X7_requireRow l G σ μ o k2 h2_) (va_cwS 1 S.2.2.2.2 gX7_deleteRange_X7_requireRow rfl rfl rfl hy_X7_requireRow ⟨Nat.le_of_ble_eq_true rfl, Nat.le_of_ble_eq_true rfl⟩) (wPc_S Z) rfl rfl hl.1 rfl (lv_room (Nat.le_of_ble_eq_true rfl)) dX7_deleteRange_1 ⟨Nat.le_of_ble_eq_true rfl, Nat.le_of_ble_eq_true rfl⟩).run (fun h_2 => ?_)
  refine lv_iload_n S.1 S.2.1 dX7_deleteRange_4 rfl (lv_at hl 3 rfl) ?_
  refine va_csv (va_runS (As := [.int (nI k3)]) (rest := []) S (k_X7_requireRow l G σ μ o k3 h3_) (va_cwS 1 S.2.2.2.2 gX7_deleteRange_X7_requireRow rfl rfl rfl hy_X7_requireRow ⟨Nat.le_of_ble_eq_true rfl, Nat.le_of_ble_eq_true rfl⟩) (wPc_S Z) rfl rfl hl.1 rfl (lv_room (Nat.le_of_ble_eq_true rfl)) dX7_deleteRange_5 ⟨Nat.le_of_ble_eq_true rfl, Nat.le_of_ble_eq_true rfl⟩).run (fun h_4 => ?_)
  refine lv_iload_n S.1 S.2.1 dX7_deleteRange_8 rfl (lv_at hl 1 rfl) ?_
  refine lv_iload S.1 S.2.1 dX7_deleteRange_9 (lv_at hl 4 rfl) ?_
  refine va_csv (va_runS (As := [.int (nI k1), .int (nI k4)]) (rest := []) S (k_X7_requireDeletion l G σ μ o k1 k4 h1_ h4_) (va_cwS 2 S.2.2.2.2 gX7_deleteRange_X7_requireDeletion rfl rfl rfl hy_X7_requireDeletion ⟨Nat.le_of_ble_eq_true rfl, Nat.le_of_ble_eq_true rfl⟩) (wPc_S Z) rfl rfl hl.1 rfl (lv_room (Nat.le_of_ble_eq_true rfl)) dX7_deleteRange_11 ⟨Nat.le_of_ble_eq_true rfl, Nat.le_of_ble_eq_true rfl⟩).run (fun h_6 => ?_)
  refine lv_iload_n S.1 S.2.1 dX7_deleteRange_14 rfl (lv_at hl 2 rfl) ?_
  refine lv_iload_n S.1 S.2.1 dX7_deleteRange_15 rfl (lv_at hl 3 rfl) ?_
  refine r_icmpN_gt S (tgt := 23) (by omega) (by omega) dX7_deleteRange_16 (by decide) (fun c_7 => ?_) (fun c_7 => absurd c_7 (by omega))
  refine lv_iconst (v := nI 0) S.1 S.2.1 dX7_deleteRange_23 (by decide) ?_
  refine x_call (vx_runS (As := [.int (bi false)]) (rest := []) S (k_X7_requireArgument_X l hst G σ μ o  ) (va_cwS 1 S.2.2.2.2 gX7_deleteRange_X7_requireArgument rfl rfl rfl hy_X7_requireArgument ⟨Nat.le_of_ble_eq_true rfl, Nat.le_of_ble_eq_true rfl⟩) (wPc_S Z) rfl rfl hl.1 rfl (lv_room (Nat.le_of_ble_eq_true rfl)) dX7_deleteRange_24 ⟨Nat.le_of_ble_eq_true rfl, Nat.le_of_ble_eq_true rfl⟩) (fun _ _ _ h => h) Z (fun ce q9 H locs Z h1 h2 h3 => ?_)
  rw [hQ]
  exact x_out hout hlocks Z h1 h2 h3 (by decide) (by decide)

theorem i_X7_deleteRange_X7 : ∀ w ∈ wsX70, w ∈ wsX7_deleteRange := by decide +kernel
theorem m_X7_deleteRange_f12 : Cond.fieldLink RX7 12 "WideCell" "ranges" "LWideCell$Ranges;" ∈ wsX7_deleteRange := by decide +kernel
abbrev rm_k_X7_deleteRange_X6 : Room := { frames := 7, cells := 1, slots := 6, locals := 102 }
set_option maxHeartbeats 4000000 in
set_option maxRecDepth 100000 in
theorem k_X7_deleteRange_X6 (l : Launch) (hst : l.stackTraces = false) (G : wG) (σ : cS) (μ : mS) (o : Nat → Int64) (k1 : Nat) (k2 : Nat) (k3 : Nat) (k4 : Nat) (h1_ : k1 ≤ 7) (h2_ : k2 ≤ 15) (h3_ : k3 ≤ 15) (h4_ : k4 ≤ 999) (hab : k2 ≤ k3) (hz : rgR σ k2 k3 = -1) : vx_Met l yX7_deleteRange wsX7_deleteRange rm_k_X7_deleteRange_X6 (wPc G σ μ o [.ref (gA G 0), .int (nI k1), .int (nI k2), .int (nI k3), .int (nI k4)]) QX (XX G (rgS σ k2 k3) μ o "java/lang/IllegalStateException") 1 6 (gP G) := by
  refine vx_ofW (cc := cX7_deleteRange) (maxL := 6) (ret := (some .int)) (by decide) rfl ?_
  intro p e s m args below meth c s₁ B hml hout hv
  obtain ⟨hargs, hI⟩ := hv
  have S : CallFix p m c cX7_deleteRange 6 s args wsX7_deleteRange RX7 := ⟨B.exec, B.bytes, hml, findClass_of_methodNamed B.named, atoms_spec (ws := wsX7_deleteRange) B.pre⟩
  have hret := B.returns
  have hlocks := B.notSynchronized
  have Z := wZ_0 hI
  clear hI
  obtain ⟨Q, hQ⟩ : ∃ Q, Q = vx_MQ below QX (XX G (rgS σ k2 k3) μ o "java/lang/IllegalStateException") args s 1 6 (gP G) := ⟨_, rfl⟩
  rw [← hQ]
  have hl := lv_entry [.ref (gA G 0), .int (nI k1), .int (nI k2), .int (nI k3), .int (nI k4)] (n := 6) (Nat.le_of_ble_eq_true rfl)
  rw [show entryFrame m args 6 = entryFrame m ([.ref (gA G 0), .int (nI k1), .int (nI k2), .int (nI k3), .int (nI k4)] : List Value).toArray 6 from by rw [hargs], lg_entry_eq]
  generalize (lg_sl [.ref (gA G 0), .int (nI k1), .int (nI k2), .int (nI k3), .int (nI k4)] ++ List.replicate (6 - (lg_sl [.ref (gA G 0), .int (nI k1), .int (nI k2), .int (nI k3), .int (nI k4)]).length) Slot.unset).toArray = ls at hl ⊢
  have hl : lv_has ls 6 [(0, .ref (gA G 0)), (1, .int (nI k1)), (2, .int (nI k2)), (3, .int (nI k3)), (4, .int (nI k4))] := hl
  refine lv_iload_n S.1 S.2.1 dX7_deleteRange_0 rfl (lv_at hl 2 rfl) ?_
  refine va_csv (va_runS (As := [.int (nI k2)]) (rest := []) S (k_X7_requireRow l G σ μ o k2 h2_) (va_cwS 1 S.2.2.2.2 gX7_deleteRange_X7_requireRow rfl rfl rfl hy_X7_requireRow ⟨Nat.le_of_ble_eq_true rfl, Nat.le_of_ble_eq_true rfl⟩) (wPc_S Z) rfl rfl hl.1 rfl (lv_room (Nat.le_of_ble_eq_true rfl)) dX7_deleteRange_1 ⟨Nat.le_of_ble_eq_true rfl, Nat.le_of_ble_eq_true rfl⟩).run (fun h_2 => ?_)
  refine lv_iload_n S.1 S.2.1 dX7_deleteRange_4 rfl (lv_at hl 3 rfl) ?_
  refine va_csv (va_runS (As := [.int (nI k3)]) (rest := []) S (k_X7_requireRow l G σ μ o k3 h3_) (va_cwS 1 S.2.2.2.2 gX7_deleteRange_X7_requireRow rfl rfl rfl hy_X7_requireRow ⟨Nat.le_of_ble_eq_true rfl, Nat.le_of_ble_eq_true rfl⟩) (wPc_S Z) rfl rfl hl.1 rfl (lv_room (Nat.le_of_ble_eq_true rfl)) dX7_deleteRange_5 ⟨Nat.le_of_ble_eq_true rfl, Nat.le_of_ble_eq_true rfl⟩).run (fun h_4 => ?_)
  refine lv_iload_n S.1 S.2.1 dX7_deleteRange_8 rfl (lv_at hl 1 rfl) ?_
  refine lv_iload S.1 S.2.1 dX7_deleteRange_9 (lv_at hl 4 rfl) ?_
  refine va_csv (va_runS (As := [.int (nI k1), .int (nI k4)]) (rest := []) S (k_X7_requireDeletion l G σ μ o k1 k4 h1_ h4_) (va_cwS 2 S.2.2.2.2 gX7_deleteRange_X7_requireDeletion rfl rfl rfl hy_X7_requireDeletion ⟨Nat.le_of_ble_eq_true rfl, Nat.le_of_ble_eq_true rfl⟩) (wPc_S Z) rfl rfl hl.1 rfl (lv_room (Nat.le_of_ble_eq_true rfl)) dX7_deleteRange_11 ⟨Nat.le_of_ble_eq_true rfl, Nat.le_of_ble_eq_true rfl⟩).run (fun h_6 => ?_)
  refine lv_iload_n S.1 S.2.1 dX7_deleteRange_14 rfl (lv_at hl 2 rfl) ?_
  refine lv_iload_n S.1 S.2.1 dX7_deleteRange_15 rfl (lv_at hl 3 rfl) ?_
  refine r_icmpN_gt S (tgt := 23) (by omega) (by omega) dX7_deleteRange_16 (by decide) (fun c_7 => absurd c_7 (by omega)) (fun c_7 => ?_)
  refine lv_iconst (v := nI 1) S.1 S.2.1 dX7_deleteRange_19 (by decide) ?_
  refine lv_goto (tgt := 24) S.1 S.2.1 dX7_deleteRange_20 (by decide) ?_
  refine va_csv (va_runS (As := [.int (bi true)]) (rest := []) S (k_X7_requireArgument l G σ μ o  ) (va_cwS 1 S.2.2.2.2 gX7_deleteRange_X7_requireArgument rfl rfl rfl hy_X7_requireArgument ⟨Nat.le_of_ble_eq_true rfl, Nat.le_of_ble_eq_true rfl⟩) (wPc_S Z) rfl rfl hl.1 rfl (lv_room (Nat.le_of_ble_eq_true rfl)) dX7_deleteRange_24 ⟨Nat.le_of_ble_eq_true rfl, Nat.le_of_ble_eq_true rfl⟩).run (fun h_9 => ?_)
  refine lv_aload_n S.1 S.2.1 dX7_deleteRange_27 rfl (lv_at hl 0 rfl) ?_
  refine r_get (C := RX7) (T := TX7) (N := 7) (ci := 7) S Z (by decide) rfl rfl i_X7_deleteRange_X7 0 (by decide) m_X7_deleteRange_f12 rfl (v := .ref (gA G 1)) rfl dX7_deleteRange_28 ?_
  refine lv_iload_n S.1 S.2.1 dX7_deleteRange_31 rfl (lv_at hl 2 rfl) ?_
  refine lv_iload_n S.1 S.2.1 dX7_deleteRange_32 rfl (lv_at hl 3 rfl) ?_
  refine va_calli (va_runV (As := [.int (nI k2), .int (nI k3)]) (rest := []) S (k_X4_numberOf l G σ μ o k2 k3 ) (cwV 2 S.2.2.2.2 gX7_deleteRange_X4_numberOf rfl rfl rfl ⟨rfl, hy_X4_numberOf⟩ ⟨Nat.le_of_ble_eq_true rfl, Nat.le_of_ble_eq_true rfl⟩) (wPc_V (q := (RX4, TX4, 2)) Z (by decide) rfl rfl) rfl rfl hl.1 rfl (lv_room (Nat.le_of_ble_eq_true rfl)) dX7_deleteRange_33 ⟨Nat.le_of_ble_eq_true rfl, Nat.le_of_ble_eq_true rfl⟩) Z.2.2.2.2 (fun _ _ h => h) (fun _ h => h) (fun r_10 u_11 T9 H1 locs1 hT9 hvm hw hB hz hk9 hS => ?_)
  obtain ⟨hr9, rfl⟩ := hw
  rw [hr9]; clear hr9 r_10
  have Z : wZ G (rgS σ k2 k3) (μ) o s H1 locs1 := wZ_callP Z hB hT9 hS
  clear hB hT9 hS hk9 hz hvm T9
  revert Z; generalize H1 = H; generalize locs1 = locs; intro Z
  refine W.widen (k := 0) (n := 0) (by decide) (by decide) ?_
  refine lv_istore (lv' := [(5, .int (rgR σ k2 k3)), (0, .ref (gA G 0)), (1, .int (nI k1)), (2, .int (nI k2)), (3, .int (nI k3)), (4, .int (nI k4))]) S.1 S.2.1 dX7_deleteRange_36 hl (by decide) rfl (fun ls hl => ?_)
  refine lv_iload S.1 S.2.1 dX7_deleteRange_38 (lv_at hl 0 rfl) ?_
  refine lv_iconst (v := -1) S.1 S.2.1 dX7_deleteRange_40 (by decide) ?_
  refine lv_icmp_eq (tgt := 48) S.1 S.2.1 dX7_deleteRange_41 (by decide) (fun c_12 => ?_) (fun c_12 => absurd c_12 (by exact not_not_intro hz))
  refine lv_iconst (v := nI 0) S.1 S.2.1 dX7_deleteRange_48 (by decide) ?_
  refine x_call (vx_runS (As := [.int (bi false)]) (rest := []) S (k_X7_requireState_X l hst G (rgS σ k2 k3) μ o  ) (va_cwS 1 S.2.2.2.2 gX7_deleteRange_X7_requireState rfl rfl rfl hy_X7_requireState ⟨Nat.le_of_ble_eq_true rfl, Nat.le_of_ble_eq_true rfl⟩) (wPc_S Z) rfl rfl hl.1 rfl (lv_room (Nat.le_of_ble_eq_true rfl)) dX7_deleteRange_49 ⟨Nat.le_of_ble_eq_true rfl, Nat.le_of_ble_eq_true rfl⟩) (fun _ _ _ h => h) Z (fun ce q9 H locs Z h1 h2 h3 => ?_)
  rw [hQ]
  exact x_out hout hlocks Z h1 h2 h3 (by decide) (by decide)

abbrev rm_k_X7_setUp_X1 : Room := { frames := 8, cells := 1, slots := 6, locals := 123 }
set_option maxHeartbeats 4000000 in
set_option maxRecDepth 100000 in
theorem k_X7_setUp_X1 (l : Launch) (hst : l.stackTraces = false) (G : wG) (σ : cS) (μ : mS) (o : Nat → Int64) (x : Int32) (w : Bool) (hx : wi x (nI 2) = false) : vx_Met l yX7_setUp wsX7_setUp rm_k_X7_setUp_X1 (wPc G σ μ o [.ref (gA G 0), .int (x), .int (bi w)]) QX (XX G σ μ o "java/lang/IndexOutOfBoundsException") 1 6 (gP G) := by
  refine vx_ofW (cc := cX7_setUp) (maxL := 4) (ret := (some .int)) (by decide) rfl ?_
  intro p e s m args below meth c s₁ B hml hout hv
  obtain ⟨hargs, hI⟩ := hv
  have S : CallFix p m c cX7_setUp 4 s args wsX7_setUp RX7 := ⟨B.exec, B.bytes, hml, findClass_of_methodNamed B.named, atoms_spec (ws := wsX7_setUp) B.pre⟩
  have hret := B.returns
  have hlocks := B.notSynchronized
  have Z := wZ_0 hI
  clear hI
  obtain ⟨Q, hQ⟩ : ∃ Q, Q = vx_MQ below QX (XX G σ μ o "java/lang/IndexOutOfBoundsException") args s 1 6 (gP G) := ⟨_, rfl⟩
  rw [← hQ]
  have hl := lv_entry [.ref (gA G 0), .int (x), .int (bi w)] (n := 4) (Nat.le_of_ble_eq_true rfl)
  rw [show entryFrame m args 4 = entryFrame m ([.ref (gA G 0), .int (x), .int (bi w)] : List Value).toArray 4 from by rw [hargs], lg_entry_eq]
  generalize (lg_sl [.ref (gA G 0), .int (x), .int (bi w)] ++ List.replicate (4 - (lg_sl [.ref (gA G 0), .int (x), .int (bi w)]).length) Slot.unset).toArray = ls at hl ⊢
  have hl : lv_has ls 4 [(0, .ref (gA G 0)), (1, .int (x)), (2, .int (bi w))] := hl
  refine lv_aload_n S.1 S.2.1 dX7_setUp_0 rfl (lv_at hl 0 rfl) ?_
  refine lv_iload_n S.1 S.2.1 dX7_setUp_1 rfl (lv_at hl 1 rfl) ?_
  refine x_call (vx_runV (As := [.int (x)]) (rest := []) S (k_X7_keeperOf_X l hst G σ μ o x hx) (cwV 1 S.2.2.2.2 gX7_setUp_X7_keeperOf rfl rfl rfl ⟨rfl, hy_X7_keeperOf⟩ ⟨Nat.le_of_ble_eq_true rfl, Nat.le_of_ble_eq_true rfl⟩) (wPc_V (q := (RX7, TX7, 7)) Z (by decide) rfl rfl) rfl rfl hl.1 rfl (lv_room (Nat.le_of_ble_eq_true rfl)) dX7_setUp_2 ⟨Nat.le_of_ble_eq_true rfl, Nat.le_of_ble_eq_true rfl⟩) (fun _ _ _ h => h) Z (fun ce q9 H locs Z h1 h2 h3 => ?_)
  rw [hQ]
  exact x_out hout hlocks Z h1 h2 h3 (by decide) (by decide)

abbrev rm_k_X7_loseHints_X1 : Room := { frames := 8, cells := 1, slots := 6, locals := 123 }
set_option maxHeartbeats 4000000 in
set_option maxRecDepth 100000 in
theorem k_X7_loseHints_X1 (l : Launch) (hst : l.stackTraces = false) (G : wG) (σ : cS) (μ : mS) (o : Nat → Int64) (x : Int32) (hx : wi x (nI 2) = false) : vx_Met l yX7_loseHints wsX7_loseHints rm_k_X7_loseHints_X1 (wPc G σ μ o [.ref (gA G 0), .int (x)]) QX (XX G σ μ o "java/lang/IndexOutOfBoundsException") 1 6 (gP G) := by
  refine vx_ofW (cc := cX7_loseHints) (maxL := 2) (ret := (some .int)) (by decide) rfl ?_
  intro p e s m args below meth c s₁ B hml hout hv
  obtain ⟨hargs, hI⟩ := hv
  have S : CallFix p m c cX7_loseHints 2 s args wsX7_loseHints RX7 := ⟨B.exec, B.bytes, hml, findClass_of_methodNamed B.named, atoms_spec (ws := wsX7_loseHints) B.pre⟩
  have hret := B.returns
  have hlocks := B.notSynchronized
  have Z := wZ_0 hI
  clear hI
  obtain ⟨Q, hQ⟩ : ∃ Q, Q = vx_MQ below QX (XX G σ μ o "java/lang/IndexOutOfBoundsException") args s 1 6 (gP G) := ⟨_, rfl⟩
  rw [← hQ]
  have hl := lv_entry [.ref (gA G 0), .int (x)] (n := 2) (Nat.le_of_ble_eq_true rfl)
  rw [show entryFrame m args 2 = entryFrame m ([.ref (gA G 0), .int (x)] : List Value).toArray 2 from by rw [hargs], lg_entry_eq]
  generalize (lg_sl [.ref (gA G 0), .int (x)] ++ List.replicate (2 - (lg_sl [.ref (gA G 0), .int (x)]).length) Slot.unset).toArray = ls at hl ⊢
  have hl : lv_has ls 2 [(0, .ref (gA G 0)), (1, .int (x))] := hl
  refine lv_aload_n S.1 S.2.1 dX7_loseHints_0 rfl (lv_at hl 0 rfl) ?_
  refine lv_iload_n S.1 S.2.1 dX7_loseHints_1 rfl (lv_at hl 1 rfl) ?_
  refine x_call (vx_runV (As := [.int (x)]) (rest := []) S (k_X7_keeperOf_X l hst G σ μ o x hx) (cwV 1 S.2.2.2.2 gX7_loseHints_X7_keeperOf rfl rfl rfl ⟨rfl, hy_X7_keeperOf⟩ ⟨Nat.le_of_ble_eq_true rfl, Nat.le_of_ble_eq_true rfl⟩) (wPc_V (q := (RX7, TX7, 7)) Z (by decide) rfl rfl) rfl rfl hl.1 rfl (lv_room (Nat.le_of_ble_eq_true rfl)) dX7_loseHints_2 ⟨Nat.le_of_ble_eq_true rfl, Nat.le_of_ble_eq_true rfl⟩) (fun _ _ _ h => h) Z (fun ce q9 H locs Z h1 h2 h3 => ?_)
  rw [hQ]
  exact x_out hout hlocks Z h1 h2 h3 (by decide) (by decide)
