theorem i_X8_time_X8 : ∀ w ∈ wsX80, w ∈ wsX8_time := by decide +kernel
theorem m_X8_time_f54 : Cond.fieldLink RX8 54 "WideCellModel" "thrown" "I" ∈ wsX8_time := by decide +kernel
theorem m_X8_time_f83 : Cond.fieldLink RX8 83 "WideCellModel" "time" "I" ∈ wsX8_time := by decide +kernel
abbrev rm_k_X8_time : Room := { frames := 0, cells := 0, slots := 0, locals := 0 }
set_option maxHeartbeats 4000000 in
set_option maxRecDepth 100000 in
theorem k_X8_time (l : Launch) (G : wG) (σ : cS) (μ : mS) (o : Nat → Int64)   : Met l yX8_time wsX8_time rm_k_X8_time (wPc G σ μ o [.ref (gA G 39)]) (va_Qi (fun (rr : Int32) (u : cS × mS) => rr = mV μ 14 ∧ u = (σ, thr μ 0)) (fun u t => wI G u.1 u.2 o t) (gP G)) 0 0 (gP G) := by
  refine Met.ofW (cc := cX8_time) (maxL := 1) (ret := (some .int)) (by decide) rfl ?_
  intro p e s m args below meth c s₁ B hml hv
  obtain ⟨hargs, hI⟩ := hv
  have S : CallFix p m c cX8_time 1 s args wsX8_time RX8 := ⟨B.exec, B.bytes, hml, findClass_of_methodNamed B.named, atoms_spec (ws := wsX8_time) B.pre⟩
  have hret := B.returns
  have hlocks := B.notSynchronized
  have Z := wZ_0 hI
  clear hI
  obtain ⟨Q, hQ⟩ : ∃ Q, Q = MQ below (va_Qi (fun (rr : Int32) (u : cS × mS) => rr = mV μ 14 ∧ u = (σ, thr μ 0)) (fun u t => wI G u.1 u.2 o t) (gP G)) args s 0 0 (gP G) := ⟨_, rfl⟩
  rw [← hQ]
  have hl := lv_entry [.ref (gA G 39)] (n := 1) (Nat.le_of_ble_eq_true rfl)
  rw [show entryFrame m args 1 = entryFrame m ([.ref (gA G 39)] : List Value).toArray 1 from by rw [hargs], lg_entry_eq]
  generalize (lg_sl [.ref (gA G 39)] ++ List.replicate (1 - (lg_sl [.ref (gA G 39)]).length) Slot.unset).toArray = ls at hl ⊢
  have hl : lv_has ls 1 [(0, .ref (gA G 39))] := hl
  refine lv_aload_n S.1 S.2.1 dX8_time_0 rfl (lv_at hl 0 rfl) ?_
  refine lv_iconst (v := nI 0) S.1 S.2.1 dX8_time_1 (by decide) ?_
  refine r_put (C := RX8) (T := TX8) (N := 19) (ci := 8) (σ' := σ) (μ' := mV' μ 18 (nI 0)) S Z (by decide) rfl rfl i_X8_time_X8 tyX8 tyX8_ok nmX8 18 (by decide) m_X8_time_f54 rfl rfl (ty := .int) (v := .int (nI 0)) (by decide +kernel) rfl rfl (Nat.le_of_ble_eq_true rfl) rfl rfl (sMV18 _) dX8_time_2 (fun H locs Z => ?_)
  refine lv_aload_n S.1 S.2.1 dX8_time_5 rfl (lv_at hl 0 rfl) ?_
  refine r_get (C := RX8) (T := TX8) (N := 19) (ci := 8) S Z (by decide) rfl rfl i_X8_time_X8 14 (by decide) m_X8_time_f83 rfl (v := .int (mV (mV' μ 18 (nI 0)) 14)) rfl dX8_time_6 ?_
  rw [hQ]
  have q8 : (thr μ 0 : mS) = mV' μ 18 (nI 0) := rfl
  rw [← q8] at Z
  exact W.iret (v := mV (mV' μ 18 (nI 0)) 14) S.1 S.2.1 hret (fun _ hT9 hW => ⟨⟨_, (σ, thr μ 0), rfl, ⟨rfl, rfl⟩, wZ_P Z hT9 hW⟩, Z.2.2.2.2.F hT9⟩) Z.2.2.2.2.2.2 dX8_time_9

theorem i_X8_repairs_X8 : ∀ w ∈ wsX80, w ∈ wsX8_repairs := by decide +kernel
theorem m_X8_repairs_f54 : Cond.fieldLink RX8 54 "WideCellModel" "thrown" "I" ∈ wsX8_repairs := by decide +kernel
theorem m_X8_repairs_f120 : Cond.fieldLink RX8 120 "WideCellModel" "repairs" "I" ∈ wsX8_repairs := by decide +kernel
abbrev rm_k_X8_repairs : Room := { frames := 0, cells := 0, slots := 0, locals := 0 }
set_option maxHeartbeats 4000000 in
set_option maxRecDepth 100000 in
theorem k_X8_repairs (l : Launch) (G : wG) (σ : cS) (μ : mS) (o : Nat → Int64)   : Met l yX8_repairs wsX8_repairs rm_k_X8_repairs (wPc G σ μ o [.ref (gA G 39)]) (va_Qi (fun (rr : Int32) (u : cS × mS) => rr = mV μ 16 ∧ u = (σ, thr μ 0)) (fun u t => wI G u.1 u.2 o t) (gP G)) 0 0 (gP G) := by
  refine Met.ofW (cc := cX8_repairs) (maxL := 1) (ret := (some .int)) (by decide) rfl ?_
  intro p e s m args below meth c s₁ B hml hv
  obtain ⟨hargs, hI⟩ := hv
  have S : CallFix p m c cX8_repairs 1 s args wsX8_repairs RX8 := ⟨B.exec, B.bytes, hml, findClass_of_methodNamed B.named, atoms_spec (ws := wsX8_repairs) B.pre⟩
  have hret := B.returns
  have hlocks := B.notSynchronized
  have Z := wZ_0 hI
  clear hI
  obtain ⟨Q, hQ⟩ : ∃ Q, Q = MQ below (va_Qi (fun (rr : Int32) (u : cS × mS) => rr = mV μ 16 ∧ u = (σ, thr μ 0)) (fun u t => wI G u.1 u.2 o t) (gP G)) args s 0 0 (gP G) := ⟨_, rfl⟩
  rw [← hQ]
  have hl := lv_entry [.ref (gA G 39)] (n := 1) (Nat.le_of_ble_eq_true rfl)
  rw [show entryFrame m args 1 = entryFrame m ([.ref (gA G 39)] : List Value).toArray 1 from by rw [hargs], lg_entry_eq]
  generalize (lg_sl [.ref (gA G 39)] ++ List.replicate (1 - (lg_sl [.ref (gA G 39)]).length) Slot.unset).toArray = ls at hl ⊢
  have hl : lv_has ls 1 [(0, .ref (gA G 39))] := hl
  refine lv_aload_n S.1 S.2.1 dX8_repairs_0 rfl (lv_at hl 0 rfl) ?_
  refine lv_iconst (v := nI 0) S.1 S.2.1 dX8_repairs_1 (by decide) ?_
  refine r_put (C := RX8) (T := TX8) (N := 19) (ci := 8) (σ' := σ) (μ' := mV' μ 18 (nI 0)) S Z (by decide) rfl rfl i_X8_repairs_X8 tyX8 tyX8_ok nmX8 18 (by decide) m_X8_repairs_f54 rfl rfl (ty := .int) (v := .int (nI 0)) (by decide +kernel) rfl rfl (Nat.le_of_ble_eq_true rfl) rfl rfl (sMV18 _) dX8_repairs_2 (fun H locs Z => ?_)
  refine lv_aload_n S.1 S.2.1 dX8_repairs_5 rfl (lv_at hl 0 rfl) ?_
  refine r_get (C := RX8) (T := TX8) (N := 19) (ci := 8) S Z (by decide) rfl rfl i_X8_repairs_X8 16 (by decide) m_X8_repairs_f120 rfl (v := .int (mV (mV' μ 18 (nI 0)) 16)) rfl dX8_repairs_6 ?_
  rw [hQ]
  have q8 : (thr μ 0 : mS) = mV' μ 18 (nI 0) := rfl
  rw [← q8] at Z
  exact W.iret (v := mV (mV' μ 18 (nI 0)) 16) S.1 S.2.1 hret (fun _ hT9 hW => ⟨⟨_, (σ, thr μ 0), rfl, ⟨rfl, rfl⟩, wZ_P Z hT9 hW⟩, Z.2.2.2.2.F hT9⟩) Z.2.2.2.2.2.2 dX8_repairs_9

abbrev rm_k_X8_isAsked : Room := { frames := 2, cells := 0, slots := 0, locals := 42 }
set_option maxHeartbeats 4000000 in
set_option maxRecDepth 100000 in
theorem k_X8_isAsked (l : Launch) (G : wG) (σ : cS) (μ : mS) (o : Nat → Int64) (k : Nat) (hk3 : k < 3) : Met l yX8_isAsked wsX8_isAsked rm_k_X8_isAsked (wPc G σ μ o [.ref (gA G 39), .int (nI k)]) (va_Qi (fun (rr : Int32) (u : cS × mS) => rr = bi (true) ∧ u = (σ, thr μ 0)) (fun u t => wI G u.1 u.2 o t) (gP G)) 0 0 (gP G) := by
  refine Met.ofW (cc := cX8_isAsked) (maxL := 2) (ret := (some .boolean)) (by decide) rfl ?_
  intro p e s m args below meth c s₁ B hml hv
  obtain ⟨hargs, hI⟩ := hv
  have S : CallFix p m c cX8_isAsked 2 s args wsX8_isAsked RX8 := ⟨B.exec, B.bytes, hml, findClass_of_methodNamed B.named, atoms_spec (ws := wsX8_isAsked) B.pre⟩
  have hret := B.returns
  have hlocks := B.notSynchronized
  have Z := wZ_0 hI
  clear hI
  obtain ⟨Q, hQ⟩ : ∃ Q, Q = MQ below (va_Qi (fun (rr : Int32) (u : cS × mS) => rr = bi (true) ∧ u = (σ, thr μ 0)) (fun u t => wI G u.1 u.2 o t) (gP G)) args s 0 0 (gP G) := ⟨_, rfl⟩
  rw [← hQ]
  have hl := lv_entry [.ref (gA G 39), .int (nI k)] (n := 2) (Nat.le_of_ble_eq_true rfl)
  rw [show entryFrame m args 2 = entryFrame m ([.ref (gA G 39), .int (nI k)] : List Value).toArray 2 from by rw [hargs], lg_entry_eq]
  generalize (lg_sl [.ref (gA G 39), .int (nI k)] ++ List.replicate (2 - (lg_sl [.ref (gA G 39), .int (nI k)]).length) Slot.unset).toArray = ls at hl ⊢
  have hl : lv_has ls 2 [(0, .ref (gA G 39)), (1, .int (nI k))] := hl
  refine lv_aload_n S.1 S.2.1 dX8_isAsked_0 rfl (lv_at hl 0 rfl) ?_
  refine lv_iload_n S.1 S.2.1 dX8_isAsked_1 rfl (lv_at hl 1 rfl) ?_
  refine vp_callSi (va_runS (As := [.int (nI k)]) (rest := [.ref (gA G 39)]) S (k_X8_isCopy l G σ μ o (nI k) ) (va_cwS 1 S.2.2.2.2 gX8_isAsked_X8_isCopy rfl rfl rfl hy_X8_isCopy ⟨Nat.le_of_ble_eq_true rfl, Nat.le_of_ble_eq_true rfl⟩) (wPc_S Z) rfl rfl hl.1 rfl (lv_room (Nat.le_of_ble_eq_true rfl)) dX8_isAsked_2 ⟨Nat.le_of_ble_eq_true rfl, Nat.le_of_ble_eq_true rfl⟩).run (fun r_1 h_2 => ?_)
  rw [h_2]; clear h_2 r_1
  refine r_if_eqB S (tgt := 12) dX8_isAsked_5 (by decide) (fun c_3 => absurd c_3 (by rw [isCopyB_ok hk3]; decide)) (fun c_3 => ?_)
  refine lv_iconst (v := nI 0) S.1 S.2.1 dX8_isAsked_8 (by decide) ?_
  refine lv_goto (tgt := 13) S.1 S.2.1 dX8_isAsked_9 (by decide) ?_
  refine va_calli (va_runV (As := [.int (nI 0)]) (rest := []) S (k_X8_can l G σ μ o 0 (by omega)) (cwV 1 S.2.2.2.2 gX8_isAsked_X8_can rfl rfl rfl ⟨rfl, hy_X8_can⟩ ⟨Nat.le_of_ble_eq_true rfl, Nat.le_of_ble_eq_true rfl⟩) (wPc_V (q := (RX8, TX8, 19)) Z (by decide) rfl rfl) rfl rfl hl.1 rfl (lv_room (Nat.le_of_ble_eq_true rfl)) dX8_isAsked_13 ⟨Nat.le_of_ble_eq_true rfl, Nat.le_of_ble_eq_true rfl⟩) Z.2.2.2.2 (fun _ _ h => h) (fun _ h => h) (fun r_4 u_5 T9 H1 locs1 hT9 hvm hw hB hz hk9 hS => ?_)
  obtain ⟨hr9, rfl⟩ := hw
  rw [hr9]; clear hr9 r_4
  have Z : wZ G (σ) (thr μ 0) o s H1 locs1 := wZ_callP Z hB hT9 hS
  clear hB hT9 hS hk9 hz hvm T9
  revert Z; generalize H1 = H; generalize locs1 = locs; intro Z
  refine W.widen (k := 0) (n := 0) (by decide) (by decide) ?_
  rw [hQ]
  exact W.zret (v := bi (decide (0 = 0))) S.1 S.2.1 hret (bi_nar _) (fun _ hT9 hW => ⟨⟨_, (σ, thr μ 0), rfl, ⟨rfl, rfl⟩, wZ_P Z hT9 hW⟩, Z.2.2.2.2.F hT9⟩) Z.2.2.2.2.2.2 dX8_isAsked_16

abbrev rm_k_X8_isAsked_B : Room := { frames := 2, cells := 0, slots := 0, locals := 42 }
set_option maxHeartbeats 4000000 in
set_option maxRecDepth 100000 in
theorem k_X8_isAsked_B (l : Launch) (G : wG) (σ : cS) (μ : mS) (o : Nat → Int64) (x : Int32) (hb : isCopyB x = false) : Met l yX8_isAsked wsX8_isAsked rm_k_X8_isAsked_B (wPc G σ μ o [.ref (gA G 39), .int (x)]) (va_Qi (fun (rr : Int32) (u : cS × mS) => rr = bi (false) ∧ u = (σ, thr μ 1)) (fun u t => wI G u.1 u.2 o t) (gP G)) 0 0 (gP G) := by
  refine Met.ofW (cc := cX8_isAsked) (maxL := 2) (ret := (some .boolean)) (by decide) rfl ?_
  intro p e s m args below meth c s₁ B hml hv
  obtain ⟨hargs, hI⟩ := hv
  have S : CallFix p m c cX8_isAsked 2 s args wsX8_isAsked RX8 := ⟨B.exec, B.bytes, hml, findClass_of_methodNamed B.named, atoms_spec (ws := wsX8_isAsked) B.pre⟩
  have hret := B.returns
  have hlocks := B.notSynchronized
  have Z := wZ_0 hI
  clear hI
  obtain ⟨Q, hQ⟩ : ∃ Q, Q = MQ below (va_Qi (fun (rr : Int32) (u : cS × mS) => rr = bi (false) ∧ u = (σ, thr μ 1)) (fun u t => wI G u.1 u.2 o t) (gP G)) args s 0 0 (gP G) := ⟨_, rfl⟩
  rw [← hQ]
  have hl := lv_entry [.ref (gA G 39), .int (x)] (n := 2) (Nat.le_of_ble_eq_true rfl)
  rw [show entryFrame m args 2 = entryFrame m ([.ref (gA G 39), .int (x)] : List Value).toArray 2 from by rw [hargs], lg_entry_eq]
  generalize (lg_sl [.ref (gA G 39), .int (x)] ++ List.replicate (2 - (lg_sl [.ref (gA G 39), .int (x)]).length) Slot.unset).toArray = ls at hl ⊢
  have hl : lv_has ls 2 [(0, .ref (gA G 39)), (1, .int (x))] := hl
  refine lv_aload_n S.1 S.2.1 dX8_isAsked_0 rfl (lv_at hl 0 rfl) ?_
  refine lv_iload_n S.1 S.2.1 dX8_isAsked_1 rfl (lv_at hl 1 rfl) ?_
  refine vp_callSi (va_runS (As := [.int (x)]) (rest := [.ref (gA G 39)]) S (k_X8_isCopy l G σ μ o x ) (va_cwS 1 S.2.2.2.2 gX8_isAsked_X8_isCopy rfl rfl rfl hy_X8_isCopy ⟨Nat.le_of_ble_eq_true rfl, Nat.le_of_ble_eq_true rfl⟩) (wPc_S Z) rfl rfl hl.1 rfl (lv_room (Nat.le_of_ble_eq_true rfl)) dX8_isAsked_2 ⟨Nat.le_of_ble_eq_true rfl, Nat.le_of_ble_eq_true rfl⟩).run (fun r_1 h_2 => ?_)
  rw [h_2]; clear h_2 r_1
  refine r_if_eqB S (tgt := 12) dX8_isAsked_5 (by decide) (fun c_3 => ?_) (fun c_3 => absurd c_3 (by rw [hb]; decide))
  refine lv_iconst (v := nI 1) S.1 S.2.1 dX8_isAsked_12 (by decide) ?_
  refine va_calli (va_runV (As := [.int (nI 1)]) (rest := []) S (k_X8_can l G σ μ o 1 (by omega)) (cwV 1 S.2.2.2.2 gX8_isAsked_X8_can rfl rfl rfl ⟨rfl, hy_X8_can⟩ ⟨Nat.le_of_ble_eq_true rfl, Nat.le_of_ble_eq_true rfl⟩) (wPc_V (q := (RX8, TX8, 19)) Z (by decide) rfl rfl) rfl rfl hl.1 rfl (lv_room (Nat.le_of_ble_eq_true rfl)) dX8_isAsked_13 ⟨Nat.le_of_ble_eq_true rfl, Nat.le_of_ble_eq_true rfl⟩) Z.2.2.2.2 (fun _ _ h => h) (fun _ h => h) (fun r_4 u_5 T9 H1 locs1 hT9 hvm hw hB hz hk9 hS => ?_)
  obtain ⟨hr9, rfl⟩ := hw
  rw [hr9]; clear hr9 r_4
  have Z : wZ G (σ) (thr μ 1) o s H1 locs1 := wZ_callP Z hB hT9 hS
  clear hB hT9 hS hk9 hz hvm T9
  revert Z; generalize H1 = H; generalize locs1 = locs; intro Z
  refine W.widen (k := 0) (n := 0) (by decide) (by decide) ?_
  rw [hQ]
  exact W.zret (v := bi (decide (1 = 0))) S.1 S.2.1 hret (bi_nar _) (fun _ hT9 hW => ⟨⟨_, (σ, thr μ 1), rfl, ⟨rfl, rfl⟩, wZ_P Z hT9 hW⟩, Z.2.2.2.2.F hT9⟩) Z.2.2.2.2.2.2 dX8_isAsked_16

abbrev rm_k_X8_areAsked : Room := { frames := 2, cells := 0, slots := 0, locals := 43 }
set_option maxHeartbeats 4000000 in
set_option maxRecDepth 100000 in
theorem k_X8_areAsked (l : Launch) (G : wG) (σ : cS) (μ : mS) (o : Nat → Int64) (k : Nat) (row : Nat) (col : Nat) (hk3 : k < 3) (hrow : row < 16) (hcol : col < 4) : Met l yX8_areAsked wsX8_areAsked rm_k_X8_areAsked (wPc G σ μ o [.ref (gA G 39), .int (nI k), .int (nI row), .int (nI col)]) (va_Qi (fun (rr : Int32) (u : cS × mS) => rr = bi (true) ∧ u = (σ, thr μ 0)) (fun u t => wI G u.1 u.2 o t) (gP G)) 0 0 (gP G) := by
  refine Met.ofW (cc := cX8_areAsked) (maxL := 4) (ret := (some .boolean)) (by decide) rfl ?_
  intro p e s m args below meth c s₁ B hml hv
  obtain ⟨hargs, hI⟩ := hv
  have S : CallFix p m c cX8_areAsked 4 s args wsX8_areAsked RX8 := ⟨B.exec, B.bytes, hml, findClass_of_methodNamed B.named, atoms_spec (ws := wsX8_areAsked) B.pre⟩
  have hret := B.returns
  have hlocks := B.notSynchronized
  have Z := wZ_0 hI
  clear hI
  obtain ⟨Q, hQ⟩ : ∃ Q, Q = MQ below (va_Qi (fun (rr : Int32) (u : cS × mS) => rr = bi (true) ∧ u = (σ, thr μ 0)) (fun u t => wI G u.1 u.2 o t) (gP G)) args s 0 0 (gP G) := ⟨_, rfl⟩
  rw [← hQ]
  have hl := lv_entry [.ref (gA G 39), .int (nI k), .int (nI row), .int (nI col)] (n := 4) (Nat.le_of_ble_eq_true rfl)
  rw [show entryFrame m args 4 = entryFrame m ([.ref (gA G 39), .int (nI k), .int (nI row), .int (nI col)] : List Value).toArray 4 from by rw [hargs], lg_entry_eq]
  generalize (lg_sl [.ref (gA G 39), .int (nI k), .int (nI row), .int (nI col)] ++ List.replicate (4 - (lg_sl [.ref (gA G 39), .int (nI k), .int (nI row), .int (nI col)]).length) Slot.unset).toArray = ls at hl ⊢
  have hl : lv_has ls 4 [(0, .ref (gA G 39)), (1, .int (nI k)), (2, .int (nI row)), (3, .int (nI col))] := hl
  refine lv_aload_n S.1 S.2.1 dX8_areAsked_0 rfl (lv_at hl 0 rfl) ?_
  refine lv_iload_n S.1 S.2.1 dX8_areAsked_1 rfl (lv_at hl 1 rfl) ?_
  refine vp_callSi (va_runS (As := [.int (nI k)]) (rest := [.ref (gA G 39)]) S (k_X8_isCopy l G σ μ o (nI k) ) (va_cwS 1 S.2.2.2.2 gX8_areAsked_X8_isCopy rfl rfl rfl hy_X8_isCopy ⟨Nat.le_of_ble_eq_true rfl, Nat.le_of_ble_eq_true rfl⟩) (wPc_S Z) rfl rfl hl.1 rfl (lv_room (Nat.le_of_ble_eq_true rfl)) dX8_areAsked_2 ⟨Nat.le_of_ble_eq_true rfl, Nat.le_of_ble_eq_true rfl⟩).run (fun r_1 h_2 => ?_)
  rw [h_2]; clear h_2 r_1
  refine r_if_eqB S (tgt := 20) dX8_areAsked_5 (by decide) (fun c_3 => absurd c_3 (by rw [isCopyB_ok hk3]; decide)) (fun c_3 => ?_)
  refine lv_iload_n S.1 S.2.1 dX8_areAsked_8 rfl (lv_at hl 2 rfl) ?_
  refine lv_iload_n S.1 S.2.1 dX8_areAsked_9 rfl (lv_at hl 3 rfl) ?_
  refine vp_callSi (va_runS (As := [.int (nI row), .int (nI col)]) (rest := [.ref (gA G 39)]) S (k_X8_isCell l G σ μ o (nI row) (nI col) ) (va_cwS 2 S.2.2.2.2 gX8_areAsked_X8_isCell rfl rfl rfl hy_X8_isCell ⟨Nat.le_of_ble_eq_true rfl, Nat.le_of_ble_eq_true rfl⟩) (wPc_S Z) rfl rfl hl.1 rfl (lv_room (Nat.le_of_ble_eq_true rfl)) dX8_areAsked_10 ⟨Nat.le_of_ble_eq_true rfl, Nat.le_of_ble_eq_true rfl⟩).run (fun r_4 h_5 => ?_)
  rw [h_5]; clear h_5 r_4
  refine r_if_eqB S (tgt := 20) dX8_areAsked_13 (by decide) (fun c_6 => absurd c_6 (by rw [isCellB_ok hrow hcol]; decide)) (fun c_6 => ?_)
  refine lv_iconst (v := nI 0) S.1 S.2.1 dX8_areAsked_16 (by decide) ?_
  refine lv_goto (tgt := 21) S.1 S.2.1 dX8_areAsked_17 (by decide) ?_
  refine va_calli (va_runV (As := [.int (nI 0)]) (rest := []) S (k_X8_can l G σ μ o 0 (by omega)) (cwV 1 S.2.2.2.2 gX8_areAsked_X8_can rfl rfl rfl ⟨rfl, hy_X8_can⟩ ⟨Nat.le_of_ble_eq_true rfl, Nat.le_of_ble_eq_true rfl⟩) (wPc_V (q := (RX8, TX8, 19)) Z (by decide) rfl rfl) rfl rfl hl.1 rfl (lv_room (Nat.le_of_ble_eq_true rfl)) dX8_areAsked_21 ⟨Nat.le_of_ble_eq_true rfl, Nat.le_of_ble_eq_true rfl⟩) Z.2.2.2.2 (fun _ _ h => h) (fun _ h => h) (fun r_7 u_8 T9 H1 locs1 hT9 hvm hw hB hz hk9 hS => ?_)
  obtain ⟨hr9, rfl⟩ := hw
  rw [hr9]; clear hr9 r_7
  have Z : wZ G (σ) (thr μ 0) o s H1 locs1 := wZ_callP Z hB hT9 hS
  clear hB hT9 hS hk9 hz hvm T9
  revert Z; generalize H1 = H; generalize locs1 = locs; intro Z
  refine W.widen (k := 0) (n := 0) (by decide) (by decide) ?_
  rw [hQ]
  exact W.zret (v := bi (decide (0 = 0))) S.1 S.2.1 hret (bi_nar _) (fun _ hT9 hW => ⟨⟨_, (σ, thr μ 0), rfl, ⟨rfl, rfl⟩, wZ_P Z hT9 hW⟩, Z.2.2.2.2.F hT9⟩) Z.2.2.2.2.2.2 dX8_areAsked_24

abbrev rm_k_X8_areAsked_B : Room := { frames := 2, cells := 0, slots := 0, locals := 43 }
set_option maxHeartbeats 4000000 in
set_option maxRecDepth 100000 in
theorem k_X8_areAsked_B (l : Launch) (G : wG) (σ : cS) (μ : mS) (o : Nat → Int64) (x : Int32) (y : Int32) (z : Int32) (hb : (isCopyB x && isCellB y z) = false) : Met l yX8_areAsked wsX8_areAsked rm_k_X8_areAsked_B (wPc G σ μ o [.ref (gA G 39), .int (x), .int (y), .int (z)]) (va_Qi (fun (rr : Int32) (u : cS × mS) => rr = bi (false) ∧ u = (σ, thr μ 1)) (fun u t => wI G u.1 u.2 o t) (gP G)) 0 0 (gP G) := by
  refine Met.ofW (cc := cX8_areAsked) (maxL := 4) (ret := (some .boolean)) (by decide) rfl ?_
  intro p e s m args below meth c s₁ B hml hv
  obtain ⟨hargs, hI⟩ := hv
  have S : CallFix p m c cX8_areAsked 4 s args wsX8_areAsked RX8 := ⟨B.exec, B.bytes, hml, findClass_of_methodNamed B.named, atoms_spec (ws := wsX8_areAsked) B.pre⟩
  have hret := B.returns
  have hlocks := B.notSynchronized
  have Z := wZ_0 hI
  clear hI
  obtain ⟨Q, hQ⟩ : ∃ Q, Q = MQ below (va_Qi (fun (rr : Int32) (u : cS × mS) => rr = bi (false) ∧ u = (σ, thr μ 1)) (fun u t => wI G u.1 u.2 o t) (gP G)) args s 0 0 (gP G) := ⟨_, rfl⟩
  rw [← hQ]
  have hl := lv_entry [.ref (gA G 39), .int (x), .int (y), .int (z)] (n := 4) (Nat.le_of_ble_eq_true rfl)
  rw [show entryFrame m args 4 = entryFrame m ([.ref (gA G 39), .int (x), .int (y), .int (z)] : List Value).toArray 4 from by rw [hargs], lg_entry_eq]
  generalize (lg_sl [.ref (gA G 39), .int (x), .int (y), .int (z)] ++ List.replicate (4 - (lg_sl [.ref (gA G 39), .int (x), .int (y), .int (z)]).length) Slot.unset).toArray = ls at hl ⊢
  have hl : lv_has ls 4 [(0, .ref (gA G 39)), (1, .int (x)), (2, .int (y)), (3, .int (z))] := hl
  refine lv_aload_n S.1 S.2.1 dX8_areAsked_0 rfl (lv_at hl 0 rfl) ?_
  refine lv_iload_n S.1 S.2.1 dX8_areAsked_1 rfl (lv_at hl 1 rfl) ?_
  refine vp_callSi (va_runS (As := [.int (x)]) (rest := [.ref (gA G 39)]) S (k_X8_isCopy l G σ μ o x ) (va_cwS 1 S.2.2.2.2 gX8_areAsked_X8_isCopy rfl rfl rfl hy_X8_isCopy ⟨Nat.le_of_ble_eq_true rfl, Nat.le_of_ble_eq_true rfl⟩) (wPc_S Z) rfl rfl hl.1 rfl (lv_room (Nat.le_of_ble_eq_true rfl)) dX8_areAsked_2 ⟨Nat.le_of_ble_eq_true rfl, Nat.le_of_ble_eq_true rfl⟩).run (fun r_1 h_2 => ?_)
  rw [h_2]; clear h_2 r_1
  refine r_if_eqB S (tgt := 20) dX8_areAsked_5 (by decide) (fun c_3 => ?_) (fun c_3 => ?_)
  · skip
    refine lv_iconst (v := nI 1) S.1 S.2.1 dX8_areAsked_20 (by decide) ?_
    refine va_calli (va_runV (As := [.int (nI 1)]) (rest := []) S (k_X8_can l G σ μ o 1 (by omega)) (cwV 1 S.2.2.2.2 gX8_areAsked_X8_can rfl rfl rfl ⟨rfl, hy_X8_can⟩ ⟨Nat.le_of_ble_eq_true rfl, Nat.le_of_ble_eq_true rfl⟩) (wPc_V (q := (RX8, TX8, 19)) Z (by decide) rfl rfl) rfl rfl hl.1 rfl (lv_room (Nat.le_of_ble_eq_true rfl)) dX8_areAsked_21 ⟨Nat.le_of_ble_eq_true rfl, Nat.le_of_ble_eq_true rfl⟩) Z.2.2.2.2 (fun _ _ h => h) (fun _ h => h) (fun r_4 u_5 T9 H1 locs1 hT9 hvm hw hB hz hk9 hS => ?_)
    obtain ⟨hr9, rfl⟩ := hw
    rw [hr9]; clear hr9 r_4
    have Z : wZ G (σ) (thr μ 1) o s H1 locs1 := wZ_callP Z hB hT9 hS
    clear hB hT9 hS hk9 hz hvm T9
    revert Z; generalize H1 = H; generalize locs1 = locs; intro Z
    refine W.widen (k := 0) (n := 0) (by decide) (by decide) ?_
    rw [hQ]
    exact W.zret (v := bi (decide (1 = 0))) S.1 S.2.1 hret (bi_nar _) (fun _ hT9 hW => ⟨⟨_, (σ, thr μ 1), rfl, ⟨rfl, rfl⟩, wZ_P Z hT9 hW⟩, Z.2.2.2.2.F hT9⟩) Z.2.2.2.2.2.2 dX8_areAsked_24
  · skip
    refine lv_iload_n S.1 S.2.1 dX8_areAsked_8 rfl (lv_at hl 2 rfl) ?_
    refine lv_iload_n S.1 S.2.1 dX8_areAsked_9 rfl (lv_at hl 3 rfl) ?_
    refine vp_callSi (va_runS (As := [.int (y), .int (z)]) (rest := [.ref (gA G 39)]) S (k_X8_isCell l G σ μ o y z ) (va_cwS 2 S.2.2.2.2 gX8_areAsked_X8_isCell rfl rfl rfl hy_X8_isCell ⟨Nat.le_of_ble_eq_true rfl, Nat.le_of_ble_eq_true rfl⟩) (wPc_S Z) rfl rfl hl.1 rfl (lv_room (Nat.le_of_ble_eq_true rfl)) dX8_areAsked_10 ⟨Nat.le_of_ble_eq_true rfl, Nat.le_of_ble_eq_true rfl⟩).run (fun r_6 h_7 => ?_)
    rw [h_7]; clear h_7 r_6
    refine r_if_eqB S (tgt := 20) dX8_areAsked_13 (by decide) (fun c_8 => ?_) (fun c_8 => absurd c_8 (by simp_all))
    refine lv_iconst (v := nI 1) S.1 S.2.1 dX8_areAsked_20 (by decide) ?_
    refine va_calli (va_runV (As := [.int (nI 1)]) (rest := []) S (k_X8_can l G σ μ o 1 (by omega)) (cwV 1 S.2.2.2.2 gX8_areAsked_X8_can rfl rfl rfl ⟨rfl, hy_X8_can⟩ ⟨Nat.le_of_ble_eq_true rfl, Nat.le_of_ble_eq_true rfl⟩) (wPc_V (q := (RX8, TX8, 19)) Z (by decide) rfl rfl) rfl rfl hl.1 rfl (lv_room (Nat.le_of_ble_eq_true rfl)) dX8_areAsked_21 ⟨Nat.le_of_ble_eq_true rfl, Nat.le_of_ble_eq_true rfl⟩) Z.2.2.2.2 (fun _ _ h => h) (fun _ h => h) (fun r_9 u_10 T9 H1 locs1 hT9 hvm hw hB hz hk9 hS => ?_)
    obtain ⟨hr9, rfl⟩ := hw
    rw [hr9]; clear hr9 r_9
    have Z : wZ G (σ) (thr μ 1) o s H1 locs1 := wZ_callP Z hB hT9 hS
    clear hB hT9 hS hk9 hz hvm T9
    revert Z; generalize H1 = H; generalize locs1 = locs; intro Z
    refine W.widen (k := 0) (n := 0) (by decide) (by decide) ?_
    rw [hQ]
    exact W.zret (v := bi (decide (1 = 0))) S.1 S.2.1 hret (bi_nar _) (fun _ hT9 hW => ⟨⟨_, (σ, thr μ 1), rfl, ⟨rfl, rfl⟩, wZ_P Z hT9 hW⟩, Z.2.2.2.2.F hT9⟩) Z.2.2.2.2.2.2 dX8_areAsked_24

theorem i_X8_isUp_X8 : ∀ w ∈ wsX80, w ∈ wsX8_isUp := by decide +kernel
theorem m_X8_isUp_f31 : Cond.fieldLink RX8 31 "WideCellModel" "isUp" "[Z" ∈ wsX8_isUp := by decide +kernel
abbrev rm_k_X8_isUp : Room := { frames := 3, cells := 0, slots := 0, locals := 63 }
set_option maxHeartbeats 4000000 in
set_option maxRecDepth 100000 in
theorem k_X8_isUp (l : Launch) (G : wG) (σ : cS) (μ : mS) (o : Nat → Int64) (k : Nat) (hk3 : k < 3) : Met l yX8_isUp wsX8_isUp rm_k_X8_isUp (wPc G σ μ o [.ref (gA G 39), .int (nI k)]) (va_Qi (fun (rr : Int32) (u : cS × mS) => rr = bi (mU (thr μ 0) k) ∧ u = (σ, thr μ 0)) (fun u t => wI G u.1 u.2 o t) (gP G)) 0 0 (gP G) := by
  refine Met.ofW (cc := cX8_isUp) (maxL := 2) (ret := (some .boolean)) (by decide) rfl ?_
  intro p e s m args below meth c s₁ B hml hv
  obtain ⟨hargs, hI⟩ := hv
  have S : CallFix p m c cX8_isUp 2 s args wsX8_isUp RX8 := ⟨B.exec, B.bytes, hml, findClass_of_methodNamed B.named, atoms_spec (ws := wsX8_isUp) B.pre⟩
  have hret := B.returns
  have hlocks := B.notSynchronized
  have Z := wZ_0 hI
  clear hI
  obtain ⟨Q, hQ⟩ : ∃ Q, Q = MQ below (va_Qi (fun (rr : Int32) (u : cS × mS) => rr = bi (mU (thr μ 0) k) ∧ u = (σ, thr μ 0)) (fun u t => wI G u.1 u.2 o t) (gP G)) args s 0 0 (gP G) := ⟨_, rfl⟩
  rw [← hQ]
  have hl := lv_entry [.ref (gA G 39), .int (nI k)] (n := 2) (Nat.le_of_ble_eq_true rfl)
  rw [show entryFrame m args 2 = entryFrame m ([.ref (gA G 39), .int (nI k)] : List Value).toArray 2 from by rw [hargs], lg_entry_eq]
  generalize (lg_sl [.ref (gA G 39), .int (nI k)] ++ List.replicate (2 - (lg_sl [.ref (gA G 39), .int (nI k)]).length) Slot.unset).toArray = ls at hl ⊢
  have hl : lv_has ls 2 [(0, .ref (gA G 39)), (1, .int (nI k))] := hl
  refine lv_aload_n S.1 S.2.1 dX8_isUp_0 rfl (lv_at hl 0 rfl) ?_
  refine lv_iload_n S.1 S.2.1 dX8_isUp_1 rfl (lv_at hl 1 rfl) ?_
  refine va_calli (va_runV (As := [.int (nI k)]) (rest := []) S (k_X8_isAsked l G σ μ o k (by omega)) (cwV 1 S.2.2.2.2 gX8_isUp_X8_isAsked rfl rfl rfl ⟨rfl, hy_X8_isAsked⟩ ⟨Nat.le_of_ble_eq_true rfl, Nat.le_of_ble_eq_true rfl⟩) (wPc_V (q := (RX8, TX8, 19)) Z (by decide) rfl rfl) rfl rfl hl.1 rfl (lv_room (Nat.le_of_ble_eq_true rfl)) dX8_isUp_2 ⟨Nat.le_of_ble_eq_true rfl, Nat.le_of_ble_eq_true rfl⟩) Z.2.2.2.2 (fun _ _ h => h) (fun _ h => h) (fun r_1 u_2 T9 H1 locs1 hT9 hvm hw hB hz hk9 hS => ?_)
  obtain ⟨hr9, rfl⟩ := hw
  rw [hr9]; clear hr9 r_1
  have Z : wZ G (σ) (thr μ 0) o s H1 locs1 := wZ_callP Z hB hT9 hS
  clear hB hT9 hS hk9 hz hvm T9
  revert Z; generalize H1 = H; generalize locs1 = locs; intro Z
  refine W.widen (k := 0) (n := 0) (by decide) (by decide) ?_
  refine r_if_eqB S (tgt := 21) dX8_isUp_5 (by decide) (fun c_3 => absurd c_3 (by decide)) (fun c_3 => ?_)
  refine lv_aload_n S.1 S.2.1 dX8_isUp_8 rfl (lv_at hl 0 rfl) ?_
  refine r_get (C := RX8) (T := TX8) (N := 19) (ci := 8) S Z (by decide) rfl rfl i_X8_isUp_X8 8 (by decide) m_X8_isUp_f31 rfl (v := .ref (gA G 47)) rfl dX8_isUp_9 ?_
  refine lv_iload_n S.1 S.2.1 dX8_isUp_12 rfl (lv_at hl 1 rfl) ?_
  refine r_zald (k := 47) (n := 4) (f := fun j => bi (mU (thr μ 0) j)) S Z (by decide) rfl (by omega) (by decide) dX8_isUp_13 ?_
  refine r_if_eqB S (tgt := 21) dX8_isUp_14 (by decide) (fun c_4 => ?_) (fun c_4 => ?_)
  · skip
    refine lv_iconst (v := nI 0) S.1 S.2.1 dX8_isUp_21 (by decide) ?_
    rw [hQ]
    exact W.zret (v := nI 0) S.1 S.2.1 hret rfl (fun _ hT9 hW => ⟨⟨_, (σ, thr μ 0), rfl, ⟨(by first | (simp [bi, c_4]; done) | (simp [bi, c_4]; omega) | (simp [bi, ← Int32.not_le, c_4]; done) | (simp [bi, eq_true c_4]; done)), rfl⟩, wZ_P Z hT9 hW⟩, Z.2.2.2.2.F hT9⟩) Z.2.2.2.2.2.2 dX8_isUp_22
  · skip
    refine lv_iconst (v := nI 1) S.1 S.2.1 dX8_isUp_17 (by decide) ?_
    refine lv_goto (tgt := 22) S.1 S.2.1 dX8_isUp_18 (by decide) ?_
    rw [hQ]
    exact W.zret (v := nI 1) S.1 S.2.1 hret rfl (fun _ hT9 hW => ⟨⟨_, (σ, thr μ 0), rfl, ⟨(by first | (simp [bi, c_4]; done) | (simp [bi, c_4]; omega) | (simp [bi, ← Int32.not_le, c_4]; done)), rfl⟩, wZ_P Z hT9 hW⟩, Z.2.2.2.2.F hT9⟩) Z.2.2.2.2.2.2 dX8_isUp_22

abbrev rm_k_X8_isUp_B : Room := { frames := 3, cells := 0, slots := 0, locals := 63 }
set_option maxHeartbeats 4000000 in
set_option maxRecDepth 100000 in
theorem k_X8_isUp_B (l : Launch) (G : wG) (σ : cS) (μ : mS) (o : Nat → Int64) (x : Int32) (hb : isCopyB x = false) : Met l yX8_isUp wsX8_isUp rm_k_X8_isUp_B (wPc G σ μ o [.ref (gA G 39), .int (x)]) (va_Qi (fun (rr : Int32) (u : cS × mS) => rr = bi (false) ∧ u = (σ, thr μ 1)) (fun u t => wI G u.1 u.2 o t) (gP G)) 0 0 (gP G) := by
  refine Met.ofW (cc := cX8_isUp) (maxL := 2) (ret := (some .boolean)) (by decide) rfl ?_
  intro p e s m args below meth c s₁ B hml hv
  obtain ⟨hargs, hI⟩ := hv
  have S : CallFix p m c cX8_isUp 2 s args wsX8_isUp RX8 := ⟨B.exec, B.bytes, hml, findClass_of_methodNamed B.named, atoms_spec (ws := wsX8_isUp) B.pre⟩
  have hret := B.returns
  have hlocks := B.notSynchronized
  have Z := wZ_0 hI
  clear hI
  obtain ⟨Q, hQ⟩ : ∃ Q, Q = MQ below (va_Qi (fun (rr : Int32) (u : cS × mS) => rr = bi (false) ∧ u = (σ, thr μ 1)) (fun u t => wI G u.1 u.2 o t) (gP G)) args s 0 0 (gP G) := ⟨_, rfl⟩
  rw [← hQ]
  have hl := lv_entry [.ref (gA G 39), .int (x)] (n := 2) (Nat.le_of_ble_eq_true rfl)
  rw [show entryFrame m args 2 = entryFrame m ([.ref (gA G 39), .int (x)] : List Value).toArray 2 from by rw [hargs], lg_entry_eq]
  generalize (lg_sl [.ref (gA G 39), .int (x)] ++ List.replicate (2 - (lg_sl [.ref (gA G 39), .int (x)]).length) Slot.unset).toArray = ls at hl ⊢
  have hl : lv_has ls 2 [(0, .ref (gA G 39)), (1, .int (x))] := hl
  refine lv_aload_n S.1 S.2.1 dX8_isUp_0 rfl (lv_at hl 0 rfl) ?_
  refine lv_iload_n S.1 S.2.1 dX8_isUp_1 rfl (lv_at hl 1 rfl) ?_
  refine va_calli (va_runV (As := [.int (x)]) (rest := []) S (k_X8_isAsked_B l G σ μ o x hb) (cwV 1 S.2.2.2.2 gX8_isUp_X8_isAsked rfl rfl rfl ⟨rfl, hy_X8_isAsked⟩ ⟨Nat.le_of_ble_eq_true rfl, Nat.le_of_ble_eq_true rfl⟩) (wPc_V (q := (RX8, TX8, 19)) Z (by decide) rfl rfl) rfl rfl hl.1 rfl (lv_room (Nat.le_of_ble_eq_true rfl)) dX8_isUp_2 ⟨Nat.le_of_ble_eq_true rfl, Nat.le_of_ble_eq_true rfl⟩) Z.2.2.2.2 (fun _ _ h => h) (fun _ h => h) (fun r_1 u_2 T9 H1 locs1 hT9 hvm hw hB hz hk9 hS => ?_)
  obtain ⟨hr9, rfl⟩ := hw
  rw [hr9]; clear hr9 r_1
  have Z : wZ G (σ) (thr μ 1) o s H1 locs1 := wZ_callP Z hB hT9 hS
  clear hB hT9 hS hk9 hz hvm T9
  revert Z; generalize H1 = H; generalize locs1 = locs; intro Z
  refine W.widen (k := 0) (n := 0) (by decide) (by decide) ?_
  refine r_if_eqB S (tgt := 21) dX8_isUp_5 (by decide) (fun c_3 => ?_) (fun c_3 => absurd c_3 (by decide))
  refine lv_iconst (v := nI 0) S.1 S.2.1 dX8_isUp_21 (by decide) ?_
  rw [hQ]
  exact W.zret (v := nI 0) S.1 S.2.1 hret rfl (fun _ hT9 hW => ⟨⟨_, (σ, thr μ 1), rfl, ⟨rfl, rfl⟩, wZ_P Z hT9 hW⟩, Z.2.2.2.2.F hT9⟩) Z.2.2.2.2.2.2 dX8_isUp_22

theorem i_X8_hints_X8 : ∀ w ∈ wsX80, w ∈ wsX8_hints := by decide +kernel
theorem m_X8_hints_f35 : Cond.fieldLink RX8 35 "WideCellModel" "hints" "[I" ∈ wsX8_hints := by decide +kernel
abbrev rm_k_X8_hints : Room := { frames := 3, cells := 0, slots := 0, locals := 63 }
set_option maxHeartbeats 4000000 in
set_option maxRecDepth 100000 in
theorem k_X8_hints (l : Launch) (G : wG) (σ : cS) (μ : mS) (o : Nat → Int64) (k : Nat) (hk3 : k < 3) : Met l yX8_hints wsX8_hints rm_k_X8_hints (wPc G σ μ o [.ref (gA G 39), .int (nI k)]) (va_Qi (fun (rr : Int32) (u : cS × mS) => rr = nI (mH μ k) ∧ u = (σ, thr μ 0)) (fun u t => wI G u.1 u.2 o t) (gP G)) 0 0 (gP G) := by
  refine Met.ofW (cc := cX8_hints) (maxL := 2) (ret := (some .int)) (by decide) rfl ?_
  intro p e s m args below meth c s₁ B hml hv
  obtain ⟨hargs, hI⟩ := hv
  have S : CallFix p m c cX8_hints 2 s args wsX8_hints RX8 := ⟨B.exec, B.bytes, hml, findClass_of_methodNamed B.named, atoms_spec (ws := wsX8_hints) B.pre⟩
  have hret := B.returns
  have hlocks := B.notSynchronized
  have Z := wZ_0 hI
  clear hI
  obtain ⟨Q, hQ⟩ : ∃ Q, Q = MQ below (va_Qi (fun (rr : Int32) (u : cS × mS) => rr = nI (mH μ k) ∧ u = (σ, thr μ 0)) (fun u t => wI G u.1 u.2 o t) (gP G)) args s 0 0 (gP G) := ⟨_, rfl⟩
  rw [← hQ]
  have hl := lv_entry [.ref (gA G 39), .int (nI k)] (n := 2) (Nat.le_of_ble_eq_true rfl)
  rw [show entryFrame m args 2 = entryFrame m ([.ref (gA G 39), .int (nI k)] : List Value).toArray 2 from by rw [hargs], lg_entry_eq]
  generalize (lg_sl [.ref (gA G 39), .int (nI k)] ++ List.replicate (2 - (lg_sl [.ref (gA G 39), .int (nI k)]).length) Slot.unset).toArray = ls at hl ⊢
  have hl : lv_has ls 2 [(0, .ref (gA G 39)), (1, .int (nI k))] := hl
  refine lv_aload_n S.1 S.2.1 dX8_hints_0 rfl (lv_at hl 0 rfl) ?_
  refine lv_iload_n S.1 S.2.1 dX8_hints_1 rfl (lv_at hl 1 rfl) ?_
  refine va_calli (va_runV (As := [.int (nI k)]) (rest := []) S (k_X8_isAsked l G σ μ o k (by omega)) (cwV 1 S.2.2.2.2 gX8_hints_X8_isAsked rfl rfl rfl ⟨rfl, hy_X8_isAsked⟩ ⟨Nat.le_of_ble_eq_true rfl, Nat.le_of_ble_eq_true rfl⟩) (wPc_V (q := (RX8, TX8, 19)) Z (by decide) rfl rfl) rfl rfl hl.1 rfl (lv_room (Nat.le_of_ble_eq_true rfl)) dX8_hints_2 ⟨Nat.le_of_ble_eq_true rfl, Nat.le_of_ble_eq_true rfl⟩) Z.2.2.2.2 (fun _ _ h => h) (fun _ h => h) (fun r_1 u_2 T9 H1 locs1 hT9 hvm hw hB hz hk9 hS => ?_)
  obtain ⟨hr9, rfl⟩ := hw
  rw [hr9]; clear hr9 r_1
  have Z : wZ G (σ) (thr μ 0) o s H1 locs1 := wZ_callP Z hB hT9 hS
  clear hB hT9 hS hk9 hz hvm T9
  revert Z; generalize H1 = H; generalize locs1 = locs; intro Z
  refine W.widen (k := 0) (n := 0) (by decide) (by decide) ?_
  refine r_if_eqB S (tgt := 17) dX8_hints_5 (by decide) (fun c_3 => absurd c_3 (by decide)) (fun c_3 => ?_)
  refine lv_aload_n S.1 S.2.1 dX8_hints_8 rfl (lv_at hl 0 rfl) ?_
  refine r_get (C := RX8) (T := TX8) (N := 19) (ci := 8) S Z (by decide) rfl rfl i_X8_hints_X8 9 (by decide) m_X8_hints_f35 rfl (v := .ref (gA G 48)) rfl dX8_hints_9 ?_
  refine lv_iload_n S.1 S.2.1 dX8_hints_12 rfl (lv_at hl 1 rfl) ?_
  refine r_iald (k := 48) (n := 3) (f := fun j => nI (mH (thr μ 0) j)) S Z (by decide) rfl (by omega) (by decide) dX8_hints_13 ?_
  refine lv_goto (tgt := 18) S.1 S.2.1 dX8_hints_14 (by decide) ?_
  rw [hQ]
  exact W.iret (v := nI (mH (thr μ 0) k)) S.1 S.2.1 hret (fun _ hT9 hW => ⟨⟨_, (σ, thr μ 0), rfl, ⟨rfl, rfl⟩, wZ_P Z hT9 hW⟩, Z.2.2.2.2.F hT9⟩) Z.2.2.2.2.2.2 dX8_hints_18

abbrev rm_k_X8_hints_B : Room := { frames := 3, cells := 0, slots := 0, locals := 63 }
set_option maxHeartbeats 4000000 in
set_option maxRecDepth 100000 in
theorem k_X8_hints_B (l : Launch) (G : wG) (σ : cS) (μ : mS) (o : Nat → Int64) (x : Int32) (hb : isCopyB x = false) : Met l yX8_hints wsX8_hints rm_k_X8_hints_B (wPc G σ μ o [.ref (gA G 39), .int (x)]) (va_Qi (fun (rr : Int32) (u : cS × mS) => rr = nI (0) ∧ u = (σ, thr μ 1)) (fun u t => wI G u.1 u.2 o t) (gP G)) 0 0 (gP G) := by
  refine Met.ofW (cc := cX8_hints) (maxL := 2) (ret := (some .int)) (by decide) rfl ?_
  intro p e s m args below meth c s₁ B hml hv
  obtain ⟨hargs, hI⟩ := hv
  have S : CallFix p m c cX8_hints 2 s args wsX8_hints RX8 := ⟨B.exec, B.bytes, hml, findClass_of_methodNamed B.named, atoms_spec (ws := wsX8_hints) B.pre⟩
  have hret := B.returns
  have hlocks := B.notSynchronized
  have Z := wZ_0 hI
  clear hI
  obtain ⟨Q, hQ⟩ : ∃ Q, Q = MQ below (va_Qi (fun (rr : Int32) (u : cS × mS) => rr = nI (0) ∧ u = (σ, thr μ 1)) (fun u t => wI G u.1 u.2 o t) (gP G)) args s 0 0 (gP G) := ⟨_, rfl⟩
  rw [← hQ]
  have hl := lv_entry [.ref (gA G 39), .int (x)] (n := 2) (Nat.le_of_ble_eq_true rfl)
  rw [show entryFrame m args 2 = entryFrame m ([.ref (gA G 39), .int (x)] : List Value).toArray 2 from by rw [hargs], lg_entry_eq]
  generalize (lg_sl [.ref (gA G 39), .int (x)] ++ List.replicate (2 - (lg_sl [.ref (gA G 39), .int (x)]).length) Slot.unset).toArray = ls at hl ⊢
  have hl : lv_has ls 2 [(0, .ref (gA G 39)), (1, .int (x))] := hl
  refine lv_aload_n S.1 S.2.1 dX8_hints_0 rfl (lv_at hl 0 rfl) ?_
  refine lv_iload_n S.1 S.2.1 dX8_hints_1 rfl (lv_at hl 1 rfl) ?_
  refine va_calli (va_runV (As := [.int (x)]) (rest := []) S (k_X8_isAsked_B l G σ μ o x hb) (cwV 1 S.2.2.2.2 gX8_hints_X8_isAsked rfl rfl rfl ⟨rfl, hy_X8_isAsked⟩ ⟨Nat.le_of_ble_eq_true rfl, Nat.le_of_ble_eq_true rfl⟩) (wPc_V (q := (RX8, TX8, 19)) Z (by decide) rfl rfl) rfl rfl hl.1 rfl (lv_room (Nat.le_of_ble_eq_true rfl)) dX8_hints_2 ⟨Nat.le_of_ble_eq_true rfl, Nat.le_of_ble_eq_true rfl⟩) Z.2.2.2.2 (fun _ _ h => h) (fun _ h => h) (fun r_1 u_2 T9 H1 locs1 hT9 hvm hw hB hz hk9 hS => ?_)
  obtain ⟨hr9, rfl⟩ := hw
  rw [hr9]; clear hr9 r_1
  have Z : wZ G (σ) (thr μ 1) o s H1 locs1 := wZ_callP Z hB hT9 hS
  clear hB hT9 hS hk9 hz hvm T9
  revert Z; generalize H1 = H; generalize locs1 = locs; intro Z
  refine W.widen (k := 0) (n := 0) (by decide) (by decide) ?_
  refine r_if_eqB S (tgt := 17) dX8_hints_5 (by decide) (fun c_3 => ?_) (fun c_3 => absurd c_3 (by decide))
  refine lv_iconst (v := nI 0) S.1 S.2.1 dX8_hints_17 (by decide) ?_
  rw [hQ]
  exact W.iret (v := nI 0) S.1 S.2.1 hret (fun _ hT9 hW => ⟨⟨_, (σ, thr μ 1), rfl, ⟨rfl, rfl⟩, wZ_P Z hT9 hW⟩, Z.2.2.2.2.F hT9⟩) Z.2.2.2.2.2.2 dX8_hints_18

abbrev rm_k_X8_valueAt : Room := { frames := 4, cells := 0, slots := 0, locals := 96 }
set_option maxHeartbeats 4000000 in
set_option maxRecDepth 100000 in
theorem k_X8_valueAt (l : Launch) (G : wG) (σ : cS) (μ : mS) (o : Nat → Int64) (k : Nat) (row : Nat) (col : Nat) (hk3 : k < 3) (hrow : row < 16) (hcol : col < 4) (hmr : mR μ ≤ 8) : Met l yX8_valueAt wsX8_valueAt rm_k_X8_valueAt (wPc G σ μ o [.ref (gA G 39), .int (nI k), .int (nI row), .int (nI col)]) (va_Qi (fun (rr : Int32) (u : cS × mS) => rr = seeM (thr μ 0) k row col ∧ u = (σ, thr μ 0)) (fun u t => wI G u.1 u.2 o t) (gP G)) 0 0 (gP G) := by
  refine Met.ofW (cc := cX8_valueAt) (maxL := 4) (ret := (some .int)) (by decide) rfl ?_
  intro p e s m args below meth c s₁ B hml hv
  obtain ⟨hargs, hI⟩ := hv
  have S : CallFix p m c cX8_valueAt 4 s args wsX8_valueAt RX8 := ⟨B.exec, B.bytes, hml, findClass_of_methodNamed B.named, atoms_spec (ws := wsX8_valueAt) B.pre⟩
  have hret := B.returns
  have hlocks := B.notSynchronized
  have Z := wZ_0 hI
  clear hI
  obtain ⟨Q, hQ⟩ : ∃ Q, Q = MQ below (va_Qi (fun (rr : Int32) (u : cS × mS) => rr = seeM (thr μ 0) k row col ∧ u = (σ, thr μ 0)) (fun u t => wI G u.1 u.2 o t) (gP G)) args s 0 0 (gP G) := ⟨_, rfl⟩
  rw [← hQ]
  have hl := lv_entry [.ref (gA G 39), .int (nI k), .int (nI row), .int (nI col)] (n := 4) (Nat.le_of_ble_eq_true rfl)
  rw [show entryFrame m args 4 = entryFrame m ([.ref (gA G 39), .int (nI k), .int (nI row), .int (nI col)] : List Value).toArray 4 from by rw [hargs], lg_entry_eq]
  generalize (lg_sl [.ref (gA G 39), .int (nI k), .int (nI row), .int (nI col)] ++ List.replicate (4 - (lg_sl [.ref (gA G 39), .int (nI k), .int (nI row), .int (nI col)]).length) Slot.unset).toArray = ls at hl ⊢
  have hl : lv_has ls 4 [(0, .ref (gA G 39)), (1, .int (nI k)), (2, .int (nI row)), (3, .int (nI col))] := hl
  refine lv_aload_n S.1 S.2.1 dX8_valueAt_0 rfl (lv_at hl 0 rfl) ?_
  refine lv_iload_n S.1 S.2.1 dX8_valueAt_1 rfl (lv_at hl 1 rfl) ?_
  refine lv_iload_n S.1 S.2.1 dX8_valueAt_2 rfl (lv_at hl 2 rfl) ?_
  refine lv_iload_n S.1 S.2.1 dX8_valueAt_3 rfl (lv_at hl 3 rfl) ?_
  refine va_calli (va_runV (As := [.int (nI k), .int (nI row), .int (nI col)]) (rest := []) S (k_X8_areAsked l G σ μ o k row col (by omega) (by omega) (by omega)) (cwV 3 S.2.2.2.2 gX8_valueAt_X8_areAsked rfl rfl rfl ⟨rfl, hy_X8_areAsked⟩ ⟨Nat.le_of_ble_eq_true rfl, Nat.le_of_ble_eq_true rfl⟩) (wPc_V (q := (RX8, TX8, 19)) Z (by decide) rfl rfl) rfl rfl hl.1 rfl (lv_room (Nat.le_of_ble_eq_true rfl)) dX8_valueAt_4 ⟨Nat.le_of_ble_eq_true rfl, Nat.le_of_ble_eq_true rfl⟩) Z.2.2.2.2 (fun _ _ h => h) (fun _ h => h) (fun r_1 u_2 T9 H1 locs1 hT9 hvm hw hB hz hk9 hS => ?_)
  obtain ⟨hr9, rfl⟩ := hw
  rw [hr9]; clear hr9 r_1
  have Z : wZ G (σ) (thr μ 0) o s H1 locs1 := wZ_callP Z hB hT9 hS
  clear hB hT9 hS hk9 hz hvm T9
  revert Z; generalize H1 = H; generalize locs1 = locs; intro Z
  refine W.widen (k := 0) (n := 0) (by decide) (by decide) ?_
  refine r_if_eqB S (tgt := 20) dX8_valueAt_7 (by decide) (fun c_3 => absurd c_3 (by decide)) (fun c_3 => ?_)
  refine lv_aload_n S.1 S.2.1 dX8_valueAt_10 rfl (lv_at hl 0 rfl) ?_
  refine lv_iload_n S.1 S.2.1 dX8_valueAt_11 rfl (lv_at hl 1 rfl) ?_
  refine lv_iload_n S.1 S.2.1 dX8_valueAt_12 rfl (lv_at hl 2 rfl) ?_
  refine lv_iload_n S.1 S.2.1 dX8_valueAt_13 rfl (lv_at hl 3 rfl) ?_
  refine vp_callSi (va_runV (As := [.int (nI k), .int (nI row), .int (nI col)]) (rest := []) S (k_X8_seen l G σ (thr μ 0) o k row col (by omega) (by omega) (by omega) hmr) (cwV 3 S.2.2.2.2 gX8_valueAt_X8_seen rfl rfl rfl ⟨rfl, hy_X8_seen⟩ ⟨Nat.le_of_ble_eq_true rfl, Nat.le_of_ble_eq_true rfl⟩) (wPc_V (q := (RX8, TX8, 19)) Z (by decide) rfl rfl) rfl rfl hl.1 rfl (lv_room (Nat.le_of_ble_eq_true rfl)) dX8_valueAt_14 ⟨Nat.le_of_ble_eq_true rfl, Nat.le_of_ble_eq_true rfl⟩).run (fun r_4 h_5 => ?_)
  rw [h_5]; clear h_5 r_4
  refine lv_goto (tgt := 21) S.1 S.2.1 dX8_valueAt_17 (by decide) ?_
  rw [hQ]
  exact W.iret (v := seeM (thr μ 0) k row col) S.1 S.2.1 hret (fun _ hT9 hW => ⟨⟨_, (σ, thr μ 0), rfl, ⟨rfl, rfl⟩, wZ_P Z hT9 hW⟩, Z.2.2.2.2.F hT9⟩) Z.2.2.2.2.2.2 dX8_valueAt_21

abbrev rm_k_X8_valueAt_B : Room := { frames := 3, cells := 0, slots := 0, locals := 66 }
set_option maxHeartbeats 4000000 in
set_option maxRecDepth 100000 in
theorem k_X8_valueAt_B (l : Launch) (G : wG) (σ : cS) (μ : mS) (o : Nat → Int64) (x : Int32) (y : Int32) (z : Int32) (hb : (isCopyB x && isCellB y z) = false) : Met l yX8_valueAt wsX8_valueAt rm_k_X8_valueAt_B (wPc G σ μ o [.ref (gA G 39), .int (x), .int (y), .int (z)]) (va_Qi (fun (rr : Int32) (u : cS × mS) => rr = nI (0) ∧ u = (σ, thr μ 1)) (fun u t => wI G u.1 u.2 o t) (gP G)) 0 0 (gP G) := by
  refine Met.ofW (cc := cX8_valueAt) (maxL := 4) (ret := (some .int)) (by decide) rfl ?_
  intro p e s m args below meth c s₁ B hml hv
  obtain ⟨hargs, hI⟩ := hv
  have S : CallFix p m c cX8_valueAt 4 s args wsX8_valueAt RX8 := ⟨B.exec, B.bytes, hml, findClass_of_methodNamed B.named, atoms_spec (ws := wsX8_valueAt) B.pre⟩
  have hret := B.returns
  have hlocks := B.notSynchronized
  have Z := wZ_0 hI
  clear hI
  obtain ⟨Q, hQ⟩ : ∃ Q, Q = MQ below (va_Qi (fun (rr : Int32) (u : cS × mS) => rr = nI (0) ∧ u = (σ, thr μ 1)) (fun u t => wI G u.1 u.2 o t) (gP G)) args s 0 0 (gP G) := ⟨_, rfl⟩
  rw [← hQ]
  have hl := lv_entry [.ref (gA G 39), .int (x), .int (y), .int (z)] (n := 4) (Nat.le_of_ble_eq_true rfl)
  rw [show entryFrame m args 4 = entryFrame m ([.ref (gA G 39), .int (x), .int (y), .int (z)] : List Value).toArray 4 from by rw [hargs], lg_entry_eq]
  generalize (lg_sl [.ref (gA G 39), .int (x), .int (y), .int (z)] ++ List.replicate (4 - (lg_sl [.ref (gA G 39), .int (x), .int (y), .int (z)]).length) Slot.unset).toArray = ls at hl ⊢
  have hl : lv_has ls 4 [(0, .ref (gA G 39)), (1, .int (x)), (2, .int (y)), (3, .int (z))] := hl
  refine lv_aload_n S.1 S.2.1 dX8_valueAt_0 rfl (lv_at hl 0 rfl) ?_
  refine lv_iload_n S.1 S.2.1 dX8_valueAt_1 rfl (lv_at hl 1 rfl) ?_
  refine lv_iload_n S.1 S.2.1 dX8_valueAt_2 rfl (lv_at hl 2 rfl) ?_
  refine lv_iload_n S.1 S.2.1 dX8_valueAt_3 rfl (lv_at hl 3 rfl) ?_
  refine va_calli (va_runV (As := [.int (x), .int (y), .int (z)]) (rest := []) S (k_X8_areAsked_B l G σ μ o x y z hb) (cwV 3 S.2.2.2.2 gX8_valueAt_X8_areAsked rfl rfl rfl ⟨rfl, hy_X8_areAsked⟩ ⟨Nat.le_of_ble_eq_true rfl, Nat.le_of_ble_eq_true rfl⟩) (wPc_V (q := (RX8, TX8, 19)) Z (by decide) rfl rfl) rfl rfl hl.1 rfl (lv_room (Nat.le_of_ble_eq_true rfl)) dX8_valueAt_4 ⟨Nat.le_of_ble_eq_true rfl, Nat.le_of_ble_eq_true rfl⟩) Z.2.2.2.2 (fun _ _ h => h) (fun _ h => h) (fun r_1 u_2 T9 H1 locs1 hT9 hvm hw hB hz hk9 hS => ?_)
  obtain ⟨hr9, rfl⟩ := hw
  rw [hr9]; clear hr9 r_1
  have Z : wZ G (σ) (thr μ 1) o s H1 locs1 := wZ_callP Z hB hT9 hS
  clear hB hT9 hS hk9 hz hvm T9
  revert Z; generalize H1 = H; generalize locs1 = locs; intro Z
  refine W.widen (k := 0) (n := 0) (by decide) (by decide) ?_
  refine r_if_eqB S (tgt := 20) dX8_valueAt_7 (by decide) (fun c_3 => ?_) (fun c_3 => absurd c_3 (by decide))
  refine lv_iconst (v := nI 0) S.1 S.2.1 dX8_valueAt_20 (by decide) ?_
  rw [hQ]
  exact W.iret (v := nI 0) S.1 S.2.1 hret (fun _ hT9 hW => ⟨⟨_, (σ, thr μ 1), rfl, ⟨rfl, rfl⟩, wZ_P Z hT9 hW⟩, Z.2.2.2.2.F hT9⟩) Z.2.2.2.2.2.2 dX8_valueAt_21

theorem i_X8_stampAt_X8 : ∀ w ∈ wsX80, w ∈ wsX8_stampAt := by decide +kernel
theorem m_X8_stampAt_f7 : Cond.fieldLink RX8 7 "WideCellModel" "stamp" "[I" ∈ wsX8_stampAt := by decide +kernel
abbrev rm_k_X8_stampAt : Room := { frames := 3, cells := 0, slots := 0, locals := 66 }
set_option maxHeartbeats 4000000 in
set_option maxRecDepth 100000 in
theorem k_X8_stampAt (l : Launch) (G : wG) (σ : cS) (μ : mS) (o : Nat → Int64) (k : Nat) (row : Nat) (col : Nat) (hk3 : k < 3) (hrow : row < 16) (hcol : col < 4) (hmr : mR μ ≤ 8) : Met l yX8_stampAt wsX8_stampAt rm_k_X8_stampAt (wPc G σ μ o [.ref (gA G 39), .int (nI k), .int (nI row), .int (nI col)]) (va_Qi (fun (rr : Int32) (u : cS × mS) => rr = mI (thr μ 0) 40 (64 * k + 4 * row + col) ∧ u = (σ, thr μ 0)) (fun u t => wI G u.1 u.2 o t) (gP G)) 0 0 (gP G) := by
  refine Met.ofW (cc := cX8_stampAt) (maxL := 4) (ret := (some .int)) (by decide) rfl ?_
  intro p e s m args below meth c s₁ B hml hv
  obtain ⟨hargs, hI⟩ := hv
  have S : CallFix p m c cX8_stampAt 4 s args wsX8_stampAt RX8 := ⟨B.exec, B.bytes, hml, findClass_of_methodNamed B.named, atoms_spec (ws := wsX8_stampAt) B.pre⟩
  have hret := B.returns
  have hlocks := B.notSynchronized
  have Z := wZ_0 hI
  clear hI
  obtain ⟨Q, hQ⟩ : ∃ Q, Q = MQ below (va_Qi (fun (rr : Int32) (u : cS × mS) => rr = mI (thr μ 0) 40 (64 * k + 4 * row + col) ∧ u = (σ, thr μ 0)) (fun u t => wI G u.1 u.2 o t) (gP G)) args s 0 0 (gP G) := ⟨_, rfl⟩
  rw [← hQ]
  have hl := lv_entry [.ref (gA G 39), .int (nI k), .int (nI row), .int (nI col)] (n := 4) (Nat.le_of_ble_eq_true rfl)
  rw [show entryFrame m args 4 = entryFrame m ([.ref (gA G 39), .int (nI k), .int (nI row), .int (nI col)] : List Value).toArray 4 from by rw [hargs], lg_entry_eq]
  generalize (lg_sl [.ref (gA G 39), .int (nI k), .int (nI row), .int (nI col)] ++ List.replicate (4 - (lg_sl [.ref (gA G 39), .int (nI k), .int (nI row), .int (nI col)]).length) Slot.unset).toArray = ls at hl ⊢
  have hl : lv_has ls 4 [(0, .ref (gA G 39)), (1, .int (nI k)), (2, .int (nI row)), (3, .int (nI col))] := hl
  refine lv_aload_n S.1 S.2.1 dX8_stampAt_0 rfl (lv_at hl 0 rfl) ?_
  refine lv_iload_n S.1 S.2.1 dX8_stampAt_1 rfl (lv_at hl 1 rfl) ?_
  refine lv_iload_n S.1 S.2.1 dX8_stampAt_2 rfl (lv_at hl 2 rfl) ?_
  refine lv_iload_n S.1 S.2.1 dX8_stampAt_3 rfl (lv_at hl 3 rfl) ?_
  refine va_calli (va_runV (As := [.int (nI k), .int (nI row), .int (nI col)]) (rest := []) S (k_X8_areAsked l G σ μ o k row col (by omega) (by omega) (by omega)) (cwV 3 S.2.2.2.2 gX8_stampAt_X8_areAsked rfl rfl rfl ⟨rfl, hy_X8_areAsked⟩ ⟨Nat.le_of_ble_eq_true rfl, Nat.le_of_ble_eq_true rfl⟩) (wPc_V (q := (RX8, TX8, 19)) Z (by decide) rfl rfl) rfl rfl hl.1 rfl (lv_room (Nat.le_of_ble_eq_true rfl)) dX8_stampAt_4 ⟨Nat.le_of_ble_eq_true rfl, Nat.le_of_ble_eq_true rfl⟩) Z.2.2.2.2 (fun _ _ h => h) (fun _ h => h) (fun r_1 u_2 T9 H1 locs1 hT9 hvm hw hB hz hk9 hS => ?_)
  obtain ⟨hr9, rfl⟩ := hw
  rw [hr9]; clear hr9 r_1
  have Z : wZ G (σ) (thr μ 0) o s H1 locs1 := wZ_callP Z hB hT9 hS
  clear hB hT9 hS hk9 hz hvm T9
  revert Z; generalize H1 = H; generalize locs1 = locs; intro Z
  refine W.widen (k := 0) (n := 0) (by decide) (by decide) ?_
  refine r_if_eqB S (tgt := 28) dX8_stampAt_7 (by decide) (fun c_3 => absurd c_3 (by decide)) (fun c_3 => ?_)
  refine lv_aload_n S.1 S.2.1 dX8_stampAt_10 rfl (lv_at hl 0 rfl) ?_
  refine r_get (C := RX8) (T := TX8) (N := 19) (ci := 8) S Z (by decide) rfl rfl i_X8_stampAt_X8 0 (by decide) m_X8_stampAt_f7 rfl (v := .ref (gA G 40)) rfl dX8_stampAt_11 ?_
  refine lv_bipush (v := nI 64) S.1 S.2.1 dX8_stampAt_14 (by decide) ?_
  refine lv_iload_n S.1 S.2.1 dX8_stampAt_16 rfl (lv_at hl 1 rfl) ?_
  refine r_mulN S dX8_stampAt_17 ?_
  refine lv_iconst (v := nI 4) S.1 S.2.1 dX8_stampAt_18 (by decide) ?_
  refine lv_iload_n S.1 S.2.1 dX8_stampAt_19 rfl (lv_at hl 2 rfl) ?_
  refine r_mulN S dX8_stampAt_20 ?_
  refine r_addN S dX8_stampAt_21 ?_
  refine lv_iload_n S.1 S.2.1 dX8_stampAt_22 rfl (lv_at hl 3 rfl) ?_
  refine r_addN S dX8_stampAt_23 ?_
  refine r_ialdM S Z (n := 256) ⟨rfl, rfl⟩ (by omega) (by decide) dX8_stampAt_24 ?_
  refine lv_goto (tgt := 29) S.1 S.2.1 dX8_stampAt_25 (by decide) ?_
  rw [hQ]
  exact W.iret (v := mI (thr μ 0) 40 (((64 * k) + (4 * row)) + col)) S.1 S.2.1 hret (fun _ hT9 hW => ⟨⟨_, (σ, thr μ 0), rfl, ⟨rfl, rfl⟩, wZ_P Z hT9 hW⟩, Z.2.2.2.2.F hT9⟩) Z.2.2.2.2.2.2 dX8_stampAt_29

abbrev rm_k_X8_stampAt_B : Room := { frames := 3, cells := 0, slots := 0, locals := 66 }
set_option maxHeartbeats 4000000 in
set_option maxRecDepth 100000 in
theorem k_X8_stampAt_B (l : Launch) (G : wG) (σ : cS) (μ : mS) (o : Nat → Int64) (x : Int32) (y : Int32) (z : Int32) (hb : (isCopyB x && isCellB y z) = false) : Met l yX8_stampAt wsX8_stampAt rm_k_X8_stampAt_B (wPc G σ μ o [.ref (gA G 39), .int (x), .int (y), .int (z)]) (va_Qi (fun (rr : Int32) (u : cS × mS) => rr = nI (0) ∧ u = (σ, thr μ 1)) (fun u t => wI G u.1 u.2 o t) (gP G)) 0 0 (gP G) := by
  refine Met.ofW (cc := cX8_stampAt) (maxL := 4) (ret := (some .int)) (by decide) rfl ?_
  intro p e s m args below meth c s₁ B hml hv
  obtain ⟨hargs, hI⟩ := hv
  have S : CallFix p m c cX8_stampAt 4 s args wsX8_stampAt RX8 := ⟨B.exec, B.bytes, hml, findClass_of_methodNamed B.named, atoms_spec (ws := wsX8_stampAt) B.pre⟩
  have hret := B.returns
  have hlocks := B.notSynchronized
  have Z := wZ_0 hI
  clear hI
  obtain ⟨Q, hQ⟩ : ∃ Q, Q = MQ below (va_Qi (fun (rr : Int32) (u : cS × mS) => rr = nI (0) ∧ u = (σ, thr μ 1)) (fun u t => wI G u.1 u.2 o t) (gP G)) args s 0 0 (gP G) := ⟨_, rfl⟩
  rw [← hQ]
  have hl := lv_entry [.ref (gA G 39), .int (x), .int (y), .int (z)] (n := 4) (Nat.le_of_ble_eq_true rfl)
  rw [show entryFrame m args 4 = entryFrame m ([.ref (gA G 39), .int (x), .int (y), .int (z)] : List Value).toArray 4 from by rw [hargs], lg_entry_eq]
  generalize (lg_sl [.ref (gA G 39), .int (x), .int (y), .int (z)] ++ List.replicate (4 - (lg_sl [.ref (gA G 39), .int (x), .int (y), .int (z)]).length) Slot.unset).toArray = ls at hl ⊢
  have hl : lv_has ls 4 [(0, .ref (gA G 39)), (1, .int (x)), (2, .int (y)), (3, .int (z))] := hl
  refine lv_aload_n S.1 S.2.1 dX8_stampAt_0 rfl (lv_at hl 0 rfl) ?_
  refine lv_iload_n S.1 S.2.1 dX8_stampAt_1 rfl (lv_at hl 1 rfl) ?_
  refine lv_iload_n S.1 S.2.1 dX8_stampAt_2 rfl (lv_at hl 2 rfl) ?_
  refine lv_iload_n S.1 S.2.1 dX8_stampAt_3 rfl (lv_at hl 3 rfl) ?_
  refine va_calli (va_runV (As := [.int (x), .int (y), .int (z)]) (rest := []) S (k_X8_areAsked_B l G σ μ o x y z hb) (cwV 3 S.2.2.2.2 gX8_stampAt_X8_areAsked rfl rfl rfl ⟨rfl, hy_X8_areAsked⟩ ⟨Nat.le_of_ble_eq_true rfl, Nat.le_of_ble_eq_true rfl⟩) (wPc_V (q := (RX8, TX8, 19)) Z (by decide) rfl rfl) rfl rfl hl.1 rfl (lv_room (Nat.le_of_ble_eq_true rfl)) dX8_stampAt_4 ⟨Nat.le_of_ble_eq_true rfl, Nat.le_of_ble_eq_true rfl⟩) Z.2.2.2.2 (fun _ _ h => h) (fun _ h => h) (fun r_1 u_2 T9 H1 locs1 hT9 hvm hw hB hz hk9 hS => ?_)
  obtain ⟨hr9, rfl⟩ := hw
  rw [hr9]; clear hr9 r_1
  have Z : wZ G (σ) (thr μ 1) o s H1 locs1 := wZ_callP Z hB hT9 hS
  clear hB hT9 hS hk9 hz hvm T9
  revert Z; generalize H1 = H; generalize locs1 = locs; intro Z
  refine W.widen (k := 0) (n := 0) (by decide) (by decide) ?_
  refine r_if_eqB S (tgt := 28) dX8_stampAt_7 (by decide) (fun c_3 => ?_) (fun c_3 => absurd c_3 (by decide))
  refine lv_iconst (v := nI 0) S.1 S.2.1 dX8_stampAt_28 (by decide) ?_
  rw [hQ]
  exact W.iret (v := nI 0) S.1 S.2.1 hret (fun _ hT9 hW => ⟨⟨_, (σ, thr μ 1), rfl, ⟨rfl, rfl⟩, wZ_P Z hT9 hW⟩, Z.2.2.2.2.F hT9⟩) Z.2.2.2.2.2.2 dX8_stampAt_29

abbrev rm_k_X8_buriedBy : Room := { frames := 3, cells := 0, slots := 0, locals := 71 }
set_option maxHeartbeats 4000000 in
set_option maxRecDepth 100000 in
theorem k_X8_buriedBy (l : Launch) (G : wG) (σ : cS) (μ : mS) (o : Nat → Int64) (k : Nat) (row : Nat) (col : Nat) (hk3 : k < 3) (hrow : row < 16) (hcol : col < 4) (hmr : mR μ ≤ 8) : Met l yX8_buriedBy wsX8_buriedBy rm_k_X8_buriedBy (wPc G σ μ o [.ref (gA G 39), .int (nI k), .int (nI row), .int (nI col)]) (va_Qi (fun (rr : Int32) (u : cS × mS) => rr = buM (thr μ 0) k row col ∧ u = (σ, thr μ 0)) (fun u t => wI G u.1 u.2 o t) (gP G)) 0 0 (gP G) := by
  refine Met.ofW (cc := cX8_buriedBy) (maxL := 4) (ret := (some .int)) (by decide) rfl ?_
  intro p e s m args below meth c s₁ B hml hv
  obtain ⟨hargs, hI⟩ := hv
  have S : CallFix p m c cX8_buriedBy 4 s args wsX8_buriedBy RX8 := ⟨B.exec, B.bytes, hml, findClass_of_methodNamed B.named, atoms_spec (ws := wsX8_buriedBy) B.pre⟩
  have hret := B.returns
  have hlocks := B.notSynchronized
  have Z := wZ_0 hI
  clear hI
  obtain ⟨Q, hQ⟩ : ∃ Q, Q = MQ below (va_Qi (fun (rr : Int32) (u : cS × mS) => rr = buM (thr μ 0) k row col ∧ u = (σ, thr μ 0)) (fun u t => wI G u.1 u.2 o t) (gP G)) args s 0 0 (gP G) := ⟨_, rfl⟩
  rw [← hQ]
  have hl := lv_entry [.ref (gA G 39), .int (nI k), .int (nI row), .int (nI col)] (n := 4) (Nat.le_of_ble_eq_true rfl)
  rw [show entryFrame m args 4 = entryFrame m ([.ref (gA G 39), .int (nI k), .int (nI row), .int (nI col)] : List Value).toArray 4 from by rw [hargs], lg_entry_eq]
  generalize (lg_sl [.ref (gA G 39), .int (nI k), .int (nI row), .int (nI col)] ++ List.replicate (4 - (lg_sl [.ref (gA G 39), .int (nI k), .int (nI row), .int (nI col)]).length) Slot.unset).toArray = ls at hl ⊢
  have hl : lv_has ls 4 [(0, .ref (gA G 39)), (1, .int (nI k)), (2, .int (nI row)), (3, .int (nI col))] := hl
  refine lv_aload_n S.1 S.2.1 dX8_buriedBy_0 rfl (lv_at hl 0 rfl) ?_
  refine lv_iload_n S.1 S.2.1 dX8_buriedBy_1 rfl (lv_at hl 1 rfl) ?_
  refine lv_iload_n S.1 S.2.1 dX8_buriedBy_2 rfl (lv_at hl 2 rfl) ?_
  refine lv_iload_n S.1 S.2.1 dX8_buriedBy_3 rfl (lv_at hl 3 rfl) ?_
  refine va_calli (va_runV (As := [.int (nI k), .int (nI row), .int (nI col)]) (rest := []) S (k_X8_areAsked l G σ μ o k row col (by omega) (by omega) (by omega)) (cwV 3 S.2.2.2.2 gX8_buriedBy_X8_areAsked rfl rfl rfl ⟨rfl, hy_X8_areAsked⟩ ⟨Nat.le_of_ble_eq_true rfl, Nat.le_of_ble_eq_true rfl⟩) (wPc_V (q := (RX8, TX8, 19)) Z (by decide) rfl rfl) rfl rfl hl.1 rfl (lv_room (Nat.le_of_ble_eq_true rfl)) dX8_buriedBy_4 ⟨Nat.le_of_ble_eq_true rfl, Nat.le_of_ble_eq_true rfl⟩) Z.2.2.2.2 (fun _ _ h => h) (fun _ h => h) (fun r_1 u_2 T9 H1 locs1 hT9 hvm hw hB hz hk9 hS => ?_)
  obtain ⟨hr9, rfl⟩ := hw
  rw [hr9]; clear hr9 r_1
  have Z : wZ G (σ) (thr μ 0) o s H1 locs1 := wZ_callP Z hB hT9 hS
  clear hB hT9 hS hk9 hz hvm T9
  revert Z; generalize H1 = H; generalize locs1 = locs; intro Z
  refine W.widen (k := 0) (n := 0) (by decide) (by decide) ?_
  refine r_if_eqB S (tgt := 20) dX8_buriedBy_7 (by decide) (fun c_3 => absurd c_3 (by decide)) (fun c_3 => ?_)
  refine lv_aload_n S.1 S.2.1 dX8_buriedBy_10 rfl (lv_at hl 0 rfl) ?_
  refine lv_iload_n S.1 S.2.1 dX8_buriedBy_11 rfl (lv_at hl 1 rfl) ?_
  refine lv_iload_n S.1 S.2.1 dX8_buriedBy_12 rfl (lv_at hl 2 rfl) ?_
  refine lv_iload_n S.1 S.2.1 dX8_buriedBy_13 rfl (lv_at hl 3 rfl) ?_
  refine vp_callSi (va_runV (As := [.int (nI k), .int (nI row), .int (nI col)]) (rest := []) S (k_X8_buried l G σ (thr μ 0) o k row col (by omega) (by omega) (by omega) hmr) (cwV 3 S.2.2.2.2 gX8_buriedBy_X8_buried rfl rfl rfl ⟨rfl, hy_X8_buried⟩ ⟨Nat.le_of_ble_eq_true rfl, Nat.le_of_ble_eq_true rfl⟩) (wPc_V (q := (RX8, TX8, 19)) Z (by decide) rfl rfl) rfl rfl hl.1 rfl (lv_room (Nat.le_of_ble_eq_true rfl)) dX8_buriedBy_14 ⟨Nat.le_of_ble_eq_true rfl, Nat.le_of_ble_eq_true rfl⟩).run (fun r_4 h_5 => ?_)
  rw [h_5]; clear h_5 r_4
  refine lv_goto (tgt := 21) S.1 S.2.1 dX8_buriedBy_17 (by decide) ?_
  rw [hQ]
  exact W.iret (v := buM (thr μ 0) k row col) S.1 S.2.1 hret (fun _ hT9 hW => ⟨⟨_, (σ, thr μ 0), rfl, ⟨rfl, rfl⟩, wZ_P Z hT9 hW⟩, Z.2.2.2.2.F hT9⟩) Z.2.2.2.2.2.2 dX8_buriedBy_21

abbrev rm_k_X8_buriedBy_B : Room := { frames := 3, cells := 0, slots := 0, locals := 66 }
set_option maxHeartbeats 4000000 in
set_option maxRecDepth 100000 in
theorem k_X8_buriedBy_B (l : Launch) (G : wG) (σ : cS) (μ : mS) (o : Nat → Int64) (x : Int32) (y : Int32) (z : Int32) (hb : (isCopyB x && isCellB y z) = false) : Met l yX8_buriedBy wsX8_buriedBy rm_k_X8_buriedBy_B (wPc G σ μ o [.ref (gA G 39), .int (x), .int (y), .int (z)]) (va_Qi (fun (rr : Int32) (u : cS × mS) => rr = nI (0) ∧ u = (σ, thr μ 1)) (fun u t => wI G u.1 u.2 o t) (gP G)) 0 0 (gP G) := by
  refine Met.ofW (cc := cX8_buriedBy) (maxL := 4) (ret := (some .int)) (by decide) rfl ?_
  intro p e s m args below meth c s₁ B hml hv
  obtain ⟨hargs, hI⟩ := hv
  have S : CallFix p m c cX8_buriedBy 4 s args wsX8_buriedBy RX8 := ⟨B.exec, B.bytes, hml, findClass_of_methodNamed B.named, atoms_spec (ws := wsX8_buriedBy) B.pre⟩
  have hret := B.returns
  have hlocks := B.notSynchronized
  have Z := wZ_0 hI
  clear hI
  obtain ⟨Q, hQ⟩ : ∃ Q, Q = MQ below (va_Qi (fun (rr : Int32) (u : cS × mS) => rr = nI (0) ∧ u = (σ, thr μ 1)) (fun u t => wI G u.1 u.2 o t) (gP G)) args s 0 0 (gP G) := ⟨_, rfl⟩
  rw [← hQ]
  have hl := lv_entry [.ref (gA G 39), .int (x), .int (y), .int (z)] (n := 4) (Nat.le_of_ble_eq_true rfl)
  rw [show entryFrame m args 4 = entryFrame m ([.ref (gA G 39), .int (x), .int (y), .int (z)] : List Value).toArray 4 from by rw [hargs], lg_entry_eq]
  generalize (lg_sl [.ref (gA G 39), .int (x), .int (y), .int (z)] ++ List.replicate (4 - (lg_sl [.ref (gA G 39), .int (x), .int (y), .int (z)]).length) Slot.unset).toArray = ls at hl ⊢
  have hl : lv_has ls 4 [(0, .ref (gA G 39)), (1, .int (x)), (2, .int (y)), (3, .int (z))] := hl
  refine lv_aload_n S.1 S.2.1 dX8_buriedBy_0 rfl (lv_at hl 0 rfl) ?_
  refine lv_iload_n S.1 S.2.1 dX8_buriedBy_1 rfl (lv_at hl 1 rfl) ?_
  refine lv_iload_n S.1 S.2.1 dX8_buriedBy_2 rfl (lv_at hl 2 rfl) ?_
  refine lv_iload_n S.1 S.2.1 dX8_buriedBy_3 rfl (lv_at hl 3 rfl) ?_
  refine va_calli (va_runV (As := [.int (x), .int (y), .int (z)]) (rest := []) S (k_X8_areAsked_B l G σ μ o x y z hb) (cwV 3 S.2.2.2.2 gX8_buriedBy_X8_areAsked rfl rfl rfl ⟨rfl, hy_X8_areAsked⟩ ⟨Nat.le_of_ble_eq_true rfl, Nat.le_of_ble_eq_true rfl⟩) (wPc_V (q := (RX8, TX8, 19)) Z (by decide) rfl rfl) rfl rfl hl.1 rfl (lv_room (Nat.le_of_ble_eq_true rfl)) dX8_buriedBy_4 ⟨Nat.le_of_ble_eq_true rfl, Nat.le_of_ble_eq_true rfl⟩) Z.2.2.2.2 (fun _ _ h => h) (fun _ h => h) (fun r_1 u_2 T9 H1 locs1 hT9 hvm hw hB hz hk9 hS => ?_)
  obtain ⟨hr9, rfl⟩ := hw
  rw [hr9]; clear hr9 r_1
  have Z : wZ G (σ) (thr μ 1) o s H1 locs1 := wZ_callP Z hB hT9 hS
  clear hB hT9 hS hk9 hz hvm T9
  revert Z; generalize H1 = H; generalize locs1 = locs; intro Z
  refine W.widen (k := 0) (n := 0) (by decide) (by decide) ?_
  refine r_if_eqB S (tgt := 20) dX8_buriedBy_7 (by decide) (fun c_3 => ?_) (fun c_3 => absurd c_3 (by decide))
  refine lv_iconst (v := nI 0) S.1 S.2.1 dX8_buriedBy_20 (by decide) ?_
  rw [hQ]
  exact W.iret (v := nI 0) S.1 S.2.1 hret (fun _ hT9 hW => ⟨⟨_, (σ, thr μ 1), rfl, ⟨rfl, rfl⟩, wZ_P Z hT9 hW⟩, Z.2.2.2.2.F hT9⟩) Z.2.2.2.2.2.2 dX8_buriedBy_21

abbrev rm_k_X8_kindOf : Room := { frames := 0, cells := 0, slots := 0, locals := 0 }
set_option maxHeartbeats 4000000 in
set_option maxRecDepth 100000 in
theorem k_X8_kindOf (l : Launch) (G : wG) (σ : cS) (μ : mS) (o : Nat → Int64) (r : Nat) (hr : r < 92) : Met l yX8_kindOf wsX8_kindOf rm_k_X8_kindOf (wPc G σ μ o [.int (nI r)]) (vp_Si (fun rr => rr = nI (kdM r))) 0 0 (fun _ => False) := by
  refine Met.ofW (cc := cX8_kindOf) (maxL := 1) (ret := (some .int)) (by decide) rfl ?_
  intro p e s m args below meth c s₁ B hml hv
  obtain ⟨hargs, hI⟩ := hv
  have S : CallFix p m c cX8_kindOf 1 s args wsX8_kindOf RX8 := ⟨B.exec, B.bytes, hml, findClass_of_methodNamed B.named, atoms_spec (ws := wsX8_kindOf) B.pre⟩
  have hret := B.returns
  have hlocks := B.notSynchronized
  have Z := wZ_0 hI
  clear hI
  obtain ⟨Q, hQ⟩ : ∃ Q, Q = MQ below (vp_Si (fun rr => rr = nI (kdM r))) args s 0 0 (fun _ => False) := ⟨_, rfl⟩
  rw [← hQ]
  have hl := lv_entry [.int (nI r)] (n := 1) (Nat.le_of_ble_eq_true rfl)
  rw [show entryFrame m args 1 = entryFrame m ([.int (nI r)] : List Value).toArray 1 from by rw [hargs], lg_entry_eq]
  generalize (lg_sl [.int (nI r)] ++ List.replicate (1 - (lg_sl [.int (nI r)]).length) Slot.unset).toArray = ls at hl ⊢
  have hl : lv_has ls 1 [(0, .int (nI r))] := hl
  refine lv_iload_n S.1 S.2.1 dX8_kindOf_0 rfl (lv_at hl 0 rfl) ?_
  refine lv_bipush (v := nI 64) S.1 S.2.1 dX8_kindOf_1 (by decide) ?_
  refine r_icmpN_ge S (tgt := 10) (by omega) (by omega) dX8_kindOf_3 (by decide) (fun c_1 => ?_) (fun c_1 => ?_)
  · skip
    refine lv_iload_n S.1 S.2.1 dX8_kindOf_10 rfl (lv_at hl 0 rfl) ?_
    refine lv_bipush (v := nI 68) S.1 S.2.1 dX8_kindOf_11 (by decide) ?_
    refine r_icmpN_ge S (tgt := 20) (by omega) (by omega) dX8_kindOf_13 (by decide) (fun c_2 => ?_) (fun c_2 => ?_)
    · skip
      refine lv_iload_n S.1 S.2.1 dX8_kindOf_20 rfl (lv_at hl 0 rfl) ?_
      refine lv_bipush (v := nI 84) S.1 S.2.1 dX8_kindOf_21 (by decide) ?_
      refine r_icmpN_ge S (tgt := 30) (by omega) (by omega) dX8_kindOf_23 (by decide) (fun c_3 => ?_) (fun c_3 => ?_)
      · skip
        refine lv_iconst (v := nI 3) S.1 S.2.1 dX8_kindOf_30 (by decide) ?_
        rw [hQ]
        exact W.iret (v := nI 3) S.1 S.2.1 hret (fun _ hT9 _ => ⟨_, rfl, (by first | (simp [kdM, c_1, c_2, c_3, Nat.not_lt.mpr c_1, Nat.not_lt.mpr c_2, Nat.not_lt.mpr c_3]; done) | (simp [kdM, c_1, c_2, c_3, Nat.not_lt.mpr c_1, Nat.not_lt.mpr c_2, Nat.not_lt.mpr c_3]; omega) | (simp [kdM, ← Int32.not_le, c_1, c_2, c_3, Nat.not_lt.mpr c_1, Nat.not_lt.mpr c_2, Nat.not_lt.mpr c_3]; done)), hT9⟩) (fun _ h => nomatch h) dX8_kindOf_31
      · skip
        refine lv_iconst (v := nI 2) S.1 S.2.1 dX8_kindOf_26 (by decide) ?_
        refine lv_goto (tgt := 31) S.1 S.2.1 dX8_kindOf_27 (by decide) ?_
        rw [hQ]
        exact W.iret (v := nI 2) S.1 S.2.1 hret (fun _ hT9 _ => ⟨_, rfl, (by first | (simp [kdM, c_1, c_2, c_3, Nat.not_lt.mpr c_1, Nat.not_lt.mpr c_2]; done) | (simp [kdM, c_1, c_2, c_3, Nat.not_lt.mpr c_1, Nat.not_lt.mpr c_2]; omega) | (simp [kdM, ← Int32.not_le, c_1, c_2, c_3, Nat.not_lt.mpr c_1, Nat.not_lt.mpr c_2]; done)), hT9⟩) (fun _ h => nomatch h) dX8_kindOf_31
    · skip
      refine lv_iconst (v := nI 1) S.1 S.2.1 dX8_kindOf_16 (by decide) ?_
      refine lv_goto (tgt := 31) S.1 S.2.1 dX8_kindOf_17 (by decide) ?_
      rw [hQ]
      exact W.iret (v := nI 1) S.1 S.2.1 hret (fun _ hT9 _ => ⟨_, rfl, (by first | (simp [kdM, c_1, c_2, Nat.not_lt.mpr c_1]; done) | (simp [kdM, c_1, c_2, Nat.not_lt.mpr c_1]; omega) | (simp [kdM, ← Int32.not_le, c_1, c_2, Nat.not_lt.mpr c_1]; done)), hT9⟩) (fun _ h => nomatch h) dX8_kindOf_31
  · skip
    refine lv_iconst (v := nI 0) S.1 S.2.1 dX8_kindOf_6 (by decide) ?_
    refine lv_goto (tgt := 31) S.1 S.2.1 dX8_kindOf_7 (by decide) ?_
    rw [hQ]
    exact W.iret (v := nI 0) S.1 S.2.1 hret (fun _ hT9 _ => ⟨_, rfl, (by first | (simp [kdM, c_1]; done) | (simp [kdM, c_1]; omega) | (simp [kdM, ← Int32.not_le, c_1]; done)), hT9⟩) (fun _ h => nomatch h) dX8_kindOf_31

theorem i_X8_tombstones_X8 : ∀ w ∈ wsX80, w ∈ wsX8_tombstones := by decide +kernel
theorem m_X8_tombstones_f19 : Cond.fieldLink RX8 19 "WideCellModel" "tomb" "[I" ∈ wsX8_tombstones := by decide +kernel
abbrev rm_k_X8_tombstones : Room := { frames := 2, cells := 0, slots := 0, locals := 42 }
set_option maxHeartbeats 4000000 in
set_option maxRecDepth 100000 in
theorem k_X8_tombstones (l : Launch) (G : wG) (σ : cS) (μ : mS) (o : Nat → Int64) (k : Nat) (y : Int32) (hk3 : k < 3) : Met l yX8_tombstones wsX8_tombstones rm_k_X8_tombstones (wPc G σ μ o [.ref (gA G 39), .int (nI k), .int (y)]) (va_Qi (fun (rr : Int32) (u : cS × mS) => rr = nI (toR μ k y) ∧ u = (σ, toS μ y)) (fun u t => wI G u.1 u.2 o t) (gP G)) 0 0 (gP G) := by
  refine Met.ofW (cc := cX8_tombstones) (maxL := 5) (ret := (some .int)) (by decide) rfl ?_
  intro p e s m args below meth c s₁ B hml hv
  obtain ⟨hargs, hI⟩ := hv
  have S : CallFix p m c cX8_tombstones 5 s args wsX8_tombstones RX8 := ⟨B.exec, B.bytes, hml, findClass_of_methodNamed B.named, atoms_spec (ws := wsX8_tombstones) B.pre⟩
  have hret := B.returns
  have hlocks := B.notSynchronized
  have Z := wZ_0 hI
  clear hI
  obtain ⟨Q, hQ⟩ : ∃ Q, Q = MQ below (va_Qi (fun (rr : Int32) (u : cS × mS) => rr = nI (toR μ k y) ∧ u = (σ, toS μ y)) (fun u t => wI G u.1 u.2 o t) (gP G)) args s 0 0 (gP G) := ⟨_, rfl⟩
  rw [← hQ]
  have hl := lv_entry [.ref (gA G 39), .int (nI k), .int (y)] (n := 5) (Nat.le_of_ble_eq_true rfl)
  rw [show entryFrame m args 5 = entryFrame m ([.ref (gA G 39), .int (nI k), .int (y)] : List Value).toArray 5 from by rw [hargs], lg_entry_eq]
  generalize (lg_sl [.ref (gA G 39), .int (nI k), .int (y)] ++ List.replicate (5 - (lg_sl [.ref (gA G 39), .int (nI k), .int (y)]).length) Slot.unset).toArray = ls at hl ⊢
  have hl : lv_has ls 5 [(0, .ref (gA G 39)), (1, .int (nI k)), (2, .int (y))] := hl
  refine lv_aload_n S.1 S.2.1 dX8_tombstones_0 rfl (lv_at hl 0 rfl) ?_
  refine lv_iload_n S.1 S.2.1 dX8_tombstones_1 rfl (lv_at hl 1 rfl) ?_
  refine vp_callSi (va_runS (As := [.int (nI k)]) (rest := [.ref (gA G 39)]) S (k_X8_isCopy l G σ μ o (nI k) ) (va_cwS 1 S.2.2.2.2 gX8_tombstones_X8_isCopy rfl rfl rfl hy_X8_isCopy ⟨Nat.le_of_ble_eq_true rfl, Nat.le_of_ble_eq_true rfl⟩) (wPc_S Z) rfl rfl hl.1 rfl (lv_room (Nat.le_of_ble_eq_true rfl)) dX8_tombstones_2 ⟨Nat.le_of_ble_eq_true rfl, Nat.le_of_ble_eq_true rfl⟩).run (fun r_1 h_2 => ?_)
  rw [h_2]; clear h_2 r_1
  refine r_if_neB S (tgt := 12) dX8_tombstones_5 (by decide) (fun c_3 => ?_) (fun c_3 => absurd c_3 (by rw [isCopyB_ok hk3]; decide))
  refine lv_iload_n S.1 S.2.1 dX8_tombstones_12 rfl (lv_at hl 2 rfl) ?_
  refine lv_iconst (v := nI 0) S.1 S.2.1 dX8_tombstones_13 (by decide) ?_
  refine lv_iconst (v := nI 3) S.1 S.2.1 dX8_tombstones_14 (by decide) ?_
  refine vp_callSi (va_runS (As := [.int (y), .int (nI 0), .int (nI 3)]) (rest := [.ref (gA G 39)]) S (k_X8_isIn l G σ μ o y (nI 0) (nI 3) ) (va_cwS 3 S.2.2.2.2 gX8_tombstones_X8_isIn rfl rfl rfl hy_X8_isIn ⟨Nat.le_of_ble_eq_true rfl, Nat.le_of_ble_eq_true rfl⟩) (wPc_S Z) rfl rfl hl.1 rfl (lv_room (Nat.le_of_ble_eq_true rfl)) dX8_tombstones_15 ⟨Nat.le_of_ble_eq_true rfl, Nat.le_of_ble_eq_true rfl⟩).run (fun r_4 h_5 => ?_)
  rw [h_5]; clear h_5 r_4
  refine r_if_eqB S (tgt := 25) dX8_tombstones_18 (by decide) (fun c_6 => ?_) (fun c_6 => ?_)
  · skip
    refine lv_iconst (v := nI 2) S.1 S.2.1 dX8_tombstones_25 (by decide) ?_
    refine va_calli (va_runV (As := [.int (nI 2)]) (rest := []) S (k_X8_can l G σ μ o 2 (by omega)) (cwV 1 S.2.2.2.2 gX8_tombstones_X8_can rfl rfl rfl ⟨rfl, hy_X8_can⟩ ⟨Nat.le_of_ble_eq_true rfl, Nat.le_of_ble_eq_true rfl⟩) (wPc_V (q := (RX8, TX8, 19)) Z (by decide) rfl rfl) rfl rfl hl.1 rfl (lv_room (Nat.le_of_ble_eq_true rfl)) dX8_tombstones_26 ⟨Nat.le_of_ble_eq_true rfl, Nat.le_of_ble_eq_true rfl⟩) Z.2.2.2.2 (fun _ _ h => h) (fun _ h => h) (fun r_7 u_8 T9 H1 locs1 hT9 hvm hw hB hz hk9 hS => ?_)
    obtain ⟨hr9, rfl⟩ := hw
    rw [hr9]; clear hr9 r_7
    have Z : wZ G (σ) (thr μ 2) o s H1 locs1 := wZ_callP Z hB hT9 hS
    clear hB hT9 hS hk9 hz hvm T9
    revert Z; generalize H1 = H; generalize locs1 = locs; intro Z
    refine W.widen (k := 0) (n := 0) (by decide) (by decide) ?_
    refine r_if_neB S (tgt := 34) dX8_tombstones_29 (by decide) (fun c_9 => absurd c_9 (by decide)) (fun c_9 => ?_)
    refine lv_iconst (v := nI 0) S.1 S.2.1 dX8_tombstones_32 (by decide) ?_
    rw [hQ]
    have q8 : (toS μ y : mS) = thr μ 2 := by first | (simp [bi, toR, toS, c_3, c_6]; done) | (simp [bi, toR, toS, c_3, c_6]; omega) | (simp [bi, toR, toS, ← Int32.not_le, c_3, c_6]; done) | (simp [bi, toR, toS, c_3, eq_true c_6]; done) | with_reducible rfl
    rw [← q8] at Z
    exact W.iret (v := nI 0) S.1 S.2.1 hret (fun _ hT9 hW => ⟨⟨_, (σ, toS μ y), rfl, ⟨(by first | (simp [bi, toR, toS, c_3, c_6]; done) | (simp [bi, toR, toS, c_3, c_6]; omega) | (simp [bi, toR, toS, ← Int32.not_le, c_3, c_6]; done) | (simp [bi, toR, toS, c_3, eq_true c_6]; done)), rfl⟩, wZ_P Z hT9 hW⟩, Z.2.2.2.2.F hT9⟩) Z.2.2.2.2.2.2 dX8_tombstones_33
  · skip
    refine lv_iconst (v := nI 0) S.1 S.2.1 dX8_tombstones_21 (by decide) ?_
    refine lv_goto (tgt := 26) S.1 S.2.1 dX8_tombstones_22 (by decide) ?_
    refine va_calli (va_runV (As := [.int (nI 0)]) (rest := []) S (k_X8_can l G σ μ o 0 (by omega)) (cwV 1 S.2.2.2.2 gX8_tombstones_X8_can rfl rfl rfl ⟨rfl, hy_X8_can⟩ ⟨Nat.le_of_ble_eq_true rfl, Nat.le_of_ble_eq_true rfl⟩) (wPc_V (q := (RX8, TX8, 19)) Z (by decide) rfl rfl) rfl rfl hl.1 rfl (lv_room (Nat.le_of_ble_eq_true rfl)) dX8_tombstones_26 ⟨Nat.le_of_ble_eq_true rfl, Nat.le_of_ble_eq_true rfl⟩) Z.2.2.2.2 (fun _ _ h => h) (fun _ h => h) (fun r_10 u_11 T9 H1 locs1 hT9 hvm hw hB hz hk9 hS => ?_)
    obtain ⟨hr9, rfl⟩ := hw
    rw [hr9]; clear hr9 r_10
    have Z : wZ G (σ) (thr μ 0) o s H1 locs1 := wZ_callP Z hB hT9 hS
    clear hB hT9 hS hk9 hz hvm T9
    revert Z; generalize H1 = H; generalize locs1 = locs; intro Z
    refine W.widen (k := 0) (n := 0) (by decide) (by decide) ?_
    refine r_if_neB S (tgt := 34) dX8_tombstones_29 (by decide) (fun c_12 => ?_) (fun c_12 => absurd c_12 (by decide))
    refine lv_iconst (v := nI 0) S.1 S.2.1 dX8_tombstones_34 (by decide) ?_
    refine lv_istore_n (lv' := [(3, .int (nI 0)), (0, .ref (gA G 39)), (1, .int (nI k)), (2, .int (y))]) S.1 S.2.1 dX8_tombstones_35 rfl hl (by decide) rfl (fun ls hl => ?_)
    refine lv_iconst (v := nI 0) S.1 S.2.1 dX8_tombstones_36 (by decide) ?_
    refine lv_istore (lv' := [(4, .int (nI 0)), (3, .int (nI 0)), (0, .ref (gA G 39)), (1, .int (nI k)), (2, .int (y))]) S.1 S.2.1 dX8_tombstones_37 hl (by decide) rfl (fun ls hl => ?_)
    have L_39 : ∀ (n : Nat) (i : Nat) (hi : i ≤ 92) (hn : 92 - i < n) (H : Heap) (locs : List Loc) (Z : wZ G (σ) (thr μ 0) o s H locs) (ls : Array Slot) (hl : lv_has ls 5 [(0, .ref (gA G 39)), (1, .int (nI k)), (2, .int (y)), (3, .int (nI (tcM (thr μ 0) k y i))), (4, .int (nI i))]), W p l e (headSpec wsX8_tombstones rm_k_X8_tombstones).room s m args below meth c H locs 0 0 Q (F0 m 39 ls []) := by
      intro n
      induction n with
      | zero => intro i hi hn; omega
      | succ n ih_39 =>
        intro i hi hn H locs Z ls hl
        refine lv_iload S.1 S.2.1 dX8_tombstones_39 (lv_at hl 4 rfl) ?_
        refine lv_bipush (v := nI 92) S.1 S.2.1 dX8_tombstones_41 (by decide) ?_
        refine r_icmpN_ge S (tgt := 85) (by omega) (by omega) dX8_tombstones_43 (by decide) (fun c_13 => ?_) (fun c_13 => ?_)
        · skip
          obtain rfl : i = 92 := by omega
          refine lv_iload_n S.1 S.2.1 dX8_tombstones_85 rfl (lv_at hl 3 rfl) ?_
          rw [hQ]
          have q8 : (toS μ y : mS) = thr μ 0 := by first | (simp [bi, toR, toS, c_3, c_6, hi, c_13, Nat.not_lt.mpr c_13]; done) | (simp [bi, toR, toS, c_3, c_6, hi, c_13, Nat.not_lt.mpr c_13]; omega) | (simp [bi, toR, toS, ← Int32.not_le, c_3, c_6, hi, c_13, Nat.not_lt.mpr c_13]; done) | with_reducible rfl
          rw [← q8] at Z
          exact W.iret (v := nI (tcM (thr μ 0) k y 92)) S.1 S.2.1 hret (fun _ hT9 hW => ⟨⟨_, (σ, toS μ y), rfl, ⟨(by first | (simp [bi, toR, toS, c_3, c_6, hi, c_13, Nat.not_lt.mpr c_13]; done) | (simp [bi, toR, toS, c_3, c_6, hi, c_13, Nat.not_lt.mpr c_13]; omega) | (simp [bi, toR, toS, ← Int32.not_le, c_3, c_6, hi, c_13, Nat.not_lt.mpr c_13]; done)), rfl⟩, wZ_P Z hT9 hW⟩, Z.2.2.2.2.F hT9⟩) Z.2.2.2.2.2.2 dX8_tombstones_86
        · skip
          refine lv_iload_n S.1 S.2.1 dX8_tombstones_46 rfl (lv_at hl 3 rfl) ?_
          refine lv_aload_n S.1 S.2.1 dX8_tombstones_47 rfl (lv_at hl 0 rfl) ?_
          refine r_get (C := RX8) (T := TX8) (N := 19) (ci := 8) S Z (by decide) rfl rfl i_X8_tombstones_X8 3 (by decide) m_X8_tombstones_f19 rfl (v := .ref (gA G 43)) rfl dX8_tombstones_48 ?_
          refine lv_bipush (v := nI 92) S.1 S.2.1 dX8_tombstones_51 (by decide) ?_
          refine lv_iload_n S.1 S.2.1 dX8_tombstones_53 rfl (lv_at hl 1 rfl) ?_
          refine r_mulN S dX8_tombstones_54 ?_
          refine lv_iload S.1 S.2.1 dX8_tombstones_55 (lv_at hl 4 rfl) ?_
          refine r_addN S dX8_tombstones_57 ?_
          refine r_ialdM S Z (n := 368) ⟨rfl, rfl⟩ (by omega) (by decide) dX8_tombstones_58 ?_
          refine lv_iconst (v := -1) S.1 S.2.1 dX8_tombstones_59 (by decide) ?_
          refine lv_icmp_eq (tgt := 76) S.1 S.2.1 dX8_tombstones_60 (by decide) (fun c_14 => ?_) (fun c_14 => ?_)
          · skip
            refine lv_iconst (v := nI 0) S.1 S.2.1 dX8_tombstones_76 (by decide) ?_
            refine r_addN S dX8_tombstones_77 ?_
            refine lv_istore_n (lv' := [(3, .int (nI ((tcM (thr μ 0) k y i) + 0))), (0, .ref (gA G 39)), (1, .int (nI k)), (2, .int (y)), (4, .int (nI i))]) S.1 S.2.1 dX8_tombstones_78 rfl hl (by decide) rfl (fun ls hl => ?_)
            refine lv_iinc (v := nI (i + 1)) (lv' := [(4, .int (nI (i + 1))), (3, .int (nI ((tcM (thr μ 0) k y i) + 0))), (0, .ref (gA G 39)), (1, .int (nI k)), (2, .int (y))]) S.1 S.2.1 dX8_tombstones_79 hl (k := 4) rfl (nI_inc rfl) (by decide) rfl (fun ls hl => ?_)
            refine lv_goto (tgt := 39) S.1 S.2.1 dX8_tombstones_82 (by decide) ?_
            have q_15 : (nI (tcM (thr μ 0) k y (i + 1)) : Int32) = nI ((tcM (thr μ 0) k y i) + 0) := by first | (first | (simp [tcM, c_3, c_6, hi, c_13, c_14]; done) | (simp [tcM, c_3, c_6, hi, c_13, c_14]; omega) | (simp [tcM, ← Int32.not_le, c_3, c_6, hi, c_13, c_14]; done) | (simp [tcM, c_3, c_6, hi, c_13, eq_true c_14]; done)) | exact congrArg nI (by omega) | with_reducible rfl
            have hl : lv_has ls 5 [(0, .ref (gA G 39)), (1, .int (nI k)), (2, .int (y)), (3, .int (nI (tcM (thr μ 0) k y (i + 1)))), (4, .int (nI (i + 1)))] := by
              have hl := lv_sub hl [2, 3, 4, 1, 0] rfl
              rw [q_15]; exact hl
            exact ih_39 (i + 1) (by first | omega | exact Nat.zero_le _) (by omega) _ _ Z ls (hl)
          · skip
            refine lv_iload S.1 S.2.1 dX8_tombstones_63 (lv_at hl 4 rfl) ?_
            refine vp_callSi (va_runS (As := [.int (nI i)]) (rest := [.int (nI (tcM (thr μ 0) k y i))]) S (k_X8_kindOf l G σ (thr μ 0) o i (by omega)) (va_cwS 1 S.2.2.2.2 gX8_tombstones_X8_kindOf rfl rfl rfl hy_X8_kindOf ⟨Nat.le_of_ble_eq_true rfl, Nat.le_of_ble_eq_true rfl⟩) (wPc_S Z) rfl rfl hl.1 rfl (lv_room (Nat.le_of_ble_eq_true rfl)) dX8_tombstones_65 ⟨Nat.le_of_ble_eq_true rfl, Nat.le_of_ble_eq_true rfl⟩).run (fun r_16 h_17 => ?_)
            rw [h_17]; clear h_17 r_16
            refine lv_iload_n S.1 S.2.1 dX8_tombstones_68 rfl (lv_at hl 2 rfl) ?_
            refine lv_icmp_ne (tgt := 76) S.1 S.2.1 dX8_tombstones_69 (by decide) (fun c_18 => ?_) (fun c_18 => ?_)
            · skip
              refine lv_iconst (v := nI 0) S.1 S.2.1 dX8_tombstones_76 (by decide) ?_
              refine r_addN S dX8_tombstones_77 ?_
              refine lv_istore_n (lv' := [(3, .int (nI ((tcM (thr μ 0) k y i) + 0))), (0, .ref (gA G 39)), (1, .int (nI k)), (2, .int (y)), (4, .int (nI i))]) S.1 S.2.1 dX8_tombstones_78 rfl hl (by decide) rfl (fun ls hl => ?_)
              refine lv_iinc (v := nI (i + 1)) (lv' := [(4, .int (nI (i + 1))), (3, .int (nI ((tcM (thr μ 0) k y i) + 0))), (0, .ref (gA G 39)), (1, .int (nI k)), (2, .int (y))]) S.1 S.2.1 dX8_tombstones_79 hl (k := 4) rfl (nI_inc rfl) (by decide) rfl (fun ls hl => ?_)
              refine lv_goto (tgt := 39) S.1 S.2.1 dX8_tombstones_82 (by decide) ?_
              have q_19 : (nI (tcM (thr μ 0) k y (i + 1)) : Int32) = nI ((tcM (thr μ 0) k y i) + 0) := by first | (first | (simp [tcM, c_3, c_6, hi, c_13, c_14, c_18]; done) | (simp [tcM, c_3, c_6, hi, c_13, c_14, c_18]; omega) | (simp [tcM, ← Int32.not_le, c_3, c_6, hi, c_13, c_14, c_18]; done)) | exact congrArg nI (by omega) | with_reducible rfl
              have hl : lv_has ls 5 [(0, .ref (gA G 39)), (1, .int (nI k)), (2, .int (y)), (3, .int (nI (tcM (thr μ 0) k y (i + 1)))), (4, .int (nI (i + 1)))] := by
                have hl := lv_sub hl [2, 3, 4, 1, 0] rfl
                rw [q_19]; exact hl
              exact ih_39 (i + 1) (by first | omega | exact Nat.zero_le _) (by omega) _ _ Z ls (hl)
            · skip
              refine lv_iconst (v := nI 1) S.1 S.2.1 dX8_tombstones_72 (by decide) ?_
              refine lv_goto (tgt := 77) S.1 S.2.1 dX8_tombstones_73 (by decide) ?_
              refine r_addN S dX8_tombstones_77 ?_
              refine lv_istore_n (lv' := [(3, .int (nI ((tcM (thr μ 0) k y i) + 1))), (0, .ref (gA G 39)), (1, .int (nI k)), (2, .int (y)), (4, .int (nI i))]) S.1 S.2.1 dX8_tombstones_78 rfl hl (by decide) rfl (fun ls hl => ?_)
              refine lv_iinc (v := nI (i + 1)) (lv' := [(4, .int (nI (i + 1))), (3, .int (nI ((tcM (thr μ 0) k y i) + 1))), (0, .ref (gA G 39)), (1, .int (nI k)), (2, .int (y))]) S.1 S.2.1 dX8_tombstones_79 hl (k := 4) rfl (nI_inc rfl) (by decide) rfl (fun ls hl => ?_)
              refine lv_goto (tgt := 39) S.1 S.2.1 dX8_tombstones_82 (by decide) ?_
              have q_20 : (nI (tcM (thr μ 0) k y (i + 1)) : Int32) = nI ((tcM (thr μ 0) k y i) + 1) := by first | (first | (simp [tcM, c_3, c_6, hi, c_13, c_14, c_18]; done) | (simp [tcM, c_3, c_6, hi, c_13, c_14, c_18]; omega) | (simp [tcM, ← Int32.not_le, c_3, c_6, hi, c_13, c_14, c_18]; done) | (simp [tcM, c_3, c_6, hi, c_13, c_14, eq_true c_18]; done)) | exact congrArg nI (by omega) | with_reducible rfl
              have hl : lv_has ls 5 [(0, .ref (gA G 39)), (1, .int (nI k)), (2, .int (y)), (3, .int (nI (tcM (thr μ 0) k y (i + 1)))), (4, .int (nI (i + 1)))] := by
                have hl := lv_sub hl [2, 3, 4, 1, 0] rfl
                rw [q_20]; exact hl
              exact ih_39 (i + 1) (by first | omega | exact Nat.zero_le _) (by omega) _ _ Z ls (hl)
    have q_21 : (nI (tcM (thr μ 0) k y 0) : Int32) = nI 0 := by first | with_reducible rfl | (first | (simp [tcM, c_3, c_6]; done) | (simp [tcM, c_3, c_6]; omega) | (simp [tcM, ← Int32.not_le, c_3, c_6]; done)) | exact congrArg nI (by omega) | rfl
    have hl : lv_has ls 5 [(0, .ref (gA G 39)), (1, .int (nI k)), (2, .int (y)), (3, .int (nI (tcM (thr μ 0) k y 0))), (4, .int (nI 0))] := by
      have hl := lv_sub hl [2, 3, 4, 1, 0] rfl
      rw [q_21]; exact hl
    exact L_39 (92 - 0 + 1) 0 (by first | omega | exact Nat.zero_le _) (Nat.lt_succ_self _) _ _ Z ls (hl)

abbrev rm_k_X8_tombstones_B : Room := { frames := 2, cells := 0, slots := 0, locals := 42 }
set_option maxHeartbeats 4000000 in
set_option maxRecDepth 100000 in
theorem k_X8_tombstones_B (l : Launch) (G : wG) (σ : cS) (μ : mS) (o : Nat → Int64) (x : Int32) (y : Int32) (hb : isCopyB x = false) : Met l yX8_tombstones wsX8_tombstones rm_k_X8_tombstones_B (wPc G σ μ o [.ref (gA G 39), .int (x), .int (y)]) (va_Qi (fun (rr : Int32) (u : cS × mS) => rr = nI (0) ∧ u = (σ, thr μ 1)) (fun u t => wI G u.1 u.2 o t) (gP G)) 0 0 (gP G) := by
  refine Met.ofW (cc := cX8_tombstones) (maxL := 5) (ret := (some .int)) (by decide) rfl ?_
  intro p e s m args below meth c s₁ B hml hv
  obtain ⟨hargs, hI⟩ := hv
  have S : CallFix p m c cX8_tombstones 5 s args wsX8_tombstones RX8 := ⟨B.exec, B.bytes, hml, findClass_of_methodNamed B.named, atoms_spec (ws := wsX8_tombstones) B.pre⟩
  have hret := B.returns
  have hlocks := B.notSynchronized
  have Z := wZ_0 hI
  clear hI
  obtain ⟨Q, hQ⟩ : ∃ Q, Q = MQ below (va_Qi (fun (rr : Int32) (u : cS × mS) => rr = nI (0) ∧ u = (σ, thr μ 1)) (fun u t => wI G u.1 u.2 o t) (gP G)) args s 0 0 (gP G) := ⟨_, rfl⟩
  rw [← hQ]
  have hl := lv_entry [.ref (gA G 39), .int (x), .int (y)] (n := 5) (Nat.le_of_ble_eq_true rfl)
  rw [show entryFrame m args 5 = entryFrame m ([.ref (gA G 39), .int (x), .int (y)] : List Value).toArray 5 from by rw [hargs], lg_entry_eq]
  generalize (lg_sl [.ref (gA G 39), .int (x), .int (y)] ++ List.replicate (5 - (lg_sl [.ref (gA G 39), .int (x), .int (y)]).length) Slot.unset).toArray = ls at hl ⊢
  have hl : lv_has ls 5 [(0, .ref (gA G 39)), (1, .int (x)), (2, .int (y))] := hl
  refine lv_aload_n S.1 S.2.1 dX8_tombstones_0 rfl (lv_at hl 0 rfl) ?_
  refine lv_iload_n S.1 S.2.1 dX8_tombstones_1 rfl (lv_at hl 1 rfl) ?_
  refine vp_callSi (va_runS (As := [.int (x)]) (rest := [.ref (gA G 39)]) S (k_X8_isCopy l G σ μ o x ) (va_cwS 1 S.2.2.2.2 gX8_tombstones_X8_isCopy rfl rfl rfl hy_X8_isCopy ⟨Nat.le_of_ble_eq_true rfl, Nat.le_of_ble_eq_true rfl⟩) (wPc_S Z) rfl rfl hl.1 rfl (lv_room (Nat.le_of_ble_eq_true rfl)) dX8_tombstones_2 ⟨Nat.le_of_ble_eq_true rfl, Nat.le_of_ble_eq_true rfl⟩).run (fun r_1 h_2 => ?_)
  rw [h_2]; clear h_2 r_1
  refine r_if_neB S (tgt := 12) dX8_tombstones_5 (by decide) (fun c_3 => absurd c_3 (by simp_all)) (fun c_3 => ?_)
  refine lv_iconst (v := nI 1) S.1 S.2.1 dX8_tombstones_8 (by decide) ?_
  refine lv_goto (tgt := 26) S.1 S.2.1 dX8_tombstones_9 (by decide) ?_
  refine va_calli (va_runV (As := [.int (nI 1)]) (rest := []) S (k_X8_can l G σ μ o 1 (by omega)) (cwV 1 S.2.2.2.2 gX8_tombstones_X8_can rfl rfl rfl ⟨rfl, hy_X8_can⟩ ⟨Nat.le_of_ble_eq_true rfl, Nat.le_of_ble_eq_true rfl⟩) (wPc_V (q := (RX8, TX8, 19)) Z (by decide) rfl rfl) rfl rfl hl.1 rfl (lv_room (Nat.le_of_ble_eq_true rfl)) dX8_tombstones_26 ⟨Nat.le_of_ble_eq_true rfl, Nat.le_of_ble_eq_true rfl⟩) Z.2.2.2.2 (fun _ _ h => h) (fun _ h => h) (fun r_4 u_5 T9 H1 locs1 hT9 hvm hw hB hz hk9 hS => ?_)
  obtain ⟨hr9, rfl⟩ := hw
  rw [hr9]; clear hr9 r_4
  have Z : wZ G (σ) (thr μ 1) o s H1 locs1 := wZ_callP Z hB hT9 hS
  clear hB hT9 hS hk9 hz hvm T9
  revert Z; generalize H1 = H; generalize locs1 = locs; intro Z
  refine W.widen (k := 0) (n := 0) (by decide) (by decide) ?_
  refine r_if_neB S (tgt := 34) dX8_tombstones_29 (by decide) (fun c_6 => absurd c_6 (by decide)) (fun c_6 => ?_)
  refine lv_iconst (v := nI 0) S.1 S.2.1 dX8_tombstones_32 (by decide) ?_
  rw [hQ]
  exact W.iret (v := nI 0) S.1 S.2.1 hret (fun _ hT9 hW => ⟨⟨_, (σ, thr μ 1), rfl, ⟨rfl, rfl⟩, wZ_P Z hT9 hW⟩, Z.2.2.2.2.F hT9⟩) Z.2.2.2.2.2.2 dX8_tombstones_33

theorem i_X8_entries_X8 : ∀ w ∈ wsX80, w ∈ wsX8_entries := by decide +kernel
theorem m_X8_entries_f7 : Cond.fieldLink RX8 7 "WideCellModel" "stamp" "[I" ∈ wsX8_entries := by decide +kernel
abbrev rm_k_X8_entries : Room := { frames := 3, cells := 0, slots := 0, locals := 63 }
set_option maxHeartbeats 4000000 in
set_option maxRecDepth 100000 in
theorem k_X8_entries (l : Launch) (G : wG) (σ : cS) (μ : mS) (o : Nat → Int64) (k : Nat) (hk3 : k < 3) : Met l yX8_entries wsX8_entries rm_k_X8_entries (wPc G σ μ o [.ref (gA G 39), .int (nI k)]) (va_Qi (fun (rr : Int32) (u : cS × mS) => rr = nI (ecM (thr μ 0) k 64) ∧ u = (σ, thr μ 0)) (fun u t => wI G u.1 u.2 o t) (gP G)) 0 0 (gP G) := by
  refine Met.ofW (cc := cX8_entries) (maxL := 4) (ret := (some .int)) (by decide) rfl ?_
  intro p e s m args below meth c s₁ B hml hv
  obtain ⟨hargs, hI⟩ := hv
  have S : CallFix p m c cX8_entries 4 s args wsX8_entries RX8 := ⟨B.exec, B.bytes, hml, findClass_of_methodNamed B.named, atoms_spec (ws := wsX8_entries) B.pre⟩
  have hret := B.returns
  have hlocks := B.notSynchronized
  have Z := wZ_0 hI
  clear hI
  obtain ⟨Q, hQ⟩ : ∃ Q, Q = MQ below (va_Qi (fun (rr : Int32) (u : cS × mS) => rr = nI (ecM (thr μ 0) k 64) ∧ u = (σ, thr μ 0)) (fun u t => wI G u.1 u.2 o t) (gP G)) args s 0 0 (gP G) := ⟨_, rfl⟩
  rw [← hQ]
  have hl := lv_entry [.ref (gA G 39), .int (nI k)] (n := 4) (Nat.le_of_ble_eq_true rfl)
  rw [show entryFrame m args 4 = entryFrame m ([.ref (gA G 39), .int (nI k)] : List Value).toArray 4 from by rw [hargs], lg_entry_eq]
  generalize (lg_sl [.ref (gA G 39), .int (nI k)] ++ List.replicate (4 - (lg_sl [.ref (gA G 39), .int (nI k)]).length) Slot.unset).toArray = ls at hl ⊢
  have hl : lv_has ls 4 [(0, .ref (gA G 39)), (1, .int (nI k))] := hl
  refine lv_aload_n S.1 S.2.1 dX8_entries_0 rfl (lv_at hl 0 rfl) ?_
  refine lv_iload_n S.1 S.2.1 dX8_entries_1 rfl (lv_at hl 1 rfl) ?_
  refine va_calli (va_runV (As := [.int (nI k)]) (rest := []) S (k_X8_isAsked l G σ μ o k (by omega)) (cwV 1 S.2.2.2.2 gX8_entries_X8_isAsked rfl rfl rfl ⟨rfl, hy_X8_isAsked⟩ ⟨Nat.le_of_ble_eq_true rfl, Nat.le_of_ble_eq_true rfl⟩) (wPc_V (q := (RX8, TX8, 19)) Z (by decide) rfl rfl) rfl rfl hl.1 rfl (lv_room (Nat.le_of_ble_eq_true rfl)) dX8_entries_2 ⟨Nat.le_of_ble_eq_true rfl, Nat.le_of_ble_eq_true rfl⟩) Z.2.2.2.2 (fun _ _ h => h) (fun _ h => h) (fun r_1 u_2 T9 H1 locs1 hT9 hvm hw hB hz hk9 hS => ?_)
  obtain ⟨hr9, rfl⟩ := hw
  rw [hr9]; clear hr9 r_1
  have Z : wZ G (σ) (thr μ 0) o s H1 locs1 := wZ_callP Z hB hT9 hS
  clear hB hT9 hS hk9 hz hvm T9
  revert Z; generalize H1 = H; generalize locs1 = locs; intro Z
  refine W.widen (k := 0) (n := 0) (by decide) (by decide) ?_
  refine r_if_neB S (tgt := 10) dX8_entries_5 (by decide) (fun c_3 => ?_) (fun c_3 => absurd c_3 (by decide))
  refine lv_iconst (v := nI 0) S.1 S.2.1 dX8_entries_10 (by decide) ?_
  refine lv_istore_n (lv' := [(2, .int (nI 0)), (0, .ref (gA G 39)), (1, .int (nI k))]) S.1 S.2.1 dX8_entries_11 rfl hl (by decide) rfl (fun ls hl => ?_)
  refine lv_bipush (v := nI 64) S.1 S.2.1 dX8_entries_12 (by decide) ?_
  refine lv_iload_n S.1 S.2.1 dX8_entries_14 rfl (lv_at hl 2 rfl) ?_
  refine r_mulN S dX8_entries_15 ?_
  refine lv_istore_n (lv' := [(3, .int (nI (64 * k))), (2, .int (nI 0)), (0, .ref (gA G 39)), (1, .int (nI k))]) S.1 S.2.1 dX8_entries_16 rfl hl (by decide) rfl (fun ls hl => ?_)
  have L_17 : ∀ (n : Nat) (i : Nat) (hi : i ≤ 64) (hn : 64 - i < n) (H : Heap) (locs : List Loc) (Z : wZ G (σ) (thr μ 0) o s H locs) (ls : Array Slot) (hl : lv_has ls 4 [(0, .ref (gA G 39)), (1, .int (nI k)), (2, .int (nI (ecM (thr μ 0) k i))), (3, .int (nI (64 * k + i)))]), W p l e (headSpec wsX8_entries rm_k_X8_entries).room s m args below meth c H locs 0 0 Q (F0 m 17 ls []) := by
    intro n
    induction n with
    | zero => intro i hi hn; omega
    | succ n ih_17 =>
      intro i hi hn H locs Z ls hl
      refine lv_iload_n S.1 S.2.1 dX8_entries_17 rfl (lv_at hl 3 rfl) ?_
      refine lv_bipush (v := nI 64) S.1 S.2.1 dX8_entries_18 (by decide) ?_
      refine lv_iload_n S.1 S.2.1 dX8_entries_20 rfl (lv_at hl 1 rfl) ?_
      refine r_mulN S dX8_entries_21 ?_
      refine lv_bipush (v := nI 64) S.1 S.2.1 dX8_entries_22 (by decide) ?_
      refine r_addN S dX8_entries_24 ?_
      refine r_icmpN_ge S (tgt := 52) (by omega) (by omega) dX8_entries_25 (by decide) (fun c_4 => ?_) (fun c_4 => ?_)
      · skip
        refine lv_iload_n S.1 S.2.1 dX8_entries_52 rfl (lv_at hl 2 rfl) ?_
        rw [hQ]
        exact W.iret (v := nI (ecM (thr μ 0) k i)) S.1 S.2.1 hret (fun _ hT9 hW => ⟨⟨_, (σ, thr μ 0), rfl, ⟨(by rw [show i = 64 from by omega]), rfl⟩, wZ_P Z hT9 hW⟩, Z.2.2.2.2.F hT9⟩) Z.2.2.2.2.2.2 dX8_entries_53
      · skip
        refine lv_iload_n S.1 S.2.1 dX8_entries_28 rfl (lv_at hl 2 rfl) ?_
        refine lv_aload_n S.1 S.2.1 dX8_entries_29 rfl (lv_at hl 0 rfl) ?_
        refine r_get (C := RX8) (T := TX8) (N := 19) (ci := 8) S Z (by decide) rfl rfl i_X8_entries_X8 0 (by decide) m_X8_entries_f7 rfl (v := .ref (gA G 40)) rfl dX8_entries_30 ?_
        refine lv_iload_n S.1 S.2.1 dX8_entries_33 rfl (lv_at hl 3 rfl) ?_
        refine r_ialdM S Z (n := 256) ⟨rfl, rfl⟩ (by omega) (by decide) dX8_entries_34 ?_
        refine lv_iconst (v := -1) S.1 S.2.1 dX8_entries_35 (by decide) ?_
        refine lv_icmp_ne (tgt := 43) S.1 S.2.1 dX8_entries_36 (by decide) (fun c_5 => ?_) (fun c_5 => ?_)
        · skip
          refine lv_iconst (v := nI 1) S.1 S.2.1 dX8_entries_43 (by decide) ?_
          refine r_addN S dX8_entries_44 ?_
          refine lv_istore_n (lv' := [(2, .int (nI ((ecM (thr μ 0) k i) + 1))), (0, .ref (gA G 39)), (1, .int (nI k)), (3, .int (nI (64 * k + i)))]) S.1 S.2.1 dX8_entries_45 rfl hl (by decide) rfl (fun ls hl => ?_)
          refine lv_iinc (v := nI (64 * k + i + 1)) (lv' := [(3, .int (nI (64 * k + i + 1))), (2, .int (nI ((ecM (thr μ 0) k i) + 1))), (0, .ref (gA G 39)), (1, .int (nI k))]) S.1 S.2.1 dX8_entries_46 hl (k := 3) rfl (nI_inc rfl) (by decide) rfl (fun ls hl => ?_)
          refine lv_goto (tgt := 17) S.1 S.2.1 dX8_entries_49 (by decide) ?_
          have q_6 : (nI (ecM (thr μ 0) k (i + 1)) : Int32) = nI ((ecM (thr μ 0) k i) + 1) := by first | (first | (simp [ecM, hi, c_4, c_5]; done) | (simp [ecM, hi, c_4, c_5]; omega) | (simp [ecM, ← Int32.not_le, hi, c_4, c_5]; done)) | exact congrArg nI (by omega) | with_reducible rfl
          have q_7 : (nI (64 * k + (i + 1)) : Int32) = nI (64 * k + i + 1) := by exact congrArg nI (by omega)
          have hl : lv_has ls 4 [(0, .ref (gA G 39)), (1, .int (nI k)), (2, .int (nI (ecM (thr μ 0) k (i + 1)))), (3, .int (nI (64 * k + (i + 1))))] := by
            have hl := lv_sub hl [2, 3, 1, 0] rfl
            rw [q_6, q_7]; exact hl
          exact ih_17 (i + 1) (by first | omega | exact Nat.zero_le _) (by omega) _ _ Z ls (hl)
        · skip
          refine lv_iconst (v := nI 0) S.1 S.2.1 dX8_entries_39 (by decide) ?_
          refine lv_goto (tgt := 44) S.1 S.2.1 dX8_entries_40 (by decide) ?_
          refine r_addN S dX8_entries_44 ?_
          refine lv_istore_n (lv' := [(2, .int (nI ((ecM (thr μ 0) k i) + 0))), (0, .ref (gA G 39)), (1, .int (nI k)), (3, .int (nI (64 * k + i)))]) S.1 S.2.1 dX8_entries_45 rfl hl (by decide) rfl (fun ls hl => ?_)
          refine lv_iinc (v := nI (64 * k + i + 1)) (lv' := [(3, .int (nI (64 * k + i + 1))), (2, .int (nI ((ecM (thr μ 0) k i) + 0))), (0, .ref (gA G 39)), (1, .int (nI k))]) S.1 S.2.1 dX8_entries_46 hl (k := 3) rfl (nI_inc rfl) (by decide) rfl (fun ls hl => ?_)
          refine lv_goto (tgt := 17) S.1 S.2.1 dX8_entries_49 (by decide) ?_
          have q_8 : (nI (ecM (thr μ 0) k (i + 1)) : Int32) = nI ((ecM (thr μ 0) k i) + 0) := by first | (first | (simp [ecM, hi, c_4, c_5]; done) | (simp [ecM, hi, c_4, c_5]; omega) | (simp [ecM, ← Int32.not_le, hi, c_4, c_5]; done) | (simp [ecM, hi, c_4, eq_true c_5]; done)) | exact congrArg nI (by omega) | with_reducible rfl
          have q_9 : (nI (64 * k + (i + 1)) : Int32) = nI (64 * k + i + 1) := by exact congrArg nI (by omega)
          have hl : lv_has ls 4 [(0, .ref (gA G 39)), (1, .int (nI k)), (2, .int (nI (ecM (thr μ 0) k (i + 1)))), (3, .int (nI (64 * k + (i + 1))))] := by
            have hl := lv_sub hl [2, 3, 1, 0] rfl
            rw [q_8, q_9]; exact hl
          exact ih_17 (i + 1) (by first | omega | exact Nat.zero_le _) (by omega) _ _ Z ls (hl)
  have q_10 : (nI (ecM (thr μ 0) k 0) : Int32) = nI 0 := by first | with_reducible rfl | (first | (simp [ecM]; done) | (simp [ecM]; omega) | (simp [ecM, ← Int32.not_le]; done)) | exact congrArg nI (by omega) | rfl
  have q_11 : (nI (64 * k + 0) : Int32) = nI (64 * k) := by rfl
  have hl : lv_has ls 4 [(0, .ref (gA G 39)), (1, .int (nI k)), (2, .int (nI (ecM (thr μ 0) k 0))), (3, .int (nI (64 * k + 0)))] := by
    have hl := lv_sub hl [2, 3, 1, 0] rfl
    rw [q_10, q_11]; exact hl
  exact L_17 (64 - 0 + 1) 0 (by first | omega | exact Nat.zero_le _) (Nat.lt_succ_self _) _ _ Z ls (hl)

abbrev rm_k_X8_entries_B : Room := { frames := 3, cells := 0, slots := 0, locals := 63 }
set_option maxHeartbeats 4000000 in
set_option maxRecDepth 100000 in
theorem k_X8_entries_B (l : Launch) (G : wG) (σ : cS) (μ : mS) (o : Nat → Int64) (x : Int32) (hb : isCopyB x = false) : Met l yX8_entries wsX8_entries rm_k_X8_entries_B (wPc G σ μ o [.ref (gA G 39), .int (x)]) (va_Qi (fun (rr : Int32) (u : cS × mS) => rr = nI (0) ∧ u = (σ, thr μ 1)) (fun u t => wI G u.1 u.2 o t) (gP G)) 0 0 (gP G) := by
  refine Met.ofW (cc := cX8_entries) (maxL := 4) (ret := (some .int)) (by decide) rfl ?_
  intro p e s m args below meth c s₁ B hml hv
  obtain ⟨hargs, hI⟩ := hv
  have S : CallFix p m c cX8_entries 4 s args wsX8_entries RX8 := ⟨B.exec, B.bytes, hml, findClass_of_methodNamed B.named, atoms_spec (ws := wsX8_entries) B.pre⟩
  have hret := B.returns
  have hlocks := B.notSynchronized
  have Z := wZ_0 hI
  clear hI
  obtain ⟨Q, hQ⟩ : ∃ Q, Q = MQ below (va_Qi (fun (rr : Int32) (u : cS × mS) => rr = nI (0) ∧ u = (σ, thr μ 1)) (fun u t => wI G u.1 u.2 o t) (gP G)) args s 0 0 (gP G) := ⟨_, rfl⟩
  rw [← hQ]
  have hl := lv_entry [.ref (gA G 39), .int (x)] (n := 4) (Nat.le_of_ble_eq_true rfl)
  rw [show entryFrame m args 4 = entryFrame m ([.ref (gA G 39), .int (x)] : List Value).toArray 4 from by rw [hargs], lg_entry_eq]
  generalize (lg_sl [.ref (gA G 39), .int (x)] ++ List.replicate (4 - (lg_sl [.ref (gA G 39), .int (x)]).length) Slot.unset).toArray = ls at hl ⊢
  have hl : lv_has ls 4 [(0, .ref (gA G 39)), (1, .int (x))] := hl
  refine lv_aload_n S.1 S.2.1 dX8_entries_0 rfl (lv_at hl 0 rfl) ?_
  refine lv_iload_n S.1 S.2.1 dX8_entries_1 rfl (lv_at hl 1 rfl) ?_
  refine va_calli (va_runV (As := [.int (x)]) (rest := []) S (k_X8_isAsked_B l G σ μ o x hb) (cwV 1 S.2.2.2.2 gX8_entries_X8_isAsked rfl rfl rfl ⟨rfl, hy_X8_isAsked⟩ ⟨Nat.le_of_ble_eq_true rfl, Nat.le_of_ble_eq_true rfl⟩) (wPc_V (q := (RX8, TX8, 19)) Z (by decide) rfl rfl) rfl rfl hl.1 rfl (lv_room (Nat.le_of_ble_eq_true rfl)) dX8_entries_2 ⟨Nat.le_of_ble_eq_true rfl, Nat.le_of_ble_eq_true rfl⟩) Z.2.2.2.2 (fun _ _ h => h) (fun _ h => h) (fun r_1 u_2 T9 H1 locs1 hT9 hvm hw hB hz hk9 hS => ?_)
  obtain ⟨hr9, rfl⟩ := hw
  rw [hr9]; clear hr9 r_1
  have Z : wZ G (σ) (thr μ 1) o s H1 locs1 := wZ_callP Z hB hT9 hS
  clear hB hT9 hS hk9 hz hvm T9
  revert Z; generalize H1 = H; generalize locs1 = locs; intro Z
  refine W.widen (k := 0) (n := 0) (by decide) (by decide) ?_
  refine r_if_neB S (tgt := 10) dX8_entries_5 (by decide) (fun c_3 => absurd c_3 (by decide)) (fun c_3 => ?_)
  refine lv_iconst (v := nI 0) S.1 S.2.1 dX8_entries_8 (by decide) ?_
  rw [hQ]
  exact W.iret (v := nI 0) S.1 S.2.1 hret (fun _ hT9 hW => ⟨⟨_, (σ, thr μ 1), rfl, ⟨rfl, rfl⟩, wZ_P Z hT9 hW⟩, Z.2.2.2.2.F hT9⟩) Z.2.2.2.2.2.2 dX8_entries_9

abbrev rm_k_X8_ideal : Room := { frames := 4, cells := 0, slots := 0, locals := 96 }
set_option maxHeartbeats 4000000 in
set_option maxRecDepth 100000 in
theorem k_X8_ideal (l : Launch) (G : wG) (σ : cS) (μ : mS) (o : Nat → Int64) (row : Nat) (col : Nat) (hrow : row < 16) (hcol : col < 4) (hmr : mR μ ≤ 8) : Met l yX8_ideal wsX8_ideal rm_k_X8_ideal (wPc G σ μ o [.ref (gA G 39), .int (nI row), .int (nI col)]) (va_Qi (fun (rr : Int32) (u : cS × mS) => rr = seeM (thr μ 0) 3 row col ∧ u = (σ, thr μ 0)) (fun u t => wI G u.1 u.2 o t) (gP G)) 0 0 (gP G) := by
  refine Met.ofW (cc := cX8_ideal) (maxL := 3) (ret := (some .int)) (by decide) rfl ?_
  intro p e s m args below meth c s₁ B hml hv
  obtain ⟨hargs, hI⟩ := hv
  have S : CallFix p m c cX8_ideal 3 s args wsX8_ideal RX8 := ⟨B.exec, B.bytes, hml, findClass_of_methodNamed B.named, atoms_spec (ws := wsX8_ideal) B.pre⟩
  have hret := B.returns
  have hlocks := B.notSynchronized
  have Z := wZ_0 hI
  clear hI
  obtain ⟨Q, hQ⟩ : ∃ Q, Q = MQ below (va_Qi (fun (rr : Int32) (u : cS × mS) => rr = seeM (thr μ 0) 3 row col ∧ u = (σ, thr μ 0)) (fun u t => wI G u.1 u.2 o t) (gP G)) args s 0 0 (gP G) := ⟨_, rfl⟩
  rw [← hQ]
  have hl := lv_entry [.ref (gA G 39), .int (nI row), .int (nI col)] (n := 3) (Nat.le_of_ble_eq_true rfl)
  rw [show entryFrame m args 3 = entryFrame m ([.ref (gA G 39), .int (nI row), .int (nI col)] : List Value).toArray 3 from by rw [hargs], lg_entry_eq]
  generalize (lg_sl [.ref (gA G 39), .int (nI row), .int (nI col)] ++ List.replicate (3 - (lg_sl [.ref (gA G 39), .int (nI row), .int (nI col)]).length) Slot.unset).toArray = ls at hl ⊢
  have hl : lv_has ls 3 [(0, .ref (gA G 39)), (1, .int (nI row)), (2, .int (nI col))] := hl
  refine lv_aload_n S.1 S.2.1 dX8_ideal_0 rfl (lv_at hl 0 rfl) ?_
  refine lv_iload_n S.1 S.2.1 dX8_ideal_1 rfl (lv_at hl 1 rfl) ?_
  refine lv_iload_n S.1 S.2.1 dX8_ideal_2 rfl (lv_at hl 2 rfl) ?_
  refine vp_callSi (va_runS (As := [.int (nI row), .int (nI col)]) (rest := [.ref (gA G 39)]) S (k_X8_isCell l G σ μ o (nI row) (nI col) ) (va_cwS 2 S.2.2.2.2 gX8_ideal_X8_isCell rfl rfl rfl hy_X8_isCell ⟨Nat.le_of_ble_eq_true rfl, Nat.le_of_ble_eq_true rfl⟩) (wPc_S Z) rfl rfl hl.1 rfl (lv_room (Nat.le_of_ble_eq_true rfl)) dX8_ideal_3 ⟨Nat.le_of_ble_eq_true rfl, Nat.le_of_ble_eq_true rfl⟩).run (fun r_1 h_2 => ?_)
  rw [h_2]; clear h_2 r_1
  refine r_if_eqB S (tgt := 13) dX8_ideal_6 (by decide) (fun c_3 => absurd c_3 (by rw [isCellB_ok hrow hcol]; decide)) (fun c_3 => ?_)
  refine lv_iconst (v := nI 0) S.1 S.2.1 dX8_ideal_9 (by decide) ?_
  refine lv_goto (tgt := 14) S.1 S.2.1 dX8_ideal_10 (by decide) ?_
  refine va_calli (va_runV (As := [.int (nI 0)]) (rest := []) S (k_X8_can l G σ μ o 0 (by omega)) (cwV 1 S.2.2.2.2 gX8_ideal_X8_can rfl rfl rfl ⟨rfl, hy_X8_can⟩ ⟨Nat.le_of_ble_eq_true rfl, Nat.le_of_ble_eq_true rfl⟩) (wPc_V (q := (RX8, TX8, 19)) Z (by decide) rfl rfl) rfl rfl hl.1 rfl (lv_room (Nat.le_of_ble_eq_true rfl)) dX8_ideal_14 ⟨Nat.le_of_ble_eq_true rfl, Nat.le_of_ble_eq_true rfl⟩) Z.2.2.2.2 (fun _ _ h => h) (fun _ h => h) (fun r_4 u_5 T9 H1 locs1 hT9 hvm hw hB hz hk9 hS => ?_)
  obtain ⟨hr9, rfl⟩ := hw
  rw [hr9]; clear hr9 r_4
  have Z : wZ G (σ) (thr μ 0) o s H1 locs1 := wZ_callP Z hB hT9 hS
  clear hB hT9 hS hk9 hz hvm T9
  revert Z; generalize H1 = H; generalize locs1 = locs; intro Z
  refine W.widen (k := 0) (n := 0) (by decide) (by decide) ?_
  refine r_if_eqB S (tgt := 30) dX8_ideal_17 (by decide) (fun c_6 => absurd c_6 (by decide)) (fun c_6 => ?_)
  refine lv_aload_n S.1 S.2.1 dX8_ideal_20 rfl (lv_at hl 0 rfl) ?_
  refine lv_iconst (v := nI 3) S.1 S.2.1 dX8_ideal_21 (by decide) ?_
  refine lv_iload_n S.1 S.2.1 dX8_ideal_22 rfl (lv_at hl 1 rfl) ?_
  refine lv_iload_n S.1 S.2.1 dX8_ideal_23 rfl (lv_at hl 2 rfl) ?_
  refine vp_callSi (va_runV (As := [.int (nI 3), .int (nI row), .int (nI col)]) (rest := []) S (k_X8_seen l G σ (thr μ 0) o 3 row col (by omega) (by omega) (by omega) hmr) (cwV 3 S.2.2.2.2 gX8_ideal_X8_seen rfl rfl rfl ⟨rfl, hy_X8_seen⟩ ⟨Nat.le_of_ble_eq_true rfl, Nat.le_of_ble_eq_true rfl⟩) (wPc_V (q := (RX8, TX8, 19)) Z (by decide) rfl rfl) rfl rfl hl.1 rfl (lv_room (Nat.le_of_ble_eq_true rfl)) dX8_ideal_24 ⟨Nat.le_of_ble_eq_true rfl, Nat.le_of_ble_eq_true rfl⟩).run (fun r_7 h_8 => ?_)
  rw [h_8]; clear h_8 r_7
  refine lv_goto (tgt := 31) S.1 S.2.1 dX8_ideal_27 (by decide) ?_
  rw [hQ]
  exact W.iret (v := seeM (thr μ 0) 3 row col) S.1 S.2.1 hret (fun _ hT9 hW => ⟨⟨_, (σ, thr μ 0), rfl, ⟨rfl, rfl⟩, wZ_P Z hT9 hW⟩, Z.2.2.2.2.F hT9⟩) Z.2.2.2.2.2.2 dX8_ideal_31

abbrev rm_k_X8_ideal_B : Room := { frames := 2, cells := 0, slots := 0, locals := 43 }
set_option maxHeartbeats 4000000 in
set_option maxRecDepth 100000 in
theorem k_X8_ideal_B (l : Launch) (G : wG) (σ : cS) (μ : mS) (o : Nat → Int64) (y : Int32) (z : Int32) (hb : isCellB y z = false) : Met l yX8_ideal wsX8_ideal rm_k_X8_ideal_B (wPc G σ μ o [.ref (gA G 39), .int (y), .int (z)]) (va_Qi (fun (rr : Int32) (u : cS × mS) => rr = nI (0) ∧ u = (σ, thr μ 1)) (fun u t => wI G u.1 u.2 o t) (gP G)) 0 0 (gP G) := by
  refine Met.ofW (cc := cX8_ideal) (maxL := 3) (ret := (some .int)) (by decide) rfl ?_
  intro p e s m args below meth c s₁ B hml hv
  obtain ⟨hargs, hI⟩ := hv
  have S : CallFix p m c cX8_ideal 3 s args wsX8_ideal RX8 := ⟨B.exec, B.bytes, hml, findClass_of_methodNamed B.named, atoms_spec (ws := wsX8_ideal) B.pre⟩
  have hret := B.returns
  have hlocks := B.notSynchronized
  have Z := wZ_0 hI
  clear hI
  obtain ⟨Q, hQ⟩ : ∃ Q, Q = MQ below (va_Qi (fun (rr : Int32) (u : cS × mS) => rr = nI (0) ∧ u = (σ, thr μ 1)) (fun u t => wI G u.1 u.2 o t) (gP G)) args s 0 0 (gP G) := ⟨_, rfl⟩
  rw [← hQ]
  have hl := lv_entry [.ref (gA G 39), .int (y), .int (z)] (n := 3) (Nat.le_of_ble_eq_true rfl)
  rw [show entryFrame m args 3 = entryFrame m ([.ref (gA G 39), .int (y), .int (z)] : List Value).toArray 3 from by rw [hargs], lg_entry_eq]
  generalize (lg_sl [.ref (gA G 39), .int (y), .int (z)] ++ List.replicate (3 - (lg_sl [.ref (gA G 39), .int (y), .int (z)]).length) Slot.unset).toArray = ls at hl ⊢
  have hl : lv_has ls 3 [(0, .ref (gA G 39)), (1, .int (y)), (2, .int (z))] := hl
  refine lv_aload_n S.1 S.2.1 dX8_ideal_0 rfl (lv_at hl 0 rfl) ?_
  refine lv_iload_n S.1 S.2.1 dX8_ideal_1 rfl (lv_at hl 1 rfl) ?_
  refine lv_iload_n S.1 S.2.1 dX8_ideal_2 rfl (lv_at hl 2 rfl) ?_
  refine vp_callSi (va_runS (As := [.int (y), .int (z)]) (rest := [.ref (gA G 39)]) S (k_X8_isCell l G σ μ o y z ) (va_cwS 2 S.2.2.2.2 gX8_ideal_X8_isCell rfl rfl rfl hy_X8_isCell ⟨Nat.le_of_ble_eq_true rfl, Nat.le_of_ble_eq_true rfl⟩) (wPc_S Z) rfl rfl hl.1 rfl (lv_room (Nat.le_of_ble_eq_true rfl)) dX8_ideal_3 ⟨Nat.le_of_ble_eq_true rfl, Nat.le_of_ble_eq_true rfl⟩).run (fun r_1 h_2 => ?_)
  rw [h_2]; clear h_2 r_1
  refine r_if_eqB S (tgt := 13) dX8_ideal_6 (by decide) (fun c_3 => ?_) (fun c_3 => absurd c_3 (by rw [hb]; decide))
  refine lv_iconst (v := nI 1) S.1 S.2.1 dX8_ideal_13 (by decide) ?_
  refine va_calli (va_runV (As := [.int (nI 1)]) (rest := []) S (k_X8_can l G σ μ o 1 (by omega)) (cwV 1 S.2.2.2.2 gX8_ideal_X8_can rfl rfl rfl ⟨rfl, hy_X8_can⟩ ⟨Nat.le_of_ble_eq_true rfl, Nat.le_of_ble_eq_true rfl⟩) (wPc_V (q := (RX8, TX8, 19)) Z (by decide) rfl rfl) rfl rfl hl.1 rfl (lv_room (Nat.le_of_ble_eq_true rfl)) dX8_ideal_14 ⟨Nat.le_of_ble_eq_true rfl, Nat.le_of_ble_eq_true rfl⟩) Z.2.2.2.2 (fun _ _ h => h) (fun _ h => h) (fun r_4 u_5 T9 H1 locs1 hT9 hvm hw hB hz hk9 hS => ?_)
  obtain ⟨hr9, rfl⟩ := hw
  rw [hr9]; clear hr9 r_4
  have Z : wZ G (σ) (thr μ 1) o s H1 locs1 := wZ_callP Z hB hT9 hS
  clear hB hT9 hS hk9 hz hvm T9
  revert Z; generalize H1 = H; generalize locs1 = locs; intro Z
  refine W.widen (k := 0) (n := 0) (by decide) (by decide) ?_
  refine r_if_eqB S (tgt := 30) dX8_ideal_17 (by decide) (fun c_6 => ?_) (fun c_6 => absurd c_6 (by decide))
  refine lv_iconst (v := nI 0) S.1 S.2.1 dX8_ideal_30 (by decide) ?_
  rw [hQ]
  exact W.iret (v := nI 0) S.1 S.2.1 hret (fun _ hT9 hW => ⟨⟨_, (σ, thr μ 1), rfl, ⟨rfl, rfl⟩, wZ_P Z hT9 hW⟩, Z.2.2.2.2.F hT9⟩) Z.2.2.2.2.2.2 dX8_ideal_31

abbrev rm_k_X8_sumOf : Room := { frames := 5, cells := 0, slots := 0, locals := 119 }
set_option maxHeartbeats 4000000 in
set_option maxRecDepth 100000 in
theorem k_X8_sumOf (l : Launch) (G : wG) (σ : cS) (μ : mS) (o : Nat → Int64) (k : Nat) (lv : Nat) (nd : Nat) (hk3 : k < 3) (hlv : lv < 5) (hnd : nd < 2 ^ lv) (hmr : mR μ ≤ 8) : Met l yX8_sumOf wsX8_sumOf rm_k_X8_sumOf (wPc G σ μ o [.ref (gA G 39), .int (nI k), .int (nI lv), .int (nI nd)]) (va_Qi (fun (rr : Int32) (u : cS × mS) => rr = snM μ k lv nd ∧ u = (σ, thr μ 0)) (fun u t => wI G u.1 u.2 o t) (gP G)) 0 0 (gP G) := by
  refine Met.ofW (cc := cX8_sumOf) (maxL := 5) (ret := (some .int)) (by decide) rfl ?_
  intro p e s m args below meth c s₁ B hml hv
  obtain ⟨hargs, hI⟩ := hv
  have S : CallFix p m c cX8_sumOf 5 s args wsX8_sumOf RX8 := ⟨B.exec, B.bytes, hml, findClass_of_methodNamed B.named, atoms_spec (ws := wsX8_sumOf) B.pre⟩
  have hret := B.returns
  have hlocks := B.notSynchronized
  have Z := wZ_0 hI
  clear hI
  obtain ⟨Q, hQ⟩ : ∃ Q, Q = MQ below (va_Qi (fun (rr : Int32) (u : cS × mS) => rr = snM μ k lv nd ∧ u = (σ, thr μ 0)) (fun u t => wI G u.1 u.2 o t) (gP G)) args s 0 0 (gP G) := ⟨_, rfl⟩
  rw [← hQ]
  have hl := lv_entry [.ref (gA G 39), .int (nI k), .int (nI lv), .int (nI nd)] (n := 5) (Nat.le_of_ble_eq_true rfl)
  rw [show entryFrame m args 5 = entryFrame m ([.ref (gA G 39), .int (nI k), .int (nI lv), .int (nI nd)] : List Value).toArray 5 from by rw [hargs], lg_entry_eq]
  generalize (lg_sl [.ref (gA G 39), .int (nI k), .int (nI lv), .int (nI nd)] ++ List.replicate (5 - (lg_sl [.ref (gA G 39), .int (nI k), .int (nI lv), .int (nI nd)]).length) Slot.unset).toArray = ls at hl ⊢
  have hl : lv_has ls 5 [(0, .ref (gA G 39)), (1, .int (nI k)), (2, .int (nI lv)), (3, .int (nI nd))] := hl
  have hp2 := p2 hlv
  refine lv_iload_n S.1 S.2.1 dX8_sumOf_0 rfl (lv_at hl 1 rfl) ?_
  refine vp_callSi (va_runS (As := [.int (nI k)]) (rest := []) S (k_X8_isCopy l G σ μ o (nI k) ) (va_cwS 1 S.2.2.2.2 gX8_sumOf_X8_isCopy rfl rfl rfl hy_X8_isCopy ⟨Nat.le_of_ble_eq_true rfl, Nat.le_of_ble_eq_true rfl⟩) (wPc_S Z) rfl rfl hl.1 rfl (lv_room (Nat.le_of_ble_eq_true rfl)) dX8_sumOf_1 ⟨Nat.le_of_ble_eq_true rfl, Nat.le_of_ble_eq_true rfl⟩).run (fun r_1 h_2 => ?_)
  rw [h_2]; clear h_2 r_1
  refine r_if_eqB S (tgt := 33) dX8_sumOf_4 (by decide) (fun c_3 => absurd c_3 (by rw [isCopyB_ok hk3]; decide)) (fun c_3 => ?_)
  refine lv_iload_n S.1 S.2.1 dX8_sumOf_7 rfl (lv_at hl 2 rfl) ?_
  refine lv_iconst (v := nI 0) S.1 S.2.1 dX8_sumOf_8 (by decide) ?_
  refine lv_iconst (v := nI 4) S.1 S.2.1 dX8_sumOf_9 (by decide) ?_
  refine vp_callSi (va_runS (As := [.int (nI lv), .int (nI 0), .int (nI 4)]) (rest := []) S (k_X8_isIn l G σ μ o (nI lv) (nI 0) (nI 4) ) (va_cwS 3 S.2.2.2.2 gX8_sumOf_X8_isIn rfl rfl rfl hy_X8_isIn ⟨Nat.le_of_ble_eq_true rfl, Nat.le_of_ble_eq_true rfl⟩) (wPc_S Z) rfl rfl hl.1 rfl (lv_room (Nat.le_of_ble_eq_true rfl)) dX8_sumOf_10 ⟨Nat.le_of_ble_eq_true rfl, Nat.le_of_ble_eq_true rfl⟩).run (fun r_4 h_5 => ?_)
  rw [h_5]; clear h_5 r_4
  refine r_if_eqB S (tgt := 33) dX8_sumOf_13 (by decide) (fun c_6 => absurd c_6 (by rw [isInB_ok (Nat.zero_le _) (by omega) (by decide)]; decide)) (fun c_6 => ?_)
  refine lv_iload_n S.1 S.2.1 dX8_sumOf_16 rfl (lv_at hl 3 rfl) ?_
  refine lv_iconst (v := nI 0) S.1 S.2.1 dX8_sumOf_17 (by decide) ?_
  refine lv_iconst (v := nI 1) S.1 S.2.1 dX8_sumOf_18 (by decide) ?_
  refine lv_iload_n S.1 S.2.1 dX8_sumOf_19 rfl (lv_at hl 2 rfl) ?_
  refine r_shl1 S (by omega) dX8_sumOf_20 ?_
  refine lv_iconst (v := nI 1) S.1 S.2.1 dX8_sumOf_21 (by decide) ?_
  refine r_subN S (by omega) dX8_sumOf_22 ?_
  refine vp_callSi (va_runS (As := [.int (nI nd), .int (nI 0), .int (nI ((2 ^ lv) - 1))]) (rest := []) S (k_X8_isIn l G σ μ o (nI nd) (nI 0) (nI ((2 ^ lv) - 1)) ) (va_cwS 3 S.2.2.2.2 gX8_sumOf_X8_isIn rfl rfl rfl hy_X8_isIn ⟨Nat.le_of_ble_eq_true rfl, Nat.le_of_ble_eq_true rfl⟩) (wPc_S Z) rfl rfl hl.1 rfl (lv_room (Nat.le_of_ble_eq_true rfl)) dX8_sumOf_23 ⟨Nat.le_of_ble_eq_true rfl, Nat.le_of_ble_eq_true rfl⟩).run (fun r_7 h_8 => ?_)
  rw [h_8]; clear h_8 r_7
  refine r_if_eqB S (tgt := 33) dX8_sumOf_26 (by decide) (fun c_9 => absurd c_9 (by rw [isInB_ok (Nat.zero_le _) (by omega) (by omega)]; decide)) (fun c_9 => ?_)
  refine lv_iconst (v := nI 1) S.1 S.2.1 dX8_sumOf_29 (by decide) ?_
  refine lv_goto (tgt := 34) S.1 S.2.1 dX8_sumOf_30 (by decide) ?_
  refine lv_istore (lv' := [(4, .int (nI 1)), (0, .ref (gA G 39)), (1, .int (nI k)), (2, .int (nI lv)), (3, .int (nI nd))]) S.1 S.2.1 dX8_sumOf_34 hl (by decide) rfl (fun ls hl => ?_)
  refine lv_aload_n S.1 S.2.1 dX8_sumOf_36 rfl (lv_at hl 1 rfl) ?_
  refine lv_iload S.1 S.2.1 dX8_sumOf_37 (lv_at hl 0 rfl) ?_
  refine r_if_eqN S (tgt := 46) (by decide) dX8_sumOf_39 (by decide) (fun c_10 => absurd c_10 (by decide)) (fun c_10 => ?_)
  refine lv_iconst (v := nI 0) S.1 S.2.1 dX8_sumOf_42 (by decide) ?_
  refine lv_goto (tgt := 47) S.1 S.2.1 dX8_sumOf_43 (by decide) ?_
  refine va_calli (va_runV (As := [.int (nI 0)]) (rest := []) S (k_X8_can l G σ μ o 0 (by omega)) (cwV 1 S.2.2.2.2 gX8_sumOf_X8_can rfl rfl rfl ⟨rfl, hy_X8_can⟩ ⟨Nat.le_of_ble_eq_true rfl, Nat.le_of_ble_eq_true rfl⟩) (wPc_V (q := (RX8, TX8, 19)) Z (by decide) rfl rfl) rfl rfl hl.1 rfl (lv_room (Nat.le_of_ble_eq_true rfl)) dX8_sumOf_47 ⟨Nat.le_of_ble_eq_true rfl, Nat.le_of_ble_eq_true rfl⟩) Z.2.2.2.2 (fun _ _ h => h) (fun _ h => h) (fun r_11 u_12 T9 H1 locs1 hT9 hvm hw hB hz hk9 hS => ?_)
  obtain ⟨hr9, rfl⟩ := hw
  rw [hr9]; clear hr9 r_11
  have Z : wZ G (σ) (thr μ 0) o s H1 locs1 := wZ_callP Z hB hT9 hS
  clear hB hT9 hS hk9 hz hvm T9
  revert Z; generalize H1 = H; generalize locs1 = locs; intro Z
  refine W.widen (k := 0) (n := 0) (by decide) (by decide) ?_
  refine r_if_eqB S (tgt := 63) dX8_sumOf_50 (by decide) (fun c_13 => absurd c_13 (by decide)) (fun c_13 => ?_)
  refine lv_aload_n S.1 S.2.1 dX8_sumOf_53 rfl (lv_at hl 1 rfl) ?_
  refine lv_iload_n S.1 S.2.1 dX8_sumOf_54 rfl (lv_at hl 2 rfl) ?_
  refine lv_iload_n S.1 S.2.1 dX8_sumOf_55 rfl (lv_at hl 3 rfl) ?_
  refine lv_iload_n S.1 S.2.1 dX8_sumOf_56 rfl (lv_at hl 4 rfl) ?_
  refine vp_callSi (va_runV (As := [.int (nI k), .int (nI lv), .int (nI nd)]) (rest := []) S (k_X8_sumOfNode l G σ (thr μ 0) o μ k lv nd (by omega) (by omega) (by omega) hmr ⟨rfl, rfl⟩) (cwV 3 S.2.2.2.2 gX8_sumOf_X8_sumOfNode rfl rfl rfl ⟨rfl, hy_X8_sumOfNode⟩ ⟨Nat.le_of_ble_eq_true rfl, Nat.le_of_ble_eq_true rfl⟩) (wPc_V (q := (RX8, TX8, 19)) Z (by decide) rfl rfl) rfl rfl hl.1 rfl (lv_room (Nat.le_of_ble_eq_true rfl)) dX8_sumOf_57 ⟨Nat.le_of_ble_eq_true rfl, Nat.le_of_ble_eq_true rfl⟩).run (fun r_14 h_15 => ?_)
  rw [h_15]; clear h_15 r_14
  refine lv_goto (tgt := 64) S.1 S.2.1 dX8_sumOf_60 (by decide) ?_
  rw [hQ]
  exact W.iret (v := snM μ k lv nd) S.1 S.2.1 hret (fun _ hT9 hW => ⟨⟨_, (σ, thr μ 0), rfl, ⟨rfl, rfl⟩, wZ_P Z hT9 hW⟩, Z.2.2.2.2.F hT9⟩) Z.2.2.2.2.2.2 dX8_sumOf_64

abbrev rm_k_X8_sumOf_B : Room := { frames := 2, cells := 0, slots := 0, locals := 42 }
set_option maxHeartbeats 4000000 in
set_option maxRecDepth 100000 in
theorem k_X8_sumOf_B (l : Launch) (G : wG) (σ : cS) (μ : mS) (o : Nat → Int64) (x : Int32) (y : Int32) (z : Int32) (hb : (isCopyB x && isInB y (nI 0) (nI 4) && isInB z (nI 0) ((nI 1 <<< (y &&& 31)) - nI 1)) = false) : Met l yX8_sumOf wsX8_sumOf rm_k_X8_sumOf_B (wPc G σ μ o [.ref (gA G 39), .int (x), .int (y), .int (z)]) (va_Qi (fun (rr : Int32) (u : cS × mS) => rr = nI (0) ∧ u = (σ, thr μ 1)) (fun u t => wI G u.1 u.2 o t) (gP G)) 0 0 (gP G) := by
  refine Met.ofW (cc := cX8_sumOf) (maxL := 5) (ret := (some .int)) (by decide) rfl ?_
  intro p e s m args below meth c s₁ B hml hv
  obtain ⟨hargs, hI⟩ := hv
  have S : CallFix p m c cX8_sumOf 5 s args wsX8_sumOf RX8 := ⟨B.exec, B.bytes, hml, findClass_of_methodNamed B.named, atoms_spec (ws := wsX8_sumOf) B.pre⟩
  have hret := B.returns
  have hlocks := B.notSynchronized
  have Z := wZ_0 hI
  clear hI
  obtain ⟨Q, hQ⟩ : ∃ Q, Q = MQ below (va_Qi (fun (rr : Int32) (u : cS × mS) => rr = nI (0) ∧ u = (σ, thr μ 1)) (fun u t => wI G u.1 u.2 o t) (gP G)) args s 0 0 (gP G) := ⟨_, rfl⟩
  rw [← hQ]
  have hl := lv_entry [.ref (gA G 39), .int (x), .int (y), .int (z)] (n := 5) (Nat.le_of_ble_eq_true rfl)
  rw [show entryFrame m args 5 = entryFrame m ([.ref (gA G 39), .int (x), .int (y), .int (z)] : List Value).toArray 5 from by rw [hargs], lg_entry_eq]
  generalize (lg_sl [.ref (gA G 39), .int (x), .int (y), .int (z)] ++ List.replicate (5 - (lg_sl [.ref (gA G 39), .int (x), .int (y), .int (z)]).length) Slot.unset).toArray = ls at hl ⊢
  have hl : lv_has ls 5 [(0, .ref (gA G 39)), (1, .int (x)), (2, .int (y)), (3, .int (z))] := hl
  have L_36 : ∀   (H : Heap) (locs : List Loc) (Z : wZ G (σ) (μ) o s H locs) (ls : Array Slot) (hl : lv_has ls 5 [(0, .ref (gA G 39)), (1, .int (x)), (2, .int (y)), (3, .int (z)), (4, .int (bi false))]), W p l e (headSpec wsX8_sumOf rm_k_X8_sumOf_B).room s m args below meth c H locs 0 0 Q (F0 m 36 ls []) := by
    intro   H locs Z ls hl
    refine lv_aload_n S.1 S.2.1 dX8_sumOf_36 rfl (lv_at hl 0 rfl) ?_
    refine lv_iload S.1 S.2.1 dX8_sumOf_37 (lv_at hl 4 rfl) ?_
    refine r_if_eqB S (tgt := 46) dX8_sumOf_39 (by decide) (fun c_1 => ?_) (fun c_1 => absurd c_1 (by decide))
    refine lv_iconst (v := nI 1) S.1 S.2.1 dX8_sumOf_46 (by decide) ?_
    refine va_calli (va_runV (As := [.int (nI 1)]) (rest := []) S (k_X8_can l G σ μ o 1 (by omega)) (cwV 1 S.2.2.2.2 gX8_sumOf_X8_can rfl rfl rfl ⟨rfl, hy_X8_can⟩ ⟨Nat.le_of_ble_eq_true rfl, Nat.le_of_ble_eq_true rfl⟩) (wPc_V (q := (RX8, TX8, 19)) Z (by decide) rfl rfl) rfl rfl hl.1 rfl (lv_room (Nat.le_of_ble_eq_true rfl)) dX8_sumOf_47 ⟨Nat.le_of_ble_eq_true rfl, Nat.le_of_ble_eq_true rfl⟩) Z.2.2.2.2 (fun _ _ h => h) (fun _ h => h) (fun r_2 u_3 T9 H1 locs1 hT9 hvm hw hB hz hk9 hS => ?_)
    obtain ⟨hr9, rfl⟩ := hw
    rw [hr9]; clear hr9 r_2
    have Z : wZ G (σ) (thr μ 1) o s H1 locs1 := wZ_callP Z hB hT9 hS
    clear hB hT9 hS hk9 hz hvm T9
    revert Z; generalize H1 = H; generalize locs1 = locs; intro Z
    refine W.widen (k := 0) (n := 0) (by decide) (by decide) ?_
    refine r_if_eqB S (tgt := 63) dX8_sumOf_50 (by decide) (fun c_4 => ?_) (fun c_4 => absurd c_4 (by decide))
    refine lv_iconst (v := nI 0) S.1 S.2.1 dX8_sumOf_63 (by decide) ?_
    rw [hQ]
    exact W.iret (v := nI 0) S.1 S.2.1 hret (fun _ hT9 hW => ⟨⟨_, (σ, thr μ 1), rfl, ⟨rfl, rfl⟩, wZ_P Z hT9 hW⟩, Z.2.2.2.2.F hT9⟩) Z.2.2.2.2.2.2 dX8_sumOf_64
  refine lv_iload_n S.1 S.2.1 dX8_sumOf_0 rfl (lv_at hl 1 rfl) ?_
  refine vp_callSi (va_runS (As := [.int (x)]) (rest := []) S (k_X8_isCopy l G σ μ o x ) (va_cwS 1 S.2.2.2.2 gX8_sumOf_X8_isCopy rfl rfl rfl hy_X8_isCopy ⟨Nat.le_of_ble_eq_true rfl, Nat.le_of_ble_eq_true rfl⟩) (wPc_S Z) rfl rfl hl.1 rfl (lv_room (Nat.le_of_ble_eq_true rfl)) dX8_sumOf_1 ⟨Nat.le_of_ble_eq_true rfl, Nat.le_of_ble_eq_true rfl⟩).run (fun r_5 h_6 => ?_)
  rw [h_6]; clear h_6 r_5
  refine r_if_eqB S (tgt := 33) dX8_sumOf_4 (by decide) (fun c_7 => ?_) (fun c_7 => ?_)
  · skip
    refine lv_iconst (v := nI 0) S.1 S.2.1 dX8_sumOf_33 (by decide) ?_
    refine lv_istore (lv' := [(4, .int (nI 0)), (0, .ref (gA G 39)), (1, .int (x)), (2, .int (y)), (3, .int (z))]) S.1 S.2.1 dX8_sumOf_34 hl (by decide) rfl (fun ls hl => ?_)
    have q_8 : (bi false : Int32) = nI 0 := by rfl
    have hl : lv_has ls 5 [(0, .ref (gA G 39)), (1, .int (x)), (2, .int (y)), (3, .int (z)), (4, .int (bi false))] := by
      have hl := lv_sub hl [1, 2, 3, 4, 0] rfl
      rw [q_8]; exact hl
    exact L_36   _ _ Z ls (hl)
  · skip
    refine lv_iload_n S.1 S.2.1 dX8_sumOf_7 rfl (lv_at hl 2 rfl) ?_
    refine lv_iconst (v := nI 0) S.1 S.2.1 dX8_sumOf_8 (by decide) ?_
    refine lv_iconst (v := nI 4) S.1 S.2.1 dX8_sumOf_9 (by decide) ?_
    refine vp_callSi (va_runS (As := [.int (y), .int (nI 0), .int (nI 4)]) (rest := []) S (k_X8_isIn l G σ μ o y (nI 0) (nI 4) ) (va_cwS 3 S.2.2.2.2 gX8_sumOf_X8_isIn rfl rfl rfl hy_X8_isIn ⟨Nat.le_of_ble_eq_true rfl, Nat.le_of_ble_eq_true rfl⟩) (wPc_S Z) rfl rfl hl.1 rfl (lv_room (Nat.le_of_ble_eq_true rfl)) dX8_sumOf_10 ⟨Nat.le_of_ble_eq_true rfl, Nat.le_of_ble_eq_true rfl⟩).run (fun r_9 h_10 => ?_)
    rw [h_10]; clear h_10 r_9
    refine r_if_eqB S (tgt := 33) dX8_sumOf_13 (by decide) (fun c_11 => ?_) (fun c_11 => ?_)
    · skip
      refine lv_iconst (v := nI 0) S.1 S.2.1 dX8_sumOf_33 (by decide) ?_
      refine lv_istore (lv' := [(4, .int (nI 0)), (0, .ref (gA G 39)), (1, .int (x)), (2, .int (y)), (3, .int (z))]) S.1 S.2.1 dX8_sumOf_34 hl (by decide) rfl (fun ls hl => ?_)
      have q_12 : (bi false : Int32) = nI 0 := by rfl
      have hl : lv_has ls 5 [(0, .ref (gA G 39)), (1, .int (x)), (2, .int (y)), (3, .int (z)), (4, .int (bi false))] := by
        have hl := lv_sub hl [1, 2, 3, 4, 0] rfl
        rw [q_12]; exact hl
      exact L_36   _ _ Z ls (hl)
    · skip
      refine lv_iload_n S.1 S.2.1 dX8_sumOf_16 rfl (lv_at hl 3 rfl) ?_
      refine lv_iconst (v := nI 0) S.1 S.2.1 dX8_sumOf_17 (by decide) ?_
      refine lv_iconst (v := nI 1) S.1 S.2.1 dX8_sumOf_18 (by decide) ?_
      refine lv_iload_n S.1 S.2.1 dX8_sumOf_19 rfl (lv_at hl 2 rfl) ?_
      refine lv_ishl S.1 S.2.1 dX8_sumOf_20 ?_
      refine lv_iconst (v := nI 1) S.1 S.2.1 dX8_sumOf_21 (by decide) ?_
      refine lv_isub S.1 S.2.1 dX8_sumOf_22 ?_
      refine vp_callSi (va_runS (As := [.int (z), .int (nI 0), .int (((nI 1 <<< (y &&& 31)) - nI 1))]) (rest := []) S (k_X8_isIn l G σ μ o z (nI 0) (((nI 1 <<< (y &&& 31)) - nI 1)) ) (va_cwS 3 S.2.2.2.2 gX8_sumOf_X8_isIn rfl rfl rfl hy_X8_isIn ⟨Nat.le_of_ble_eq_true rfl, Nat.le_of_ble_eq_true rfl⟩) (wPc_S Z) rfl rfl hl.1 rfl (lv_room (Nat.le_of_ble_eq_true rfl)) dX8_sumOf_23 ⟨Nat.le_of_ble_eq_true rfl, Nat.le_of_ble_eq_true rfl⟩).run (fun r_13 h_14 => ?_)
      rw [h_14]; clear h_14 r_13
      refine r_if_eqB S (tgt := 33) dX8_sumOf_26 (by decide) (fun c_15 => ?_) (fun c_15 => absurd c_15 (by simp_all))
      refine lv_iconst (v := nI 0) S.1 S.2.1 dX8_sumOf_33 (by decide) ?_
      refine lv_istore (lv' := [(4, .int (nI 0)), (0, .ref (gA G 39)), (1, .int (x)), (2, .int (y)), (3, .int (z))]) S.1 S.2.1 dX8_sumOf_34 hl (by decide) rfl (fun ls hl => ?_)
      have q_16 : (bi false : Int32) = nI 0 := by rfl
      have hl : lv_has ls 5 [(0, .ref (gA G 39)), (1, .int (x)), (2, .int (y)), (3, .int (z)), (4, .int (bi false))] := by
        have hl := lv_sub hl [1, 2, 3, 4, 0] rfl
        rw [q_16]; exact hl
      exact L_36   _ _ Z ls (hl)

theorem i_X8_compared_X8 : ∀ w ∈ wsX80, w ∈ wsX8_compared := by decide +kernel
theorem m_X8_compared_f134 : Cond.fieldLink RX8 134 "WideCellModel" "visited" "I" ∈ wsX8_compared := by decide +kernel
abbrev rm_k_X8_compared : Room := { frames := 6, cells := 0, slots := 0, locals := 146 }
set_option maxHeartbeats 4000000 in
set_option maxRecDepth 100000 in
theorem k_X8_compared (l : Launch) (G : wG) (σ : cS) (μ : mS) (o : Nat → Int64) (k : Nat) (j : Nat) (hk3 : k < 3) (hj3 : j < 3) (hmr : mR μ ≤ 8) : Met l yX8_compared wsX8_compared rm_k_X8_compared (wPc G σ μ o [.ref (gA G 39), .int (nI k), .int (nI j)]) (va_Qi (fun (rr : Int32) (u : cS × mS) => rr = cpC (thr μ 0) k j 5 ∧ u = (σ, cpE (thr μ 0) k j)) (fun u t => wI G u.1 u.2 o t) (gP G)) 0 0 (gP G) := by
  refine Met.ofW (cc := cX8_compared) (maxL := 3) (ret := (some .int)) (by decide) rfl ?_
  intro p e s m args below meth c s₁ B hml hv
  obtain ⟨hargs, hI⟩ := hv
  have S : CallFix p m c cX8_compared 3 s args wsX8_compared RX8 := ⟨B.exec, B.bytes, hml, findClass_of_methodNamed B.named, atoms_spec (ws := wsX8_compared) B.pre⟩
  have hret := B.returns
  have hlocks := B.notSynchronized
  have Z := wZ_0 hI
  clear hI
  obtain ⟨Q, hQ⟩ : ∃ Q, Q = MQ below (va_Qi (fun (rr : Int32) (u : cS × mS) => rr = cpC (thr μ 0) k j 5 ∧ u = (σ, cpE (thr μ 0) k j)) (fun u t => wI G u.1 u.2 o t) (gP G)) args s 0 0 (gP G) := ⟨_, rfl⟩
  rw [← hQ]
  have hl := lv_entry [.ref (gA G 39), .int (nI k), .int (nI j)] (n := 3) (Nat.le_of_ble_eq_true rfl)
  rw [show entryFrame m args 3 = entryFrame m ([.ref (gA G 39), .int (nI k), .int (nI j)] : List Value).toArray 3 from by rw [hargs], lg_entry_eq]
  generalize (lg_sl [.ref (gA G 39), .int (nI k), .int (nI j)] ++ List.replicate (3 - (lg_sl [.ref (gA G 39), .int (nI k), .int (nI j)]).length) Slot.unset).toArray = ls at hl ⊢
  have hl : lv_has ls 3 [(0, .ref (gA G 39)), (1, .int (nI k)), (2, .int (nI j))] := hl
  refine lv_aload_n S.1 S.2.1 dX8_compared_0 rfl (lv_at hl 0 rfl) ?_
  refine lv_iload_n S.1 S.2.1 dX8_compared_1 rfl (lv_at hl 1 rfl) ?_
  refine vp_callSi (va_runS (As := [.int (nI k)]) (rest := [.ref (gA G 39)]) S (k_X8_isCopy l G σ μ o (nI k) ) (va_cwS 1 S.2.2.2.2 gX8_compared_X8_isCopy rfl rfl rfl hy_X8_isCopy ⟨Nat.le_of_ble_eq_true rfl, Nat.le_of_ble_eq_true rfl⟩) (wPc_S Z) rfl rfl hl.1 rfl (lv_room (Nat.le_of_ble_eq_true rfl)) dX8_compared_2 ⟨Nat.le_of_ble_eq_true rfl, Nat.le_of_ble_eq_true rfl⟩).run (fun r_1 h_2 => ?_)
  rw [h_2]; clear h_2 r_1
  refine r_if_eqB S (tgt := 19) dX8_compared_5 (by decide) (fun c_3 => absurd c_3 (by rw [isCopyB_ok hk3]; decide)) (fun c_3 => ?_)
  refine lv_iload_n S.1 S.2.1 dX8_compared_8 rfl (lv_at hl 2 rfl) ?_
  refine vp_callSi (va_runS (As := [.int (nI j)]) (rest := [.ref (gA G 39)]) S (k_X8_isCopy l G σ μ o (nI j) ) (va_cwS 1 S.2.2.2.2 gX8_compared_X8_isCopy rfl rfl rfl hy_X8_isCopy ⟨Nat.le_of_ble_eq_true rfl, Nat.le_of_ble_eq_true rfl⟩) (wPc_S Z) rfl rfl hl.1 rfl (lv_room (Nat.le_of_ble_eq_true rfl)) dX8_compared_9 ⟨Nat.le_of_ble_eq_true rfl, Nat.le_of_ble_eq_true rfl⟩).run (fun r_4 h_5 => ?_)
  rw [h_5]; clear h_5 r_4
  refine r_if_eqB S (tgt := 19) dX8_compared_12 (by decide) (fun c_6 => absurd c_6 (by rw [isCopyB_ok hj3]; decide)) (fun c_6 => ?_)
  refine lv_iconst (v := nI 0) S.1 S.2.1 dX8_compared_15 (by decide) ?_
  refine lv_goto (tgt := 20) S.1 S.2.1 dX8_compared_16 (by decide) ?_
  refine va_calli (va_runV (As := [.int (nI 0)]) (rest := []) S (k_X8_can l G σ μ o 0 (by omega)) (cwV 1 S.2.2.2.2 gX8_compared_X8_can rfl rfl rfl ⟨rfl, hy_X8_can⟩ ⟨Nat.le_of_ble_eq_true rfl, Nat.le_of_ble_eq_true rfl⟩) (wPc_V (q := (RX8, TX8, 19)) Z (by decide) rfl rfl) rfl rfl hl.1 rfl (lv_room (Nat.le_of_ble_eq_true rfl)) dX8_compared_20 ⟨Nat.le_of_ble_eq_true rfl, Nat.le_of_ble_eq_true rfl⟩) Z.2.2.2.2 (fun _ _ h => h) (fun _ h => h) (fun r_7 u_8 T9 H1 locs1 hT9 hvm hw hB hz hk9 hS => ?_)
  obtain ⟨hr9, rfl⟩ := hw
  rw [hr9]; clear hr9 r_7
  have Z : wZ G (σ) (thr μ 0) o s H1 locs1 := wZ_callP Z hB hT9 hS
  clear hB hT9 hS hk9 hz hvm T9
  revert Z; generalize H1 = H; generalize locs1 = locs; intro Z
  refine W.widen (k := 0) (n := 0) (by decide) (by decide) ?_
  refine r_if_neB S (tgt := 28) dX8_compared_23 (by decide) (fun c_9 => ?_) (fun c_9 => absurd c_9 (by decide))
  refine lv_aload_n S.1 S.2.1 dX8_compared_28 rfl (lv_at hl 0 rfl) ?_
  refine lv_iload_n S.1 S.2.1 dX8_compared_29 rfl (lv_at hl 1 rfl) ?_
  refine lv_iload_n S.1 S.2.1 dX8_compared_30 rfl (lv_at hl 2 rfl) ?_
  refine va_calli (va_runV (As := [.int (nI k), .int (nI j)]) (rest := []) S (k_X8_compares l G σ (thr μ 0) o k j (by omega) (by omega) hmr) (cwV 2 S.2.2.2.2 gX8_compared_X8_compares rfl rfl rfl ⟨rfl, hy_X8_compares⟩ ⟨Nat.le_of_ble_eq_true rfl, Nat.le_of_ble_eq_true rfl⟩) (wPc_V (q := (RX8, TX8, 19)) Z (by decide) rfl rfl) rfl rfl hl.1 rfl (lv_room (Nat.le_of_ble_eq_true rfl)) dX8_compared_31 ⟨Nat.le_of_ble_eq_true rfl, Nat.le_of_ble_eq_true rfl⟩) Z.2.2.2.2 (fun _ _ h => h) (fun _ h => h) (fun r_10 u_11 T9 H1 locs1 hT9 hvm hw hB hz hk9 hS => ?_)
  obtain ⟨hr9, rfl⟩ := hw
  rw [hr9]; clear hr9 r_10
  have Z : wZ G (σ) (cpE (thr μ 0) k j) o s H1 locs1 := wZ_callP Z hB hT9 hS
  clear hB hT9 hS hk9 hz hvm T9
  revert Z; generalize H1 = H; generalize locs1 = locs; intro Z
  refine W.widen (k := 0) (n := 0) (by decide) (by decide) ?_
  refine lv_pop S.1 S.2.1 dX8_compared_34 rfl ?_
  refine lv_aload_n S.1 S.2.1 dX8_compared_35 rfl (lv_at hl 0 rfl) ?_
  refine r_get (C := RX8) (T := TX8) (N := 19) (ci := 8) S Z (by decide) rfl rfl i_X8_compared_X8 17 (by decide) m_X8_compared_f134 rfl (v := .int (mV (cpE (thr μ 0) k j) 17)) rfl dX8_compared_36 ?_
  rw [hQ]
  exact W.iret (v := mV (cpE (thr μ 0) k j) 17) S.1 S.2.1 hret (fun _ hT9 hW => ⟨⟨_, (σ, cpE (thr μ 0) k j), rfl, ⟨(by unfold cpE; rw [mV_s]), rfl⟩, wZ_P Z hT9 hW⟩, Z.2.2.2.2.F hT9⟩) Z.2.2.2.2.2.2 dX8_compared_39

abbrev rm_k_X8_compared_B : Room := { frames := 2, cells := 0, slots := 0, locals := 42 }
set_option maxHeartbeats 4000000 in
set_option maxRecDepth 100000 in
theorem k_X8_compared_B (l : Launch) (G : wG) (σ : cS) (μ : mS) (o : Nat → Int64) (x : Int32) (y : Int32) (hb : (isCopyB x && isCopyB y) = false) : Met l yX8_compared wsX8_compared rm_k_X8_compared_B (wPc G σ μ o [.ref (gA G 39), .int (x), .int (y)]) (va_Qi (fun (rr : Int32) (u : cS × mS) => rr = nI (0) ∧ u = (σ, thr μ 1)) (fun u t => wI G u.1 u.2 o t) (gP G)) 0 0 (gP G) := by
  refine Met.ofW (cc := cX8_compared) (maxL := 3) (ret := (some .int)) (by decide) rfl ?_
  intro p e s m args below meth c s₁ B hml hv
  obtain ⟨hargs, hI⟩ := hv
  have S : CallFix p m c cX8_compared 3 s args wsX8_compared RX8 := ⟨B.exec, B.bytes, hml, findClass_of_methodNamed B.named, atoms_spec (ws := wsX8_compared) B.pre⟩
  have hret := B.returns
  have hlocks := B.notSynchronized
  have Z := wZ_0 hI
  clear hI
  obtain ⟨Q, hQ⟩ : ∃ Q, Q = MQ below (va_Qi (fun (rr : Int32) (u : cS × mS) => rr = nI (0) ∧ u = (σ, thr μ 1)) (fun u t => wI G u.1 u.2 o t) (gP G)) args s 0 0 (gP G) := ⟨_, rfl⟩
  rw [← hQ]
  have hl := lv_entry [.ref (gA G 39), .int (x), .int (y)] (n := 3) (Nat.le_of_ble_eq_true rfl)
  rw [show entryFrame m args 3 = entryFrame m ([.ref (gA G 39), .int (x), .int (y)] : List Value).toArray 3 from by rw [hargs], lg_entry_eq]
  generalize (lg_sl [.ref (gA G 39), .int (x), .int (y)] ++ List.replicate (3 - (lg_sl [.ref (gA G 39), .int (x), .int (y)]).length) Slot.unset).toArray = ls at hl ⊢
  have hl : lv_has ls 3 [(0, .ref (gA G 39)), (1, .int (x)), (2, .int (y))] := hl
  refine lv_aload_n S.1 S.2.1 dX8_compared_0 rfl (lv_at hl 0 rfl) ?_
  refine lv_iload_n S.1 S.2.1 dX8_compared_1 rfl (lv_at hl 1 rfl) ?_
  refine vp_callSi (va_runS (As := [.int (x)]) (rest := [.ref (gA G 39)]) S (k_X8_isCopy l G σ μ o x ) (va_cwS 1 S.2.2.2.2 gX8_compared_X8_isCopy rfl rfl rfl hy_X8_isCopy ⟨Nat.le_of_ble_eq_true rfl, Nat.le_of_ble_eq_true rfl⟩) (wPc_S Z) rfl rfl hl.1 rfl (lv_room (Nat.le_of_ble_eq_true rfl)) dX8_compared_2 ⟨Nat.le_of_ble_eq_true rfl, Nat.le_of_ble_eq_true rfl⟩).run (fun r_1 h_2 => ?_)
  rw [h_2]; clear h_2 r_1
  refine r_if_eqB S (tgt := 19) dX8_compared_5 (by decide) (fun c_3 => ?_) (fun c_3 => ?_)
  · skip
    refine lv_iconst (v := nI 1) S.1 S.2.1 dX8_compared_19 (by decide) ?_
    refine va_calli (va_runV (As := [.int (nI 1)]) (rest := []) S (k_X8_can l G σ μ o 1 (by omega)) (cwV 1 S.2.2.2.2 gX8_compared_X8_can rfl rfl rfl ⟨rfl, hy_X8_can⟩ ⟨Nat.le_of_ble_eq_true rfl, Nat.le_of_ble_eq_true rfl⟩) (wPc_V (q := (RX8, TX8, 19)) Z (by decide) rfl rfl) rfl rfl hl.1 rfl (lv_room (Nat.le_of_ble_eq_true rfl)) dX8_compared_20 ⟨Nat.le_of_ble_eq_true rfl, Nat.le_of_ble_eq_true rfl⟩) Z.2.2.2.2 (fun _ _ h => h) (fun _ h => h) (fun r_4 u_5 T9 H1 locs1 hT9 hvm hw hB hz hk9 hS => ?_)
    obtain ⟨hr9, rfl⟩ := hw
    rw [hr9]; clear hr9 r_4
    have Z : wZ G (σ) (thr μ 1) o s H1 locs1 := wZ_callP Z hB hT9 hS
    clear hB hT9 hS hk9 hz hvm T9
    revert Z; generalize H1 = H; generalize locs1 = locs; intro Z
    refine W.widen (k := 0) (n := 0) (by decide) (by decide) ?_
    refine r_if_neB S (tgt := 28) dX8_compared_23 (by decide) (fun c_6 => absurd c_6 (by decide)) (fun c_6 => ?_)
    refine lv_iconst (v := nI 0) S.1 S.2.1 dX8_compared_26 (by decide) ?_
    rw [hQ]
    exact W.iret (v := nI 0) S.1 S.2.1 hret (fun _ hT9 hW => ⟨⟨_, (σ, thr μ 1), rfl, ⟨rfl, rfl⟩, wZ_P Z hT9 hW⟩, Z.2.2.2.2.F hT9⟩) Z.2.2.2.2.2.2 dX8_compared_27
  · skip
    refine lv_iload_n S.1 S.2.1 dX8_compared_8 rfl (lv_at hl 2 rfl) ?_
    refine vp_callSi (va_runS (As := [.int (y)]) (rest := [.ref (gA G 39)]) S (k_X8_isCopy l G σ μ o y ) (va_cwS 1 S.2.2.2.2 gX8_compared_X8_isCopy rfl rfl rfl hy_X8_isCopy ⟨Nat.le_of_ble_eq_true rfl, Nat.le_of_ble_eq_true rfl⟩) (wPc_S Z) rfl rfl hl.1 rfl (lv_room (Nat.le_of_ble_eq_true rfl)) dX8_compared_9 ⟨Nat.le_of_ble_eq_true rfl, Nat.le_of_ble_eq_true rfl⟩).run (fun r_7 h_8 => ?_)
    rw [h_8]; clear h_8 r_7
    refine r_if_eqB S (tgt := 19) dX8_compared_12 (by decide) (fun c_9 => ?_) (fun c_9 => absurd c_9 (by simp_all))
    refine lv_iconst (v := nI 1) S.1 S.2.1 dX8_compared_19 (by decide) ?_
    refine va_calli (va_runV (As := [.int (nI 1)]) (rest := []) S (k_X8_can l G σ μ o 1 (by omega)) (cwV 1 S.2.2.2.2 gX8_compared_X8_can rfl rfl rfl ⟨rfl, hy_X8_can⟩ ⟨Nat.le_of_ble_eq_true rfl, Nat.le_of_ble_eq_true rfl⟩) (wPc_V (q := (RX8, TX8, 19)) Z (by decide) rfl rfl) rfl rfl hl.1 rfl (lv_room (Nat.le_of_ble_eq_true rfl)) dX8_compared_20 ⟨Nat.le_of_ble_eq_true rfl, Nat.le_of_ble_eq_true rfl⟩) Z.2.2.2.2 (fun _ _ h => h) (fun _ h => h) (fun r_10 u_11 T9 H1 locs1 hT9 hvm hw hB hz hk9 hS => ?_)
    obtain ⟨hr9, rfl⟩ := hw
    rw [hr9]; clear hr9 r_10
    have Z : wZ G (σ) (thr μ 1) o s H1 locs1 := wZ_callP Z hB hT9 hS
    clear hB hT9 hS hk9 hz hvm T9
    revert Z; generalize H1 = H; generalize locs1 = locs; intro Z
    refine W.widen (k := 0) (n := 0) (by decide) (by decide) ?_
    refine r_if_neB S (tgt := 28) dX8_compared_23 (by decide) (fun c_12 => absurd c_12 (by decide)) (fun c_12 => ?_)
    refine lv_iconst (v := nI 0) S.1 S.2.1 dX8_compared_26 (by decide) ?_
    rw [hQ]
    exact W.iret (v := nI 0) S.1 S.2.1 hret (fun _ hT9 hW => ⟨⟨_, (σ, thr μ 1), rfl, ⟨rfl, rfl⟩, wZ_P Z hT9 hW⟩, Z.2.2.2.2.F hT9⟩) Z.2.2.2.2.2.2 dX8_compared_27

abbrev rm_k_X8_unlike : Room := { frames := 6, cells := 0, slots := 0, locals := 146 }
set_option maxHeartbeats 4000000 in
set_option maxRecDepth 100000 in
theorem k_X8_unlike (l : Launch) (G : wG) (σ : cS) (μ : mS) (o : Nat → Int64) (k : Nat) (j : Nat) (hk3 : k < 3) (hj3 : j < 3) (hmr : mR μ ≤ 8) : Met l yX8_unlike wsX8_unlike rm_k_X8_unlike (wPc G σ μ o [.ref (gA G 39), .int (nI k), .int (nI j)]) (va_Qi (fun (rr : Int32) (u : cS × mS) => rr = cpS (thr μ 0) k j 5 ∧ u = (σ, cpE (thr μ 0) k j)) (fun u t => wI G u.1 u.2 o t) (gP G)) 0 0 (gP G) := by
  refine Met.ofW (cc := cX8_unlike) (maxL := 3) (ret := (some .int)) (by decide) rfl ?_
  intro p e s m args below meth c s₁ B hml hv
  obtain ⟨hargs, hI⟩ := hv
  have S : CallFix p m c cX8_unlike 3 s args wsX8_unlike RX8 := ⟨B.exec, B.bytes, hml, findClass_of_methodNamed B.named, atoms_spec (ws := wsX8_unlike) B.pre⟩
  have hret := B.returns
  have hlocks := B.notSynchronized
  have Z := wZ_0 hI
  clear hI
  obtain ⟨Q, hQ⟩ : ∃ Q, Q = MQ below (va_Qi (fun (rr : Int32) (u : cS × mS) => rr = cpS (thr μ 0) k j 5 ∧ u = (σ, cpE (thr μ 0) k j)) (fun u t => wI G u.1 u.2 o t) (gP G)) args s 0 0 (gP G) := ⟨_, rfl⟩
  rw [← hQ]
  have hl := lv_entry [.ref (gA G 39), .int (nI k), .int (nI j)] (n := 3) (Nat.le_of_ble_eq_true rfl)
  rw [show entryFrame m args 3 = entryFrame m ([.ref (gA G 39), .int (nI k), .int (nI j)] : List Value).toArray 3 from by rw [hargs], lg_entry_eq]
  generalize (lg_sl [.ref (gA G 39), .int (nI k), .int (nI j)] ++ List.replicate (3 - (lg_sl [.ref (gA G 39), .int (nI k), .int (nI j)]).length) Slot.unset).toArray = ls at hl ⊢
  have hl : lv_has ls 3 [(0, .ref (gA G 39)), (1, .int (nI k)), (2, .int (nI j))] := hl
  refine lv_aload_n S.1 S.2.1 dX8_unlike_0 rfl (lv_at hl 0 rfl) ?_
  refine lv_iload_n S.1 S.2.1 dX8_unlike_1 rfl (lv_at hl 1 rfl) ?_
  refine vp_callSi (va_runS (As := [.int (nI k)]) (rest := [.ref (gA G 39)]) S (k_X8_isCopy l G σ μ o (nI k) ) (va_cwS 1 S.2.2.2.2 gX8_unlike_X8_isCopy rfl rfl rfl hy_X8_isCopy ⟨Nat.le_of_ble_eq_true rfl, Nat.le_of_ble_eq_true rfl⟩) (wPc_S Z) rfl rfl hl.1 rfl (lv_room (Nat.le_of_ble_eq_true rfl)) dX8_unlike_2 ⟨Nat.le_of_ble_eq_true rfl, Nat.le_of_ble_eq_true rfl⟩).run (fun r_1 h_2 => ?_)
  rw [h_2]; clear h_2 r_1
  refine r_if_eqB S (tgt := 19) dX8_unlike_5 (by decide) (fun c_3 => absurd c_3 (by rw [isCopyB_ok hk3]; decide)) (fun c_3 => ?_)
  refine lv_iload_n S.1 S.2.1 dX8_unlike_8 rfl (lv_at hl 2 rfl) ?_
  refine vp_callSi (va_runS (As := [.int (nI j)]) (rest := [.ref (gA G 39)]) S (k_X8_isCopy l G σ μ o (nI j) ) (va_cwS 1 S.2.2.2.2 gX8_unlike_X8_isCopy rfl rfl rfl hy_X8_isCopy ⟨Nat.le_of_ble_eq_true rfl, Nat.le_of_ble_eq_true rfl⟩) (wPc_S Z) rfl rfl hl.1 rfl (lv_room (Nat.le_of_ble_eq_true rfl)) dX8_unlike_9 ⟨Nat.le_of_ble_eq_true rfl, Nat.le_of_ble_eq_true rfl⟩).run (fun r_4 h_5 => ?_)
  rw [h_5]; clear h_5 r_4
  refine r_if_eqB S (tgt := 19) dX8_unlike_12 (by decide) (fun c_6 => absurd c_6 (by rw [isCopyB_ok hj3]; decide)) (fun c_6 => ?_)
  refine lv_iconst (v := nI 0) S.1 S.2.1 dX8_unlike_15 (by decide) ?_
  refine lv_goto (tgt := 20) S.1 S.2.1 dX8_unlike_16 (by decide) ?_
  refine va_calli (va_runV (As := [.int (nI 0)]) (rest := []) S (k_X8_can l G σ μ o 0 (by omega)) (cwV 1 S.2.2.2.2 gX8_unlike_X8_can rfl rfl rfl ⟨rfl, hy_X8_can⟩ ⟨Nat.le_of_ble_eq_true rfl, Nat.le_of_ble_eq_true rfl⟩) (wPc_V (q := (RX8, TX8, 19)) Z (by decide) rfl rfl) rfl rfl hl.1 rfl (lv_room (Nat.le_of_ble_eq_true rfl)) dX8_unlike_20 ⟨Nat.le_of_ble_eq_true rfl, Nat.le_of_ble_eq_true rfl⟩) Z.2.2.2.2 (fun _ _ h => h) (fun _ h => h) (fun r_7 u_8 T9 H1 locs1 hT9 hvm hw hB hz hk9 hS => ?_)
  obtain ⟨hr9, rfl⟩ := hw
  rw [hr9]; clear hr9 r_7
  have Z : wZ G (σ) (thr μ 0) o s H1 locs1 := wZ_callP Z hB hT9 hS
  clear hB hT9 hS hk9 hz hvm T9
  revert Z; generalize H1 = H; generalize locs1 = locs; intro Z
  refine W.widen (k := 0) (n := 0) (by decide) (by decide) ?_
  refine r_if_eqB S (tgt := 35) dX8_unlike_23 (by decide) (fun c_9 => absurd c_9 (by decide)) (fun c_9 => ?_)
  refine lv_aload_n S.1 S.2.1 dX8_unlike_26 rfl (lv_at hl 0 rfl) ?_
  refine lv_iload_n S.1 S.2.1 dX8_unlike_27 rfl (lv_at hl 1 rfl) ?_
  refine lv_iload_n S.1 S.2.1 dX8_unlike_28 rfl (lv_at hl 2 rfl) ?_
  refine va_calli (va_runV (As := [.int (nI k), .int (nI j)]) (rest := []) S (k_X8_compares l G σ (thr μ 0) o k j (by omega) (by omega) hmr) (cwV 2 S.2.2.2.2 gX8_unlike_X8_compares rfl rfl rfl ⟨rfl, hy_X8_compares⟩ ⟨Nat.le_of_ble_eq_true rfl, Nat.le_of_ble_eq_true rfl⟩) (wPc_V (q := (RX8, TX8, 19)) Z (by decide) rfl rfl) rfl rfl hl.1 rfl (lv_room (Nat.le_of_ble_eq_true rfl)) dX8_unlike_29 ⟨Nat.le_of_ble_eq_true rfl, Nat.le_of_ble_eq_true rfl⟩) Z.2.2.2.2 (fun _ _ h => h) (fun _ h => h) (fun r_10 u_11 T9 H1 locs1 hT9 hvm hw hB hz hk9 hS => ?_)
  obtain ⟨hr9, rfl⟩ := hw
  rw [hr9]; clear hr9 r_10
  have Z : wZ G (σ) (cpE (thr μ 0) k j) o s H1 locs1 := wZ_callP Z hB hT9 hS
  clear hB hT9 hS hk9 hz hvm T9
  revert Z; generalize H1 = H; generalize locs1 = locs; intro Z
  refine W.widen (k := 0) (n := 0) (by decide) (by decide) ?_
  refine lv_goto (tgt := 36) S.1 S.2.1 dX8_unlike_32 (by decide) ?_
  rw [hQ]
  exact W.iret (v := cpS (thr μ 0) k j 5) S.1 S.2.1 hret (fun _ hT9 hW => ⟨⟨_, (σ, cpE (thr μ 0) k j), rfl, ⟨rfl, rfl⟩, wZ_P Z hT9 hW⟩, Z.2.2.2.2.F hT9⟩) Z.2.2.2.2.2.2 dX8_unlike_36

abbrev rm_k_X8_unlike_B : Room := { frames := 2, cells := 0, slots := 0, locals := 42 }
set_option maxHeartbeats 4000000 in
set_option maxRecDepth 100000 in
theorem k_X8_unlike_B (l : Launch) (G : wG) (σ : cS) (μ : mS) (o : Nat → Int64) (x : Int32) (y : Int32) (hb : (isCopyB x && isCopyB y) = false) : Met l yX8_unlike wsX8_unlike rm_k_X8_unlike_B (wPc G σ μ o [.ref (gA G 39), .int (x), .int (y)]) (va_Qi (fun (rr : Int32) (u : cS × mS) => rr = nI (0) ∧ u = (σ, thr μ 1)) (fun u t => wI G u.1 u.2 o t) (gP G)) 0 0 (gP G) := by
  refine Met.ofW (cc := cX8_unlike) (maxL := 3) (ret := (some .int)) (by decide) rfl ?_
  intro p e s m args below meth c s₁ B hml hv
  obtain ⟨hargs, hI⟩ := hv
  have S : CallFix p m c cX8_unlike 3 s args wsX8_unlike RX8 := ⟨B.exec, B.bytes, hml, findClass_of_methodNamed B.named, atoms_spec (ws := wsX8_unlike) B.pre⟩
  have hret := B.returns
  have hlocks := B.notSynchronized
  have Z := wZ_0 hI
  clear hI
  obtain ⟨Q, hQ⟩ : ∃ Q, Q = MQ below (va_Qi (fun (rr : Int32) (u : cS × mS) => rr = nI (0) ∧ u = (σ, thr μ 1)) (fun u t => wI G u.1 u.2 o t) (gP G)) args s 0 0 (gP G) := ⟨_, rfl⟩
  rw [← hQ]
  have hl := lv_entry [.ref (gA G 39), .int (x), .int (y)] (n := 3) (Nat.le_of_ble_eq_true rfl)
  rw [show entryFrame m args 3 = entryFrame m ([.ref (gA G 39), .int (x), .int (y)] : List Value).toArray 3 from by rw [hargs], lg_entry_eq]
  generalize (lg_sl [.ref (gA G 39), .int (x), .int (y)] ++ List.replicate (3 - (lg_sl [.ref (gA G 39), .int (x), .int (y)]).length) Slot.unset).toArray = ls at hl ⊢
  have hl : lv_has ls 3 [(0, .ref (gA G 39)), (1, .int (x)), (2, .int (y))] := hl
  refine lv_aload_n S.1 S.2.1 dX8_unlike_0 rfl (lv_at hl 0 rfl) ?_
  refine lv_iload_n S.1 S.2.1 dX8_unlike_1 rfl (lv_at hl 1 rfl) ?_
  refine vp_callSi (va_runS (As := [.int (x)]) (rest := [.ref (gA G 39)]) S (k_X8_isCopy l G σ μ o x ) (va_cwS 1 S.2.2.2.2 gX8_unlike_X8_isCopy rfl rfl rfl hy_X8_isCopy ⟨Nat.le_of_ble_eq_true rfl, Nat.le_of_ble_eq_true rfl⟩) (wPc_S Z) rfl rfl hl.1 rfl (lv_room (Nat.le_of_ble_eq_true rfl)) dX8_unlike_2 ⟨Nat.le_of_ble_eq_true rfl, Nat.le_of_ble_eq_true rfl⟩).run (fun r_1 h_2 => ?_)
  rw [h_2]; clear h_2 r_1
  refine r_if_eqB S (tgt := 19) dX8_unlike_5 (by decide) (fun c_3 => ?_) (fun c_3 => ?_)
  · skip
    refine lv_iconst (v := nI 1) S.1 S.2.1 dX8_unlike_19 (by decide) ?_
    refine va_calli (va_runV (As := [.int (nI 1)]) (rest := []) S (k_X8_can l G σ μ o 1 (by omega)) (cwV 1 S.2.2.2.2 gX8_unlike_X8_can rfl rfl rfl ⟨rfl, hy_X8_can⟩ ⟨Nat.le_of_ble_eq_true rfl, Nat.le_of_ble_eq_true rfl⟩) (wPc_V (q := (RX8, TX8, 19)) Z (by decide) rfl rfl) rfl rfl hl.1 rfl (lv_room (Nat.le_of_ble_eq_true rfl)) dX8_unlike_20 ⟨Nat.le_of_ble_eq_true rfl, Nat.le_of_ble_eq_true rfl⟩) Z.2.2.2.2 (fun _ _ h => h) (fun _ h => h) (fun r_4 u_5 T9 H1 locs1 hT9 hvm hw hB hz hk9 hS => ?_)
    obtain ⟨hr9, rfl⟩ := hw
    rw [hr9]; clear hr9 r_4
    have Z : wZ G (σ) (thr μ 1) o s H1 locs1 := wZ_callP Z hB hT9 hS
    clear hB hT9 hS hk9 hz hvm T9
    revert Z; generalize H1 = H; generalize locs1 = locs; intro Z
    refine W.widen (k := 0) (n := 0) (by decide) (by decide) ?_
    refine r_if_eqB S (tgt := 35) dX8_unlike_23 (by decide) (fun c_6 => ?_) (fun c_6 => absurd c_6 (by decide))
    refine lv_iconst (v := nI 0) S.1 S.2.1 dX8_unlike_35 (by decide) ?_
    rw [hQ]
    exact W.iret (v := nI 0) S.1 S.2.1 hret (fun _ hT9 hW => ⟨⟨_, (σ, thr μ 1), rfl, ⟨rfl, rfl⟩, wZ_P Z hT9 hW⟩, Z.2.2.2.2.F hT9⟩) Z.2.2.2.2.2.2 dX8_unlike_36
  · skip
    refine lv_iload_n S.1 S.2.1 dX8_unlike_8 rfl (lv_at hl 2 rfl) ?_
    refine vp_callSi (va_runS (As := [.int (y)]) (rest := [.ref (gA G 39)]) S (k_X8_isCopy l G σ μ o y ) (va_cwS 1 S.2.2.2.2 gX8_unlike_X8_isCopy rfl rfl rfl hy_X8_isCopy ⟨Nat.le_of_ble_eq_true rfl, Nat.le_of_ble_eq_true rfl⟩) (wPc_S Z) rfl rfl hl.1 rfl (lv_room (Nat.le_of_ble_eq_true rfl)) dX8_unlike_9 ⟨Nat.le_of_ble_eq_true rfl, Nat.le_of_ble_eq_true rfl⟩).run (fun r_7 h_8 => ?_)
    rw [h_8]; clear h_8 r_7
    refine r_if_eqB S (tgt := 19) dX8_unlike_12 (by decide) (fun c_9 => ?_) (fun c_9 => absurd c_9 (by simp_all))
    refine lv_iconst (v := nI 1) S.1 S.2.1 dX8_unlike_19 (by decide) ?_
    refine va_calli (va_runV (As := [.int (nI 1)]) (rest := []) S (k_X8_can l G σ μ o 1 (by omega)) (cwV 1 S.2.2.2.2 gX8_unlike_X8_can rfl rfl rfl ⟨rfl, hy_X8_can⟩ ⟨Nat.le_of_ble_eq_true rfl, Nat.le_of_ble_eq_true rfl⟩) (wPc_V (q := (RX8, TX8, 19)) Z (by decide) rfl rfl) rfl rfl hl.1 rfl (lv_room (Nat.le_of_ble_eq_true rfl)) dX8_unlike_20 ⟨Nat.le_of_ble_eq_true rfl, Nat.le_of_ble_eq_true rfl⟩) Z.2.2.2.2 (fun _ _ h => h) (fun _ h => h) (fun r_10 u_11 T9 H1 locs1 hT9 hvm hw hB hz hk9 hS => ?_)
    obtain ⟨hr9, rfl⟩ := hw
    rw [hr9]; clear hr9 r_10
    have Z : wZ G (σ) (thr μ 1) o s H1 locs1 := wZ_callP Z hB hT9 hS
    clear hB hT9 hS hk9 hz hvm T9
    revert Z; generalize H1 = H; generalize locs1 = locs; intro Z
    refine W.widen (k := 0) (n := 0) (by decide) (by decide) ?_
    refine r_if_eqB S (tgt := 35) dX8_unlike_23 (by decide) (fun c_12 => ?_) (fun c_12 => absurd c_12 (by decide))
    refine lv_iconst (v := nI 0) S.1 S.2.1 dX8_unlike_35 (by decide) ?_
    rw [hQ]
    exact W.iret (v := nI 0) S.1 S.2.1 hret (fun _ hT9 hW => ⟨⟨_, (σ, thr μ 1), rfl, ⟨rfl, rfl⟩, wZ_P Z hT9 hW⟩, Z.2.2.2.2.F hT9⟩) Z.2.2.2.2.2.2 dX8_unlike_36

abbrev rm_k_X8_areAlike : Room := { frames := 2, cells := 0, slots := 0, locals := 42 }
set_option maxHeartbeats 4000000 in
set_option maxRecDepth 100000 in
theorem k_X8_areAlike (l : Launch) (G : wG) (σ : cS) (μ : mS) (o : Nat → Int64) (k : Nat) (j : Nat) (hk3 : k < 3) (hj3 : j < 3) : Met l yX8_areAlike wsX8_areAlike rm_k_X8_areAlike (wPc G σ μ o [.ref (gA G 39), .int (nI k), .int (nI j)]) (va_Qi (fun (rr : Int32) (u : cS × mS) => rr = bi (alT (thr μ 0) k j 92) ∧ u = (σ, thr μ 0)) (fun u t => wI G u.1 u.2 o t) (gP G)) 0 0 (gP G) := by
  refine Met.ofW (cc := cX8_areAlike) (maxL := 5) (ret := (some .boolean)) (by decide) rfl ?_
  intro p e s m args below meth c s₁ B hml hv
  obtain ⟨hargs, hI⟩ := hv
  have S : CallFix p m c cX8_areAlike 5 s args wsX8_areAlike RX8 := ⟨B.exec, B.bytes, hml, findClass_of_methodNamed B.named, atoms_spec (ws := wsX8_areAlike) B.pre⟩
  have hret := B.returns
  have hlocks := B.notSynchronized
  have Z := wZ_0 hI
  clear hI
  obtain ⟨Q, hQ⟩ : ∃ Q, Q = MQ below (va_Qi (fun (rr : Int32) (u : cS × mS) => rr = bi (alT (thr μ 0) k j 92) ∧ u = (σ, thr μ 0)) (fun u t => wI G u.1 u.2 o t) (gP G)) args s 0 0 (gP G) := ⟨_, rfl⟩
  rw [← hQ]
  have hl := lv_entry [.ref (gA G 39), .int (nI k), .int (nI j)] (n := 5) (Nat.le_of_ble_eq_true rfl)
  rw [show entryFrame m args 5 = entryFrame m ([.ref (gA G 39), .int (nI k), .int (nI j)] : List Value).toArray 5 from by rw [hargs], lg_entry_eq]
  generalize (lg_sl [.ref (gA G 39), .int (nI k), .int (nI j)] ++ List.replicate (5 - (lg_sl [.ref (gA G 39), .int (nI k), .int (nI j)]).length) Slot.unset).toArray = ls at hl ⊢
  have hl : lv_has ls 5 [(0, .ref (gA G 39)), (1, .int (nI k)), (2, .int (nI j))] := hl
  refine lv_aload_n S.1 S.2.1 dX8_areAlike_0 rfl (lv_at hl 0 rfl) ?_
  refine lv_iload_n S.1 S.2.1 dX8_areAlike_1 rfl (lv_at hl 1 rfl) ?_
  refine vp_callSi (va_runS (As := [.int (nI k)]) (rest := [.ref (gA G 39)]) S (k_X8_isCopy l G σ μ o (nI k) ) (va_cwS 1 S.2.2.2.2 gX8_areAlike_X8_isCopy rfl rfl rfl hy_X8_isCopy ⟨Nat.le_of_ble_eq_true rfl, Nat.le_of_ble_eq_true rfl⟩) (wPc_S Z) rfl rfl hl.1 rfl (lv_room (Nat.le_of_ble_eq_true rfl)) dX8_areAlike_2 ⟨Nat.le_of_ble_eq_true rfl, Nat.le_of_ble_eq_true rfl⟩).run (fun r_1 h_2 => ?_)
  rw [h_2]; clear h_2 r_1
  refine r_if_eqB S (tgt := 19) dX8_areAlike_5 (by decide) (fun c_3 => absurd c_3 (by rw [isCopyB_ok hk3]; decide)) (fun c_3 => ?_)
  refine lv_iload_n S.1 S.2.1 dX8_areAlike_8 rfl (lv_at hl 2 rfl) ?_
  refine vp_callSi (va_runS (As := [.int (nI j)]) (rest := [.ref (gA G 39)]) S (k_X8_isCopy l G σ μ o (nI j) ) (va_cwS 1 S.2.2.2.2 gX8_areAlike_X8_isCopy rfl rfl rfl hy_X8_isCopy ⟨Nat.le_of_ble_eq_true rfl, Nat.le_of_ble_eq_true rfl⟩) (wPc_S Z) rfl rfl hl.1 rfl (lv_room (Nat.le_of_ble_eq_true rfl)) dX8_areAlike_9 ⟨Nat.le_of_ble_eq_true rfl, Nat.le_of_ble_eq_true rfl⟩).run (fun r_4 h_5 => ?_)
  rw [h_5]; clear h_5 r_4
  refine r_if_eqB S (tgt := 19) dX8_areAlike_12 (by decide) (fun c_6 => absurd c_6 (by rw [isCopyB_ok hj3]; decide)) (fun c_6 => ?_)
  refine lv_iconst (v := nI 0) S.1 S.2.1 dX8_areAlike_15 (by decide) ?_
  refine lv_goto (tgt := 20) S.1 S.2.1 dX8_areAlike_16 (by decide) ?_
  refine va_calli (va_runV (As := [.int (nI 0)]) (rest := []) S (k_X8_can l G σ μ o 0 (by omega)) (cwV 1 S.2.2.2.2 gX8_areAlike_X8_can rfl rfl rfl ⟨rfl, hy_X8_can⟩ ⟨Nat.le_of_ble_eq_true rfl, Nat.le_of_ble_eq_true rfl⟩) (wPc_V (q := (RX8, TX8, 19)) Z (by decide) rfl rfl) rfl rfl hl.1 rfl (lv_room (Nat.le_of_ble_eq_true rfl)) dX8_areAlike_20 ⟨Nat.le_of_ble_eq_true rfl, Nat.le_of_ble_eq_true rfl⟩) Z.2.2.2.2 (fun _ _ h => h) (fun _ h => h) (fun r_7 u_8 T9 H1 locs1 hT9 hvm hw hB hz hk9 hS => ?_)
  obtain ⟨hr9, rfl⟩ := hw
  rw [hr9]; clear hr9 r_7
  have Z : wZ G (σ) (thr μ 0) o s H1 locs1 := wZ_callP Z hB hT9 hS
  clear hB hT9 hS hk9 hz hvm T9
  revert Z; generalize H1 = H; generalize locs1 = locs; intro Z
  refine W.widen (k := 0) (n := 0) (by decide) (by decide) ?_
  refine r_if_neB S (tgt := 28) dX8_areAlike_23 (by decide) (fun c_9 => ?_) (fun c_9 => absurd c_9 (by decide))
  refine lv_iconst (v := nI 1) S.1 S.2.1 dX8_areAlike_28 (by decide) ?_
  refine lv_istore_n (lv' := [(3, .int (nI 1)), (0, .ref (gA G 39)), (1, .int (nI k)), (2, .int (nI j))]) S.1 S.2.1 dX8_areAlike_29 rfl hl (by decide) rfl (fun ls hl => ?_)
  refine lv_iconst (v := nI 0) S.1 S.2.1 dX8_areAlike_30 (by decide) ?_
  refine lv_istore (lv' := [(4, .int (nI 0)), (3, .int (nI 1)), (0, .ref (gA G 39)), (1, .int (nI k)), (2, .int (nI j))]) S.1 S.2.1 dX8_areAlike_31 hl (by decide) rfl (fun ls hl => ?_)
  have L_33 : ∀ (n : Nat) (i : Nat) (hi : i ≤ 64) (hn : 64 - i < n) (H : Heap) (locs : List Loc) (Z : wZ G (σ) (thr μ 0) o s H locs) (ls : Array Slot) (hl : lv_has ls 5 [(0, .ref (gA G 39)), (1, .int (nI k)), (2, .int (nI j)), (3, .int (bi (alE (thr μ 0) k j i))), (4, .int (nI i))]), W p l e (headSpec wsX8_areAlike rm_k_X8_areAlike).room s m args below meth c H locs 0 0 Q (F0 m 33 ls []) := by
    intro n
    induction n with
    | zero => intro i hi hn; omega
    | succ n ih_33 =>
      intro i hi hn H locs Z ls hl
      refine lv_iload S.1 S.2.1 dX8_areAlike_33 (lv_at hl 4 rfl) ?_
      refine lv_bipush (v := nI 64) S.1 S.2.1 dX8_areAlike_35 (by decide) ?_
      refine r_icmpN_ge S (tgt := 67) (by omega) (by omega) dX8_areAlike_37 (by decide) (fun c_10 => ?_) (fun c_10 => ?_)
      · skip
        obtain rfl : i = 64 := by omega
        refine lv_iconst (v := nI 0) S.1 S.2.1 dX8_areAlike_67 (by decide) ?_
        refine lv_istore (lv' := [(4, .int (nI 0)), (0, .ref (gA G 39)), (1, .int (nI k)), (2, .int (nI j)), (3, .int (bi (alE (thr μ 0) k j 64)))]) S.1 S.2.1 dX8_areAlike_68 hl (by decide) rfl (fun ls hl => ?_)
        have L_70 : ∀ (n : Nat) (i2 : Nat) (hi2 : i2 ≤ 92) (hn : 92 - i2 < n) (H : Heap) (locs : List Loc) (Z : wZ G (σ) (thr μ 0) o s H locs) (ls : Array Slot) (hl : lv_has ls 5 [(0, .ref (gA G 39)), (1, .int (nI k)), (2, .int (nI j)), (3, .int (bi (alT (thr μ 0) k j i2))), (4, .int (nI i2))]), W p l e (headSpec wsX8_areAlike rm_k_X8_areAlike).room s m args below meth c H locs 0 0 Q (F0 m 70 ls []) := by
          intro n
          induction n with
          | zero => intro i2 hi2 hn; omega
          | succ n ih_70 =>
            intro i2 hi2 hn H locs Z ls hl
            refine lv_iload S.1 S.2.1 dX8_areAlike_70 (lv_at hl 4 rfl) ?_
            refine lv_bipush (v := nI 92) S.1 S.2.1 dX8_areAlike_72 (by decide) ?_
            refine r_icmpN_ge S (tgt := 104) (by omega) (by omega) dX8_areAlike_74 (by decide) (fun c_11 => ?_) (fun c_11 => ?_)
            · skip
              obtain rfl : i2 = 92 := by omega
              refine lv_iload_n S.1 S.2.1 dX8_areAlike_104 rfl (lv_at hl 3 rfl) ?_
              rw [hQ]
              exact W.zret (v := bi (alT (thr μ 0) k j 92)) S.1 S.2.1 hret (bi_nar _) (fun _ hT9 hW => ⟨⟨_, (σ, thr μ 0), rfl, ⟨rfl, rfl⟩, wZ_P Z hT9 hW⟩, Z.2.2.2.2.F hT9⟩) Z.2.2.2.2.2.2 dX8_areAlike_105
            · skip
              refine lv_iload_n S.1 S.2.1 dX8_areAlike_77 rfl (lv_at hl 3 rfl) ?_
              refine r_if_eqB S (tgt := 96) dX8_areAlike_78 (by decide) (fun c_12 => ?_) (fun c_12 => ?_)
              · skip
                refine lv_iconst (v := nI 0) S.1 S.2.1 dX8_areAlike_96 (by decide) ?_
                refine lv_istore_n (lv' := [(3, .int (nI 0)), (0, .ref (gA G 39)), (1, .int (nI k)), (2, .int (nI j)), (4, .int (nI i2))]) S.1 S.2.1 dX8_areAlike_97 rfl hl (by decide) rfl (fun ls hl => ?_)
                refine lv_iinc (v := nI (i2 + 1)) (lv' := [(4, .int (nI (i2 + 1))), (3, .int (nI 0)), (0, .ref (gA G 39)), (1, .int (nI k)), (2, .int (nI j))]) S.1 S.2.1 dX8_areAlike_98 hl (k := 4) rfl (nI_inc rfl) (by decide) rfl (fun ls hl => ?_)
                refine lv_goto (tgt := 70) S.1 S.2.1 dX8_areAlike_101 (by decide) ?_
                have q_13 : (bi (alT (thr μ 0) k j (i2 + 1)) : Int32) = nI 0 := by first | (first | (simp [bi, alT, c_3, c_6, hi, c_10, hi2, c_11, c_12, Nat.not_lt.mpr c_10]; done) | (simp [bi, alT, c_3, c_6, hi, c_10, hi2, c_11, c_12, Nat.not_lt.mpr c_10]; omega) | (simp [bi, alT, ← Int32.not_le, c_3, c_6, hi, c_10, hi2, c_11, c_12, Nat.not_lt.mpr c_10]; done) | (simp [bi, alT, c_3, c_6, hi, c_10, hi2, c_11, eq_true c_12, Nat.not_lt.mpr c_10]; done)) | with_reducible rfl
                have hl : lv_has ls 5 [(0, .ref (gA G 39)), (1, .int (nI k)), (2, .int (nI j)), (3, .int (bi (alT (thr μ 0) k j (i2 + 1)))), (4, .int (nI (i2 + 1)))] := by
                  have hl := lv_sub hl [2, 3, 4, 1, 0] rfl
                  rw [q_13]; exact hl
                exact ih_70 (i2 + 1) (by first | omega | exact Nat.zero_le _) (by omega) _ _ Z ls (hl)
              · skip
                refine lv_aload_n S.1 S.2.1 dX8_areAlike_81 rfl (lv_at hl 0 rfl) ?_
                refine lv_iload_n S.1 S.2.1 dX8_areAlike_82 rfl (lv_at hl 1 rfl) ?_
                refine lv_iload_n S.1 S.2.1 dX8_areAlike_83 rfl (lv_at hl 2 rfl) ?_
                refine lv_iload S.1 S.2.1 dX8_areAlike_84 (lv_at hl 4 rfl) ?_
                refine vp_callSi (va_runV (As := [.int (nI k), .int (nI j), .int (nI i2)]) (rest := []) S (k_X8_areSameTombs l G σ (thr μ 0) o k j i2 (by omega) (by omega) (by omega)) (cwV 3 S.2.2.2.2 gX8_areAlike_X8_areSameTombs rfl rfl rfl ⟨rfl, hy_X8_areSameTombs⟩ ⟨Nat.le_of_ble_eq_true rfl, Nat.le_of_ble_eq_true rfl⟩) (wPc_V (q := (RX8, TX8, 19)) Z (by decide) rfl rfl) rfl rfl hl.1 rfl (lv_room (Nat.le_of_ble_eq_true rfl)) dX8_areAlike_86 ⟨Nat.le_of_ble_eq_true rfl, Nat.le_of_ble_eq_true rfl⟩).run (fun r_14 h_15 => ?_)
                rw [h_15]; clear h_15 r_14
                refine r_if_eqB S (tgt := 96) dX8_areAlike_89 (by decide) (fun c_16 => ?_) (fun c_16 => ?_)
                · skip
                  refine lv_iconst (v := nI 0) S.1 S.2.1 dX8_areAlike_96 (by decide) ?_
                  refine lv_istore_n (lv' := [(3, .int (nI 0)), (0, .ref (gA G 39)), (1, .int (nI k)), (2, .int (nI j)), (4, .int (nI i2))]) S.1 S.2.1 dX8_areAlike_97 rfl hl (by decide) rfl (fun ls hl => ?_)
                  refine lv_iinc (v := nI (i2 + 1)) (lv' := [(4, .int (nI (i2 + 1))), (3, .int (nI 0)), (0, .ref (gA G 39)), (1, .int (nI k)), (2, .int (nI j))]) S.1 S.2.1 dX8_areAlike_98 hl (k := 4) rfl (nI_inc rfl) (by decide) rfl (fun ls hl => ?_)
                  refine lv_goto (tgt := 70) S.1 S.2.1 dX8_areAlike_101 (by decide) ?_
                  have q_17 : (bi (alT (thr μ 0) k j (i2 + 1)) : Int32) = nI 0 := by first | (first | (simp [bi, alT, c_3, c_6, hi, c_10, hi2, c_11, c_12, c_16, Nat.not_lt.mpr c_10]; done) | (simp [bi, alT, c_3, c_6, hi, c_10, hi2, c_11, c_12, c_16, Nat.not_lt.mpr c_10]; omega) | (simp [bi, alT, ← Int32.not_le, c_3, c_6, hi, c_10, hi2, c_11, c_12, c_16, Nat.not_lt.mpr c_10]; done) | (simp [bi, alT, c_3, c_6, hi, c_10, hi2, c_11, c_12, eq_true c_16, Nat.not_lt.mpr c_10]; done)) | with_reducible rfl
                  have hl : lv_has ls 5 [(0, .ref (gA G 39)), (1, .int (nI k)), (2, .int (nI j)), (3, .int (bi (alT (thr μ 0) k j (i2 + 1)))), (4, .int (nI (i2 + 1)))] := by
                    have hl := lv_sub hl [2, 3, 4, 1, 0] rfl
                    rw [q_17]; exact hl
                  exact ih_70 (i2 + 1) (by first | omega | exact Nat.zero_le _) (by omega) _ _ Z ls (hl)
                · skip
                  refine lv_iconst (v := nI 1) S.1 S.2.1 dX8_areAlike_92 (by decide) ?_
                  refine lv_goto (tgt := 97) S.1 S.2.1 dX8_areAlike_93 (by decide) ?_
                  refine lv_istore_n (lv' := [(3, .int (nI 1)), (0, .ref (gA G 39)), (1, .int (nI k)), (2, .int (nI j)), (4, .int (nI i2))]) S.1 S.2.1 dX8_areAlike_97 rfl hl (by decide) rfl (fun ls hl => ?_)
                  refine lv_iinc (v := nI (i2 + 1)) (lv' := [(4, .int (nI (i2 + 1))), (3, .int (nI 1)), (0, .ref (gA G 39)), (1, .int (nI k)), (2, .int (nI j))]) S.1 S.2.1 dX8_areAlike_98 hl (k := 4) rfl (nI_inc rfl) (by decide) rfl (fun ls hl => ?_)
                  refine lv_goto (tgt := 70) S.1 S.2.1 dX8_areAlike_101 (by decide) ?_
                  have q_18 : (bi (alT (thr μ 0) k j (i2 + 1)) : Int32) = nI 1 := by first | (first | (simp [bi, alT, c_3, c_6, hi, c_10, hi2, c_11, c_12, c_16, Nat.not_lt.mpr c_10]; done) | (simp [bi, alT, c_3, c_6, hi, c_10, hi2, c_11, c_12, c_16, Nat.not_lt.mpr c_10]; omega) | (simp [bi, alT, ← Int32.not_le, c_3, c_6, hi, c_10, hi2, c_11, c_12, c_16, Nat.not_lt.mpr c_10]; done)) | with_reducible rfl
                  have hl : lv_has ls 5 [(0, .ref (gA G 39)), (1, .int (nI k)), (2, .int (nI j)), (3, .int (bi (alT (thr μ 0) k j (i2 + 1)))), (4, .int (nI (i2 + 1)))] := by
                    have hl := lv_sub hl [2, 3, 4, 1, 0] rfl
                    rw [q_18]; exact hl
                  exact ih_70 (i2 + 1) (by first | omega | exact Nat.zero_le _) (by omega) _ _ Z ls (hl)
        have q_19 : (bi (alT (thr μ 0) k j 0) : Int32) = bi (alE (thr μ 0) k j 64) := by rfl
        have hl : lv_has ls 5 [(0, .ref (gA G 39)), (1, .int (nI k)), (2, .int (nI j)), (3, .int (bi (alT (thr μ 0) k j 0))), (4, .int (nI 0))] := by
          have hl := lv_sub hl [1, 2, 3, 4, 0] rfl
          rw [q_19]; exact hl
        exact L_70 (92 - 0 + 1) 0 (by first | omega | exact Nat.zero_le _) (Nat.lt_succ_self _) _ _ Z ls (hl)
      · skip
        refine lv_iload_n S.1 S.2.1 dX8_areAlike_40 rfl (lv_at hl 3 rfl) ?_
        refine r_if_eqB S (tgt := 59) dX8_areAlike_41 (by decide) (fun c_20 => ?_) (fun c_20 => ?_)
        · skip
          refine lv_iconst (v := nI 0) S.1 S.2.1 dX8_areAlike_59 (by decide) ?_
          refine lv_istore_n (lv' := [(3, .int (nI 0)), (0, .ref (gA G 39)), (1, .int (nI k)), (2, .int (nI j)), (4, .int (nI i))]) S.1 S.2.1 dX8_areAlike_60 rfl hl (by decide) rfl (fun ls hl => ?_)
          refine lv_iinc (v := nI (i + 1)) (lv' := [(4, .int (nI (i + 1))), (3, .int (nI 0)), (0, .ref (gA G 39)), (1, .int (nI k)), (2, .int (nI j))]) S.1 S.2.1 dX8_areAlike_61 hl (k := 4) rfl (nI_inc rfl) (by decide) rfl (fun ls hl => ?_)
          refine lv_goto (tgt := 33) S.1 S.2.1 dX8_areAlike_64 (by decide) ?_
          have q_21 : (bi (alE (thr μ 0) k j (i + 1)) : Int32) = nI 0 := by first | (first | (simp [bi, alE, c_3, c_6, hi, c_10, c_20]; done) | (simp [bi, alE, c_3, c_6, hi, c_10, c_20]; omega) | (simp [bi, alE, ← Int32.not_le, c_3, c_6, hi, c_10, c_20]; done) | (simp [bi, alE, c_3, c_6, hi, c_10, eq_true c_20]; done)) | with_reducible rfl
          have hl : lv_has ls 5 [(0, .ref (gA G 39)), (1, .int (nI k)), (2, .int (nI j)), (3, .int (bi (alE (thr μ 0) k j (i + 1)))), (4, .int (nI (i + 1)))] := by
            have hl := lv_sub hl [2, 3, 4, 1, 0] rfl
            rw [q_21]; exact hl
          exact ih_33 (i + 1) (by first | omega | exact Nat.zero_le _) (by omega) _ _ Z ls (hl)
        · skip
          refine lv_aload_n S.1 S.2.1 dX8_areAlike_44 rfl (lv_at hl 0 rfl) ?_
          refine lv_iload_n S.1 S.2.1 dX8_areAlike_45 rfl (lv_at hl 1 rfl) ?_
          refine lv_iload_n S.1 S.2.1 dX8_areAlike_46 rfl (lv_at hl 2 rfl) ?_
          refine lv_iload S.1 S.2.1 dX8_areAlike_47 (lv_at hl 4 rfl) ?_
          refine vp_callSi (va_runV (As := [.int (nI k), .int (nI j), .int (nI i)]) (rest := []) S (k_X8_areSameEntries l G σ (thr μ 0) o k j i (by omega) (by omega) (by omega)) (cwV 3 S.2.2.2.2 gX8_areAlike_X8_areSameEntries rfl rfl rfl ⟨rfl, hy_X8_areSameEntries⟩ ⟨Nat.le_of_ble_eq_true rfl, Nat.le_of_ble_eq_true rfl⟩) (wPc_V (q := (RX8, TX8, 19)) Z (by decide) rfl rfl) rfl rfl hl.1 rfl (lv_room (Nat.le_of_ble_eq_true rfl)) dX8_areAlike_49 ⟨Nat.le_of_ble_eq_true rfl, Nat.le_of_ble_eq_true rfl⟩).run (fun r_22 h_23 => ?_)
          rw [h_23]; clear h_23 r_22
          refine r_if_eqB S (tgt := 59) dX8_areAlike_52 (by decide) (fun c_24 => ?_) (fun c_24 => ?_)
          · skip
            refine lv_iconst (v := nI 0) S.1 S.2.1 dX8_areAlike_59 (by decide) ?_
            refine lv_istore_n (lv' := [(3, .int (nI 0)), (0, .ref (gA G 39)), (1, .int (nI k)), (2, .int (nI j)), (4, .int (nI i))]) S.1 S.2.1 dX8_areAlike_60 rfl hl (by decide) rfl (fun ls hl => ?_)
            refine lv_iinc (v := nI (i + 1)) (lv' := [(4, .int (nI (i + 1))), (3, .int (nI 0)), (0, .ref (gA G 39)), (1, .int (nI k)), (2, .int (nI j))]) S.1 S.2.1 dX8_areAlike_61 hl (k := 4) rfl (nI_inc rfl) (by decide) rfl (fun ls hl => ?_)
            refine lv_goto (tgt := 33) S.1 S.2.1 dX8_areAlike_64 (by decide) ?_
            have q_25 : (bi (alE (thr μ 0) k j (i + 1)) : Int32) = nI 0 := by first | (first | (simp [bi, alE, c_3, c_6, hi, c_10, c_20, c_24]; done) | (simp [bi, alE, c_3, c_6, hi, c_10, c_20, c_24]; omega) | (simp [bi, alE, ← Int32.not_le, c_3, c_6, hi, c_10, c_20, c_24]; done) | (simp [bi, alE, c_3, c_6, hi, c_10, c_20, eq_true c_24]; done)) | with_reducible rfl
            have hl : lv_has ls 5 [(0, .ref (gA G 39)), (1, .int (nI k)), (2, .int (nI j)), (3, .int (bi (alE (thr μ 0) k j (i + 1)))), (4, .int (nI (i + 1)))] := by
              have hl := lv_sub hl [2, 3, 4, 1, 0] rfl
              rw [q_25]; exact hl
            exact ih_33 (i + 1) (by first | omega | exact Nat.zero_le _) (by omega) _ _ Z ls (hl)
          · skip
            refine lv_iconst (v := nI 1) S.1 S.2.1 dX8_areAlike_55 (by decide) ?_
            refine lv_goto (tgt := 60) S.1 S.2.1 dX8_areAlike_56 (by decide) ?_
            refine lv_istore_n (lv' := [(3, .int (nI 1)), (0, .ref (gA G 39)), (1, .int (nI k)), (2, .int (nI j)), (4, .int (nI i))]) S.1 S.2.1 dX8_areAlike_60 rfl hl (by decide) rfl (fun ls hl => ?_)
            refine lv_iinc (v := nI (i + 1)) (lv' := [(4, .int (nI (i + 1))), (3, .int (nI 1)), (0, .ref (gA G 39)), (1, .int (nI k)), (2, .int (nI j))]) S.1 S.2.1 dX8_areAlike_61 hl (k := 4) rfl (nI_inc rfl) (by decide) rfl (fun ls hl => ?_)
            refine lv_goto (tgt := 33) S.1 S.2.1 dX8_areAlike_64 (by decide) ?_
            have q_26 : (bi (alE (thr μ 0) k j (i + 1)) : Int32) = nI 1 := by first | (first | (simp [bi, alE, c_3, c_6, hi, c_10, c_20, c_24]; done) | (simp [bi, alE, c_3, c_6, hi, c_10, c_20, c_24]; omega) | (simp [bi, alE, ← Int32.not_le, c_3, c_6, hi, c_10, c_20, c_24]; done)) | with_reducible rfl
            have hl : lv_has ls 5 [(0, .ref (gA G 39)), (1, .int (nI k)), (2, .int (nI j)), (3, .int (bi (alE (thr μ 0) k j (i + 1)))), (4, .int (nI (i + 1)))] := by
              have hl := lv_sub hl [2, 3, 4, 1, 0] rfl
              rw [q_26]; exact hl
            exact ih_33 (i + 1) (by first | omega | exact Nat.zero_le _) (by omega) _ _ Z ls (hl)
  have q_27 : (bi (alE (thr μ 0) k j 0) : Int32) = nI 1 := by first | with_reducible rfl | (first | (simp [bi, alE, c_3, c_6]; done) | (simp [bi, alE, c_3, c_6]; omega) | (simp [bi, alE, ← Int32.not_le, c_3, c_6]; done)) | rfl
  have hl : lv_has ls 5 [(0, .ref (gA G 39)), (1, .int (nI k)), (2, .int (nI j)), (3, .int (bi (alE (thr μ 0) k j 0))), (4, .int (nI 0))] := by
    have hl := lv_sub hl [2, 3, 4, 1, 0] rfl
    rw [q_27]; exact hl
  exact L_33 (64 - 0 + 1) 0 (by first | omega | exact Nat.zero_le _) (Nat.lt_succ_self _) _ _ Z ls (hl)

abbrev rm_k_X8_areAlike_B : Room := { frames := 2, cells := 0, slots := 0, locals := 42 }
set_option maxHeartbeats 4000000 in
set_option maxRecDepth 100000 in
theorem k_X8_areAlike_B (l : Launch) (G : wG) (σ : cS) (μ : mS) (o : Nat → Int64) (x : Int32) (y : Int32) (hb : (isCopyB x && isCopyB y) = false) : Met l yX8_areAlike wsX8_areAlike rm_k_X8_areAlike_B (wPc G σ μ o [.ref (gA G 39), .int (x), .int (y)]) (va_Qi (fun (rr : Int32) (u : cS × mS) => rr = bi (false) ∧ u = (σ, thr μ 1)) (fun u t => wI G u.1 u.2 o t) (gP G)) 0 0 (gP G) := by
  refine Met.ofW (cc := cX8_areAlike) (maxL := 5) (ret := (some .boolean)) (by decide) rfl ?_
  intro p e s m args below meth c s₁ B hml hv
  obtain ⟨hargs, hI⟩ := hv
  have S : CallFix p m c cX8_areAlike 5 s args wsX8_areAlike RX8 := ⟨B.exec, B.bytes, hml, findClass_of_methodNamed B.named, atoms_spec (ws := wsX8_areAlike) B.pre⟩
  have hret := B.returns
  have hlocks := B.notSynchronized
  have Z := wZ_0 hI
  clear hI
  obtain ⟨Q, hQ⟩ : ∃ Q, Q = MQ below (va_Qi (fun (rr : Int32) (u : cS × mS) => rr = bi (false) ∧ u = (σ, thr μ 1)) (fun u t => wI G u.1 u.2 o t) (gP G)) args s 0 0 (gP G) := ⟨_, rfl⟩
  rw [← hQ]
  have hl := lv_entry [.ref (gA G 39), .int (x), .int (y)] (n := 5) (Nat.le_of_ble_eq_true rfl)
  rw [show entryFrame m args 5 = entryFrame m ([.ref (gA G 39), .int (x), .int (y)] : List Value).toArray 5 from by rw [hargs], lg_entry_eq]
  generalize (lg_sl [.ref (gA G 39), .int (x), .int (y)] ++ List.replicate (5 - (lg_sl [.ref (gA G 39), .int (x), .int (y)]).length) Slot.unset).toArray = ls at hl ⊢
  have hl : lv_has ls 5 [(0, .ref (gA G 39)), (1, .int (x)), (2, .int (y))] := hl
  refine lv_aload_n S.1 S.2.1 dX8_areAlike_0 rfl (lv_at hl 0 rfl) ?_
  refine lv_iload_n S.1 S.2.1 dX8_areAlike_1 rfl (lv_at hl 1 rfl) ?_
  refine vp_callSi (va_runS (As := [.int (x)]) (rest := [.ref (gA G 39)]) S (k_X8_isCopy l G σ μ o x ) (va_cwS 1 S.2.2.2.2 gX8_areAlike_X8_isCopy rfl rfl rfl hy_X8_isCopy ⟨Nat.le_of_ble_eq_true rfl, Nat.le_of_ble_eq_true rfl⟩) (wPc_S Z) rfl rfl hl.1 rfl (lv_room (Nat.le_of_ble_eq_true rfl)) dX8_areAlike_2 ⟨Nat.le_of_ble_eq_true rfl, Nat.le_of_ble_eq_true rfl⟩).run (fun r_1 h_2 => ?_)
  rw [h_2]; clear h_2 r_1
  refine r_if_eqB S (tgt := 19) dX8_areAlike_5 (by decide) (fun c_3 => ?_) (fun c_3 => ?_)
  · skip
    refine lv_iconst (v := nI 1) S.1 S.2.1 dX8_areAlike_19 (by decide) ?_
    refine va_calli (va_runV (As := [.int (nI 1)]) (rest := []) S (k_X8_can l G σ μ o 1 (by omega)) (cwV 1 S.2.2.2.2 gX8_areAlike_X8_can rfl rfl rfl ⟨rfl, hy_X8_can⟩ ⟨Nat.le_of_ble_eq_true rfl, Nat.le_of_ble_eq_true rfl⟩) (wPc_V (q := (RX8, TX8, 19)) Z (by decide) rfl rfl) rfl rfl hl.1 rfl (lv_room (Nat.le_of_ble_eq_true rfl)) dX8_areAlike_20 ⟨Nat.le_of_ble_eq_true rfl, Nat.le_of_ble_eq_true rfl⟩) Z.2.2.2.2 (fun _ _ h => h) (fun _ h => h) (fun r_4 u_5 T9 H1 locs1 hT9 hvm hw hB hz hk9 hS => ?_)
    obtain ⟨hr9, rfl⟩ := hw
    rw [hr9]; clear hr9 r_4
    have Z : wZ G (σ) (thr μ 1) o s H1 locs1 := wZ_callP Z hB hT9 hS
    clear hB hT9 hS hk9 hz hvm T9
    revert Z; generalize H1 = H; generalize locs1 = locs; intro Z
    refine W.widen (k := 0) (n := 0) (by decide) (by decide) ?_
    refine r_if_neB S (tgt := 28) dX8_areAlike_23 (by decide) (fun c_6 => absurd c_6 (by decide)) (fun c_6 => ?_)
    refine lv_iconst (v := nI 0) S.1 S.2.1 dX8_areAlike_26 (by decide) ?_
    rw [hQ]
    exact W.zret (v := nI 0) S.1 S.2.1 hret rfl (fun _ hT9 hW => ⟨⟨_, (σ, thr μ 1), rfl, ⟨rfl, rfl⟩, wZ_P Z hT9 hW⟩, Z.2.2.2.2.F hT9⟩) Z.2.2.2.2.2.2 dX8_areAlike_27
  · skip
    refine lv_iload_n S.1 S.2.1 dX8_areAlike_8 rfl (lv_at hl 2 rfl) ?_
    refine vp_callSi (va_runS (As := [.int (y)]) (rest := [.ref (gA G 39)]) S (k_X8_isCopy l G σ μ o y ) (va_cwS 1 S.2.2.2.2 gX8_areAlike_X8_isCopy rfl rfl rfl hy_X8_isCopy ⟨Nat.le_of_ble_eq_true rfl, Nat.le_of_ble_eq_true rfl⟩) (wPc_S Z) rfl rfl hl.1 rfl (lv_room (Nat.le_of_ble_eq_true rfl)) dX8_areAlike_9 ⟨Nat.le_of_ble_eq_true rfl, Nat.le_of_ble_eq_true rfl⟩).run (fun r_7 h_8 => ?_)
    rw [h_8]; clear h_8 r_7
    refine r_if_eqB S (tgt := 19) dX8_areAlike_12 (by decide) (fun c_9 => ?_) (fun c_9 => absurd c_9 (by simp_all))
    refine lv_iconst (v := nI 1) S.1 S.2.1 dX8_areAlike_19 (by decide) ?_
    refine va_calli (va_runV (As := [.int (nI 1)]) (rest := []) S (k_X8_can l G σ μ o 1 (by omega)) (cwV 1 S.2.2.2.2 gX8_areAlike_X8_can rfl rfl rfl ⟨rfl, hy_X8_can⟩ ⟨Nat.le_of_ble_eq_true rfl, Nat.le_of_ble_eq_true rfl⟩) (wPc_V (q := (RX8, TX8, 19)) Z (by decide) rfl rfl) rfl rfl hl.1 rfl (lv_room (Nat.le_of_ble_eq_true rfl)) dX8_areAlike_20 ⟨Nat.le_of_ble_eq_true rfl, Nat.le_of_ble_eq_true rfl⟩) Z.2.2.2.2 (fun _ _ h => h) (fun _ h => h) (fun r_10 u_11 T9 H1 locs1 hT9 hvm hw hB hz hk9 hS => ?_)
    obtain ⟨hr9, rfl⟩ := hw
    rw [hr9]; clear hr9 r_10
    have Z : wZ G (σ) (thr μ 1) o s H1 locs1 := wZ_callP Z hB hT9 hS
    clear hB hT9 hS hk9 hz hvm T9
    revert Z; generalize H1 = H; generalize locs1 = locs; intro Z
    refine W.widen (k := 0) (n := 0) (by decide) (by decide) ?_
    refine r_if_neB S (tgt := 28) dX8_areAlike_23 (by decide) (fun c_12 => absurd c_12 (by decide)) (fun c_12 => ?_)
    refine lv_iconst (v := nI 0) S.1 S.2.1 dX8_areAlike_26 (by decide) ?_
    rw [hQ]
    exact W.zret (v := nI 0) S.1 S.2.1 hret rfl (fun _ hT9 hW => ⟨⟨_, (σ, thr μ 1), rfl, ⟨rfl, rfl⟩, wZ_P Z hT9 hW⟩, Z.2.2.2.2.F hT9⟩) Z.2.2.2.2.2.2 dX8_areAlike_27
