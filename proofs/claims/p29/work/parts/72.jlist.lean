theorem i_Jx4a65c_elementData_915e3_Jx4a65c : ∀ w ∈ wsJx4a65c0, w ∈ wsJx4a65c_elementData_915e3 := by decide +kernel
theorem m_Jx4a65c_elementData_915e3_f9 : Cond.fieldLink RJx4a65c 9 "java/util/ArrayList" "elementData" "[Ljava/lang/Object;" ∈ wsJx4a65c_elementData_915e3 := by decide +kernel
abbrev rm_k_Jx4a65c_elementData_915e3 : Room := { frames := 0, cells := 0, slots := 0, locals := 0 }
set_option maxHeartbeats 4000000 in
set_option maxRecDepth 100000 in
theorem k_Jx4a65c_elementData_915e3 (l : Launch) (G : wG) (σ : cS) (μ : mS) (o : Nat → Int64) (i : Nat) (j : Nat) (ad : Nat) (r : Nat) (f : Nat → Option Nat) (hi : i < 3) (hjt : j < 10) (hr : (cW σ)[r]? = some (cE σ i, rwE G f)) (hf : f j = some ad) : Met l yJx4a65c_elementData_915e3 wsJx4a65c_elementData_915e3 rm_k_Jx4a65c_elementData_915e3 (wPc G σ μ o [.ref (gA G (12 + i)), .int (nI j)]) (va_Sr (fun q => q = ad) (fun q => .ref q)) 0 0 (fun _ => False) := by
  refine Met.ofW (cc := cJx4a65c_elementData_915e3) (maxL := 2) (ret := (some (.object "java/lang/Object"))) (by decide) rfl ?_
  intro p e s m args below meth c s₁ B hml hv
  obtain ⟨hargs, hI⟩ := hv
  have S : CallFix p m c cJx4a65c_elementData_915e3 2 s args wsJx4a65c_elementData_915e3 RJx4a65c := ⟨B.exec, B.bytes, hml, findClass_of_methodNamed B.named, atoms_spec (ws := wsJx4a65c_elementData_915e3) B.pre⟩
  have hret := B.returns
  have hlocks := B.notSynchronized
  have Z := wZ_0 hI
  clear hI
  obtain ⟨Q, hQ⟩ : ∃ Q, Q = MQ below (va_Sr (fun q => q = ad) (fun q => .ref q)) args s 0 0 (fun _ => False) := ⟨_, rfl⟩
  rw [← hQ]
  have hl := lv_entry [.ref (gA G (12 + i)), .int (nI j)] (n := 2) (Nat.le_of_ble_eq_true rfl)
  rw [show entryFrame m args 2 = entryFrame m ([.ref (gA G (12 + i)), .int (nI j)] : List Value).toArray 2 from by rw [hargs], lg_entry_eq]
  generalize (lg_sl [.ref (gA G (12 + i)), .int (nI j)] ++ List.replicate (2 - (lg_sl [.ref (gA G (12 + i)), .int (nI j)]).length) Slot.unset).toArray = ls at hl ⊢
  have hl : lv_has ls 2 [(0, .ref (gA G (12 + i))), (1, .int (nI j))] := hl
  refine lv_aload_n S.1 S.2.1 dJx4a65c_elementData_915e3_0 rfl (lv_at hl 0 rfl) ?_
  refine r_get (C := RJx4a65c) (T := TJx4a65c) (N := 3) (ci := 0) S Z (by omega) (eL hi) rfl i_Jx4a65c_elementData_915e3_Jx4a65c 1 (by decide) m_Jx4a65c_elementData_915e3_f9 rfl (v := .ref (cE σ i)) rfl dJx4a65c_elementData_915e3_1 ?_
  refine lv_iload_n S.1 S.2.1 dJx4a65c_elementData_915e3_4 rfl (lv_at hl 1 rfl) ?_
  refine r_aldW S Z hr (by omega) hf dJx4a65c_elementData_915e3_5 ?_
  rw [hQ]
  exact W.aret S.1 S.2.1 hret (Or.inl ⟨_, rfl⟩) (Or.inr ⟨_, rfl⟩) (fun _ hT9 _ => ⟨_, rfl, rfl, hT9⟩) (fun _ h => nomatch h) dJx4a65c_elementData_915e3_6

theorem i_Jx4a65c_get_915e3_Jx4a65c : ∀ w ∈ wsJx4a65c0, w ∈ wsJx4a65c_get_915e3 := by decide +kernel
theorem m_Jx4a65c_get_915e3_f48 : Cond.fieldLink RJx4a65c 48 "java/util/ArrayList" "size" "I" ∈ wsJx4a65c_get_915e3 := by decide +kernel
abbrev rm_k_Jx4a65c_get_915e3 : Room := { frames := 2, cells := 0, slots := 0, locals := 43 }
set_option maxHeartbeats 4000000 in
set_option maxRecDepth 100000 in
theorem k_Jx4a65c_get_915e3 (l : Launch) (G : wG) (σ : cS) (μ : mS) (o : Nat → Int64) (i : Nat) (j : Nat) (ad : Nat) (r : Nat) (f : Nat → Option Nat) (hi : i < 3) (hjt : j < 10) (hr : (cW σ)[r]? = some (cE σ i, rwE G f)) (hf : f j = some ad) (hjn : j < cL σ i) (hln : cL σ i ≤ 10) : Met l yJx4a65c_get_915e3 wsJx4a65c_get_915e3 rm_k_Jx4a65c_get_915e3 (wPc G σ μ o [.ref (gA G (12 + i)), .int (nI j)]) (va_Sr (fun q => q = ad) (fun q => .ref q)) 0 0 (fun _ => False) := by
  refine Met.ofW (cc := cJx4a65c_get_915e3) (maxL := 2) (ret := (some (.object "java/lang/Object"))) (by decide) rfl ?_
  intro p e s m args below meth c s₁ B hml hv
  obtain ⟨hargs, hI⟩ := hv
  have S : CallFix p m c cJx4a65c_get_915e3 2 s args wsJx4a65c_get_915e3 RJx4a65c := ⟨B.exec, B.bytes, hml, findClass_of_methodNamed B.named, atoms_spec (ws := wsJx4a65c_get_915e3) B.pre⟩
  have hret := B.returns
  have hlocks := B.notSynchronized
  have Z := wZ_0 hI
  clear hI
  obtain ⟨Q, hQ⟩ : ∃ Q, Q = MQ below (va_Sr (fun q => q = ad) (fun q => .ref q)) args s 0 0 (fun _ => False) := ⟨_, rfl⟩
  rw [← hQ]
  have hl := lv_entry [.ref (gA G (12 + i)), .int (nI j)] (n := 2) (Nat.le_of_ble_eq_true rfl)
  rw [show entryFrame m args 2 = entryFrame m ([.ref (gA G (12 + i)), .int (nI j)] : List Value).toArray 2 from by rw [hargs], lg_entry_eq]
  generalize (lg_sl [.ref (gA G (12 + i)), .int (nI j)] ++ List.replicate (2 - (lg_sl [.ref (gA G (12 + i)), .int (nI j)]).length) Slot.unset).toArray = ls at hl ⊢
  have hl : lv_has ls 2 [(0, .ref (gA G (12 + i))), (1, .int (nI j))] := hl
  refine lv_iload_n S.1 S.2.1 dJx4a65c_get_915e3_0 rfl (lv_at hl 1 rfl) ?_
  refine lv_aload_n S.1 S.2.1 dJx4a65c_get_915e3_1 rfl (lv_at hl 0 rfl) ?_
  refine r_get (C := RJx4a65c) (T := TJx4a65c) (N := 3) (ci := 0) S Z (by omega) (eL hi) rfl i_Jx4a65c_get_915e3_Jx4a65c 2 (by decide) m_Jx4a65c_get_915e3_f48 rfl (v := .int (nI (cL σ i))) rfl dJx4a65c_get_915e3_2 ?_
  refine vp_callSi (va_runS (As := [.int (nI j), .int (nI (cL σ i))]) (rest := []) S (k_J15_checkIndex_7cf53 l G σ μ o j (cL σ i) (by omega) (by omega)) (va_cwS 2 S.2.2.2.2 gJx4a65c_get_915e3_J15_checkIndex_7cf53 rfl rfl rfl hy_J15_checkIndex_7cf53 ⟨Nat.le_of_ble_eq_true rfl, Nat.le_of_ble_eq_true rfl⟩) (wPc_S Z) rfl rfl hl.1 rfl (lv_room (Nat.le_of_ble_eq_true rfl)) dJx4a65c_get_915e3_5 ⟨Nat.le_of_ble_eq_true rfl, Nat.le_of_ble_eq_true rfl⟩).run (fun r_1 h_2 => ?_)
  rw [h_2]; clear h_2 r_1
  refine lv_pop S.1 S.2.1 dJx4a65c_get_915e3_8 rfl ?_
  refine lv_aload_n S.1 S.2.1 dJx4a65c_get_915e3_9 rfl (lv_at hl 0 rfl) ?_
  refine lv_iload_n S.1 S.2.1 dJx4a65c_get_915e3_10 rfl (lv_at hl 1 rfl) ?_
  refine va_csr (va_runV (As := [.int (nI j)]) (rest := []) S (k_Jx4a65c_elementData_915e3 l G σ μ o i j ad r f hi hjt hr hf) (cwV 1 S.2.2.2.2 gJx4a65c_get_915e3_Jx4a65c_elementData_915e3 rfl rfl rfl ⟨rfl, hy_Jx4a65c_elementData_915e3⟩ ⟨Nat.le_of_ble_eq_true rfl, Nat.le_of_ble_eq_true rfl⟩) (wPc_V (q := (RJx4a65c, TJx4a65c, 3)) Z (by omega) (eL hi) rfl) rfl rfl hl.1 rfl (lv_room (Nat.le_of_ble_eq_true rfl)) dJx4a65c_get_915e3_11 ⟨Nat.le_of_ble_eq_true rfl, Nat.le_of_ble_eq_true rfl⟩).run (fun r_3 h_4 => ?_)
  rw [h_4]; clear h_4 r_3
  rw [hQ]
  exact W.aret S.1 S.2.1 hret (Or.inl ⟨_, rfl⟩) (Or.inr ⟨_, rfl⟩) (fun _ hT9 _ => ⟨_, rfl, rfl, hT9⟩) (fun _ h => nomatch h) dJx4a65c_get_915e3_14

theorem i_Jx4a65c_add_72be8_Jx4a65c : ∀ w ∈ wsJx4a65c0, w ∈ wsJx4a65c_add_72be8 := by decide +kernel
theorem m_Jx4a65c_add_72be8_f48 : Cond.fieldLink RJx4a65c 48 "java/util/ArrayList" "size" "I" ∈ wsJx4a65c_add_72be8 := by decide +kernel
abbrev rm_k_add3_r : Room := { frames := 0, cells := 0, slots := 0, locals := 0 }
set_option maxHeartbeats 4000000 in
set_option maxRecDepth 100000 in
theorem k_add3_r (l : Launch) (G : wG) (σ : cS) (μ : mS) (o : Nat → Int64) (i : Nat) (n : Nat) (e0 : Nat) (qk : Nat) (ci : Nat) (vs : List Value) (CC : vw_C) (r : Nat) (f : Nat → Option Nat) (hi : i < 3) (hn : n < 10) (hr : (cW σ)[r]? = some (cE σ i, rwE G f)) (hv : (cW σ)[qk]? = some (e0, .inr (ci, vs))) (hcc : vwCl[ci]? = some CC) (hca : Cond.castable CC.1 "java/lang/Object" ∈ wN) : Met l yJx4a65c_add_72be8 wsJx4a65c_add_72be8 rm_k_add3_r (wPc G σ μ o [.ref (gA G (12 + i)), .ref (e0), .ref (cE σ i), .int (nI n)]) (va_Qv (fun u : cS × mS => u = (cL' (cW' σ ((cW σ).set r (cE σ i, rwE G (va_up f n (some e0))))) i (n + 1), μ)) (fun u t => wI G u.1 u.2 o t) (gP G)) 0 0 (gP G) := by
  refine Met.ofW (cc := cJx4a65c_add_72be8) (maxL := 4) (ret := none) (by decide) rfl ?_
  intro p e s m args below meth c s₁ B hml hv
  obtain ⟨hargs, hI⟩ := hv
  have S : CallFix p m c cJx4a65c_add_72be8 4 s args wsJx4a65c_add_72be8 RJx4a65c := ⟨B.exec, B.bytes, hml, findClass_of_methodNamed B.named, atoms_spec (ws := wsJx4a65c_add_72be8) B.pre⟩
  have hret := B.returns
  have hlocks := B.notSynchronized
  have Z := wZ_0 hI
  clear hI
  obtain ⟨Q, hQ⟩ : ∃ Q, Q = MQ below (va_Qv (fun u : cS × mS => u = (cL' (cW' σ ((cW σ).set r (cE σ i, rwE G (va_up f n (some e0))))) i (n + 1), μ)) (fun u t => wI G u.1 u.2 o t) (gP G)) args s 0 0 (gP G) := ⟨_, rfl⟩
  rw [← hQ]
  have hl := lv_entry [.ref (gA G (12 + i)), .ref (e0), .ref (cE σ i), .int (nI n)] (n := 4) (Nat.le_of_ble_eq_true rfl)
  rw [show entryFrame m args 4 = entryFrame m ([.ref (gA G (12 + i)), .ref (e0), .ref (cE σ i), .int (nI n)] : List Value).toArray 4 from by rw [hargs], lg_entry_eq]
  generalize (lg_sl [.ref (gA G (12 + i)), .ref (e0), .ref (cE σ i), .int (nI n)] ++ List.replicate (4 - (lg_sl [.ref (gA G (12 + i)), .ref (e0), .ref (cE σ i), .int (nI n)]).length) Slot.unset).toArray = ls at hl ⊢
  have hl : lv_has ls 4 [(0, .ref (gA G (12 + i))), (1, .ref (e0)), (2, .ref (cE σ i)), (3, .int (nI n))] := hl
  refine lv_iload_n S.1 S.2.1 dJx4a65c_add_72be8_0 rfl (lv_at hl 3 rfl) ?_
  refine lv_aload_n S.1 S.2.1 dJx4a65c_add_72be8_1 rfl (lv_at hl 2 rfl) ?_
  refine r_alenW S Z hr dJx4a65c_add_72be8_2 ?_
  refine r_icmpN_ne S (tgt := 11) (by omega) (by omega) dJx4a65c_add_72be8_3 (by decide) (fun c_1 => ?_) (fun c_1 => absurd c_1 (by omega))
  refine lv_aload_n S.1 S.2.1 dJx4a65c_add_72be8_11 rfl (lv_at hl 2 rfl) ?_
  refine lv_iload_n S.1 S.2.1 dJx4a65c_add_72be8_12 rfl (lv_at hl 3 rfl) ?_
  refine lv_aload_n S.1 S.2.1 dJx4a65c_add_72be8_13 rfl (lv_at hl 1 rfl) ?_
  refine r_astW S Z hr hn (wl_mv hv) hcc hca dJx4a65c_add_72be8_14 (fun H locs Z => ?_)
  refine lv_aload_n S.1 S.2.1 dJx4a65c_add_72be8_15 rfl (lv_at hl 0 rfl) ?_
  refine lv_iload_n S.1 S.2.1 dJx4a65c_add_72be8_16 rfl (lv_at hl 3 rfl) ?_
  refine lv_iconst (v := nI 1) S.1 S.2.1 dJx4a65c_add_72be8_17 (by decide) ?_
  refine r_addN S dJx4a65c_add_72be8_18 ?_
  refine r_put (C := RJx4a65c) (T := TJx4a65c) (N := 3) (ci := 0) (σ' := cL' (cW' σ ((cW σ).set r (cE σ i, rwE G (va_up f n (some e0))))) i (n + 1)) (μ' := μ) S Z (by omega) (eL hi) rfl i_Jx4a65c_add_72be8_Jx4a65c tyJx4a65c tyJx4a65c_ok nmJx4a65c 2 (by decide) m_Jx4a65c_add_72be8_f48 rfl rfl (ty := .int) (v := .int (nI (n + 1))) (by decide +kernel) rfl rfl (Nat.le_of_ble_eq_true rfl) rfl rfl (sLL hi _) dJx4a65c_add_72be8_19 (fun H locs Z => ?_)
  rw [hQ]
  exact W.vret S.1 S.2.1 hret (fun _ hT9 hW => ⟨⟨(cL' (cW' σ ((cW σ).set r (cE σ i, rwE G (va_up f n (some e0))))) i (n + 1), μ), rfl, rfl, wZ_P Z hT9 hW⟩, Z.2.2.2.2.F hT9⟩) Z.2.2.2.2.2.2 dJx4a65c_add_72be8_22

theorem i_Jx4a65c_add_9ea2d_Jx4a65c : ∀ w ∈ wsJx4a65c0, w ∈ wsJx4a65c_add_9ea2d := by decide +kernel
theorem m_Jx4a65c_add_9ea2d_f63 : Cond.fieldLink RJx4a65c 63 "java/util/ArrayList" "modCount" "I" ∈ wsJx4a65c_add_9ea2d := by decide +kernel
theorem m_Jx4a65c_add_9ea2d_sf0 : Cond.sameField "java/util/ArrayList" "java/util/AbstractList" "modCount" "I" ∈ wsJx4a65c_add_9ea2d := by decide +kernel
theorem m_Jx4a65c_add_9ea2d_f9 : Cond.fieldLink RJx4a65c 9 "java/util/ArrayList" "elementData" "[Ljava/lang/Object;" ∈ wsJx4a65c_add_9ea2d := by decide +kernel
theorem m_Jx4a65c_add_9ea2d_f48 : Cond.fieldLink RJx4a65c 48 "java/util/ArrayList" "size" "I" ∈ wsJx4a65c_add_9ea2d := by decide +kernel
abbrev rm_k_add_r : Room := { frames := 1, cells := 0, slots := 0, locals := 23 }
set_option maxHeartbeats 4000000 in
set_option maxRecDepth 100000 in
theorem k_add_r (l : Launch) (G : wG) (σ : cS) (μ : mS) (o : Nat → Int64) (i : Nat) (e0 : Nat) (qk : Nat) (ci : Nat) (vs : List Value) (CC : vw_C) (r : Nat) (f : Nat → Option Nat) (hi : i < 3) (hn : cL σ i < 10) (hr : (cW σ)[r]? = some (cE σ i, rwE G f)) (hv : (cW σ)[qk]? = some (e0, .inr (ci, vs))) (hcc : vwCl[ci]? = some CC) (hca : Cond.castable CC.1 "java/lang/Object" ∈ wN) : Met l yJx4a65c_add_9ea2d wsJx4a65c_add_9ea2d rm_k_add_r (wPc G σ μ o [.ref (gA G (12 + i)), .ref (e0)]) (va_Qi (fun (rr : Int32) (u : cS × mS) => rr = bi (true) ∧ u = (addS G σ i r (cL σ i) e0 f, μ)) (fun u t => wI G u.1 u.2 o t) (gP G)) 0 0 (gP G) := by
  refine Met.ofW (cc := cJx4a65c_add_9ea2d) (maxL := 2) (ret := (some .boolean)) (by decide) rfl ?_
  intro p e s m args below meth c s₁ B hml hv
  obtain ⟨hargs, hI⟩ := hv
  have S : CallFix p m c cJx4a65c_add_9ea2d 2 s args wsJx4a65c_add_9ea2d RJx4a65c := ⟨B.exec, B.bytes, hml, findClass_of_methodNamed B.named, atoms_spec (ws := wsJx4a65c_add_9ea2d) B.pre⟩
  have hret := B.returns
  have hlocks := B.notSynchronized
  have Z := wZ_0 hI
  clear hI
  obtain ⟨Q, hQ⟩ : ∃ Q, Q = MQ below (va_Qi (fun (rr : Int32) (u : cS × mS) => rr = bi (true) ∧ u = (addS G σ i r (cL σ i) e0 f, μ)) (fun u t => wI G u.1 u.2 o t) (gP G)) args s 0 0 (gP G) := ⟨_, rfl⟩
  rw [← hQ]
  have hl := lv_entry [.ref (gA G (12 + i)), .ref (e0)] (n := 2) (Nat.le_of_ble_eq_true rfl)
  rw [show entryFrame m args 2 = entryFrame m ([.ref (gA G (12 + i)), .ref (e0)] : List Value).toArray 2 from by rw [hargs], lg_entry_eq]
  generalize (lg_sl [.ref (gA G (12 + i)), .ref (e0)] ++ List.replicate (2 - (lg_sl [.ref (gA G (12 + i)), .ref (e0)]).length) Slot.unset).toArray = ls at hl ⊢
  have hl : lv_has ls 2 [(0, .ref (gA G (12 + i))), (1, .ref (e0))] := hl
  refine lv_aload_n S.1 S.2.1 dJx4a65c_add_9ea2d_0 rfl (lv_at hl 0 rfl) ?_
  refine lv_dup S.1 S.2.1 dJx4a65c_add_9ea2d_1 rfl ?_
  refine r_getS (C := RJx4a65c) (T := TJx4a65c) (N := 3) (ci := 0) S Z (by omega) (eL hi) rfl i_Jx4a65c_add_9ea2d_Jx4a65c 0 (by decide) m_Jx4a65c_add_9ea2d_f63 m_Jx4a65c_add_9ea2d_sf0 (v := .int (cM σ i)) rfl dJx4a65c_add_9ea2d_2 ?_
  refine lv_iconst (v := nI 1) S.1 S.2.1 dJx4a65c_add_9ea2d_5 (by decide) ?_
  refine lv_iadd S.1 S.2.1 dJx4a65c_add_9ea2d_6 ?_
  refine r_putS (C := RJx4a65c) (T := TJx4a65c) (N := 3) (ci := 0) (σ' := cM' σ i ((cM σ i + nI 1))) (μ' := μ) S Z (by omega) (eL hi) rfl i_Jx4a65c_add_9ea2d_Jx4a65c tyJx4a65c tyJx4a65c_ok nmJx4a65c 0 (by decide) m_Jx4a65c_add_9ea2d_f63 m_Jx4a65c_add_9ea2d_sf0 rfl (ty := .int) (v := .int ((cM σ i + nI 1))) (by decide +kernel) rfl rfl (Nat.le_of_ble_eq_true rfl) rfl rfl (sLM hi _) dJx4a65c_add_9ea2d_7 (fun H locs Z => ?_)
  refine lv_aload_n S.1 S.2.1 dJx4a65c_add_9ea2d_10 rfl (lv_at hl 0 rfl) ?_
  refine lv_aload_n S.1 S.2.1 dJx4a65c_add_9ea2d_11 rfl (lv_at hl 1 rfl) ?_
  refine lv_aload_n S.1 S.2.1 dJx4a65c_add_9ea2d_12 rfl (lv_at hl 0 rfl) ?_
  refine r_get (C := RJx4a65c) (T := TJx4a65c) (N := 3) (ci := 0) S Z (by omega) (eL hi) rfl i_Jx4a65c_add_9ea2d_Jx4a65c 1 (by decide) m_Jx4a65c_add_9ea2d_f9 rfl (v := .ref (cE σ i)) rfl dJx4a65c_add_9ea2d_13 ?_
  refine lv_aload_n S.1 S.2.1 dJx4a65c_add_9ea2d_16 rfl (lv_at hl 0 rfl) ?_
  refine r_get (C := RJx4a65c) (T := TJx4a65c) (N := 3) (ci := 0) S Z (by omega) (eL hi) rfl i_Jx4a65c_add_9ea2d_Jx4a65c 2 (by decide) m_Jx4a65c_add_9ea2d_f48 rfl (v := .int (nI (cL σ i))) rfl dJx4a65c_add_9ea2d_17 ?_
  refine va_callv (va_runV (As := [.ref (e0), .ref (cE σ i), .int (nI (cL σ i))]) (rest := []) S (k_add3_r l G (cM' σ i ((cM σ i + nI 1))) μ o i (cL σ i) e0 qk ci vs CC r f hi hn hr hv hcc hca) (cwV 3 S.2.2.2.2 gJx4a65c_add_9ea2d_Jx4a65c_add_72be8 rfl rfl rfl ⟨rfl, hy_Jx4a65c_add_72be8⟩ ⟨Nat.le_of_ble_eq_true rfl, Nat.le_of_ble_eq_true rfl⟩) (wPc_V (q := (RJx4a65c, TJx4a65c, 3)) Z (by omega) (eL hi) rfl) rfl rfl hl.1 rfl (lv_room (Nat.le_of_ble_eq_true rfl)) dJx4a65c_add_9ea2d_20 ⟨Nat.le_of_ble_eq_true rfl, Nat.le_of_ble_eq_true rfl⟩) Z.2.2.2.2 (fun _ _ h => h) (fun _ h => h) (fun u_2 T9 H1 locs1 hT9 hvm hw hB hz hk9 hS => ?_)
  subst hw
  have Z : wZ G (cL' (cW' (cM' σ i ((cM σ i + nI 1))) ((cW (cM' σ i ((cM σ i + nI 1)))).set r (cE (cM' σ i ((cM σ i + nI 1))) i, rwE G (va_up f (cL σ i) (some e0))))) i ((cL σ i) + 1)) (μ) o s H1 locs1 := wZ_callP Z hB hT9 hS
  clear hB hT9 hS hk9 hz hvm T9
  revert Z; generalize H1 = H; generalize locs1 = locs; intro Z
  refine W.widen (k := 0) (n := 0) (by first | decide | omega) (by first | decide | omega) ?_
  refine lv_iconst (v := nI 1) S.1 S.2.1 dJx4a65c_add_9ea2d_23 (by decide) ?_
  rw [hQ]
  have q9 : (addS G σ i r (cL σ i) e0 f : cS) = cL' (cW' (cM' σ i ((cM σ i + nI 1))) ((cW (cM' σ i ((cM σ i + nI 1)))).set r (cE (cM' σ i ((cM σ i + nI 1))) i, rwE G (va_up f (cL σ i) (some e0))))) i ((cL σ i) + 1) := rfl
  rw [← q9] at Z
  exact W.zret (v := nI 1) S.1 S.2.1 hret rfl (fun _ hT9 hW => ⟨⟨_, (addS G σ i r (cL σ i) e0 f, μ), rfl, ⟨rfl, rfl⟩, wZ_P Z hT9 hW⟩, Z.2.2.2.2.F hT9⟩) Z.2.2.2.2.2.2 dJx4a65c_add_9ea2d_24

theorem i_Jx4a65c_grow_92f84_Jx4a65c : ∀ w ∈ wsJx4a65c0, w ∈ wsJx4a65c_grow_92f84 := by decide +kernel
theorem m_Jx4a65c_grow_92f84_f9 : Cond.fieldLink RJx4a65c 9 "java/util/ArrayList" "elementData" "[Ljava/lang/Object;" ∈ wsJx4a65c_grow_92f84 := by decide +kernel
theorem m_Jx4a65c_grow_92f84_f39 : Cond.fieldLink RJx4a65c 39 "java/util/ArrayList" "DEFAULTCAPACITY_EMPTY_ELEMENTDATA" "[Ljava/lang/Object;" ∈ wsJx4a65c_grow_92f84 := by decide +kernel
theorem m_Jx4a65c_grow_92f84_mx79 : Cond.methodLink RJx4a65c 79 Lib.Math.max.name ∈ wsJx4a65c_grow_92f84 := by decide +kernel
theorem m_Jx4a65c_grow_92f84_mxs : Cond.static Lib.Math.max.name ∈ wsJx4a65c_grow_92f84 := by decide +kernel
theorem m_Jx4a65c_grow_92f84_mxi : Cond.initialized "java/lang/Math" ∈ wsJx4a65c_grow_92f84 := by decide +kernel
theorem m_Jx4a65c_grow_92f84_mxc : Cond.code Lib.Math.max.name Lib.Math.max.code 2 (some .int) ∈ wsJx4a65c_grow_92f84 := by decide +kernel
theorem m_Jx4a65c_grow_92f84_c7 : Cond.classLink RJx4a65c 7 "java/lang/Object" ∈ wsJx4a65c_grow_92f84 := by decide +kernel
abbrev rm_k_Jx4a65c_grow_92f84 : Room := { frames := 1, cells := 1, slots := 10, locals := 21 }
set_option maxHeartbeats 4000000 in
set_option maxRecDepth 100000 in
theorem k_Jx4a65c_grow_92f84 (l : Launch) (G : wG) (σ : cS) (μ : mS) (o : Nat → Int64) (i : Nat) (hi : i < 3) (hE : cE σ i = gX G 0) : Met l yJx4a65c_grow_92f84 wsJx4a65c_grow_92f84 rm_k_Jx4a65c_grow_92f84 (wPc G σ μ o [.ref (gA G (12 + i)), .int (nI 1)]) (va_Qr (fun u : cS × mS => u.2 = μ ∧ (fun ns : cS => ∃ q : Nat, ns = growS G σ i q) u.1) (fun u a9 t => a9 = cE u.1 i ∧ wI G u.1 u.2 o t) (gP G)) 1 10 (gP G) := by
  refine Met.ofW (cc := cJx4a65c_grow_92f84) (maxL := 4) (ret := (some (.array (.object "java/lang/Object")))) (by decide) rfl ?_
  intro p e s m args below meth c s₁ B hml hv
  obtain ⟨hargs, hI⟩ := hv
  have S : CallFix p m c cJx4a65c_grow_92f84 4 s args wsJx4a65c_grow_92f84 RJx4a65c := ⟨B.exec, B.bytes, hml, findClass_of_methodNamed B.named, atoms_spec (ws := wsJx4a65c_grow_92f84) B.pre⟩
  have hret := B.returns
  have hlocks := B.notSynchronized
  have Z := wZ_0 hI
  clear hI
  obtain ⟨Q, hQ⟩ : ∃ Q, Q = MQ below (va_Qr (fun u : cS × mS => u.2 = μ ∧ (fun ns : cS => ∃ q : Nat, ns = growS G σ i q) u.1) (fun u a9 t => a9 = cE u.1 i ∧ wI G u.1 u.2 o t) (gP G)) args s 1 10 (gP G) := ⟨_, rfl⟩
  rw [← hQ]
  have hl := lv_entry [.ref (gA G (12 + i)), .int (nI 1)] (n := 4) (Nat.le_of_ble_eq_true rfl)
  rw [show entryFrame m args 4 = entryFrame m ([.ref (gA G (12 + i)), .int (nI 1)] : List Value).toArray 4 from by rw [hargs], lg_entry_eq]
  generalize (lg_sl [.ref (gA G (12 + i)), .int (nI 1)] ++ List.replicate (4 - (lg_sl [.ref (gA G (12 + i)), .int (nI 1)]).length) Slot.unset).toArray = ls at hl ⊢
  have hl : lv_has ls 4 [(0, .ref (gA G (12 + i))), (1, .int (nI 1))] := hl
  refine lv_aload_n S.1 S.2.1 dJx4a65c_grow_92f84_0 rfl (lv_at hl 0 rfl) ?_
  refine r_get (C := RJx4a65c) (T := TJx4a65c) (N := 3) (ci := 0) S Z (by omega) (eL hi) rfl i_Jx4a65c_grow_92f84_Jx4a65c 1 (by decide) m_Jx4a65c_grow_92f84_f9 rfl (v := .ref (gX G 0)) (by show some (Value.ref (cE σ i)) = some (Value.ref (gX G 0)); rw [hE]) dJx4a65c_grow_92f84_1 ?_
  refine r_alen0 S Z dJx4a65c_grow_92f84_4 ?_
  refine lv_istore_n (lv' := [(2, .int (nI 0)), (0, .ref (gA G (12 + i))), (1, .int (nI 1))]) S.1 S.2.1 dJx4a65c_grow_92f84_5 rfl hl (by decide) rfl (fun ls hl => ?_)
  refine lv_iload_n S.1 S.2.1 dJx4a65c_grow_92f84_6 rfl (lv_at hl 0 rfl) ?_
  refine lv_if_gt (tgt := 20) S.1 S.2.1 dJx4a65c_grow_92f84_7 (by decide) (fun c => absurd c (by decide)) (fun _ => ?_)
  refine lv_aload_n S.1 S.2.1 dJx4a65c_grow_92f84_10 rfl (lv_at hl 1 rfl) ?_
  refine r_get (C := RJx4a65c) (T := TJx4a65c) (N := 3) (ci := 0) S Z (by omega) (eL hi) rfl i_Jx4a65c_grow_92f84_Jx4a65c 1 (by decide) m_Jx4a65c_grow_92f84_f9 rfl (v := .ref (gX G 0)) (by show some (Value.ref (cE σ i)) = some (Value.ref (gX G 0)); rw [hE]) dJx4a65c_grow_92f84_11 ?_
  refine r_gets0 S Z m_Jx4a65c_grow_92f84_f39 dJx4a65c_grow_92f84_14 ?_
  refine lv_acmp_eq (rx := some (gX G 0)) (ry := some (gX G 0)) (tgt := 45) S.1 S.2.1 dJx4a65c_grow_92f84_17 (by decide) (fun _ => ?_) (fun c => absurd rfl c)
  refine lv_aload_n S.1 S.2.1 dJx4a65c_grow_92f84_45 rfl (lv_at hl 1 rfl) ?_
  refine lv_bipush (v := nI 10) S.1 S.2.1 dJx4a65c_grow_92f84_46 (by decide) ?_
  refine lv_iload_n S.1 S.2.1 dJx4a65c_grow_92f84_48 rfl (lv_at hl 2 rfl) ?_
  refine va_mmax S.1 S.2.1 (by rw [S.2.2.1]; exact hl.1.symm) S.2.2.2.1 (S.2.2.2.2 _ m_Jx4a65c_grow_92f84_mx79) (S.2.2.2.2 _ m_Jx4a65c_grow_92f84_mxs) (S.2.2.2.2 _ m_Jx4a65c_grow_92f84_mxi) (S.2.2.2.2 _ m_Jx4a65c_grow_92f84_mxc) (Nat.le_of_ble_eq_true rfl) (Nat.le_of_ble_eq_true rfl) (Nat.le_of_ble_eq_true rfl) (Nat.le_of_ble_eq_true rfl) dJx4a65c_grow_92f84_49 ?_
  rw [show (if nI 10 < nI 1 then nI 1 else nI 10) = nI 10 from if_neg (by decide)]
  refine r_newW S Z m_Jx4a65c_grow_92f84_c7 (Nat.le_of_ble_eq_true rfl) (Nat.le_of_ble_eq_true rfl) dJx4a65c_grow_92f84_52 (fun q0 H Z => ?_)
  refine lv_dup_x1 S.1 S.2.1 dJx4a65c_grow_92f84_55 rfl rfl ?_
  refine r_put (C := RJx4a65c) (T := TJx4a65c) (N := 3) (ci := 0) (σ' := cE' (cW' σ (cW σ ++ [(q0, rwE G (fun _ => none))])) i (q0)) (μ' := μ) S Z (by omega) (eL hi) rfl i_Jx4a65c_grow_92f84_Jx4a65c tyJx4a65c tyJx4a65c_ok nmJx4a65c 1 (by decide) m_Jx4a65c_grow_92f84_f9 rfl rfl (ty := .array (.object "java/lang/Object")) (v := .ref (q0)) (by decide +kernel) rfl rfl (Nat.le_of_ble_eq_true rfl) rfl rfl (sLE hi _) dJx4a65c_grow_92f84_56 (fun H locs Z => ?_)
  rw [hQ]
  exact W.aret S.1 S.2.1 hret (Or.inr ⟨_, rfl⟩) (Or.inr ⟨_, rfl⟩) (fun _ hT9 hW => ⟨⟨(cE' (cW' σ (cW σ ++ [(q0, rwE G (fun _ => none))])) i (q0), μ), q0, rfl, ⟨rfl, ⟨_, rfl⟩⟩, (va_up_self _ _ _).symm, wZ_P Z hT9 hW⟩, Z.2.2.2.2.F hT9⟩) Z.2.2.2.2.2.2 dJx4a65c_grow_92f84_59

theorem i_Jx4a65c_grow_d5877_Jx4a65c : ∀ w ∈ wsJx4a65c0, w ∈ wsJx4a65c_grow_d5877 := by decide +kernel
theorem m_Jx4a65c_grow_d5877_f48 : Cond.fieldLink RJx4a65c 48 "java/util/ArrayList" "size" "I" ∈ wsJx4a65c_grow_d5877 := by decide +kernel
abbrev rm_k_Jx4a65c_grow_d5877 : Room := { frames := 2, cells := 1, slots := 10, locals := 44 }
set_option maxHeartbeats 4000000 in
set_option maxRecDepth 100000 in
theorem k_Jx4a65c_grow_d5877 (l : Launch) (G : wG) (σ : cS) (μ : mS) (o : Nat → Int64) (i : Nat) (hi : i < 3) (hE : cE σ i = gX G 0) (hn : cL σ i = 0) : Met l yJx4a65c_grow_d5877 wsJx4a65c_grow_d5877 rm_k_Jx4a65c_grow_d5877 (wPc G σ μ o [.ref (gA G (12 + i))]) (va_Qr (fun u : cS × mS => u.2 = μ ∧ (fun ns : cS => ∃ q : Nat, ns = growS G σ i q) u.1) (fun u a9 t => a9 = cE u.1 i ∧ wI G u.1 u.2 o t) (gP G)) 1 10 (gP G) := by
  refine Met.ofW (cc := cJx4a65c_grow_d5877) (maxL := 1) (ret := (some (.array (.object "java/lang/Object")))) (by decide) rfl ?_
  intro p e s m args below meth c s₁ B hml hv
  obtain ⟨hargs, hI⟩ := hv
  have S : CallFix p m c cJx4a65c_grow_d5877 1 s args wsJx4a65c_grow_d5877 RJx4a65c := ⟨B.exec, B.bytes, hml, findClass_of_methodNamed B.named, atoms_spec (ws := wsJx4a65c_grow_d5877) B.pre⟩
  have hret := B.returns
  have hlocks := B.notSynchronized
  have Z := wZ_0 hI
  clear hI
  obtain ⟨Q, hQ⟩ : ∃ Q, Q = MQ below (va_Qr (fun u : cS × mS => u.2 = μ ∧ (fun ns : cS => ∃ q : Nat, ns = growS G σ i q) u.1) (fun u a9 t => a9 = cE u.1 i ∧ wI G u.1 u.2 o t) (gP G)) args s 1 10 (gP G) := ⟨_, rfl⟩
  rw [← hQ]
  have hl := lv_entry [.ref (gA G (12 + i))] (n := 1) (Nat.le_of_ble_eq_true rfl)
  rw [show entryFrame m args 1 = entryFrame m ([.ref (gA G (12 + i))] : List Value).toArray 1 from by rw [hargs], lg_entry_eq]
  generalize (lg_sl [.ref (gA G (12 + i))] ++ List.replicate (1 - (lg_sl [.ref (gA G (12 + i))]).length) Slot.unset).toArray = ls at hl ⊢
  have hl : lv_has ls 1 [(0, .ref (gA G (12 + i)))] := hl
  refine lv_aload_n S.1 S.2.1 dJx4a65c_grow_d5877_0 rfl (lv_at hl 0 rfl) ?_
  refine lv_aload_n S.1 S.2.1 dJx4a65c_grow_d5877_1 rfl (lv_at hl 0 rfl) ?_
  refine r_get (C := RJx4a65c) (T := TJx4a65c) (N := 3) (ci := 0) S Z (by omega) (eL hi) rfl i_Jx4a65c_grow_d5877_Jx4a65c 2 (by decide) m_Jx4a65c_grow_d5877_f48 rfl (v := .int (nI 0)) (by show some (Value.int (nI (cL σ i))) = some (Value.int (nI 0)); rw [hn]) dJx4a65c_grow_d5877_2 ?_
  refine lv_iconst (v := nI 1) S.1 S.2.1 dJx4a65c_grow_d5877_5 (by decide) ?_
  refine r_addN S dJx4a65c_grow_d5877_6 ?_
  refine va_callr (va_runV (As := [.int (nI (0 + 1))]) (rest := []) S (k_Jx4a65c_grow_92f84 l G σ μ o i hi hE) (cwV 1 S.2.2.2.2 gJx4a65c_grow_d5877_Jx4a65c_grow_92f84 rfl rfl rfl ⟨rfl, hy_Jx4a65c_grow_92f84⟩ ⟨Nat.le_of_ble_eq_true rfl, Nat.le_of_ble_eq_true rfl⟩) (wPc_V (q := (RJx4a65c, TJx4a65c, 3)) Z (by omega) (eL hi) rfl) rfl rfl hl.1 rfl (lv_room (Nat.le_of_ble_eq_true rfl)) dJx4a65c_grow_d5877_7 ⟨Nat.le_of_ble_eq_true rfl, Nat.le_of_ble_eq_true rfl⟩) Z.2.2.2.2 (fun _ _ h => h) (fun _ h => h) (fun u_2 r_1 T9 H1 locs1 hT9 hvm hw hB hz hk9 hS => ?_)
  obtain ⟨τ_3, μ9⟩ := u_2
  obtain ⟨hm9, hp9⟩ := hw
  obtain ⟨hr9, hB⟩ := hB
  have hm9 : μ = μ9 := hm9.symm
  subst hm9
  have hp_4 : ∃ q : Nat, τ_3 = growS G σ i q := hp9
  clear hp9
  subst hr9
  have Z : wZ G (τ_3) (μ) o s H1 locs1 := wZ_callP Z hB hT9 hS
  clear hB hT9 hS hk9 hz hvm T9
  revert Z; generalize H1 = H; generalize locs1 = locs; intro Z
  refine W.widen (k := 1) (n := 10) (by first | decide | omega) (by first | decide | omega) ?_
  rw [hQ]
  exact W.aret S.1 S.2.1 hret (Or.inr ⟨_, rfl⟩) (Or.inr ⟨_, rfl⟩) (fun _ hT9 hW => ⟨⟨(τ_3, μ), cE τ_3 i, rfl, ⟨rfl, hp_4⟩, rfl, wZ_P Z hT9 hW⟩, Z.2.2.2.2.F hT9⟩) Z.2.2.2.2.2.2 dJx4a65c_grow_d5877_10

abbrev rm_k_add3_0 : Room := { frames := 3, cells := 1, slots := 10, locals := 64 }
set_option maxHeartbeats 4000000 in
set_option maxRecDepth 100000 in
theorem k_add3_0 (l : Launch) (G : wG) (σ : cS) (μ : mS) (o : Nat → Int64) (i : Nat) (e0 : Nat) (qk : Nat) (ci : Nat) (vs : List Value) (CC : vw_C) (hi : i < 3) (hE : cE σ i = gX G 0) (hn : cL σ i = 0) (hv : (cW σ)[qk]? = some (e0, .inr (ci, vs))) (hcc : vwCl[ci]? = some CC) (hca : Cond.castable CC.1 "java/lang/Object" ∈ wN) : Met l yJx4a65c_add_72be8 wsJx4a65c_add_72be8 rm_k_add3_0 (wPc G σ μ o [.ref (gA G (12 + i)), .ref (e0), .ref (gX G 0), .int (nI 0)]) (va_Qv (fun u : cS × mS => u.2 = μ ∧ (fun ns : cS => ∃ q : Nat, ns = cL' (cE' (cW' σ (cW σ ++ [(q, rwE G (va_up (fun _ => none) 0 (some e0)))])) i q) i 1) u.1) (fun u t => wI G u.1 u.2 o t) (gP G)) 1 10 (gP G) := by
  refine Met.ofW (cc := cJx4a65c_add_72be8) (maxL := 4) (ret := none) (by decide) rfl ?_
  intro p e s m args below meth c s₁ B hml hv
  obtain ⟨hargs, hI⟩ := hv
  have S : CallFix p m c cJx4a65c_add_72be8 4 s args wsJx4a65c_add_72be8 RJx4a65c := ⟨B.exec, B.bytes, hml, findClass_of_methodNamed B.named, atoms_spec (ws := wsJx4a65c_add_72be8) B.pre⟩
  have hret := B.returns
  have hlocks := B.notSynchronized
  have Z := wZ_0 hI
  clear hI
  obtain ⟨Q, hQ⟩ : ∃ Q, Q = MQ below (va_Qv (fun u : cS × mS => u.2 = μ ∧ (fun ns : cS => ∃ q : Nat, ns = cL' (cE' (cW' σ (cW σ ++ [(q, rwE G (va_up (fun _ => none) 0 (some e0)))])) i q) i 1) u.1) (fun u t => wI G u.1 u.2 o t) (gP G)) args s 1 10 (gP G) := ⟨_, rfl⟩
  rw [← hQ]
  have hl := lv_entry [.ref (gA G (12 + i)), .ref (e0), .ref (gX G 0), .int (nI 0)] (n := 4) (Nat.le_of_ble_eq_true rfl)
  rw [show entryFrame m args 4 = entryFrame m ([.ref (gA G (12 + i)), .ref (e0), .ref (gX G 0), .int (nI 0)] : List Value).toArray 4 from by rw [hargs], lg_entry_eq]
  generalize (lg_sl [.ref (gA G (12 + i)), .ref (e0), .ref (gX G 0), .int (nI 0)] ++ List.replicate (4 - (lg_sl [.ref (gA G (12 + i)), .ref (e0), .ref (gX G 0), .int (nI 0)]).length) Slot.unset).toArray = ls at hl ⊢
  have hl : lv_has ls 4 [(0, .ref (gA G (12 + i))), (1, .ref (e0)), (2, .ref (gX G 0)), (3, .int (nI 0))] := hl
  refine lv_iload_n S.1 S.2.1 dJx4a65c_add_72be8_0 rfl (lv_at hl 3 rfl) ?_
  refine lv_aload_n S.1 S.2.1 dJx4a65c_add_72be8_1 rfl (lv_at hl 2 rfl) ?_
  refine r_alen0 S Z dJx4a65c_add_72be8_2 ?_
  refine r_icmpN_ne S (tgt := 11) (by omega) (by omega) dJx4a65c_add_72be8_3 (by decide) (fun c_1 => absurd c_1 (by exact not_not_intro rfl)) (fun c_1 => ?_)
  refine lv_aload_n S.1 S.2.1 dJx4a65c_add_72be8_6 rfl (lv_at hl 0 rfl) ?_
  refine va_callr (va_runV (As := []) (rest := []) S (k_Jx4a65c_grow_d5877 l G σ μ o i hi hE hn) (cwV 0 S.2.2.2.2 gJx4a65c_add_72be8_Jx4a65c_grow_d5877 rfl rfl rfl ⟨rfl, hy_Jx4a65c_grow_d5877⟩ ⟨Nat.le_of_ble_eq_true rfl, Nat.le_of_ble_eq_true rfl⟩) (wPc_V (q := (RJx4a65c, TJx4a65c, 3)) Z (by omega) (eL hi) rfl) rfl rfl hl.1 rfl (lv_room (Nat.le_of_ble_eq_true rfl)) dJx4a65c_add_72be8_7 ⟨Nat.le_of_ble_eq_true rfl, Nat.le_of_ble_eq_true rfl⟩) Z.2.2.2.2 (fun _ _ h => h) (fun _ h => h) (fun u_3 r_2 T9 H1 locs1 hT9 hvm hw hB hz hk9 hS => ?_)
  obtain ⟨τ_4, μ9⟩ := u_3
  obtain ⟨hm9, hp9⟩ := hw
  obtain ⟨hr9, hB⟩ := hB
  have hm9 : μ = μ9 := hm9.symm
  subst hm9
  have hp_5 : ∃ q : Nat, τ_4 = growS G σ i q := hp9
  clear hp9
  subst hr9
  have Z : wZ G (τ_4) (μ) o s H1 locs1 := wZ_callP Z hB hT9 hS
  clear hB hT9 hS hk9 hz hvm T9
  revert Z; generalize H1 = H; generalize locs1 = locs; intro Z
  refine W.widen (k := 1) (n := 10) (by first | decide | omega) (by first | decide | omega) ?_
  obtain ⟨q0, rfl⟩ := hp_5
  refine lv_astore_n (lv' := [(2, .ref (cE (growS G σ i q0) i)), (0, .ref (gA G (12 + i))), (1, .ref (e0)), (3, .int (nI 0))]) S.1 S.2.1 dJx4a65c_add_72be8_10 rfl hl (by decide) rfl (fun ls hl => ?_)
  refine lv_aload_n S.1 S.2.1 dJx4a65c_add_72be8_11 rfl (lv_at hl 0 rfl) ?_
  refine lv_iload_n S.1 S.2.1 dJx4a65c_add_72be8_12 rfl (lv_at hl 3 rfl) ?_
  refine lv_aload_n S.1 S.2.1 dJx4a65c_add_72be8_13 rfl (lv_at hl 2 rfl) ?_
  refine r_astW S Z (grow_row G σ i q0) (by decide) (wl_mv (grow_kp hv)) hcc hca dJx4a65c_add_72be8_14 (fun H locs Z => ?_)
  refine lv_aload_n S.1 S.2.1 dJx4a65c_add_72be8_15 rfl (lv_at hl 1 rfl) ?_
  refine lv_iload_n S.1 S.2.1 dJx4a65c_add_72be8_16 rfl (lv_at hl 3 rfl) ?_
  refine lv_iconst (v := nI 1) S.1 S.2.1 dJx4a65c_add_72be8_17 (by decide) ?_
  refine r_addN S dJx4a65c_add_72be8_18 ?_
  refine r_put (C := RJx4a65c) (T := TJx4a65c) (N := 3) (ci := 0) (σ' := cL' (cW' (growS G σ i q0) ((cW (growS G σ i q0)).set (cW σ).length (cE (growS G σ i q0) i, rwE G (va_up (fun _ => none) 0 (some e0))))) i (0 + 1)) (μ' := μ) S Z (by omega) (eL hi) rfl i_Jx4a65c_add_72be8_Jx4a65c tyJx4a65c tyJx4a65c_ok nmJx4a65c 2 (by decide) m_Jx4a65c_add_72be8_f48 rfl rfl (ty := .int) (v := .int (nI (0 + 1))) (by decide +kernel) rfl rfl (Nat.le_of_ble_eq_true rfl) rfl rfl (sLL hi _) dJx4a65c_add_72be8_19 (fun H locs Z => ?_)
  rw [hQ]
  exact W.vret S.1 S.2.1 hret (fun _ hT9 hW => ⟨⟨(cL' (cW' (growS G σ i q0) ((cW (growS G σ i q0)).set (cW σ).length (cE (growS G σ i q0) i, rwE G (va_up (fun _ => none) 0 (some e0))))) i (0 + 1), μ), rfl, ⟨rfl, ⟨q0, grow_set⟩⟩, wZ_P Z hT9 hW⟩, Z.2.2.2.2.F hT9⟩) Z.2.2.2.2.2.2 dJx4a65c_add_72be8_22

abbrev rm_k_add_0 : Room := { frames := 4, cells := 1, slots := 10, locals := 87 }
set_option maxHeartbeats 4000000 in
set_option maxRecDepth 100000 in
theorem k_add_0 (l : Launch) (G : wG) (σ : cS) (μ : mS) (o : Nat → Int64) (i : Nat) (e0 : Nat) (qk : Nat) (ci : Nat) (vs : List Value) (CC : vw_C) (hi : i < 3) (hE : cE σ i = gX G 0) (hn : cL σ i = 0) (hv : (cW σ)[qk]? = some (e0, .inr (ci, vs))) (hcc : vwCl[ci]? = some CC) (hca : Cond.castable CC.1 "java/lang/Object" ∈ wN) : Met l yJx4a65c_add_9ea2d wsJx4a65c_add_9ea2d rm_k_add_0 (wPc G σ μ o [.ref (gA G (12 + i)), .ref (e0)]) (va_Qi (fun (rr : Int32) (u : cS × mS) => rr = bi (true) ∧ u.2 = μ ∧ (fun ns : cS => ∃ q : Nat, ns = newS G σ i q e0) u.1) (fun u t => wI G u.1 u.2 o t) (gP G)) 1 10 (gP G) := by
  refine Met.ofW (cc := cJx4a65c_add_9ea2d) (maxL := 2) (ret := (some .boolean)) (by decide) rfl ?_
  intro p e s m args below meth c s₁ B hml hv
  obtain ⟨hargs, hI⟩ := hv
  have S : CallFix p m c cJx4a65c_add_9ea2d 2 s args wsJx4a65c_add_9ea2d RJx4a65c := ⟨B.exec, B.bytes, hml, findClass_of_methodNamed B.named, atoms_spec (ws := wsJx4a65c_add_9ea2d) B.pre⟩
  have hret := B.returns
  have hlocks := B.notSynchronized
  have Z := wZ_0 hI
  clear hI
  obtain ⟨Q, hQ⟩ : ∃ Q, Q = MQ below (va_Qi (fun (rr : Int32) (u : cS × mS) => rr = bi (true) ∧ u.2 = μ ∧ (fun ns : cS => ∃ q : Nat, ns = newS G σ i q e0) u.1) (fun u t => wI G u.1 u.2 o t) (gP G)) args s 1 10 (gP G) := ⟨_, rfl⟩
  rw [← hQ]
  have hl := lv_entry [.ref (gA G (12 + i)), .ref (e0)] (n := 2) (Nat.le_of_ble_eq_true rfl)
  rw [show entryFrame m args 2 = entryFrame m ([.ref (gA G (12 + i)), .ref (e0)] : List Value).toArray 2 from by rw [hargs], lg_entry_eq]
  generalize (lg_sl [.ref (gA G (12 + i)), .ref (e0)] ++ List.replicate (2 - (lg_sl [.ref (gA G (12 + i)), .ref (e0)]).length) Slot.unset).toArray = ls at hl ⊢
  have hl : lv_has ls 2 [(0, .ref (gA G (12 + i))), (1, .ref (e0))] := hl
  refine lv_aload_n S.1 S.2.1 dJx4a65c_add_9ea2d_0 rfl (lv_at hl 0 rfl) ?_
  refine lv_dup S.1 S.2.1 dJx4a65c_add_9ea2d_1 rfl ?_
  refine r_getS (C := RJx4a65c) (T := TJx4a65c) (N := 3) (ci := 0) S Z (by omega) (eL hi) rfl i_Jx4a65c_add_9ea2d_Jx4a65c 0 (by decide) m_Jx4a65c_add_9ea2d_f63 m_Jx4a65c_add_9ea2d_sf0 (v := .int (cM σ i)) rfl dJx4a65c_add_9ea2d_2 ?_
  refine lv_iconst (v := nI 1) S.1 S.2.1 dJx4a65c_add_9ea2d_5 (by decide) ?_
  refine lv_iadd S.1 S.2.1 dJx4a65c_add_9ea2d_6 ?_
  refine r_putS (C := RJx4a65c) (T := TJx4a65c) (N := 3) (ci := 0) (σ' := cM' σ i ((cM σ i + nI 1))) (μ' := μ) S Z (by omega) (eL hi) rfl i_Jx4a65c_add_9ea2d_Jx4a65c tyJx4a65c tyJx4a65c_ok nmJx4a65c 0 (by decide) m_Jx4a65c_add_9ea2d_f63 m_Jx4a65c_add_9ea2d_sf0 rfl (ty := .int) (v := .int ((cM σ i + nI 1))) (by decide +kernel) rfl rfl (Nat.le_of_ble_eq_true rfl) rfl rfl (sLM hi _) dJx4a65c_add_9ea2d_7 (fun H locs Z => ?_)
  refine lv_aload_n S.1 S.2.1 dJx4a65c_add_9ea2d_10 rfl (lv_at hl 0 rfl) ?_
  refine lv_aload_n S.1 S.2.1 dJx4a65c_add_9ea2d_11 rfl (lv_at hl 1 rfl) ?_
  refine lv_aload_n S.1 S.2.1 dJx4a65c_add_9ea2d_12 rfl (lv_at hl 0 rfl) ?_
  refine r_get (C := RJx4a65c) (T := TJx4a65c) (N := 3) (ci := 0) S Z (by omega) (eL hi) rfl i_Jx4a65c_add_9ea2d_Jx4a65c 1 (by decide) m_Jx4a65c_add_9ea2d_f9 rfl (v := .ref (gX G 0)) (by show some (Value.ref (cE σ i)) = some (Value.ref (gX G 0)); rw [hE]) dJx4a65c_add_9ea2d_13 ?_
  refine lv_aload_n S.1 S.2.1 dJx4a65c_add_9ea2d_16 rfl (lv_at hl 0 rfl) ?_
  refine r_get (C := RJx4a65c) (T := TJx4a65c) (N := 3) (ci := 0) S Z (by omega) (eL hi) rfl i_Jx4a65c_add_9ea2d_Jx4a65c 2 (by decide) m_Jx4a65c_add_9ea2d_f48 rfl (v := .int (nI 0)) (by show some (Value.int (nI (cL σ i))) = some (Value.int (nI 0)); rw [hn]) dJx4a65c_add_9ea2d_17 ?_
  refine va_callv (va_runV (As := [.ref (e0), .ref (gX G 0), .int (nI 0)]) (rest := []) S (k_add3_0 l G (cM' σ i ((cM σ i + nI 1))) μ o i e0 qk ci vs CC hi hE hn hv hcc hca) (cwV 3 S.2.2.2.2 gJx4a65c_add_9ea2d_Jx4a65c_add_72be8 rfl rfl rfl ⟨rfl, hy_Jx4a65c_add_72be8⟩ ⟨Nat.le_of_ble_eq_true rfl, Nat.le_of_ble_eq_true rfl⟩) (wPc_V (q := (RJx4a65c, TJx4a65c, 3)) Z (by omega) (eL hi) rfl) rfl rfl hl.1 rfl (lv_room (Nat.le_of_ble_eq_true rfl)) dJx4a65c_add_9ea2d_20 ⟨Nat.le_of_ble_eq_true rfl, Nat.le_of_ble_eq_true rfl⟩) Z.2.2.2.2 (fun _ _ h => h) (fun _ h => h) (fun u_2 T9 H1 locs1 hT9 hvm hw hB hz hk9 hS => ?_)
  obtain ⟨τ_3, μ9⟩ := u_2
  obtain ⟨hm9, hp9⟩ := hw
  have hm9 : μ = μ9 := hm9.symm
  subst hm9
  have hp_4 : ∃ q : Nat, τ_3 = cL' (cE' (cW' (cM' σ i ((cM σ i + nI 1))) (cW (cM' σ i ((cM σ i + nI 1))) ++ [(q, rwE G (va_up (fun _ => none) 0 (some e0)))])) i q) i 1 := hp9
  clear hp9
  have Z : wZ G (τ_3) (μ) o s H1 locs1 := wZ_callP Z hB hT9 hS
  clear hB hT9 hS hk9 hz hvm T9
  revert Z; generalize H1 = H; generalize locs1 = locs; intro Z
  refine W.widen (k := 1) (n := 10) (by first | decide | omega) (by first | decide | omega) ?_
  refine lv_iconst (v := nI 1) S.1 S.2.1 dJx4a65c_add_9ea2d_23 (by decide) ?_
  rw [hQ]
  exact W.zret (v := nI 1) S.1 S.2.1 hret rfl (fun _ hT9 hW => ⟨⟨_, (τ_3, μ), rfl, ⟨rfl, rfl, hp_4⟩, wZ_P Z hT9 hW⟩, Z.2.2.2.2.F hT9⟩) Z.2.2.2.2.2.2 dJx4a65c_add_9ea2d_24

theorem i_Jx4a65c_clear_da8c8_Jx4a65c : ∀ w ∈ wsJx4a65c0, w ∈ wsJx4a65c_clear_da8c8 := by decide +kernel
theorem m_Jx4a65c_clear_da8c8_f63 : Cond.fieldLink RJx4a65c 63 "java/util/ArrayList" "modCount" "I" ∈ wsJx4a65c_clear_da8c8 := by decide +kernel
theorem m_Jx4a65c_clear_da8c8_sf0 : Cond.sameField "java/util/ArrayList" "java/util/AbstractList" "modCount" "I" ∈ wsJx4a65c_clear_da8c8 := by decide +kernel
theorem m_Jx4a65c_clear_da8c8_f9 : Cond.fieldLink RJx4a65c 9 "java/util/ArrayList" "elementData" "[Ljava/lang/Object;" ∈ wsJx4a65c_clear_da8c8 := by decide +kernel
theorem m_Jx4a65c_clear_da8c8_f48 : Cond.fieldLink RJx4a65c 48 "java/util/ArrayList" "size" "I" ∈ wsJx4a65c_clear_da8c8 := by decide +kernel
abbrev rm_k_clear_0 : Room := { frames := 0, cells := 0, slots := 0, locals := 0 }
set_option maxHeartbeats 4000000 in
set_option maxRecDepth 100000 in
theorem k_clear_0 (l : Launch) (G : wG) (σ : cS) (μ : mS) (o : Nat → Int64) (i : Nat) (hi : i < 3) (hn : cL σ i = 0) : Met l yJx4a65c_clear_da8c8 wsJx4a65c_clear_da8c8 rm_k_clear_0 (wPc G σ μ o [.ref (gA G (12 + i))]) (va_Qv (fun u : cS × mS => u = (cL' (cM' σ i (cM σ i + nI 1)) i 0, μ)) (fun u t => wI G u.1 u.2 o t) (gP G)) 0 0 (gP G) := by
  refine Met.ofW (cc := cJx4a65c_clear_da8c8) (maxL := 4) (ret := none) (by decide) rfl ?_
  intro p e s m args below meth c s₁ B hml hv
  obtain ⟨hargs, hI⟩ := hv
  have S : CallFix p m c cJx4a65c_clear_da8c8 4 s args wsJx4a65c_clear_da8c8 RJx4a65c := ⟨B.exec, B.bytes, hml, findClass_of_methodNamed B.named, atoms_spec (ws := wsJx4a65c_clear_da8c8) B.pre⟩
  have hret := B.returns
  have hlocks := B.notSynchronized
  have Z := wZ_0 hI
  clear hI
  obtain ⟨Q, hQ⟩ : ∃ Q, Q = MQ below (va_Qv (fun u : cS × mS => u = (cL' (cM' σ i (cM σ i + nI 1)) i 0, μ)) (fun u t => wI G u.1 u.2 o t) (gP G)) args s 0 0 (gP G) := ⟨_, rfl⟩
  rw [← hQ]
  have hl := lv_entry [.ref (gA G (12 + i))] (n := 4) (Nat.le_of_ble_eq_true rfl)
  rw [show entryFrame m args 4 = entryFrame m ([.ref (gA G (12 + i))] : List Value).toArray 4 from by rw [hargs], lg_entry_eq]
  generalize (lg_sl [.ref (gA G (12 + i))] ++ List.replicate (4 - (lg_sl [.ref (gA G (12 + i))]).length) Slot.unset).toArray = ls at hl ⊢
  have hl : lv_has ls 4 [(0, .ref (gA G (12 + i)))] := hl
  refine lv_aload_n S.1 S.2.1 dJx4a65c_clear_da8c8_0 rfl (lv_at hl 0 rfl) ?_
  refine lv_dup S.1 S.2.1 dJx4a65c_clear_da8c8_1 rfl ?_
  refine r_getS (C := RJx4a65c) (T := TJx4a65c) (N := 3) (ci := 0) S Z (by omega) (eL hi) rfl i_Jx4a65c_clear_da8c8_Jx4a65c 0 (by decide) m_Jx4a65c_clear_da8c8_f63 m_Jx4a65c_clear_da8c8_sf0 (v := .int (cM σ i)) rfl dJx4a65c_clear_da8c8_2 ?_
  refine lv_iconst (v := nI 1) S.1 S.2.1 dJx4a65c_clear_da8c8_5 (by decide) ?_
  refine lv_iadd S.1 S.2.1 dJx4a65c_clear_da8c8_6 ?_
  refine r_putS (C := RJx4a65c) (T := TJx4a65c) (N := 3) (ci := 0) (σ' := cM' σ i ((cM σ i + nI 1))) (μ' := μ) S Z (by omega) (eL hi) rfl i_Jx4a65c_clear_da8c8_Jx4a65c tyJx4a65c tyJx4a65c_ok nmJx4a65c 0 (by decide) m_Jx4a65c_clear_da8c8_f63 m_Jx4a65c_clear_da8c8_sf0 rfl (ty := .int) (v := .int ((cM σ i + nI 1))) (by decide +kernel) rfl rfl (Nat.le_of_ble_eq_true rfl) rfl rfl (sLM hi _) dJx4a65c_clear_da8c8_7 (fun H locs Z => ?_)
  refine lv_aload_n S.1 S.2.1 dJx4a65c_clear_da8c8_10 rfl (lv_at hl 0 rfl) ?_
  refine r_get (C := RJx4a65c) (T := TJx4a65c) (N := 3) (ci := 0) S Z (by omega) (eL hi) rfl i_Jx4a65c_clear_da8c8_Jx4a65c 1 (by decide) m_Jx4a65c_clear_da8c8_f9 rfl (v := .ref (cE σ i)) rfl dJx4a65c_clear_da8c8_11 ?_
  refine lv_astore_n (lv' := [(1, .ref (cE σ i)), (0, .ref (gA G (12 + i)))]) S.1 S.2.1 dJx4a65c_clear_da8c8_14 rfl hl (by decide) rfl (fun ls hl => ?_)
  refine lv_aload_n S.1 S.2.1 dJx4a65c_clear_da8c8_15 rfl (lv_at hl 1 rfl) ?_
  refine r_get (C := RJx4a65c) (T := TJx4a65c) (N := 3) (ci := 0) S Z (by omega) (eL hi) rfl i_Jx4a65c_clear_da8c8_Jx4a65c 2 (by decide) m_Jx4a65c_clear_da8c8_f48 rfl (v := .int (nI 0)) (by show some (Value.int (nI (cL σ i))) = some (Value.int (nI 0)); rw [hn]) dJx4a65c_clear_da8c8_16 ?_
  refine lv_istore_n (lv' := [(2, .int (nI 0)), (1, .ref (cE σ i)), (0, .ref (gA G (12 + i)))]) S.1 S.2.1 dJx4a65c_clear_da8c8_19 rfl hl (by decide) rfl (fun ls hl => ?_)
  refine lv_aload_n S.1 S.2.1 dJx4a65c_clear_da8c8_20 rfl (lv_at hl 2 rfl) ?_
  refine lv_iconst (v := nI 0) S.1 S.2.1 dJx4a65c_clear_da8c8_21 (by decide) ?_
  refine lv_dup_x1 S.1 S.2.1 dJx4a65c_clear_da8c8_22 rfl rfl ?_
  refine r_put (C := RJx4a65c) (T := TJx4a65c) (N := 3) (ci := 0) (σ' := cL' (cM' σ i ((cM σ i + nI 1))) i (0)) (μ' := μ) S Z (by omega) (eL hi) rfl i_Jx4a65c_clear_da8c8_Jx4a65c tyJx4a65c tyJx4a65c_ok nmJx4a65c 2 (by decide) m_Jx4a65c_clear_da8c8_f48 rfl rfl (ty := .int) (v := .int (nI 0)) (by decide +kernel) rfl rfl (Nat.le_of_ble_eq_true rfl) rfl rfl (sLL hi _) dJx4a65c_clear_da8c8_23 (fun H locs Z => ?_)
  refine lv_istore_n (lv' := [(3, .int (nI 0)), (2, .int (nI 0)), (1, .ref (cE σ i)), (0, .ref (gA G (12 + i)))]) S.1 S.2.1 dJx4a65c_clear_da8c8_26 rfl hl (by decide) rfl (fun ls hl => ?_)
  refine lv_iload_n S.1 S.2.1 dJx4a65c_clear_da8c8_27 rfl (lv_at hl 0 rfl) ?_
  refine lv_iload_n S.1 S.2.1 dJx4a65c_clear_da8c8_28 rfl (lv_at hl 1 rfl) ?_
  refine r_icmpN_ge S (tgt := 42) (by omega) (by omega) dJx4a65c_clear_da8c8_29 (by decide) (fun c_1 => ?_) (fun c_1 => absurd c_1 (by exact Nat.lt_irrefl 0))
  rw [hQ]
  have q9 : (cL' (cM' σ i (cM σ i + nI 1)) i 0 : cS) = cL' (cM' σ i ((cM σ i + nI 1))) i (0) := rfl
  rw [← q9] at Z
  exact W.vret S.1 S.2.1 hret (fun _ hT9 hW => ⟨⟨(cL' (cM' σ i (cM σ i + nI 1)) i 0, μ), rfl, rfl, wZ_P Z hT9 hW⟩, Z.2.2.2.2.F hT9⟩) Z.2.2.2.2.2.2 dJx4a65c_clear_da8c8_42

abbrev rm_k_clear_r : Room := { frames := 0, cells := 0, slots := 0, locals := 0 }
set_option maxHeartbeats 4000000 in
set_option maxRecDepth 100000 in
theorem k_clear_r (l : Launch) (G : wG) (σ : cS) (μ : mS) (o : Nat → Int64) (i : Nat) (r : Nat) (f : Nat → Option Nat) (hi : i < 3) (hn : cL σ i ≤ 10) (hr : (cW σ)[r]? = some (cE σ i, rwE G f)) : Met l yJx4a65c_clear_da8c8 wsJx4a65c_clear_da8c8 rm_k_clear_r (wPc G σ μ o [.ref (gA G (12 + i))]) (va_Qv (fun u : cS × mS => u = (clrS G σ i r f (cL σ i), μ)) (fun u t => wI G u.1 u.2 o t) (gP G)) 0 0 (gP G) := by
  refine Met.ofW (cc := cJx4a65c_clear_da8c8) (maxL := 4) (ret := none) (by decide) rfl ?_
  intro p e s m args below meth c s₁ B hml hv
  obtain ⟨hargs, hI⟩ := hv
  have S : CallFix p m c cJx4a65c_clear_da8c8 4 s args wsJx4a65c_clear_da8c8 RJx4a65c := ⟨B.exec, B.bytes, hml, findClass_of_methodNamed B.named, atoms_spec (ws := wsJx4a65c_clear_da8c8) B.pre⟩
  have hret := B.returns
  have hlocks := B.notSynchronized
  have Z := wZ_0 hI
  clear hI
  obtain ⟨Q, hQ⟩ : ∃ Q, Q = MQ below (va_Qv (fun u : cS × mS => u = (clrS G σ i r f (cL σ i), μ)) (fun u t => wI G u.1 u.2 o t) (gP G)) args s 0 0 (gP G) := ⟨_, rfl⟩
  rw [← hQ]
  have hl := lv_entry [.ref (gA G (12 + i))] (n := 4) (Nat.le_of_ble_eq_true rfl)
  rw [show entryFrame m args 4 = entryFrame m ([.ref (gA G (12 + i))] : List Value).toArray 4 from by rw [hargs], lg_entry_eq]
  generalize (lg_sl [.ref (gA G (12 + i))] ++ List.replicate (4 - (lg_sl [.ref (gA G (12 + i))]).length) Slot.unset).toArray = ls at hl ⊢
  have hl : lv_has ls 4 [(0, .ref (gA G (12 + i)))] := hl
  refine lv_aload_n S.1 S.2.1 dJx4a65c_clear_da8c8_0 rfl (lv_at hl 0 rfl) ?_
  refine lv_dup S.1 S.2.1 dJx4a65c_clear_da8c8_1 rfl ?_
  refine r_getS (C := RJx4a65c) (T := TJx4a65c) (N := 3) (ci := 0) S Z (by omega) (eL hi) rfl i_Jx4a65c_clear_da8c8_Jx4a65c 0 (by decide) m_Jx4a65c_clear_da8c8_f63 m_Jx4a65c_clear_da8c8_sf0 (v := .int (cM σ i)) rfl dJx4a65c_clear_da8c8_2 ?_
  refine lv_iconst (v := nI 1) S.1 S.2.1 dJx4a65c_clear_da8c8_5 (by decide) ?_
  refine lv_iadd S.1 S.2.1 dJx4a65c_clear_da8c8_6 ?_
  refine r_putS (C := RJx4a65c) (T := TJx4a65c) (N := 3) (ci := 0) (σ' := cM' σ i ((cM σ i + nI 1))) (μ' := μ) S Z (by omega) (eL hi) rfl i_Jx4a65c_clear_da8c8_Jx4a65c tyJx4a65c tyJx4a65c_ok nmJx4a65c 0 (by decide) m_Jx4a65c_clear_da8c8_f63 m_Jx4a65c_clear_da8c8_sf0 rfl (ty := .int) (v := .int ((cM σ i + nI 1))) (by decide +kernel) rfl rfl (Nat.le_of_ble_eq_true rfl) rfl rfl (sLM hi _) dJx4a65c_clear_da8c8_7 (fun H locs Z => ?_)
  refine lv_aload_n S.1 S.2.1 dJx4a65c_clear_da8c8_10 rfl (lv_at hl 0 rfl) ?_
  refine r_get (C := RJx4a65c) (T := TJx4a65c) (N := 3) (ci := 0) S Z (by omega) (eL hi) rfl i_Jx4a65c_clear_da8c8_Jx4a65c 1 (by decide) m_Jx4a65c_clear_da8c8_f9 rfl (v := .ref (cE σ i)) rfl dJx4a65c_clear_da8c8_11 ?_
  refine lv_astore_n (lv' := [(1, .ref (cE σ i)), (0, .ref (gA G (12 + i)))]) S.1 S.2.1 dJx4a65c_clear_da8c8_14 rfl hl (by decide) rfl (fun ls hl => ?_)
  refine lv_aload_n S.1 S.2.1 dJx4a65c_clear_da8c8_15 rfl (lv_at hl 1 rfl) ?_
  refine r_get (C := RJx4a65c) (T := TJx4a65c) (N := 3) (ci := 0) S Z (by omega) (eL hi) rfl i_Jx4a65c_clear_da8c8_Jx4a65c 2 (by decide) m_Jx4a65c_clear_da8c8_f48 rfl (v := .int (nI (cL σ i))) rfl dJx4a65c_clear_da8c8_16 ?_
  refine lv_istore_n (lv' := [(2, .int (nI (cL σ i))), (1, .ref (cE σ i)), (0, .ref (gA G (12 + i)))]) S.1 S.2.1 dJx4a65c_clear_da8c8_19 rfl hl (by decide) rfl (fun ls hl => ?_)
  refine lv_aload_n S.1 S.2.1 dJx4a65c_clear_da8c8_20 rfl (lv_at hl 2 rfl) ?_
  refine lv_iconst (v := nI 0) S.1 S.2.1 dJx4a65c_clear_da8c8_21 (by decide) ?_
  refine lv_dup_x1 S.1 S.2.1 dJx4a65c_clear_da8c8_22 rfl rfl ?_
  refine r_put (C := RJx4a65c) (T := TJx4a65c) (N := 3) (ci := 0) (σ' := cL' (cM' σ i ((cM σ i + nI 1))) i (0)) (μ' := μ) S Z (by omega) (eL hi) rfl i_Jx4a65c_clear_da8c8_Jx4a65c tyJx4a65c tyJx4a65c_ok nmJx4a65c 2 (by decide) m_Jx4a65c_clear_da8c8_f48 rfl rfl (ty := .int) (v := .int (nI 0)) (by decide +kernel) rfl rfl (Nat.le_of_ble_eq_true rfl) rfl rfl (sLL hi _) dJx4a65c_clear_da8c8_23 (fun H locs Z => ?_)
  refine lv_istore_n (lv' := [(3, .int (nI 0)), (2, .int (nI (cL σ i))), (1, .ref (cE σ i)), (0, .ref (gA G (12 + i)))]) S.1 S.2.1 dJx4a65c_clear_da8c8_26 rfl hl (by decide) rfl (fun ls hl => ?_)
  have L_27 : ∀ (n : Nat) (j : Nat) (hj : j ≤ cL σ i) (hn : cL σ i - j < n) (H : Heap) (locs : List Loc) (Z : wZ G (clrS G σ i r f j) (μ) o s H locs) (ls : Array Slot) (hl : lv_has ls 4 [(0, .ref (gA G (12 + i))), (1, .ref (cE σ i)), (2, .int (nI (cL σ i))), (3, .int (nI j))]), W p l e (headSpec wsJx4a65c_clear_da8c8 rm_k_clear_r).room s m args below meth c H locs 0 0 Q (F0 m 27 ls []) := by
    intro n
    induction n with
    | zero => intro j hj hn; omega
    | succ n ih_27 =>
      intro j hj hn H locs Z ls hl
      refine lv_iload_n S.1 S.2.1 dJx4a65c_clear_da8c8_27 rfl (lv_at hl 3 rfl) ?_
      refine lv_iload_n S.1 S.2.1 dJx4a65c_clear_da8c8_28 rfl (lv_at hl 2 rfl) ?_
      refine r_icmpN_ge S (tgt := 42) (by omega) (by omega) dJx4a65c_clear_da8c8_29 (by decide) (fun c_1 => ?_) (fun c_1 => ?_)
      · skip
        rw [hQ]
        have q9 : (clrS G σ i r f (cL σ i) : cS) = clrS G σ i r f j := by rw [show cL σ i = j from by omega]
        rw [← q9] at Z
        exact W.vret S.1 S.2.1 hret (fun _ hT9 hW => ⟨⟨(clrS G σ i r f (cL σ i), μ), rfl, rfl, wZ_P Z hT9 hW⟩, Z.2.2.2.2.F hT9⟩) Z.2.2.2.2.2.2 dJx4a65c_clear_da8c8_42
      · skip
        refine lv_aload_n S.1 S.2.1 dJx4a65c_clear_da8c8_32 rfl (lv_at hl 1 rfl) ?_
        refine lv_iload_n S.1 S.2.1 dJx4a65c_clear_da8c8_33 rfl (lv_at hl 3 rfl) ?_
        refine lv_null S.1 S.2.1 dJx4a65c_clear_da8c8_34 ?_
        refine r_astWN (f := nul f j) S Z (clr_row hr) (by omega) dJx4a65c_clear_da8c8_35 (fun H locs Z => ?_)
        refine lv_iinc (v := nI (j + 1)) (lv' := [(3, .int (nI (j + 1))), (0, .ref (gA G (12 + i))), (1, .ref (cE σ i)), (2, .int (nI (cL σ i)))]) S.1 S.2.1 dJx4a65c_clear_da8c8_36 hl (k := 3) rfl (nI_inc rfl) (by decide) rfl (fun ls hl => ?_)
        refine lv_goto (tgt := 27) S.1 S.2.1 dJx4a65c_clear_da8c8_39 (by decide) ?_
        have q9 : (clrS G σ i r f (j + 1) : cS) = cW' (clrS G σ i r f j) ((cW (clrS G σ i r f j)).set r (cE σ i, rwE G (va_up (nul f j) j none))) := by exact clr_step.symm
        rw [← q9] at Z
        exact ih_27 (j + 1) (by first | omega | exact Nat.zero_le _) (by omega) _ _ Z ls (lv_sub hl [1, 2, 3, 0] rfl)
  have q9 : (clrS G σ i r f 0 : cS) = cL' (cM' σ i ((cM σ i + nI 1))) i (0) := by exact (clr_first hr)
  rw [← q9] at Z
  exact L_27 (cL σ i - 0 + 1) 0 (by first | omega | exact Nat.zero_le _) (Nat.lt_succ_self _) _ _ Z ls (lv_sub hl [3, 2, 1, 0] rfl)
