theorem m_J6_bitCount_0f7a4_k265 : Cond.constant RJ6 265 (1431655765) ∈ wsJ6_bitCount_0f7a4 := by decide +kernel
theorem m_J6_bitCount_0f7a4_k266 : Cond.constant RJ6 266 (858993459) ∈ wsJ6_bitCount_0f7a4 := by decide +kernel
theorem m_J6_bitCount_0f7a4_k267 : Cond.constant RJ6 267 (252645135) ∈ wsJ6_bitCount_0f7a4 := by decide +kernel
abbrev rm_k_J6_bitCount_0f7a4 : Room := { frames := 0, cells := 0, slots := 0, locals := 0 }
set_option maxHeartbeats 4000000 in
set_option maxRecDepth 100000 in
theorem k_J6_bitCount_0f7a4 (l : Launch) (G : wG) (σ : cS) (μ : mS) (o : Nat → Int64) (x : Int32)  : Met l yJ6_bitCount_0f7a4 wsJ6_bitCount_0f7a4 rm_k_J6_bitCount_0f7a4 (wPc G σ μ o [.int (x)]) (vp_Si (fun rr => rr = bitc x)) 0 0 (fun _ => False) := by
  refine Met.ofW (cc := cJ6_bitCount_0f7a4) (maxL := 1) (ret := (some .int)) (by decide) rfl ?_
  intro p e s m args below meth c s₁ B hml hv
  obtain ⟨hargs, hI⟩ := hv
  have S : CallFix p m c cJ6_bitCount_0f7a4 1 s args wsJ6_bitCount_0f7a4 RJ6 := ⟨B.exec, B.bytes, hml, findClass_of_methodNamed B.named, atoms_spec (ws := wsJ6_bitCount_0f7a4) B.pre⟩
  have hret := B.returns
  have hlocks := B.notSynchronized
  have Z := wZ_0 hI
  clear hI
  obtain ⟨Q, hQ⟩ : ∃ Q, Q = MQ below (vp_Si (fun rr => rr = bitc x)) args s 0 0 (fun _ => False) := ⟨_, rfl⟩
  rw [← hQ]
  have hl := lv_entry [.int (x)] (n := 1) (Nat.le_of_ble_eq_true rfl)
  rw [show entryFrame m args 1 = entryFrame m ([.int (x)] : List Value).toArray 1 from by rw [hargs], lg_entry_eq]
  generalize (lg_sl [.int (x)] ++ List.replicate (1 - (lg_sl [.int (x)]).length) Slot.unset).toArray = ls at hl ⊢
  have hl : lv_has ls 1 [(0, .int (x))] := hl
  refine lv_iload_n S.1 S.2.1 dJ6_bitCount_0f7a4_0 rfl (lv_at hl 0 rfl) ?_
  refine lv_iload_n S.1 S.2.1 dJ6_bitCount_0f7a4_1 rfl (lv_at hl 0 rfl) ?_
  refine lv_iconst (v := nI 1) S.1 S.2.1 dJ6_bitCount_0f7a4_2 (by decide) ?_
  refine lv_iushr (v := (ushr (x) (nI 1))) S.1 S.2.1 dJ6_bitCount_0f7a4_3 rfl ?_
  refine lv_ldcw (v := 1431655765) S.1 S.2.1 S.2.2.2.1 (S.2.2.2.2 _ m_J6_bitCount_0f7a4_k265) dJ6_bitCount_0f7a4_4 ?_
  refine lv_iand S.1 S.2.1 dJ6_bitCount_0f7a4_7 ?_
  refine lv_isub S.1 S.2.1 dJ6_bitCount_0f7a4_8 ?_
  refine lv_istore_n (lv' := [(0, .int ((x - ((ushr (x) (nI 1)) &&& (1431655765 : Int32)))))]) S.1 S.2.1 dJ6_bitCount_0f7a4_9 rfl hl (by decide) rfl (fun ls hl => ?_)
  refine lv_iload_n S.1 S.2.1 dJ6_bitCount_0f7a4_10 rfl (lv_at hl 0 rfl) ?_
  refine lv_ldcw (v := 858993459) S.1 S.2.1 S.2.2.2.1 (S.2.2.2.2 _ m_J6_bitCount_0f7a4_k266) dJ6_bitCount_0f7a4_11 ?_
  refine lv_iand S.1 S.2.1 dJ6_bitCount_0f7a4_14 ?_
  refine lv_iload_n S.1 S.2.1 dJ6_bitCount_0f7a4_15 rfl (lv_at hl 0 rfl) ?_
  refine lv_iconst (v := nI 2) S.1 S.2.1 dJ6_bitCount_0f7a4_16 (by decide) ?_
  refine lv_iushr (v := (ushr ((x - ((ushr (x) (nI 1)) &&& (1431655765 : Int32)))) (nI 2))) S.1 S.2.1 dJ6_bitCount_0f7a4_17 rfl ?_
  refine lv_ldcw (v := 858993459) S.1 S.2.1 S.2.2.2.1 (S.2.2.2.2 _ m_J6_bitCount_0f7a4_k266) dJ6_bitCount_0f7a4_18 ?_
  refine lv_iand S.1 S.2.1 dJ6_bitCount_0f7a4_21 ?_
  refine lv_iadd S.1 S.2.1 dJ6_bitCount_0f7a4_22 ?_
  refine lv_istore_n (lv' := [(0, .int ((((x - ((ushr (x) (nI 1)) &&& (1431655765 : Int32))) &&& (858993459 : Int32)) + ((ushr ((x - ((ushr (x) (nI 1)) &&& (1431655765 : Int32)))) (nI 2)) &&& (858993459 : Int32)))))]) S.1 S.2.1 dJ6_bitCount_0f7a4_23 rfl hl (by decide) rfl (fun ls hl => ?_)
  refine lv_iload_n S.1 S.2.1 dJ6_bitCount_0f7a4_24 rfl (lv_at hl 0 rfl) ?_
  refine lv_iload_n S.1 S.2.1 dJ6_bitCount_0f7a4_25 rfl (lv_at hl 0 rfl) ?_
  refine lv_iconst (v := nI 4) S.1 S.2.1 dJ6_bitCount_0f7a4_26 (by decide) ?_
  refine lv_iushr (v := (ushr ((((x - ((ushr (x) (nI 1)) &&& (1431655765 : Int32))) &&& (858993459 : Int32)) + ((ushr ((x - ((ushr (x) (nI 1)) &&& (1431655765 : Int32)))) (nI 2)) &&& (858993459 : Int32)))) (nI 4))) S.1 S.2.1 dJ6_bitCount_0f7a4_27 rfl ?_
  refine lv_iadd S.1 S.2.1 dJ6_bitCount_0f7a4_28 ?_
  refine lv_ldcw (v := 252645135) S.1 S.2.1 S.2.2.2.1 (S.2.2.2.2 _ m_J6_bitCount_0f7a4_k267) dJ6_bitCount_0f7a4_29 ?_
  refine lv_iand S.1 S.2.1 dJ6_bitCount_0f7a4_32 ?_
  refine lv_istore_n (lv' := [(0, .int ((((((x - ((ushr (x) (nI 1)) &&& (1431655765 : Int32))) &&& (858993459 : Int32)) + ((ushr ((x - ((ushr (x) (nI 1)) &&& (1431655765 : Int32)))) (nI 2)) &&& (858993459 : Int32))) + (ushr ((((x - ((ushr (x) (nI 1)) &&& (1431655765 : Int32))) &&& (858993459 : Int32)) + ((ushr ((x - ((ushr (x) (nI 1)) &&& (1431655765 : Int32)))) (nI 2)) &&& (858993459 : Int32)))) (nI 4))) &&& (252645135 : Int32))))]) S.1 S.2.1 dJ6_bitCount_0f7a4_33 rfl hl (by decide) rfl (fun ls hl => ?_)
  refine lv_iload_n S.1 S.2.1 dJ6_bitCount_0f7a4_34 rfl (lv_at hl 0 rfl) ?_
  refine lv_iload_n S.1 S.2.1 dJ6_bitCount_0f7a4_35 rfl (lv_at hl 0 rfl) ?_
  refine lv_bipush (v := nI 8) S.1 S.2.1 dJ6_bitCount_0f7a4_36 (by decide) ?_
  refine lv_iushr (v := (ushr ((((((x - ((ushr (x) (nI 1)) &&& (1431655765 : Int32))) &&& (858993459 : Int32)) + ((ushr ((x - ((ushr (x) (nI 1)) &&& (1431655765 : Int32)))) (nI 2)) &&& (858993459 : Int32))) + (ushr ((((x - ((ushr (x) (nI 1)) &&& (1431655765 : Int32))) &&& (858993459 : Int32)) + ((ushr ((x - ((ushr (x) (nI 1)) &&& (1431655765 : Int32)))) (nI 2)) &&& (858993459 : Int32)))) (nI 4))) &&& (252645135 : Int32))) (nI 8))) S.1 S.2.1 dJ6_bitCount_0f7a4_38 rfl ?_
  refine lv_iadd S.1 S.2.1 dJ6_bitCount_0f7a4_39 ?_
  refine lv_istore_n (lv' := [(0, .int (((((((x - ((ushr (x) (nI 1)) &&& (1431655765 : Int32))) &&& (858993459 : Int32)) + ((ushr ((x - ((ushr (x) (nI 1)) &&& (1431655765 : Int32)))) (nI 2)) &&& (858993459 : Int32))) + (ushr ((((x - ((ushr (x) (nI 1)) &&& (1431655765 : Int32))) &&& (858993459 : Int32)) + ((ushr ((x - ((ushr (x) (nI 1)) &&& (1431655765 : Int32)))) (nI 2)) &&& (858993459 : Int32)))) (nI 4))) &&& (252645135 : Int32)) + (ushr ((((((x - ((ushr (x) (nI 1)) &&& (1431655765 : Int32))) &&& (858993459 : Int32)) + ((ushr ((x - ((ushr (x) (nI 1)) &&& (1431655765 : Int32)))) (nI 2)) &&& (858993459 : Int32))) + (ushr ((((x - ((ushr (x) (nI 1)) &&& (1431655765 : Int32))) &&& (858993459 : Int32)) + ((ushr ((x - ((ushr (x) (nI 1)) &&& (1431655765 : Int32)))) (nI 2)) &&& (858993459 : Int32)))) (nI 4))) &&& (252645135 : Int32))) (nI 8)))))]) S.1 S.2.1 dJ6_bitCount_0f7a4_40 rfl hl (by decide) rfl (fun ls hl => ?_)
  refine lv_iload_n S.1 S.2.1 dJ6_bitCount_0f7a4_41 rfl (lv_at hl 0 rfl) ?_
  refine lv_iload_n S.1 S.2.1 dJ6_bitCount_0f7a4_42 rfl (lv_at hl 0 rfl) ?_
  refine lv_bipush (v := nI 16) S.1 S.2.1 dJ6_bitCount_0f7a4_43 (by decide) ?_
  refine lv_iushr (v := (ushr (((((((x - ((ushr (x) (nI 1)) &&& (1431655765 : Int32))) &&& (858993459 : Int32)) + ((ushr ((x - ((ushr (x) (nI 1)) &&& (1431655765 : Int32)))) (nI 2)) &&& (858993459 : Int32))) + (ushr ((((x - ((ushr (x) (nI 1)) &&& (1431655765 : Int32))) &&& (858993459 : Int32)) + ((ushr ((x - ((ushr (x) (nI 1)) &&& (1431655765 : Int32)))) (nI 2)) &&& (858993459 : Int32)))) (nI 4))) &&& (252645135 : Int32)) + (ushr ((((((x - ((ushr (x) (nI 1)) &&& (1431655765 : Int32))) &&& (858993459 : Int32)) + ((ushr ((x - ((ushr (x) (nI 1)) &&& (1431655765 : Int32)))) (nI 2)) &&& (858993459 : Int32))) + (ushr ((((x - ((ushr (x) (nI 1)) &&& (1431655765 : Int32))) &&& (858993459 : Int32)) + ((ushr ((x - ((ushr (x) (nI 1)) &&& (1431655765 : Int32)))) (nI 2)) &&& (858993459 : Int32)))) (nI 4))) &&& (252645135 : Int32))) (nI 8)))) (nI 16))) S.1 S.2.1 dJ6_bitCount_0f7a4_45 rfl ?_
  refine lv_iadd S.1 S.2.1 dJ6_bitCount_0f7a4_46 ?_
  refine lv_istore_n (lv' := [(0, .int ((((((((x - ((ushr (x) (nI 1)) &&& (1431655765 : Int32))) &&& (858993459 : Int32)) + ((ushr ((x - ((ushr (x) (nI 1)) &&& (1431655765 : Int32)))) (nI 2)) &&& (858993459 : Int32))) + (ushr ((((x - ((ushr (x) (nI 1)) &&& (1431655765 : Int32))) &&& (858993459 : Int32)) + ((ushr ((x - ((ushr (x) (nI 1)) &&& (1431655765 : Int32)))) (nI 2)) &&& (858993459 : Int32)))) (nI 4))) &&& (252645135 : Int32)) + (ushr ((((((x - ((ushr (x) (nI 1)) &&& (1431655765 : Int32))) &&& (858993459 : Int32)) + ((ushr ((x - ((ushr (x) (nI 1)) &&& (1431655765 : Int32)))) (nI 2)) &&& (858993459 : Int32))) + (ushr ((((x - ((ushr (x) (nI 1)) &&& (1431655765 : Int32))) &&& (858993459 : Int32)) + ((ushr ((x - ((ushr (x) (nI 1)) &&& (1431655765 : Int32)))) (nI 2)) &&& (858993459 : Int32)))) (nI 4))) &&& (252645135 : Int32))) (nI 8))) + (ushr (((((((x - ((ushr (x) (nI 1)) &&& (1431655765 : Int32))) &&& (858993459 : Int32)) + ((ushr ((x - ((ushr (x) (nI 1)) &&& (1431655765 : Int32)))) (nI 2)) &&& (858993459 : Int32))) + (ushr ((((x - ((ushr (x) (nI 1)) &&& (1431655765 : Int32))) &&& (858993459 : Int32)) + ((ushr ((x - ((ushr (x) (nI 1)) &&& (1431655765 : Int32)))) (nI 2)) &&& (858993459 : Int32)))) (nI 4))) &&& (252645135 : Int32)) + (ushr ((((((x - ((ushr (x) (nI 1)) &&& (1431655765 : Int32))) &&& (858993459 : Int32)) + ((ushr ((x - ((ushr (x) (nI 1)) &&& (1431655765 : Int32)))) (nI 2)) &&& (858993459 : Int32))) + (ushr ((((x - ((ushr (x) (nI 1)) &&& (1431655765 : Int32))) &&& (858993459 : Int32)) + ((ushr ((x - ((ushr (x) (nI 1)) &&& (1431655765 : Int32)))) (nI 2)) &&& (858993459 : Int32)))) (nI 4))) &&& (252645135 : Int32))) (nI 8)))) (nI 16)))))]) S.1 S.2.1 dJ6_bitCount_0f7a4_47 rfl hl (by decide) rfl (fun ls hl => ?_)
  refine lv_iload_n S.1 S.2.1 dJ6_bitCount_0f7a4_48 rfl (lv_at hl 0 rfl) ?_
  refine lv_bipush (v := nI 63) S.1 S.2.1 dJ6_bitCount_0f7a4_49 (by decide) ?_
  refine lv_iand S.1 S.2.1 dJ6_bitCount_0f7a4_51 ?_
  rw [hQ]
  exact W.iret (v := ((((((((x - ((ushr (x) (nI 1)) &&& (1431655765 : Int32))) &&& (858993459 : Int32)) + ((ushr ((x - ((ushr (x) (nI 1)) &&& (1431655765 : Int32)))) (nI 2)) &&& (858993459 : Int32))) + (ushr ((((x - ((ushr (x) (nI 1)) &&& (1431655765 : Int32))) &&& (858993459 : Int32)) + ((ushr ((x - ((ushr (x) (nI 1)) &&& (1431655765 : Int32)))) (nI 2)) &&& (858993459 : Int32)))) (nI 4))) &&& (252645135 : Int32)) + (ushr ((((((x - ((ushr (x) (nI 1)) &&& (1431655765 : Int32))) &&& (858993459 : Int32)) + ((ushr ((x - ((ushr (x) (nI 1)) &&& (1431655765 : Int32)))) (nI 2)) &&& (858993459 : Int32))) + (ushr ((((x - ((ushr (x) (nI 1)) &&& (1431655765 : Int32))) &&& (858993459 : Int32)) + ((ushr ((x - ((ushr (x) (nI 1)) &&& (1431655765 : Int32)))) (nI 2)) &&& (858993459 : Int32)))) (nI 4))) &&& (252645135 : Int32))) (nI 8))) + (ushr (((((((x - ((ushr (x) (nI 1)) &&& (1431655765 : Int32))) &&& (858993459 : Int32)) + ((ushr ((x - ((ushr (x) (nI 1)) &&& (1431655765 : Int32)))) (nI 2)) &&& (858993459 : Int32))) + (ushr ((((x - ((ushr (x) (nI 1)) &&& (1431655765 : Int32))) &&& (858993459 : Int32)) + ((ushr ((x - ((ushr (x) (nI 1)) &&& (1431655765 : Int32)))) (nI 2)) &&& (858993459 : Int32)))) (nI 4))) &&& (252645135 : Int32)) + (ushr ((((((x - ((ushr (x) (nI 1)) &&& (1431655765 : Int32))) &&& (858993459 : Int32)) + ((ushr ((x - ((ushr (x) (nI 1)) &&& (1431655765 : Int32)))) (nI 2)) &&& (858993459 : Int32))) + (ushr ((((x - ((ushr (x) (nI 1)) &&& (1431655765 : Int32))) &&& (858993459 : Int32)) + ((ushr ((x - ((ushr (x) (nI 1)) &&& (1431655765 : Int32)))) (nI 2)) &&& (858993459 : Int32)))) (nI 4))) &&& (252645135 : Int32))) (nI 8)))) (nI 16))) &&& nI 63)) S.1 S.2.1 hret (fun _ hT9 _ => ⟨_, rfl, rfl, hT9⟩) (fun _ h => nomatch h) dJ6_bitCount_0f7a4_52

theorem i_Jx4a65c_size_8abf5_Jx4a65c : ∀ w ∈ wsJx4a65c0, w ∈ wsJx4a65c_size_8abf5 := by decide +kernel
theorem m_Jx4a65c_size_8abf5_f48 : Cond.fieldLink RJx4a65c 48 "java/util/ArrayList" "size" "I" ∈ wsJx4a65c_size_8abf5 := by decide +kernel
abbrev rm_k_Jx4a65c_size_8abf5 : Room := { frames := 0, cells := 0, slots := 0, locals := 0 }
set_option maxHeartbeats 4000000 in
set_option maxRecDepth 100000 in
theorem k_Jx4a65c_size_8abf5 (l : Launch) (G : wG) (σ : cS) (μ : mS) (o : Nat → Int64) (i : Nat) (hi : i < 3) : Met l yJx4a65c_size_8abf5 wsJx4a65c_size_8abf5 rm_k_Jx4a65c_size_8abf5 (wPc G σ μ o [.ref (gA G (12 + i))]) (vp_Si (fun rr => rr = nI (cL σ i))) 0 0 (fun _ => False) := by
  refine Met.ofW (cc := cJx4a65c_size_8abf5) (maxL := 1) (ret := (some .int)) (by decide) rfl ?_
  intro p e s m args below meth c s₁ B hml hv
  obtain ⟨hargs, hI⟩ := hv
  have S : CallFix p m c cJx4a65c_size_8abf5 1 s args wsJx4a65c_size_8abf5 RJx4a65c := ⟨B.exec, B.bytes, hml, findClass_of_methodNamed B.named, atoms_spec (ws := wsJx4a65c_size_8abf5) B.pre⟩
  have hret := B.returns
  have hlocks := B.notSynchronized
  have Z := wZ_0 hI
  clear hI
  obtain ⟨Q, hQ⟩ : ∃ Q, Q = MQ below (vp_Si (fun rr => rr = nI (cL σ i))) args s 0 0 (fun _ => False) := ⟨_, rfl⟩
  rw [← hQ]
  have hl := lv_entry [.ref (gA G (12 + i))] (n := 1) (Nat.le_of_ble_eq_true rfl)
  rw [show entryFrame m args 1 = entryFrame m ([.ref (gA G (12 + i))] : List Value).toArray 1 from by rw [hargs], lg_entry_eq]
  generalize (lg_sl [.ref (gA G (12 + i))] ++ List.replicate (1 - (lg_sl [.ref (gA G (12 + i))]).length) Slot.unset).toArray = ls at hl ⊢
  have hl : lv_has ls 1 [(0, .ref (gA G (12 + i)))] := hl
  refine lv_aload_n S.1 S.2.1 dJx4a65c_size_8abf5_0 rfl (lv_at hl 0 rfl) ?_
  refine r_get (C := RJx4a65c) (T := TJx4a65c) (N := 3) (ci := 0) S Z (by omega) (eL hi) rfl i_Jx4a65c_size_8abf5_Jx4a65c 2 (by decide) m_Jx4a65c_size_8abf5_f48 rfl (v := .int (nI (cL σ i))) rfl dJx4a65c_size_8abf5_1 ?_
  rw [hQ]
  exact W.iret (v := nI (cL σ i)) S.1 S.2.1 hret (fun _ hT9 _ => ⟨_, rfl, (by first | (simp []; done) | (simp []; omega) | (simp [← Int32.not_le]; done)), hT9⟩) (fun _ h => nomatch h) dJx4a65c_size_8abf5_4

theorem i_X3_goDown_X3 : ∀ w ∈ wsX30, w ∈ wsX3_goDown := by decide +kernel
theorem m_X3_goDown_f18 : Cond.fieldLink RX3 18 "WideCell$Keeper" "isRunning" "Z" ∈ wsX3_goDown := by decide +kernel
abbrev rm_k_X3_goDown : Room := { frames := 0, cells := 0, slots := 0, locals := 0 }
set_option maxHeartbeats 4000000 in
set_option maxRecDepth 100000 in
theorem k_X3_goDown (l : Launch) (G : wG) (σ : cS) (μ : mS) (o : Nat → Int64) (i : Nat) (hi : i < 3) : Met l yX3_goDown wsX3_goDown rm_k_X3_goDown (wPc G σ μ o [.ref (gA G (9 + i))]) (va_Qi (fun (rr : Int32) (u : cS × mS) => rr = nI (0) ∧ u = (cU' σ i false, μ)) (fun u t => wI G u.1 u.2 o t) (gP G)) 0 0 (gP G) := by
  refine Met.ofW (cc := cX3_goDown) (maxL := 1) (ret := (some .int)) (by decide) rfl ?_
  intro p e s m args below meth c s₁ B hml hv
  obtain ⟨hargs, hI⟩ := hv
  have S : CallFix p m c cX3_goDown 1 s args wsX3_goDown RX3 := ⟨B.exec, B.bytes, hml, findClass_of_methodNamed B.named, atoms_spec (ws := wsX3_goDown) B.pre⟩
  have hret := B.returns
  have hlocks := B.notSynchronized
  have Z := wZ_0 hI
  clear hI
  obtain ⟨Q, hQ⟩ : ∃ Q, Q = MQ below (va_Qi (fun (rr : Int32) (u : cS × mS) => rr = nI (0) ∧ u = (cU' σ i false, μ)) (fun u t => wI G u.1 u.2 o t) (gP G)) args s 0 0 (gP G) := ⟨_, rfl⟩
  rw [← hQ]
  have hl := lv_entry [.ref (gA G (9 + i))] (n := 1) (Nat.le_of_ble_eq_true rfl)
  rw [show entryFrame m args 1 = entryFrame m ([.ref (gA G (9 + i))] : List Value).toArray 1 from by rw [hargs], lg_entry_eq]
  generalize (lg_sl [.ref (gA G (9 + i))] ++ List.replicate (1 - (lg_sl [.ref (gA G (9 + i))]).length) Slot.unset).toArray = ls at hl ⊢
  have hl : lv_has ls 1 [(0, .ref (gA G (9 + i)))] := hl
  refine lv_aload_n S.1 S.2.1 dX3_goDown_0 rfl (lv_at hl 0 rfl) ?_
  refine lv_iconst (v := nI 0) S.1 S.2.1 dX3_goDown_1 (by decide) ?_
  refine W.eq (g2 := F0 m 2 ls (.int (bi false) :: .ref (gA G (9 + i)) :: [])) rfl ?_
  refine r_put (C := RX3) (T := TX3) (N := 3) (ci := 3) (σ' := cU' σ i (false)) (μ' := μ) S Z (by omega) (eK hi) rfl i_X3_goDown_X3 tyX3 tyX3_ok nmX3 2 (by decide) m_X3_goDown_f18 rfl rfl (ty := .boolean) (v := .int (bi false)) (by decide +kernel) (bi_nar _) (bi_fit _) (Nat.le_of_ble_eq_true rfl) rfl rfl (sU hi _) dX3_goDown_2 (fun H locs Z => ?_)
  refine lv_iconst (v := nI 0) S.1 S.2.1 dX3_goDown_5 (by decide) ?_
  rw [hQ]
  have q9 : (cU' σ i false : cS) = cU' σ i (false) := by first | (simp []; done) | (simp []; omega) | (simp [← Int32.not_le]; done) | with_reducible rfl
  rw [← q9] at Z
  exact W.iret (v := nI 0) S.1 S.2.1 hret (fun _ hT9 hW => ⟨⟨_, (cU' σ i false, μ), rfl, ⟨rfl, rfl⟩, wZ_P Z hT9 hW⟩, Z.2.2.2.2.F hT9⟩) Z.2.2.2.2.2.2 dX3_goDown_6

theorem i_X7_makeAlike_X7 : ∀ w ∈ wsX70, w ∈ wsX7_makeAlike := by decide +kernel
theorem m_X7_makeAlike_f37 : Cond.fieldLink RX7 37 "WideCell" "comparison" "LWideCell$Comparison;" ∈ wsX7_makeAlike := by decide +kernel
abbrev rm_k_X7_makeAlike : Room := { frames := 5, cells := 0, slots := 0, locals := 118 }
set_option maxHeartbeats 4000000 in
set_option maxRecDepth 100000 in
theorem k_X7_makeAlike (l : Launch) (G : wG) (σ : cS) (μ : mS) (o : Nat → Int64) (i : Nat) (j : Nat) (hi : i < 3) (hj : j < 3) (hij : i ≠ j) (hui : cU σ i = true) (huj : cU σ j = true) : Met l yX7_makeAlike wsX7_makeAlike rm_k_X7_makeAlike (wPc G σ μ o [.ref (gA G 0), .int (nI i), .int (nI j)]) (va_Qi (fun (rr : Int32) (u : cS × mS) => rr = bitc (urn (cmp σ i j) 16) ∧ u = (makR (cmp σ i j) i j (urn (cmp σ i j) 16) 16, μ)) (fun u t => wI G u.1 u.2 o t) (gP G)) 0 0 (gP G) := by
  refine Met.ofW (cc := cX7_makeAlike) (maxL := 7) (ret := (some .int)) (by decide) rfl ?_
  intro p e s m args below meth c s₁ B hml hv
  obtain ⟨hargs, hI⟩ := hv
  have S : CallFix p m c cX7_makeAlike 7 s args wsX7_makeAlike RX7 := ⟨B.exec, B.bytes, hml, findClass_of_methodNamed B.named, atoms_spec (ws := wsX7_makeAlike) B.pre⟩
  have hret := B.returns
  have hlocks := B.notSynchronized
  have Z := wZ_0 hI
  clear hI
  obtain ⟨Q, hQ⟩ : ∃ Q, Q = MQ below (va_Qi (fun (rr : Int32) (u : cS × mS) => rr = bitc (urn (cmp σ i j) 16) ∧ u = (makR (cmp σ i j) i j (urn (cmp σ i j) 16) 16, μ)) (fun u t => wI G u.1 u.2 o t) (gP G)) args s 0 0 (gP G) := ⟨_, rfl⟩
  rw [← hQ]
  have hl := lv_entry [.ref (gA G 0), .int (nI i), .int (nI j)] (n := 7) (Nat.le_of_ble_eq_true rfl)
  rw [show entryFrame m args 7 = entryFrame m ([.ref (gA G 0), .int (nI i), .int (nI j)] : List Value).toArray 7 from by rw [hargs], lg_entry_eq]
  generalize (lg_sl [.ref (gA G 0), .int (nI i), .int (nI j)] ++ List.replicate (7 - (lg_sl [.ref (gA G 0), .int (nI i), .int (nI j)]).length) Slot.unset).toArray = ls at hl ⊢
  have hl : lv_has ls 7 [(0, .ref (gA G 0)), (1, .int (nI i)), (2, .int (nI j))] := hl
  refine lv_aload_n S.1 S.2.1 dX7_makeAlike_0 rfl (lv_at hl 0 rfl) ?_
  refine lv_iload_n S.1 S.2.1 dX7_makeAlike_1 rfl (lv_at hl 1 rfl) ?_
  refine va_csr (va_runV (As := [.int (nI i)]) (rest := []) S (k_X7_tableOf l G σ μ o i hi) (cwV 1 S.2.2.2.2 gX7_makeAlike_X7_tableOf rfl rfl rfl ⟨rfl, hy_X7_tableOf⟩ ⟨Nat.le_of_ble_eq_true rfl, Nat.le_of_ble_eq_true rfl⟩) (wPc_V (q := (RX7, TX7, 7)) Z (by decide) rfl rfl) rfl rfl hl.1 rfl (lv_room (Nat.le_of_ble_eq_true rfl)) dX7_makeAlike_2 ⟨Nat.le_of_ble_eq_true rfl, Nat.le_of_ble_eq_true rfl⟩).run (fun r_1 h_2 => ?_)
  rw [h_2]; clear h_2 r_1
  refine lv_astore_n (lv' := [(3, .ref (gA G (15 + 6 * i))), (0, .ref (gA G 0)), (1, .int (nI i)), (2, .int (nI j))]) S.1 S.2.1 dX7_makeAlike_5 rfl hl (by decide) rfl (fun ls hl => ?_)
  refine lv_aload_n S.1 S.2.1 dX7_makeAlike_6 rfl (lv_at hl 1 rfl) ?_
  refine lv_iload_n S.1 S.2.1 dX7_makeAlike_7 rfl (lv_at hl 3 rfl) ?_
  refine va_csr (va_runV (As := [.int (nI j)]) (rest := []) S (k_X7_tableOf l G σ μ o j hj) (cwV 1 S.2.2.2.2 gX7_makeAlike_X7_tableOf rfl rfl rfl ⟨rfl, hy_X7_tableOf⟩ ⟨Nat.le_of_ble_eq_true rfl, Nat.le_of_ble_eq_true rfl⟩) (wPc_V (q := (RX7, TX7, 7)) Z (by decide) rfl rfl) rfl rfl hl.1 rfl (lv_room (Nat.le_of_ble_eq_true rfl)) dX7_makeAlike_8 ⟨Nat.le_of_ble_eq_true rfl, Nat.le_of_ble_eq_true rfl⟩).run (fun r_3 h_4 => ?_)
  rw [h_4]; clear h_4 r_3
  refine lv_astore (lv' := [(4, .ref (gA G (15 + 6 * j))), (3, .ref (gA G (15 + 6 * i))), (0, .ref (gA G 0)), (1, .int (nI i)), (2, .int (nI j))]) S.1 S.2.1 dX7_makeAlike_11 hl (by decide) rfl (fun ls hl => ?_)
  refine lv_aload_n S.1 S.2.1 dX7_makeAlike_13 rfl (lv_at hl 2 rfl) ?_
  refine lv_iload_n S.1 S.2.1 dX7_makeAlike_14 rfl (lv_at hl 3 rfl) ?_
  refine lv_iload_n S.1 S.2.1 dX7_makeAlike_15 rfl (lv_at hl 4 rfl) ?_
  refine va_csv (va_runV (As := [.int (nI i), .int (nI j)]) (rest := []) S (k_X7_requireTwoUp l G σ μ o i j hi hj hij hui huj) (cwV 2 S.2.2.2.2 gX7_makeAlike_X7_requireTwoUp rfl rfl rfl ⟨rfl, hy_X7_requireTwoUp⟩ ⟨Nat.le_of_ble_eq_true rfl, Nat.le_of_ble_eq_true rfl⟩) (wPc_V (q := (RX7, TX7, 7)) Z (by decide) rfl rfl) rfl rfl hl.1 rfl (lv_room (Nat.le_of_ble_eq_true rfl)) dX7_makeAlike_16 ⟨Nat.le_of_ble_eq_true rfl, Nat.le_of_ble_eq_true rfl⟩).run (fun h_6 => ?_)
  refine lv_aload_n S.1 S.2.1 dX7_makeAlike_19 rfl (lv_at hl 2 rfl) ?_
  refine r_get (C := RX7) (T := TX7) (N := 7) (ci := 7) S Z (by decide) rfl rfl i_X7_makeAlike_X7 3 (by decide) m_X7_makeAlike_f37 rfl (v := .ref (gA G 5)) rfl dX7_makeAlike_20 ?_
  refine lv_aload_n S.1 S.2.1 dX7_makeAlike_23 rfl (lv_at hl 1 rfl) ?_
  refine lv_aload S.1 S.2.1 dX7_makeAlike_24 (lv_at hl 0 rfl) ?_
  refine va_calli (va_runV (As := [.ref (gA G (15 + 6 * i)), .ref (gA G (15 + 6 * j))]) (rest := []) S (k_X1_compareNodes l G σ μ o i j (Nat.lt_trans hi (by decide)) (Nat.lt_trans hj (by decide))) (cwV 2 S.2.2.2.2 gX7_makeAlike_X1_compareNodes rfl rfl rfl ⟨rfl, hy_X1_compareNodes⟩ ⟨Nat.le_of_ble_eq_true rfl, Nat.le_of_ble_eq_true rfl⟩) (wPc_V (q := (RX1, TX1, 3)) Z (by decide) rfl rfl) rfl rfl hl.1 rfl (lv_room (Nat.le_of_ble_eq_true rfl)) dX7_makeAlike_26 ⟨Nat.le_of_ble_eq_true rfl, Nat.le_of_ble_eq_true rfl⟩) Z.2.2.2.2 (fun _ _ h => h) (fun _ h => h) (fun r_7 u_8 T9 H1 locs1 hT9 hvm hw hB hz hk9 hS => ?_)
  obtain ⟨hr9, rfl⟩ := hw
  rw [hr9]; clear hr9 r_7
  have Z : wZ G (cmp σ i j) (μ) o s H1 locs1 := wZ_callP Z hB hT9 hS
  clear hB hT9 hS hk9 hz hvm T9
  revert Z; generalize H1 = H; generalize locs1 = locs; intro Z
  refine W.widen (k := 0) (n := 0) (by decide) (by decide) ?_
  refine lv_pop S.1 S.2.1 dX7_makeAlike_29 rfl ?_
  refine lv_aload_n S.1 S.2.1 dX7_makeAlike_30 rfl (lv_at hl 2 rfl) ?_
  refine r_get (C := RX7) (T := TX7) (N := 7) (ci := 7) S Z (by decide) rfl rfl i_X7_makeAlike_X7 3 (by decide) m_X7_makeAlike_f37 rfl (v := .ref (gA G 5)) rfl dX7_makeAlike_31 ?_
  refine vp_callSi (va_runV (As := []) (rest := []) S (k_X1_unlikeRows l G (cmp σ i j) μ o  ) (cwV 0 S.2.2.2.2 gX7_makeAlike_X1_unlikeRows rfl rfl rfl ⟨rfl, hy_X1_unlikeRows⟩ ⟨Nat.le_of_ble_eq_true rfl, Nat.le_of_ble_eq_true rfl⟩) (wPc_V (q := (RX1, TX1, 3)) Z (by decide) rfl rfl) rfl rfl hl.1 rfl (lv_room (Nat.le_of_ble_eq_true rfl)) dX7_makeAlike_34 ⟨Nat.le_of_ble_eq_true rfl, Nat.le_of_ble_eq_true rfl⟩).run (fun r_9 h_10 => ?_)
  rw [h_10]; clear h_10 r_9
  refine lv_istore (lv' := [(5, .int (urn (cmp σ i j) 16)), (4, .ref (gA G (15 + 6 * j))), (3, .ref (gA G (15 + 6 * i))), (0, .ref (gA G 0)), (1, .int (nI i)), (2, .int (nI j))]) S.1 S.2.1 dX7_makeAlike_37 hl (by decide) rfl (fun ls hl => ?_)
  refine lv_iconst (v := nI 0) S.1 S.2.1 dX7_makeAlike_39 (by decide) ?_
  refine lv_istore (lv' := [(6, .int (nI 0)), (5, .int (urn (cmp σ i j) 16)), (4, .ref (gA G (15 + 6 * j))), (3, .ref (gA G (15 + 6 * i))), (0, .ref (gA G 0)), (1, .int (nI i)), (2, .int (nI j))]) S.1 S.2.1 dX7_makeAlike_40 hl (by decide) rfl (fun ls hl => ?_)
  have L_42 : ∀ (n : Nat) (r : Nat) (hr : r ≤ 16) (hn : 16 - r < n) (H : Heap) (locs : List Loc) (Z : wZ G (makR (cmp σ i j) i j (urn (cmp σ i j) 16) r) (μ) o s H locs) (ls : Array Slot) (hl : lv_has ls 7 [(0, .ref (gA G 0)), (1, .int (nI i)), (2, .int (nI j)), (3, .ref (gA G (15 + 6 * i))), (4, .ref (gA G (15 + 6 * j))), (5, .int (urn (cmp σ i j) 16)), (6, .int (nI r))]), W p l e (headSpec wsX7_makeAlike rm_k_X7_makeAlike).room s m args below meth c H locs 0 0 Q (F0 m 42 ls []) := by
    intro n
    induction n with
    | zero => intro r hr hn; omega
    | succ n ih_42 =>
      intro r hr hn H locs Z ls hl
      refine lv_iload S.1 S.2.1 dX7_makeAlike_42 (lv_at hl 6 rfl) ?_
      refine lv_bipush (v := nI 16) S.1 S.2.1 dX7_makeAlike_44 (by decide) ?_
      refine r_icmpN_ge S (tgt := 81) (by omega) (by omega) dX7_makeAlike_46 (by decide) (fun c_11 => ?_) (fun c_11 => ?_)
      · skip
        obtain rfl : r = 16 := by omega
        refine lv_iload S.1 S.2.1 dX7_makeAlike_81 (lv_at hl 5 rfl) ?_
        refine vp_callSi (va_runS (As := [.int (urn (cmp σ i j) 16)]) (rest := []) S (k_J6_bitCount_0f7a4 l G (makR (cmp σ i j) i j (urn (cmp σ i j) 16) 16) μ o (urn (cmp σ i j) 16) ) (va_cwS 1 S.2.2.2.2 gX7_makeAlike_J6_bitCount_0f7a4 rfl rfl rfl hy_J6_bitCount_0f7a4 ⟨Nat.le_of_ble_eq_true rfl, Nat.le_of_ble_eq_true rfl⟩) (wPc_S Z) rfl rfl hl.1 rfl (lv_room (Nat.le_of_ble_eq_true rfl)) dX7_makeAlike_83 ⟨Nat.le_of_ble_eq_true rfl, Nat.le_of_ble_eq_true rfl⟩).run (fun r_12 h_13 => ?_)
        rw [h_13]; clear h_13 r_12
        rw [hQ]
        exact W.iret (v := bitc (urn (cmp σ i j) 16)) S.1 S.2.1 hret (fun _ hT9 hW => ⟨⟨_, (makR (cmp σ i j) i j (urn (cmp σ i j) 16) 16, μ), rfl, ⟨rfl, rfl⟩, wZ_P Z hT9 hW⟩, Z.2.2.2.2.F hT9⟩) Z.2.2.2.2.2.2 dX7_makeAlike_86
      · skip
        refine lv_iload S.1 S.2.1 dX7_makeAlike_49 (lv_at hl 6 rfl) ?_
        refine lv_iload S.1 S.2.1 dX7_makeAlike_51 (lv_at hl 5 rfl) ?_
        refine vp_callSi (va_runS (As := [.int (nI r), .int (urn (cmp σ i j) 16)]) (rest := []) S (k_X7_isInSet l G (makR (cmp σ i j) i j (urn (cmp σ i j) 16) r) μ o r (urn (cmp σ i j) 16) ) (va_cwS 2 S.2.2.2.2 gX7_makeAlike_X7_isInSet rfl rfl rfl hy_X7_isInSet ⟨Nat.le_of_ble_eq_true rfl, Nat.le_of_ble_eq_true rfl⟩) (wPc_S Z) rfl rfl hl.1 rfl (lv_room (Nat.le_of_ble_eq_true rfl)) dX7_makeAlike_53 ⟨Nat.le_of_ble_eq_true rfl, Nat.le_of_ble_eq_true rfl⟩).run (fun r_14 h_15 => ?_)
        rw [h_15]; clear h_15 r_14
        refine r_if_eqB S (tgt := 75) dX7_makeAlike_56 (by decide) (fun c_16 => ?_) (fun c_16 => ?_)
        · skip
          refine lv_iinc (v := nI (r + 1)) (lv' := [(6, .int (nI (r + 1))), (0, .ref (gA G 0)), (1, .int (nI i)), (2, .int (nI j)), (3, .ref (gA G (15 + 6 * i))), (4, .ref (gA G (15 + 6 * j))), (5, .int (urn (cmp σ i j) 16))]) S.1 S.2.1 dX7_makeAlike_75 hl (k := 6) rfl (nI_inc rfl) (by decide) rfl (fun ls hl => ?_)
          refine lv_goto (tgt := 42) S.1 S.2.1 dX7_makeAlike_78 (by decide) ?_
          have q9 : (makR (cmp σ i j) i j (urn (cmp σ i j) 16) (r + 1) : cS) = makR (cmp σ i j) i j (urn (cmp σ i j) 16) r := by first | (simp [bi, makR, hr, c_11, c_16]; done) | (simp [bi, makR, hr, c_11, c_16]; omega) | (simp [bi, makR, ← Int32.not_le, hr, c_11, c_16]; done) | (simp [bi, makR, hr, c_11, eq_true c_16]; done)
          rw [← q9] at Z
          exact ih_42 (r + 1) (by first | omega | exact Nat.zero_le _) (by omega) _ _ Z ls (lv_sub hl [1, 2, 3, 4, 5, 6, 0] rfl)
        · skip
          refine lv_aload_n S.1 S.2.1 dX7_makeAlike_59 rfl (lv_at hl 3 rfl) ?_
          refine lv_aload S.1 S.2.1 dX7_makeAlike_60 (lv_at hl 4 rfl) ?_
          refine lv_iload S.1 S.2.1 dX7_makeAlike_62 (lv_at hl 6 rfl) ?_
          refine va_callv (va_runV (As := [.ref (gA G (15 + 6 * j)), .int (nI r)]) (rest := []) S (k_X5_takeRowFrom l G (makR (cmp σ i j) i j (urn (cmp σ i j) 16) r) μ o i j r (Nat.lt_trans hi (by decide)) (Nat.lt_trans hj (by decide)) (by omega)) (cwV 2 S.2.2.2.2 gX7_makeAlike_X5_takeRowFrom rfl rfl rfl ⟨rfl, hy_X5_takeRowFrom⟩ ⟨Nat.le_of_ble_eq_true rfl, Nat.le_of_ble_eq_true rfl⟩) (wPc_V (q := (RX5, TX5, 6)) Z (by omega) (eT (Nat.lt_trans hi (by decide))) rfl) rfl rfl hl.1 rfl (lv_room (Nat.le_of_ble_eq_true rfl)) dX7_makeAlike_64 ⟨Nat.le_of_ble_eq_true rfl, Nat.le_of_ble_eq_true rfl⟩) Z.2.2.2.2 (fun _ _ h => h) (fun _ h => h) (fun u_18 T9 H1 locs1 hT9 hvm hw hB hz hk9 hS => ?_)
          subst hw
          have Z : wZ G (tkR (makR (cmp σ i j) i j (urn (cmp σ i j) 16) r) i j r) (μ) o s H1 locs1 := wZ_callP Z hB hT9 hS
          clear hB hT9 hS hk9 hz hvm T9
          revert Z; generalize H1 = H; generalize locs1 = locs; intro Z
          refine W.widen (k := 0) (n := 0) (by decide) (by decide) ?_
          refine lv_aload S.1 S.2.1 dX7_makeAlike_67 (lv_at hl 4 rfl) ?_
          refine lv_aload_n S.1 S.2.1 dX7_makeAlike_69 rfl (lv_at hl 3 rfl) ?_
          refine lv_iload S.1 S.2.1 dX7_makeAlike_70 (lv_at hl 6 rfl) ?_
          refine va_callv (va_runV (As := [.ref (gA G (15 + 6 * i)), .int (nI r)]) (rest := []) S (k_X5_takeRowFrom l G (tkR (makR (cmp σ i j) i j (urn (cmp σ i j) 16) r) i j r) μ o j i r (Nat.lt_trans hj (by decide)) (Nat.lt_trans hi (by decide)) (by omega)) (cwV 2 S.2.2.2.2 gX7_makeAlike_X5_takeRowFrom rfl rfl rfl ⟨rfl, hy_X5_takeRowFrom⟩ ⟨Nat.le_of_ble_eq_true rfl, Nat.le_of_ble_eq_true rfl⟩) (wPc_V (q := (RX5, TX5, 6)) Z (by omega) (eT (Nat.lt_trans hj (by decide))) rfl) rfl rfl hl.1 rfl (lv_room (Nat.le_of_ble_eq_true rfl)) dX7_makeAlike_72 ⟨Nat.le_of_ble_eq_true rfl, Nat.le_of_ble_eq_true rfl⟩) Z.2.2.2.2 (fun _ _ h => h) (fun _ h => h) (fun u_20 T9 H1 locs1 hT9 hvm hw hB hz hk9 hS => ?_)
          subst hw
          have Z : wZ G (tkR (tkR (makR (cmp σ i j) i j (urn (cmp σ i j) 16) r) i j r) j i r) (μ) o s H1 locs1 := wZ_callP Z hB hT9 hS
          clear hB hT9 hS hk9 hz hvm T9
          revert Z; generalize H1 = H; generalize locs1 = locs; intro Z
          refine W.widen (k := 0) (n := 0) (by decide) (by decide) ?_
          refine lv_iinc (v := nI (r + 1)) (lv' := [(6, .int (nI (r + 1))), (0, .ref (gA G 0)), (1, .int (nI i)), (2, .int (nI j)), (3, .ref (gA G (15 + 6 * i))), (4, .ref (gA G (15 + 6 * j))), (5, .int (urn (cmp σ i j) 16))]) S.1 S.2.1 dX7_makeAlike_75 hl (k := 6) rfl (nI_inc rfl) (by decide) rfl (fun ls hl => ?_)
          refine lv_goto (tgt := 42) S.1 S.2.1 dX7_makeAlike_78 (by decide) ?_
          have q9 : (makR (cmp σ i j) i j (urn (cmp σ i j) 16) (r + 1) : cS) = tkR (tkR (makR (cmp σ i j) i j (urn (cmp σ i j) 16) r) i j r) j i r := by first | (simp [bi, makR, hr, c_11, c_16]; done) | (simp [bi, makR, hr, c_11, c_16]; omega) | (simp [bi, makR, ← Int32.not_le, hr, c_11, c_16]; done)
          rw [← q9] at Z
          exact ih_42 (r + 1) (by first | omega | exact Nat.zero_le _) (by omega) _ _ Z ls (lv_sub hl [1, 2, 3, 4, 5, 6, 0] rfl)
  have q9 : (makR (cmp σ i j) i j (urn (cmp σ i j) 16) 0 : cS) = cmp σ i j := by rfl
  rw [← q9] at Z
  exact L_42 (16 - 0 + 1) 0 (by first | omega | exact Nat.zero_le _) (Nat.lt_succ_self _) _ _ Z ls (lv_sub hl [4, 5, 6, 3, 2, 1, 0] rfl)

theorem i_X7_hints_X3 : ∀ w ∈ wsX30, w ∈ wsX7_hints := by decide +kernel
abbrev rm_k_X7_hints : Room := { frames := 2, cells := 0, slots := 0, locals := 42 }
set_option maxHeartbeats 4000000 in
set_option maxRecDepth 100000 in
theorem k_X7_hints (l : Launch) (G : wG) (σ : cS) (μ : mS) (o : Nat → Int64) (i : Nat) (hi : i < 3) : Met l yX7_hints wsX7_hints rm_k_X7_hints (wPc G σ μ o [.ref (gA G 0), .int (nI i)]) (vp_Si (fun rr => rr = nI (cL σ i))) 0 0 (fun _ => False) := by
  refine Met.ofW (cc := cX7_hints) (maxL := 2) (ret := (some .int)) (by decide) rfl ?_
  intro p e s m args below meth c s₁ B hml hv
  obtain ⟨hargs, hI⟩ := hv
  have S : CallFix p m c cX7_hints 2 s args wsX7_hints RX7 := ⟨B.exec, B.bytes, hml, findClass_of_methodNamed B.named, atoms_spec (ws := wsX7_hints) B.pre⟩
  have hret := B.returns
  have hlocks := B.notSynchronized
  have Z := wZ_0 hI
  clear hI
  obtain ⟨Q, hQ⟩ : ∃ Q, Q = MQ below (vp_Si (fun rr => rr = nI (cL σ i))) args s 0 0 (fun _ => False) := ⟨_, rfl⟩
  rw [← hQ]
  have hl := lv_entry [.ref (gA G 0), .int (nI i)] (n := 2) (Nat.le_of_ble_eq_true rfl)
  rw [show entryFrame m args 2 = entryFrame m ([.ref (gA G 0), .int (nI i)] : List Value).toArray 2 from by rw [hargs], lg_entry_eq]
  generalize (lg_sl [.ref (gA G 0), .int (nI i)] ++ List.replicate (2 - (lg_sl [.ref (gA G 0), .int (nI i)]).length) Slot.unset).toArray = ls at hl ⊢
  have hl : lv_has ls 2 [(0, .ref (gA G 0)), (1, .int (nI i))] := hl
  refine lv_aload_n S.1 S.2.1 dX7_hints_0 rfl (lv_at hl 0 rfl) ?_
  refine lv_iload_n S.1 S.2.1 dX7_hints_1 rfl (lv_at hl 1 rfl) ?_
  refine va_csr (va_runV (As := [.int (nI i)]) (rest := []) S (k_X7_keeperOf l G σ μ o i hi) (cwV 1 S.2.2.2.2 gX7_hints_X7_keeperOf rfl rfl rfl ⟨rfl, hy_X7_keeperOf⟩ ⟨Nat.le_of_ble_eq_true rfl, Nat.le_of_ble_eq_true rfl⟩) (wPc_V (q := (RX7, TX7, 7)) Z (by decide) rfl rfl) rfl rfl hl.1 rfl (lv_room (Nat.le_of_ble_eq_true rfl)) dX7_hints_2 ⟨Nat.le_of_ble_eq_true rfl, Nat.le_of_ble_eq_true rfl⟩).run (fun r_1 h_2 => ?_)
  rw [h_2]; clear h_2 r_1
  refine r_getN (C := RX3) (T := TX3) (N := 3) (ci := 3) S Z (by omega) (eK hi) rfl i_X7_hints_X3 1 (by decide) (show Cond.fieldLinkNest RX7 163 "WideCell$Keeper" "waiting" "Ljava/util/ArrayList;" "WideCell" ∈ wN from n_RX7_163) rfl (v := .ref (gA G (12 + i))) rfl dX7_hints_5 ?_
  refine vp_callSi (va_runV (As := []) (rest := []) S (k_Jx4a65c_size_8abf5 l G σ μ o i hi) (cwV 0 S.2.2.2.2 gX7_hints_Jx4a65c_size_8abf5 rfl rfl rfl ⟨rfl, hy_Jx4a65c_size_8abf5⟩ ⟨Nat.le_of_ble_eq_true rfl, Nat.le_of_ble_eq_true rfl⟩) (wPc_V (q := (RJx4a65c, TJx4a65c, 3)) Z (by omega) (eL hi) rfl) rfl rfl hl.1 rfl (lv_room (Nat.le_of_ble_eq_true rfl)) dX7_hints_8 ⟨Nat.le_of_ble_eq_true rfl, Nat.le_of_ble_eq_true rfl⟩).run (fun r_3 h_4 => ?_)
  rw [h_4]; clear h_4 r_3
  rw [hQ]
  exact W.iret (v := nI (cL σ i)) S.1 S.2.1 hret (fun _ hT9 _ => ⟨_, rfl, (by first | (simp []; done) | (simp []; omega) | (simp [← Int32.not_le]; done)), hT9⟩) (fun _ h => nomatch h) dX7_hints_11
