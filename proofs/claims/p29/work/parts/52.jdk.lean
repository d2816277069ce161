abbrev rm_k_J3_checkIndex_8e157 : Room := { frames := 0, cells := 0, slots := 0, locals := 0 }
set_option maxHeartbeats 4000000 in
set_option maxRecDepth 100000 in
theorem k_J3_checkIndex_8e157 (l : Launch) (G : wG) (σ : cS) (μ : mS) (o : Nat → Int64) (a : Nat) (b : Nat) (hab : a < b) (hb : b < 2 ^ 31) : Met l yJ3_checkIndex_8e157 wsJ3_checkIndex_8e157 rm_k_J3_checkIndex_8e157 (wPc G σ μ o [.int (nI a), .int (nI b), .null]) (vp_Si (fun rr => rr = nI (a))) 0 0 (fun _ => False) := by
  refine Met.ofW (cc := cJ3_checkIndex_8e157) (maxL := 3) (ret := (some .int)) (by decide) rfl ?_
  intro p e s m args below meth c s₁ B hml hv
  obtain ⟨hargs, hI⟩ := hv
  have S : CallFix p m c cJ3_checkIndex_8e157 3 s args wsJ3_checkIndex_8e157 RJ3 := ⟨B.exec, B.bytes, hml, findClass_of_methodNamed B.named, atoms_spec (ws := wsJ3_checkIndex_8e157) B.pre⟩
  have hret := B.returns
  have hlocks := B.notSynchronized
  have Z := wZ_0 hI
  clear hI
  obtain ⟨Q, hQ⟩ : ∃ Q, Q = MQ below (vp_Si (fun rr => rr = nI (a))) args s 0 0 (fun _ => False) := ⟨_, rfl⟩
  rw [← hQ]
  have hl := lv_entry [.int (nI a), .int (nI b), .null] (n := 3) (Nat.le_of_ble_eq_true rfl)
  rw [show entryFrame m args 3 = entryFrame m ([.int (nI a), .int (nI b), .null] : List Value).toArray 3 from by rw [hargs], lg_entry_eq]
  generalize (lg_sl [.int (nI a), .int (nI b), .null] ++ List.replicate (3 - (lg_sl [.int (nI a), .int (nI b), .null]).length) Slot.unset).toArray = ls at hl ⊢
  have hl : lv_has ls 3 [(0, .int (nI a)), (1, .int (nI b)), (2, .null)] := hl
  have g1 := wi_n1 (Nat.le_of_lt hab) hb
  refine lv_iload_n S.1 S.2.1 dJ3_checkIndex_8e157_0 rfl (lv_at hl 0 rfl) ?_
  refine lv_if_lt (tgt := 9) S.1 S.2.1 dJ3_checkIndex_8e157_1 (by decide) (fun c_1 => absurd c_1 (by exact g1)) (fun c_1 => ?_)
  refine lv_iload_n S.1 S.2.1 dJ3_checkIndex_8e157_4 rfl (lv_at hl 0 rfl) ?_
  refine lv_iload_n S.1 S.2.1 dJ3_checkIndex_8e157_5 rfl (lv_at hl 1 rfl) ?_
  refine r_icmpN_lt S (tgt := 16) (by omega) (by omega) dJ3_checkIndex_8e157_6 (by decide) (fun c_2 => ?_) (fun c_2 => absurd c_2 (by omega))
  refine lv_iload_n S.1 S.2.1 dJ3_checkIndex_8e157_16 rfl (lv_at hl 0 rfl) ?_
  rw [hQ]
  exact W.iret (v := nI a) S.1 S.2.1 hret (fun _ hT9 _ => ⟨_, rfl, (by first | (simp [c_1, c_2]; done) | (simp [c_1, c_2]; omega) | (simp [← Int32.not_le, c_1, c_2]; done)), hT9⟩) (fun _ h => nomatch h) dJ3_checkIndex_8e157_17

abbrev rm_k_J15_checkIndex_7cf53 : Room := { frames := 1, cells := 0, slots := 0, locals := 22 }
set_option maxHeartbeats 4000000 in
set_option maxRecDepth 100000 in
theorem k_J15_checkIndex_7cf53 (l : Launch) (G : wG) (σ : cS) (μ : mS) (o : Nat → Int64) (a : Nat) (b : Nat) (hab : a < b) (hb : b < 2 ^ 31) : Met l yJ15_checkIndex_7cf53 wsJ15_checkIndex_7cf53 rm_k_J15_checkIndex_7cf53 (wPc G σ μ o [.int (nI a), .int (nI b)]) (vp_Si (fun rr => rr = nI (a))) 0 0 (fun _ => False) := by
  refine Met.ofW (cc := cJ15_checkIndex_7cf53) (maxL := 2) (ret := (some .int)) (by decide) rfl ?_
  intro p e s m args below meth c s₁ B hml hv
  obtain ⟨hargs, hI⟩ := hv
  have S : CallFix p m c cJ15_checkIndex_7cf53 2 s args wsJ15_checkIndex_7cf53 RJ15 := ⟨B.exec, B.bytes, hml, findClass_of_methodNamed B.named, atoms_spec (ws := wsJ15_checkIndex_7cf53) B.pre⟩
  have hret := B.returns
  have hlocks := B.notSynchronized
  have Z := wZ_0 hI
  clear hI
  obtain ⟨Q, hQ⟩ : ∃ Q, Q = MQ below (vp_Si (fun rr => rr = nI (a))) args s 0 0 (fun _ => False) := ⟨_, rfl⟩
  rw [← hQ]
  have hl := lv_entry [.int (nI a), .int (nI b)] (n := 2) (Nat.le_of_ble_eq_true rfl)
  rw [show entryFrame m args 2 = entryFrame m ([.int (nI a), .int (nI b)] : List Value).toArray 2 from by rw [hargs], lg_entry_eq]
  generalize (lg_sl [.int (nI a), .int (nI b)] ++ List.replicate (2 - (lg_sl [.int (nI a), .int (nI b)]).length) Slot.unset).toArray = ls at hl ⊢
  have hl : lv_has ls 2 [(0, .int (nI a)), (1, .int (nI b))] := hl
  refine lv_iload_n S.1 S.2.1 dJ15_checkIndex_7cf53_0 rfl (lv_at hl 0 rfl) ?_
  refine lv_iload_n S.1 S.2.1 dJ15_checkIndex_7cf53_1 rfl (lv_at hl 1 rfl) ?_
  refine lv_null S.1 S.2.1 dJ15_checkIndex_7cf53_2 ?_
  refine vp_callSi (va_runS (As := [.int (nI a), .int (nI b), .null]) (rest := []) S (k_J3_checkIndex_8e157 l G σ μ o a b (by omega) (by omega)) (va_cwS 3 S.2.2.2.2 gJ15_checkIndex_7cf53_J3_checkIndex_8e157 rfl rfl rfl hy_J3_checkIndex_8e157 ⟨Nat.le_of_ble_eq_true rfl, Nat.le_of_ble_eq_true rfl⟩) (wPc_S Z) rfl rfl hl.1 rfl (lv_room (Nat.le_of_ble_eq_true rfl)) dJ15_checkIndex_7cf53_3 ⟨Nat.le_of_ble_eq_true rfl, Nat.le_of_ble_eq_true rfl⟩).run (fun r_1 h_2 => ?_)
  rw [h_2]; clear h_2 r_1
  rw [hQ]
  exact W.iret (v := nI a) S.1 S.2.1 hret (fun _ hT9 _ => ⟨_, rfl, (by first | (simp []; done) | (simp []; omega) | (simp [← Int32.not_le]; done)), hT9⟩) (fun _ h => nomatch h) dJ15_checkIndex_7cf53_6
