theorem i_X5_putEntry_X5 : ∀ w ∈ wsX50, w ∈ wsX5_putEntry := by decide +kernel
theorem m_X5_putEntry_f9 : Cond.fieldLink RX5 9 "WideCell$Table" "stamps" "[I" ∈ wsX5_putEntry := by decide +kernel
theorem m_X5_putEntry_f15 : Cond.fieldLink RX5 15 "WideCell$Table" "values" "[I" ∈ wsX5_putEntry := by decide +kernel
theorem m_X5_putEntry_f18 : Cond.fieldLink RX5 18 "WideCell$Table" "ends" "[I" ∈ wsX5_putEntry := by decide +kernel
abbrev rm_k_X5_putEntry : Room := { frames := 0, cells := 0, slots := 0, locals := 0 }
set_option maxHeartbeats 4000000 in
set_option maxRecDepth 100000 in
theorem k_X5_putEntry (l : Launch) (G : wG) (σ : cS) (μ : mS) (o : Nat → Int64) (t : Nat) (k : Nat) (v : Int32) (sp : Int32) (en : Int32) (ht : t < 4) (hk : k < 64) : Met l yX5_putEntry wsX5_putEntry rm_k_X5_putEntry (wPc G σ μ o [.ref (gA G (15 + 6 * t)), .int (nI k), .int (v), .int (sp), .int (en)]) (va_Qv (fun u : cS × mS => u = (putE σ t k v sp en, μ)) (fun u t => wI G u.1 u.2 o t) (gP G)) 0 0 (gP G) := by
  refine Met.ofW (cc := cX5_putEntry) (maxL := 5) (ret := none) (by decide) rfl ?_
  intro p e s m args below meth c s₁ B hml hv
  obtain ⟨hargs, hI⟩ := hv
  have S : CallFix p m c cX5_putEntry 5 s args wsX5_putEntry RX5 := ⟨B.exec, B.bytes, hml, findClass_of_methodNamed B.named, atoms_spec (ws := wsX5_putEntry) B.pre⟩
  have hret := B.returns
  have hlocks := B.notSynchronized
  have Z := wZ_0 hI
  clear hI
  obtain ⟨Q, hQ⟩ : ∃ Q, Q = MQ below (va_Qv (fun u : cS × mS => u = (putE σ t k v sp en, μ)) (fun u t => wI G u.1 u.2 o t) (gP G)) args s 0 0 (gP G) := ⟨_, rfl⟩
  rw [← hQ]
  have hl := lv_entry [.ref (gA G (15 + 6 * t)), .int (nI k), .int (v), .int (sp), .int (en)] (n := 5) (Nat.le_of_ble_eq_true rfl)
  rw [show entryFrame m args 5 = entryFrame m ([.ref (gA G (15 + 6 * t)), .int (nI k), .int (v), .int (sp), .int (en)] : List Value).toArray 5 from by rw [hargs], lg_entry_eq]
  generalize (lg_sl [.ref (gA G (15 + 6 * t)), .int (nI k), .int (v), .int (sp), .int (en)] ++ List.replicate (5 - (lg_sl [.ref (gA G (15 + 6 * t)), .int (nI k), .int (v), .int (sp), .int (en)]).length) Slot.unset).toArray = ls at hl ⊢
  have hl : lv_has ls 5 [(0, .ref (gA G (15 + 6 * t))), (1, .int (nI k)), (2, .int (v)), (3, .int (sp)), (4, .int (en))] := hl
  refine lv_aload_n S.1 S.2.1 dX5_putEntry_0 rfl (lv_at hl 0 rfl) ?_
  refine r_get (C := RX5) (T := TX5) (N := 6) (ci := 5) S Z (by omega) (eT ht) rfl i_X5_putEntry_X5 1 (by decide) m_X5_putEntry_f9 rfl (v := .ref (gA G (15 + 6 * t + 1))) rfl dX5_putEntry_1 ?_
  refine lv_iload_n S.1 S.2.1 dX5_putEntry_4 rfl (lv_at hl 1 rfl) ?_
  refine lv_iload_n S.1 S.2.1 dX5_putEntry_5 rfl (lv_at hl 3 rfl) ?_
  refine r_wC S Z (n := 64) (pT ht (by decide) (by decide)) (by omega) (by decide) dX5_putEntry_6 (fun H locs Z => ?_)
  refine lv_aload_n S.1 S.2.1 dX5_putEntry_7 rfl (lv_at hl 0 rfl) ?_
  refine r_get (C := RX5) (T := TX5) (N := 6) (ci := 5) S Z (by omega) (eT ht) rfl i_X5_putEntry_X5 2 (by decide) m_X5_putEntry_f15 rfl (v := .ref (gA G (15 + 6 * t + 2))) rfl dX5_putEntry_8 ?_
  refine lv_iload_n S.1 S.2.1 dX5_putEntry_11 rfl (lv_at hl 1 rfl) ?_
  refine lv_iload_n S.1 S.2.1 dX5_putEntry_12 rfl (lv_at hl 2 rfl) ?_
  refine r_wC S Z (n := 64) (pT ht (by decide) (by decide)) (by omega) (by decide) dX5_putEntry_13 (fun H locs Z => ?_)
  refine lv_aload_n S.1 S.2.1 dX5_putEntry_14 rfl (lv_at hl 0 rfl) ?_
  refine r_get (C := RX5) (T := TX5) (N := 6) (ci := 5) S Z (by omega) (eT ht) rfl i_X5_putEntry_X5 3 (by decide) m_X5_putEntry_f18 rfl (v := .ref (gA G (15 + 6 * t + 3))) rfl dX5_putEntry_15 ?_
  refine lv_iload_n S.1 S.2.1 dX5_putEntry_18 rfl (lv_at hl 1 rfl) ?_
  refine lv_iload S.1 S.2.1 dX5_putEntry_19 (lv_at hl 4 rfl) ?_
  refine r_wC S Z (n := 64) (pT ht (by decide) (by decide)) (by omega) (by decide) dX5_putEntry_21 (fun H locs Z => ?_)
  rw [hQ]
  have q9 : (putE σ t k v sp en : cS) = w1 (w1 (w1 σ (15 + 6 * t + 1) k sp) (15 + 6 * t + 2) k v) (15 + 6 * t + 3) k en := by first | (simp [bi, putE]; done) | (simp [bi, putE]; omega) | (simp [bi, putE, ← Int32.not_le]; done) | rfl
  rw [← q9] at Z
  exact W.vret S.1 S.2.1 hret (fun _ hT9 hW => ⟨⟨(putE σ t k v sp en, μ), rfl, rfl, wZ_P Z hT9 hW⟩, Z.2.2.2.2.F hT9⟩) Z.2.2.2.2.2.2 dX5_putEntry_22

theorem i_X5_putTombstone_X5 : ∀ w ∈ wsX50, w ∈ wsX5_putTombstone := by decide +kernel
theorem m_X5_putTombstone_f21 : Cond.fieldLink RX5 21 "WideCell$Table" "burials" "[I" ∈ wsX5_putTombstone := by decide +kernel
theorem m_X5_putTombstone_f24 : Cond.fieldLink RX5 24 "WideCell$Table" "madeAts" "[I" ∈ wsX5_putTombstone := by decide +kernel
abbrev rm_k_X5_putTombstone : Room := { frames := 0, cells := 0, slots := 0, locals := 0 }
set_option maxHeartbeats 4000000 in
set_option maxRecDepth 100000 in
theorem k_X5_putTombstone (l : Launch) (G : wG) (σ : cS) (μ : mS) (o : Nat → Int64) (t : Nat) (k : Nat) (sp : Int32) (ma : Int32) (ht : t < 4) (hk : k < 92) : Met l yX5_putTombstone wsX5_putTombstone rm_k_X5_putTombstone (wPc G σ μ o [.ref (gA G (15 + 6 * t)), .int (nI k), .int (sp), .int (ma)]) (va_Qv (fun u : cS × mS => u = (putT σ t k sp ma, μ)) (fun u t => wI G u.1 u.2 o t) (gP G)) 0 0 (gP G) := by
  refine Met.ofW (cc := cX5_putTombstone) (maxL := 4) (ret := none) (by decide) rfl ?_
  intro p e s m args below meth c s₁ B hml hv
  obtain ⟨hargs, hI⟩ := hv
  have S : CallFix p m c cX5_putTombstone 4 s args wsX5_putTombstone RX5 := ⟨B.exec, B.bytes, hml, findClass_of_methodNamed B.named, atoms_spec (ws := wsX5_putTombstone) B.pre⟩
  have hret := B.returns
  have hlocks := B.notSynchronized
  have Z := wZ_0 hI
  clear hI
  obtain ⟨Q, hQ⟩ : ∃ Q, Q = MQ below (va_Qv (fun u : cS × mS => u = (putT σ t k sp ma, μ)) (fun u t => wI G u.1 u.2 o t) (gP G)) args s 0 0 (gP G) := ⟨_, rfl⟩
  rw [← hQ]
  have hl := lv_entry [.ref (gA G (15 + 6 * t)), .int (nI k), .int (sp), .int (ma)] (n := 4) (Nat.le_of_ble_eq_true rfl)
  rw [show entryFrame m args 4 = entryFrame m ([.ref (gA G (15 + 6 * t)), .int (nI k), .int (sp), .int (ma)] : List Value).toArray 4 from by rw [hargs], lg_entry_eq]
  generalize (lg_sl [.ref (gA G (15 + 6 * t)), .int (nI k), .int (sp), .int (ma)] ++ List.replicate (4 - (lg_sl [.ref (gA G (15 + 6 * t)), .int (nI k), .int (sp), .int (ma)]).length) Slot.unset).toArray = ls at hl ⊢
  have hl : lv_has ls 4 [(0, .ref (gA G (15 + 6 * t))), (1, .int (nI k)), (2, .int (sp)), (3, .int (ma))] := hl
  refine lv_aload_n S.1 S.2.1 dX5_putTombstone_0 rfl (lv_at hl 0 rfl) ?_
  refine r_get (C := RX5) (T := TX5) (N := 6) (ci := 5) S Z (by omega) (eT ht) rfl i_X5_putTombstone_X5 4 (by decide) m_X5_putTombstone_f21 rfl (v := .ref (gA G (15 + 6 * t + 4))) rfl dX5_putTombstone_1 ?_
  refine lv_iload_n S.1 S.2.1 dX5_putTombstone_4 rfl (lv_at hl 1 rfl) ?_
  refine lv_iload_n S.1 S.2.1 dX5_putTombstone_5 rfl (lv_at hl 2 rfl) ?_
  refine r_wC S Z (n := 92) (pB ht (by decide) (by decide)) (by omega) (by decide) dX5_putTombstone_6 (fun H locs Z => ?_)
  refine lv_aload_n S.1 S.2.1 dX5_putTombstone_7 rfl (lv_at hl 0 rfl) ?_
  refine r_get (C := RX5) (T := TX5) (N := 6) (ci := 5) S Z (by omega) (eT ht) rfl i_X5_putTombstone_X5 5 (by decide) m_X5_putTombstone_f24 rfl (v := .ref (gA G (15 + 6 * t + 5))) rfl dX5_putTombstone_8 ?_
  refine lv_iload_n S.1 S.2.1 dX5_putTombstone_11 rfl (lv_at hl 1 rfl) ?_
  refine lv_iload_n S.1 S.2.1 dX5_putTombstone_12 rfl (lv_at hl 3 rfl) ?_
  refine r_wC S Z (n := 92) (pB ht (by decide) (by decide)) (by omega) (by decide) dX5_putTombstone_13 (fun H locs Z => ?_)
  rw [hQ]
  have q9 : (putT σ t k sp ma : cS) = w1 (w1 σ (15 + 6 * t + 4) k sp) (15 + 6 * t + 5) k ma := by first | (simp [bi, putT]; done) | (simp [bi, putT]; omega) | (simp [bi, putT, ← Int32.not_le]; done) | rfl
  rw [← q9] at Z
  exact W.vret S.1 S.2.1 hret (fun _ hT9 hW => ⟨⟨(putT σ t k sp ma, μ), rfl, rfl, wZ_P Z hT9 hW⟩, Z.2.2.2.2.F hT9⟩) Z.2.2.2.2.2.2 dX5_putTombstone_14

theorem i_X5_isBetterEntry_X5 : ∀ w ∈ wsX50, w ∈ wsX5_isBetterEntry := by decide +kernel
theorem m_X5_isBetterEntry_f9 : Cond.fieldLink RX5 9 "WideCell$Table" "stamps" "[I" ∈ wsX5_isBetterEntry := by decide +kernel
theorem m_X5_isBetterEntry_f15 : Cond.fieldLink RX5 15 "WideCell$Table" "values" "[I" ∈ wsX5_isBetterEntry := by decide +kernel
theorem m_X5_isBetterEntry_f18 : Cond.fieldLink RX5 18 "WideCell$Table" "ends" "[I" ∈ wsX5_isBetterEntry := by decide +kernel
abbrev rm_k_X5_isBetterEntry : Room := { frames := 1, cells := 0, slots := 0, locals := 20 }
set_option maxHeartbeats 4000000 in
set_option maxRecDepth 100000 in
theorem k_X5_isBetterEntry (l : Launch) (G : wG) (σ : cS) (μ : mS) (o : Nat → Int64) (t : Nat) (k : Nat) (v : Int32) (sp : Int32) (en : Int32) (ht : t < 4) (hk : k < 64) : Met l yX5_isBetterEntry wsX5_isBetterEntry rm_k_X5_isBetterEntry (wPc G σ μ o [.ref (gA G (15 + 6 * t)), .int (nI k), .int (v), .int (sp), .int (en)]) (vp_Si (fun rr => rr = bi (betE σ t k v sp en))) 0 0 (fun _ => False) := by
  refine Met.ofW (cc := cX5_isBetterEntry) (maxL := 5) (ret := (some .boolean)) (by decide) rfl ?_
  intro p e s m args below meth c s₁ B hml hv
  obtain ⟨hargs, hI⟩ := hv
  have S : CallFix p m c cX5_isBetterEntry 5 s args wsX5_isBetterEntry RX5 := ⟨B.exec, B.bytes, hml, findClass_of_methodNamed B.named, atoms_spec (ws := wsX5_isBetterEntry) B.pre⟩
  have hret := B.returns
  have hlocks := B.notSynchronized
  have Z := wZ_0 hI
  clear hI
  obtain ⟨Q, hQ⟩ : ∃ Q, Q = MQ below (vp_Si (fun rr => rr = bi (betE σ t k v sp en))) args s 0 0 (fun _ => False) := ⟨_, rfl⟩
  rw [← hQ]
  have hl := lv_entry [.ref (gA G (15 + 6 * t)), .int (nI k), .int (v), .int (sp), .int (en)] (n := 5) (Nat.le_of_ble_eq_true rfl)
  rw [show entryFrame m args 5 = entryFrame m ([.ref (gA G (15 + 6 * t)), .int (nI k), .int (v), .int (sp), .int (en)] : List Value).toArray 5 from by rw [hargs], lg_entry_eq]
  generalize (lg_sl [.ref (gA G (15 + 6 * t)), .int (nI k), .int (v), .int (sp), .int (en)] ++ List.replicate (5 - (lg_sl [.ref (gA G (15 + 6 * t)), .int (nI k), .int (v), .int (sp), .int (en)]).length) Slot.unset).toArray = ls at hl ⊢
  have hl : lv_has ls 5 [(0, .ref (gA G (15 + 6 * t))), (1, .int (nI k)), (2, .int (v)), (3, .int (sp)), (4, .int (en))] := hl
  refine lv_iload_n S.1 S.2.1 dX5_isBetterEntry_0 rfl (lv_at hl 3 rfl) ?_
  refine lv_aload_n S.1 S.2.1 dX5_isBetterEntry_1 rfl (lv_at hl 0 rfl) ?_
  refine r_get (C := RX5) (T := TX5) (N := 6) (ci := 5) S Z (by omega) (eT ht) rfl i_X5_isBetterEntry_X5 1 (by decide) m_X5_isBetterEntry_f9 rfl (v := .ref (gA G (15 + 6 * t + 1))) rfl dX5_isBetterEntry_2 ?_
  refine lv_iload_n S.1 S.2.1 dX5_isBetterEntry_5 rfl (lv_at hl 1 rfl) ?_
  refine r_ialdC S Z (n := 64) (pT ht (by decide) (by decide)) (by omega) (by decide) dX5_isBetterEntry_6 ?_
  refine lv_icmp_eq (tgt := 26) S.1 S.2.1 dX5_isBetterEntry_7 (by decide) (fun c_1 => ?_) (fun c_1 => ?_)
  · skip
    refine lv_iload_n S.1 S.2.1 dX5_isBetterEntry_26 rfl (lv_at hl 2 rfl) ?_
    refine lv_aload_n S.1 S.2.1 dX5_isBetterEntry_27 rfl (lv_at hl 0 rfl) ?_
    refine r_get (C := RX5) (T := TX5) (N := 6) (ci := 5) S Z (by omega) (eT ht) rfl i_X5_isBetterEntry_X5 2 (by decide) m_X5_isBetterEntry_f15 rfl (v := .ref (gA G (15 + 6 * t + 2))) rfl dX5_isBetterEntry_28 ?_
    refine lv_iload_n S.1 S.2.1 dX5_isBetterEntry_31 rfl (lv_at hl 1 rfl) ?_
    refine r_ialdC S Z (n := 64) (pT ht (by decide) (by decide)) (by omega) (by decide) dX5_isBetterEntry_32 ?_
    refine lv_icmp_eq (tgt := 52) S.1 S.2.1 dX5_isBetterEntry_33 (by decide) (fun c_2 => ?_) (fun c_2 => ?_)
    · skip
      refine lv_iload S.1 S.2.1 dX5_isBetterEntry_52 (lv_at hl 4 rfl) ?_
      refine vp_callSi (va_runS (As := [.int (en)]) (rest := []) S (k_X5_endRank l G σ μ o en ) (va_cwS 1 S.2.2.2.2 gX5_isBetterEntry_X5_endRank rfl rfl rfl hy_X5_endRank ⟨Nat.le_of_ble_eq_true rfl, Nat.le_of_ble_eq_true rfl⟩) (wPc_S Z) rfl rfl hl.1 rfl (lv_room (Nat.le_of_ble_eq_true rfl)) dX5_isBetterEntry_54 ⟨Nat.le_of_ble_eq_true rfl, Nat.le_of_ble_eq_true rfl⟩).run (fun r_3 h_4 => ?_)
      subst h_4
      refine lv_aload_n S.1 S.2.1 dX5_isBetterEntry_57 rfl (lv_at hl 0 rfl) ?_
      refine r_get (C := RX5) (T := TX5) (N := 6) (ci := 5) S Z (by omega) (eT ht) rfl i_X5_isBetterEntry_X5 3 (by decide) m_X5_isBetterEntry_f18 rfl (v := .ref (gA G (15 + 6 * t + 3))) rfl dX5_isBetterEntry_58 ?_
      refine lv_iload_n S.1 S.2.1 dX5_isBetterEntry_61 rfl (lv_at hl 1 rfl) ?_
      refine r_ialdC S Z (n := 64) (pT ht (by decide) (by decide)) (by omega) (by decide) dX5_isBetterEntry_62 ?_
      refine vp_callSi (va_runS (As := [.int (cI σ (15 + 6 * t + 3) k)]) (rest := [.int (endR en)]) S (k_X5_endRank l G σ μ o (cI σ (15 + 6 * t + 3) k) ) (va_cwS 1 S.2.2.2.2 gX5_isBetterEntry_X5_endRank rfl rfl rfl hy_X5_endRank ⟨Nat.le_of_ble_eq_true rfl, Nat.le_of_ble_eq_true rfl⟩) (wPc_S Z) rfl rfl hl.1 rfl (lv_room (Nat.le_of_ble_eq_true rfl)) dX5_isBetterEntry_63 ⟨Nat.le_of_ble_eq_true rfl, Nat.le_of_ble_eq_true rfl⟩).run (fun r_5 h_6 => ?_)
      subst h_6
      refine lv_icmp_le (tgt := 73) S.1 S.2.1 dX5_isBetterEntry_66 (by decide) (fun c_7 => ?_) (fun c_7 => ?_)
      · skip
        refine lv_iconst (v := nI 0) S.1 S.2.1 dX5_isBetterEntry_73 (by decide) ?_
        rw [hQ]
        exact W.zret (v := nI 0) S.1 S.2.1 hret rfl (fun _ hT9 _ => ⟨_, rfl, (by first | (simp [bi, betE, c_1, c_2, c_7]; done) | (simp [bi, betE, c_1, c_2, c_7]; omega) | (simp [bi, betE, ← Int32.not_le, c_1, c_2, c_7]; done) | (simp [bi, betE, eq_true c_1, eq_true c_2, c_7]; done)), hT9⟩) (fun _ h => nomatch h) dX5_isBetterEntry_74
      · skip
        refine lv_iconst (v := nI 1) S.1 S.2.1 dX5_isBetterEntry_69 (by decide) ?_
        refine lv_goto (tgt := 74) S.1 S.2.1 dX5_isBetterEntry_70 (by decide) ?_
        rw [hQ]
        exact W.zret (v := nI 1) S.1 S.2.1 hret rfl (fun _ hT9 _ => ⟨_, rfl, (by first | (simp [bi, betE, c_1, c_2, c_7]; done) | (simp [bi, betE, c_1, c_2, c_7]; omega) | (simp [bi, betE, ← Int32.not_le, c_1, c_2, c_7]; done) | (simp [bi, betE, eq_true c_1, eq_true c_2, c_7]; done)), hT9⟩) (fun _ h => nomatch h) dX5_isBetterEntry_74
    · skip
      refine lv_iload_n S.1 S.2.1 dX5_isBetterEntry_36 rfl (lv_at hl 2 rfl) ?_
      refine lv_aload_n S.1 S.2.1 dX5_isBetterEntry_37 rfl (lv_at hl 0 rfl) ?_
      refine r_get (C := RX5) (T := TX5) (N := 6) (ci := 5) S Z (by omega) (eT ht) rfl i_X5_isBetterEntry_X5 2 (by decide) m_X5_isBetterEntry_f15 rfl (v := .ref (gA G (15 + 6 * t + 2))) rfl dX5_isBetterEntry_38 ?_
      refine lv_iload_n S.1 S.2.1 dX5_isBetterEntry_41 rfl (lv_at hl 1 rfl) ?_
      refine r_ialdC S Z (n := 64) (pT ht (by decide) (by decide)) (by omega) (by decide) dX5_isBetterEntry_42 ?_
      refine lv_icmp_le (tgt := 50) S.1 S.2.1 dX5_isBetterEntry_43 (by decide) (fun c_8 => ?_) (fun c_8 => ?_)
      · skip
        refine lv_iconst (v := nI 0) S.1 S.2.1 dX5_isBetterEntry_50 (by decide) ?_
        rw [hQ]
        exact W.zret (v := nI 0) S.1 S.2.1 hret rfl (fun _ hT9 _ => ⟨_, rfl, (by first | (simp [bi, betE, c_1, c_2, c_8]; done) | (simp [bi, betE, c_1, c_2, c_8]; omega) | (simp [bi, betE, ← Int32.not_le, c_1, c_2, c_8]; done) | (simp [bi, betE, eq_true c_1, c_2, c_8]; done)), hT9⟩) (fun _ h => nomatch h) dX5_isBetterEntry_51
      · skip
        refine lv_iconst (v := nI 1) S.1 S.2.1 dX5_isBetterEntry_46 (by decide) ?_
        refine lv_goto (tgt := 51) S.1 S.2.1 dX5_isBetterEntry_47 (by decide) ?_
        rw [hQ]
        exact W.zret (v := nI 1) S.1 S.2.1 hret rfl (fun _ hT9 _ => ⟨_, rfl, (by first | (simp [bi, betE, c_1, c_2, c_8]; done) | (simp [bi, betE, c_1, c_2, c_8]; omega) | (simp [bi, betE, ← Int32.not_le, c_1, c_2, c_8]; done) | (simp [bi, betE, eq_true c_1, c_2, c_8]; done)), hT9⟩) (fun _ h => nomatch h) dX5_isBetterEntry_51
  · skip
    refine lv_iload_n S.1 S.2.1 dX5_isBetterEntry_10 rfl (lv_at hl 3 rfl) ?_
    refine lv_aload_n S.1 S.2.1 dX5_isBetterEntry_11 rfl (lv_at hl 0 rfl) ?_
    refine r_get (C := RX5) (T := TX5) (N := 6) (ci := 5) S Z (by omega) (eT ht) rfl i_X5_isBetterEntry_X5 1 (by decide) m_X5_isBetterEntry_f9 rfl (v := .ref (gA G (15 + 6 * t + 1))) rfl dX5_isBetterEntry_12 ?_
    refine lv_iload_n S.1 S.2.1 dX5_isBetterEntry_15 rfl (lv_at hl 1 rfl) ?_
    refine r_ialdC S Z (n := 64) (pT ht (by decide) (by decide)) (by omega) (by decide) dX5_isBetterEntry_16 ?_
    refine lv_icmp_le (tgt := 24) S.1 S.2.1 dX5_isBetterEntry_17 (by decide) (fun c_9 => ?_) (fun c_9 => ?_)
    · skip
      refine lv_iconst (v := nI 0) S.1 S.2.1 dX5_isBetterEntry_24 (by decide) ?_
      rw [hQ]
      exact W.zret (v := nI 0) S.1 S.2.1 hret rfl (fun _ hT9 _ => ⟨_, rfl, (by first | (simp [bi, betE, c_1, c_9]; done) | (simp [bi, betE, c_1, c_9]; omega) | (simp [bi, betE, ← Int32.not_le, c_1, c_9]; done)), hT9⟩) (fun _ h => nomatch h) dX5_isBetterEntry_25
    · skip
      refine lv_iconst (v := nI 1) S.1 S.2.1 dX5_isBetterEntry_20 (by decide) ?_
      refine lv_goto (tgt := 25) S.1 S.2.1 dX5_isBetterEntry_21 (by decide) ?_
      rw [hQ]
      exact W.zret (v := nI 1) S.1 S.2.1 hret rfl (fun _ hT9 _ => ⟨_, rfl, (by first | (simp [bi, betE, c_1, c_9]; done) | (simp [bi, betE, c_1, c_9]; omega) | (simp [bi, betE, ← Int32.not_le, c_1, c_9]; done)), hT9⟩) (fun _ h => nomatch h) dX5_isBetterEntry_25

abbrev rm_k_X5_takeEntry : Room := { frames := 2, cells := 0, slots := 0, locals := 44 }
set_option maxHeartbeats 4000000 in
set_option maxRecDepth 100000 in
theorem k_X5_takeEntry (l : Launch) (G : wG) (σ : cS) (μ : mS) (o : Nat → Int64) (t : Nat) (k : Nat) (v : Int32) (sp : Int32) (en : Int32) (ht : t < 4) (hk : k < 64) : Met l yX5_takeEntry wsX5_takeEntry rm_k_X5_takeEntry (wPc G σ μ o [.ref (gA G (15 + 6 * t)), .int (nI k), .int (v), .int (sp), .int (en)]) (va_Qv (fun u : cS × mS => u = (takE σ t k v sp en, μ)) (fun u t => wI G u.1 u.2 o t) (gP G)) 0 0 (gP G) := by
  refine Met.ofW (cc := cX5_takeEntry) (maxL := 5) (ret := none) (by decide) rfl ?_
  intro p e s m args below meth c s₁ B hml hv
  obtain ⟨hargs, hI⟩ := hv
  have S : CallFix p m c cX5_takeEntry 5 s args wsX5_takeEntry RX5 := ⟨B.exec, B.bytes, hml, findClass_of_methodNamed B.named, atoms_spec (ws := wsX5_takeEntry) B.pre⟩
  have hret := B.returns
  have hlocks := B.notSynchronized
  have Z := wZ_0 hI
  clear hI
  obtain ⟨Q, hQ⟩ : ∃ Q, Q = MQ below (va_Qv (fun u : cS × mS => u = (takE σ t k v sp en, μ)) (fun u t => wI G u.1 u.2 o t) (gP G)) args s 0 0 (gP G) := ⟨_, rfl⟩
  rw [← hQ]
  have hl := lv_entry [.ref (gA G (15 + 6 * t)), .int (nI k), .int (v), .int (sp), .int (en)] (n := 5) (Nat.le_of_ble_eq_true rfl)
  rw [show entryFrame m args 5 = entryFrame m ([.ref (gA G (15 + 6 * t)), .int (nI k), .int (v), .int (sp), .int (en)] : List Value).toArray 5 from by rw [hargs], lg_entry_eq]
  generalize (lg_sl [.ref (gA G (15 + 6 * t)), .int (nI k), .int (v), .int (sp), .int (en)] ++ List.replicate (5 - (lg_sl [.ref (gA G (15 + 6 * t)), .int (nI k), .int (v), .int (sp), .int (en)]).length) Slot.unset).toArray = ls at hl ⊢
  have hl : lv_has ls 5 [(0, .ref (gA G (15 + 6 * t))), (1, .int (nI k)), (2, .int (v)), (3, .int (sp)), (4, .int (en))] := hl
  refine lv_aload_n S.1 S.2.1 dX5_takeEntry_0 rfl (lv_at hl 0 rfl) ?_
  refine lv_iload_n S.1 S.2.1 dX5_takeEntry_1 rfl (lv_at hl 1 rfl) ?_
  refine lv_iload_n S.1 S.2.1 dX5_takeEntry_2 rfl (lv_at hl 2 rfl) ?_
  refine lv_iload_n S.1 S.2.1 dX5_takeEntry_3 rfl (lv_at hl 3 rfl) ?_
  refine lv_iload S.1 S.2.1 dX5_takeEntry_4 (lv_at hl 4 rfl) ?_
  refine vp_callSi (va_runV (As := [.int (nI k), .int (v), .int (sp), .int (en)]) (rest := []) S (k_X5_isBetterEntry l G σ μ o t k v sp en ht (by omega)) (cwV 4 S.2.2.2.2 gX5_takeEntry_X5_isBetterEntry rfl rfl rfl ⟨rfl, hy_X5_isBetterEntry⟩ ⟨Nat.le_of_ble_eq_true rfl, Nat.le_of_ble_eq_true rfl⟩) (wPc_V (q := (RX5, TX5, 6)) Z (by omega) (eT ht) rfl) rfl rfl hl.1 rfl (lv_room (Nat.le_of_ble_eq_true rfl)) dX5_takeEntry_6 ⟨Nat.le_of_ble_eq_true rfl, Nat.le_of_ble_eq_true rfl⟩).run (fun r_1 h_2 => ?_)
  subst h_2
  refine r_if_eqB S (tgt := 21) dX5_takeEntry_9 (by decide) (fun c_3 => ?_) (fun c_3 => ?_)
  · skip
    rw [hQ]
    have q9 : (takE σ t k v sp en : cS) = σ := by first | (simp [takE, c_3]; done) | (simp [takE, c_3]; omega) | (simp [takE, ← Int32.not_le, c_3]; done) | (simp [takE, eq_true c_3]; done) | rfl
    rw [← q9] at Z
    exact W.vret S.1 S.2.1 hret (fun _ hT9 hW => ⟨⟨(takE σ t k v sp en, μ), rfl, rfl, wZ_P Z hT9 hW⟩, Z.2.2.2.2.F hT9⟩) Z.2.2.2.2.2.2 dX5_takeEntry_21
  · skip
    refine lv_aload_n S.1 S.2.1 dX5_takeEntry_12 rfl (lv_at hl 0 rfl) ?_
    refine lv_iload_n S.1 S.2.1 dX5_takeEntry_13 rfl (lv_at hl 1 rfl) ?_
    refine lv_iload_n S.1 S.2.1 dX5_takeEntry_14 rfl (lv_at hl 2 rfl) ?_
    refine lv_iload_n S.1 S.2.1 dX5_takeEntry_15 rfl (lv_at hl 3 rfl) ?_
    refine lv_iload S.1 S.2.1 dX5_takeEntry_16 (lv_at hl 4 rfl) ?_
    refine va_callv (va_runV (As := [.int (nI k), .int (v), .int (sp), .int (en)]) (rest := []) S (k_X5_putEntry l G σ μ o t k v sp en ht (by omega)) (cwV 4 S.2.2.2.2 gX5_takeEntry_X5_putEntry rfl rfl rfl ⟨rfl, hy_X5_putEntry⟩ ⟨Nat.le_of_ble_eq_true rfl, Nat.le_of_ble_eq_true rfl⟩) (wPc_V (q := (RX5, TX5, 6)) Z (by omega) (eT ht) rfl) rfl rfl hl.1 rfl (lv_room (Nat.le_of_ble_eq_true rfl)) dX5_takeEntry_18 ⟨Nat.le_of_ble_eq_true rfl, Nat.le_of_ble_eq_true rfl⟩) Z.2.2.2.2 (fun _ _ h => h) (fun _ h => h) (fun u_5 T9 H1 locs1 hT9 hvm hw hB hz hk9 hS => ?_)
    subst hw
    have Z : wZ G (putE σ t k v sp en) (μ) o s H1 locs1 := wZ_callP Z hB hT9 hS
    clear hB hT9 hS hk9 hz hvm T9
    revert Z; generalize H1 = H; generalize locs1 = locs; intro Z
    refine W.widen (k := 0) (n := 0) (by decide) (by decide) ?_
    rw [hQ]
    have q9 : (takE σ t k v sp en : cS) = putE σ t k v sp en := by first | (simp [takE, c_3]; done) | (simp [takE, c_3]; omega) | (simp [takE, ← Int32.not_le, c_3]; done) | rfl
    rw [← q9] at Z
    exact W.vret S.1 S.2.1 hret (fun _ hT9 hW => ⟨⟨(takE σ t k v sp en, μ), rfl, rfl, wZ_P Z hT9 hW⟩, Z.2.2.2.2.F hT9⟩) Z.2.2.2.2.2.2 dX5_takeEntry_21

theorem i_X5_takeTombstone_X5 : ∀ w ∈ wsX50, w ∈ wsX5_takeTombstone := by decide +kernel
theorem m_X5_takeTombstone_f21 : Cond.fieldLink RX5 21 "WideCell$Table" "burials" "[I" ∈ wsX5_takeTombstone := by decide +kernel
theorem m_X5_takeTombstone_f24 : Cond.fieldLink RX5 24 "WideCell$Table" "madeAts" "[I" ∈ wsX5_takeTombstone := by decide +kernel
abbrev rm_k_X5_takeTombstone : Room := { frames := 1, cells := 0, slots := 0, locals := 23 }
set_option maxHeartbeats 4000000 in
set_option maxRecDepth 100000 in
theorem k_X5_takeTombstone (l : Launch) (G : wG) (σ : cS) (μ : mS) (o : Nat → Int64) (t : Nat) (k : Nat) (sp : Int32) (ma : Int32) (ht : t < 4) (hk : k < 92) : Met l yX5_takeTombstone wsX5_takeTombstone rm_k_X5_takeTombstone (wPc G σ μ o [.ref (gA G (15 + 6 * t)), .int (nI k), .int (sp), .int (ma)]) (va_Qv (fun u : cS × mS => u = (takT σ t k sp ma, μ)) (fun u t => wI G u.1 u.2 o t) (gP G)) 0 0 (gP G) := by
  refine Met.ofW (cc := cX5_takeTombstone) (maxL := 5) (ret := none) (by decide) rfl ?_
  intro p e s m args below meth c s₁ B hml hv
  obtain ⟨hargs, hI⟩ := hv
  have S : CallFix p m c cX5_takeTombstone 5 s args wsX5_takeTombstone RX5 := ⟨B.exec, B.bytes, hml, findClass_of_methodNamed B.named, atoms_spec (ws := wsX5_takeTombstone) B.pre⟩
  have hret := B.returns
  have hlocks := B.notSynchronized
  have Z := wZ_0 hI
  clear hI
  obtain ⟨Q, hQ⟩ : ∃ Q, Q = MQ below (va_Qv (fun u : cS × mS => u = (takT σ t k sp ma, μ)) (fun u t => wI G u.1 u.2 o t) (gP G)) args s 0 0 (gP G) := ⟨_, rfl⟩
  rw [← hQ]
  have hl := lv_entry [.ref (gA G (15 + 6 * t)), .int (nI k), .int (sp), .int (ma)] (n := 5) (Nat.le_of_ble_eq_true rfl)
  rw [show entryFrame m args 5 = entryFrame m ([.ref (gA G (15 + 6 * t)), .int (nI k), .int (sp), .int (ma)] : List Value).toArray 5 from by rw [hargs], lg_entry_eq]
  generalize (lg_sl [.ref (gA G (15 + 6 * t)), .int (nI k), .int (sp), .int (ma)] ++ List.replicate (5 - (lg_sl [.ref (gA G (15 + 6 * t)), .int (nI k), .int (sp), .int (ma)]).length) Slot.unset).toArray = ls at hl ⊢
  have hl : lv_has ls 5 [(0, .ref (gA G (15 + 6 * t))), (1, .int (nI k)), (2, .int (sp)), (3, .int (ma))] := hl
  refine lv_iload_n S.1 S.2.1 dX5_takeTombstone_0 rfl (lv_at hl 2 rfl) ?_
  refine lv_aload_n S.1 S.2.1 dX5_takeTombstone_1 rfl (lv_at hl 0 rfl) ?_
  refine r_get (C := RX5) (T := TX5) (N := 6) (ci := 5) S Z (by omega) (eT ht) rfl i_X5_takeTombstone_X5 4 (by decide) m_X5_takeTombstone_f21 rfl (v := .ref (gA G (15 + 6 * t + 4))) rfl dX5_takeTombstone_2 ?_
  refine lv_iload_n S.1 S.2.1 dX5_takeTombstone_5 rfl (lv_at hl 1 rfl) ?_
  refine r_ialdC S Z (n := 92) (pB ht (by decide) (by decide)) (by omega) (by decide) dX5_takeTombstone_6 ?_
  refine lv_icmp_ne (tgt := 28) S.1 S.2.1 dX5_takeTombstone_7 (by decide) (fun c_1 => ?_) (fun c_1 => ?_)
  · skip
    refine lv_iload_n S.1 S.2.1 dX5_takeTombstone_28 rfl (lv_at hl 2 rfl) ?_
    refine lv_aload_n S.1 S.2.1 dX5_takeTombstone_29 rfl (lv_at hl 0 rfl) ?_
    refine r_get (C := RX5) (T := TX5) (N := 6) (ci := 5) S Z (by omega) (eT ht) rfl i_X5_takeTombstone_X5 4 (by decide) m_X5_takeTombstone_f21 rfl (v := .ref (gA G (15 + 6 * t + 4))) rfl dX5_takeTombstone_30 ?_
    refine lv_iload_n S.1 S.2.1 dX5_takeTombstone_33 rfl (lv_at hl 1 rfl) ?_
    refine r_ialdC S Z (n := 92) (pB ht (by decide) (by decide)) (by omega) (by decide) dX5_takeTombstone_34 ?_
    refine lv_icmp_le (tgt := 42) S.1 S.2.1 dX5_takeTombstone_35 (by decide) (fun c_2 => ?_) (fun c_2 => ?_)
    · skip
      refine lv_iconst (v := nI 0) S.1 S.2.1 dX5_takeTombstone_42 (by decide) ?_
      refine lv_istore (lv' := [(4, .int (nI 0)), (0, .ref (gA G (15 + 6 * t))), (1, .int (nI k)), (2, .int (sp)), (3, .int (ma))]) S.1 S.2.1 dX5_takeTombstone_43 hl (by decide) rfl (fun ls hl => ?_)
      refine lv_iload S.1 S.2.1 dX5_takeTombstone_45 (lv_at hl 0 rfl) ?_
      refine r_if_eqN S (tgt := 57) (by decide) dX5_takeTombstone_47 (by decide) (fun c_3 => ?_) (fun c_3 => absurd c_3 (by decide))
      rw [hQ]
      have q9 : (takT σ t k sp ma : cS) = σ := by first | (simp [takT, betT, c_1, c_2]; done) | (simp [takT, betT, c_1, c_2]; omega) | (simp [takT, betT, ← Int32.not_le, c_1, c_2]; done) | rfl
      rw [← q9] at Z
      exact W.vret S.1 S.2.1 hret (fun _ hT9 hW => ⟨⟨(takT σ t k sp ma, μ), rfl, rfl, wZ_P Z hT9 hW⟩, Z.2.2.2.2.F hT9⟩) Z.2.2.2.2.2.2 dX5_takeTombstone_57
    · skip
      refine lv_iconst (v := nI 1) S.1 S.2.1 dX5_takeTombstone_38 (by decide) ?_
      refine lv_goto (tgt := 43) S.1 S.2.1 dX5_takeTombstone_39 (by decide) ?_
      refine lv_istore (lv' := [(4, .int (nI 1)), (0, .ref (gA G (15 + 6 * t))), (1, .int (nI k)), (2, .int (sp)), (3, .int (ma))]) S.1 S.2.1 dX5_takeTombstone_43 hl (by decide) rfl (fun ls hl => ?_)
      refine lv_iload S.1 S.2.1 dX5_takeTombstone_45 (lv_at hl 0 rfl) ?_
      refine r_if_eqN S (tgt := 57) (by decide) dX5_takeTombstone_47 (by decide) (fun c_4 => absurd c_4 (by decide)) (fun c_4 => ?_)
      refine lv_aload_n S.1 S.2.1 dX5_takeTombstone_50 rfl (lv_at hl 1 rfl) ?_
      refine lv_iload_n S.1 S.2.1 dX5_takeTombstone_51 rfl (lv_at hl 2 rfl) ?_
      refine lv_iload_n S.1 S.2.1 dX5_takeTombstone_52 rfl (lv_at hl 3 rfl) ?_
      refine lv_iload_n S.1 S.2.1 dX5_takeTombstone_53 rfl (lv_at hl 4 rfl) ?_
      refine va_callv (va_runV (As := [.int (nI k), .int (sp), .int (ma)]) (rest := []) S (k_X5_putTombstone l G σ μ o t k sp ma ht (by omega)) (cwV 3 S.2.2.2.2 gX5_takeTombstone_X5_putTombstone rfl rfl rfl ⟨rfl, hy_X5_putTombstone⟩ ⟨Nat.le_of_ble_eq_true rfl, Nat.le_of_ble_eq_true rfl⟩) (wPc_V (q := (RX5, TX5, 6)) Z (by omega) (eT ht) rfl) rfl rfl hl.1 rfl (lv_room (Nat.le_of_ble_eq_true rfl)) dX5_takeTombstone_54 ⟨Nat.le_of_ble_eq_true rfl, Nat.le_of_ble_eq_true rfl⟩) Z.2.2.2.2 (fun _ _ h => h) (fun _ h => h) (fun u_6 T9 H1 locs1 hT9 hvm hw hB hz hk9 hS => ?_)
      subst hw
      have Z : wZ G (putT σ t k sp ma) (μ) o s H1 locs1 := wZ_callP Z hB hT9 hS
      clear hB hT9 hS hk9 hz hvm T9
      revert Z; generalize H1 = H; generalize locs1 = locs; intro Z
      refine W.widen (k := 0) (n := 0) (by decide) (by decide) ?_
      rw [hQ]
      have q9 : (takT σ t k sp ma : cS) = putT σ t k sp ma := by first | (simp [takT, betT, c_1, c_2]; done) | (simp [takT, betT, c_1, c_2]; omega) | (simp [takT, betT, ← Int32.not_le, c_1, c_2]; done) | rfl
      rw [← q9] at Z
      exact W.vret S.1 S.2.1 hret (fun _ hT9 hW => ⟨⟨(takT σ t k sp ma, μ), rfl, rfl, wZ_P Z hT9 hW⟩, Z.2.2.2.2.F hT9⟩) Z.2.2.2.2.2.2 dX5_takeTombstone_57
  · skip
    refine lv_iload_n S.1 S.2.1 dX5_takeTombstone_10 rfl (lv_at hl 3 rfl) ?_
    refine lv_aload_n S.1 S.2.1 dX5_takeTombstone_11 rfl (lv_at hl 0 rfl) ?_
    refine r_get (C := RX5) (T := TX5) (N := 6) (ci := 5) S Z (by omega) (eT ht) rfl i_X5_takeTombstone_X5 5 (by decide) m_X5_takeTombstone_f24 rfl (v := .ref (gA G (15 + 6 * t + 5))) rfl dX5_takeTombstone_12 ?_
    refine lv_iload_n S.1 S.2.1 dX5_takeTombstone_15 rfl (lv_at hl 1 rfl) ?_
    refine r_ialdC S Z (n := 92) (pB ht (by decide) (by decide)) (by omega) (by decide) dX5_takeTombstone_16 ?_
    refine lv_icmp_le (tgt := 24) S.1 S.2.1 dX5_takeTombstone_17 (by decide) (fun c_7 => ?_) (fun c_7 => ?_)
    · skip
      refine lv_iconst (v := nI 0) S.1 S.2.1 dX5_takeTombstone_24 (by decide) ?_
      refine lv_goto (tgt := 43) S.1 S.2.1 dX5_takeTombstone_25 (by decide) ?_
      refine lv_istore (lv' := [(4, .int (nI 0)), (0, .ref (gA G (15 + 6 * t))), (1, .int (nI k)), (2, .int (sp)), (3, .int (ma))]) S.1 S.2.1 dX5_takeTombstone_43 hl (by decide) rfl (fun ls hl => ?_)
      refine lv_iload S.1 S.2.1 dX5_takeTombstone_45 (lv_at hl 0 rfl) ?_
      refine r_if_eqN S (tgt := 57) (by decide) dX5_takeTombstone_47 (by decide) (fun c_8 => ?_) (fun c_8 => absurd c_8 (by decide))
      rw [hQ]
      have q9 : (takT σ t k sp ma : cS) = σ := by first | (simp [takT, betT, c_1, c_7]; done) | (simp [takT, betT, c_1, c_7]; omega) | (simp [takT, betT, ← Int32.not_le, c_1, c_7]; done) | (simp [takT, betT, eq_true c_1, c_7]; done) | rfl
      rw [← q9] at Z
      exact W.vret S.1 S.2.1 hret (fun _ hT9 hW => ⟨⟨(takT σ t k sp ma, μ), rfl, rfl, wZ_P Z hT9 hW⟩, Z.2.2.2.2.F hT9⟩) Z.2.2.2.2.2.2 dX5_takeTombstone_57
    · skip
      refine lv_iconst (v := nI 1) S.1 S.2.1 dX5_takeTombstone_20 (by decide) ?_
      refine lv_goto (tgt := 43) S.1 S.2.1 dX5_takeTombstone_21 (by decide) ?_
      refine lv_istore (lv' := [(4, .int (nI 1)), (0, .ref (gA G (15 + 6 * t))), (1, .int (nI k)), (2, .int (sp)), (3, .int (ma))]) S.1 S.2.1 dX5_takeTombstone_43 hl (by decide) rfl (fun ls hl => ?_)
      refine lv_iload S.1 S.2.1 dX5_takeTombstone_45 (lv_at hl 0 rfl) ?_
      refine r_if_eqN S (tgt := 57) (by decide) dX5_takeTombstone_47 (by decide) (fun c_9 => absurd c_9 (by decide)) (fun c_9 => ?_)
      refine lv_aload_n S.1 S.2.1 dX5_takeTombstone_50 rfl (lv_at hl 1 rfl) ?_
      refine lv_iload_n S.1 S.2.1 dX5_takeTombstone_51 rfl (lv_at hl 2 rfl) ?_
      refine lv_iload_n S.1 S.2.1 dX5_takeTombstone_52 rfl (lv_at hl 3 rfl) ?_
      refine lv_iload_n S.1 S.2.1 dX5_takeTombstone_53 rfl (lv_at hl 4 rfl) ?_
      refine va_callv (va_runV (As := [.int (nI k), .int (sp), .int (ma)]) (rest := []) S (k_X5_putTombstone l G σ μ o t k sp ma ht (by omega)) (cwV 3 S.2.2.2.2 gX5_takeTombstone_X5_putTombstone rfl rfl rfl ⟨rfl, hy_X5_putTombstone⟩ ⟨Nat.le_of_ble_eq_true rfl, Nat.le_of_ble_eq_true rfl⟩) (wPc_V (q := (RX5, TX5, 6)) Z (by omega) (eT ht) rfl) rfl rfl hl.1 rfl (lv_room (Nat.le_of_ble_eq_true rfl)) dX5_takeTombstone_54 ⟨Nat.le_of_ble_eq_true rfl, Nat.le_of_ble_eq_true rfl⟩) Z.2.2.2.2 (fun _ _ h => h) (fun _ h => h) (fun u_11 T9 H1 locs1 hT9 hvm hw hB hz hk9 hS => ?_)
      subst hw
      have Z : wZ G (putT σ t k sp ma) (μ) o s H1 locs1 := wZ_callP Z hB hT9 hS
      clear hB hT9 hS hk9 hz hvm T9
      revert Z; generalize H1 = H; generalize locs1 = locs; intro Z
      refine W.widen (k := 0) (n := 0) (by decide) (by decide) ?_
      rw [hQ]
      have q9 : (takT σ t k sp ma : cS) = putT σ t k sp ma := by first | (simp [takT, betT, c_1, c_7]; done) | (simp [takT, betT, c_1, c_7]; omega) | (simp [takT, betT, ← Int32.not_le, c_1, c_7]; done) | (simp [takT, betT, eq_true c_1, c_7]; done) | rfl
      rw [← q9] at Z
      exact W.vret S.1 S.2.1 hret (fun _ hT9 hW => ⟨⟨(takT σ t k sp ma, μ), rfl, rfl, wZ_P Z hT9 hW⟩, Z.2.2.2.2.F hT9⟩) Z.2.2.2.2.2.2 dX5_takeTombstone_57

theorem i_X5_takeTombstoneFrom_X5 : ∀ w ∈ wsX50, w ∈ wsX5_takeTombstoneFrom := by decide +kernel
theorem m_X5_takeTombstoneFrom_f21 : Cond.fieldLink RX5 21 "WideCell$Table" "burials" "[I" ∈ wsX5_takeTombstoneFrom := by decide +kernel
theorem m_X5_takeTombstoneFrom_f24 : Cond.fieldLink RX5 24 "WideCell$Table" "madeAts" "[I" ∈ wsX5_takeTombstoneFrom := by decide +kernel
abbrev rm_k_X5_takeTombstoneFrom : Room := { frames := 2, cells := 0, slots := 0, locals := 47 }
set_option maxHeartbeats 4000000 in
set_option maxRecDepth 100000 in
theorem k_X5_takeTombstoneFrom (l : Launch) (G : wG) (σ : cS) (μ : mS) (o : Nat → Int64) (t : Nat) (t2 : Nat) (k : Nat) (ht : t < 4) (ht2 : t2 < 4) (hk : k < 92) : Met l yX5_takeTombstoneFrom wsX5_takeTombstoneFrom rm_k_X5_takeTombstoneFrom (wPc G σ μ o [.ref (gA G (15 + 6 * t)), .ref (gA G (15 + 6 * t2)), .int (nI k)]) (va_Qv (fun u : cS × mS => u = (takF σ t t2 k, μ)) (fun u t => wI G u.1 u.2 o t) (gP G)) 0 0 (gP G) := by
  refine Met.ofW (cc := cX5_takeTombstoneFrom) (maxL := 3) (ret := none) (by decide) rfl ?_
  intro p e s m args below meth c s₁ B hml hv
  obtain ⟨hargs, hI⟩ := hv
  have S : CallFix p m c cX5_takeTombstoneFrom 3 s args wsX5_takeTombstoneFrom RX5 := ⟨B.exec, B.bytes, hml, findClass_of_methodNamed B.named, atoms_spec (ws := wsX5_takeTombstoneFrom) B.pre⟩
  have hret := B.returns
  have hlocks := B.notSynchronized
  have Z := wZ_0 hI
  clear hI
  obtain ⟨Q, hQ⟩ : ∃ Q, Q = MQ below (va_Qv (fun u : cS × mS => u = (takF σ t t2 k, μ)) (fun u t => wI G u.1 u.2 o t) (gP G)) args s 0 0 (gP G) := ⟨_, rfl⟩
  rw [← hQ]
  have hl := lv_entry [.ref (gA G (15 + 6 * t)), .ref (gA G (15 + 6 * t2)), .int (nI k)] (n := 3) (Nat.le_of_ble_eq_true rfl)
  rw [show entryFrame m args 3 = entryFrame m ([.ref (gA G (15 + 6 * t)), .ref (gA G (15 + 6 * t2)), .int (nI k)] : List Value).toArray 3 from by rw [hargs], lg_entry_eq]
  generalize (lg_sl [.ref (gA G (15 + 6 * t)), .ref (gA G (15 + 6 * t2)), .int (nI k)] ++ List.replicate (3 - (lg_sl [.ref (gA G (15 + 6 * t)), .ref (gA G (15 + 6 * t2)), .int (nI k)]).length) Slot.unset).toArray = ls at hl ⊢
  have hl : lv_has ls 3 [(0, .ref (gA G (15 + 6 * t))), (1, .ref (gA G (15 + 6 * t2))), (2, .int (nI k))] := hl
  refine lv_aload_n S.1 S.2.1 dX5_takeTombstoneFrom_0 rfl (lv_at hl 0 rfl) ?_
  refine lv_iload_n S.1 S.2.1 dX5_takeTombstoneFrom_1 rfl (lv_at hl 2 rfl) ?_
  refine lv_aload_n S.1 S.2.1 dX5_takeTombstoneFrom_2 rfl (lv_at hl 1 rfl) ?_
  refine r_get (C := RX5) (T := TX5) (N := 6) (ci := 5) S Z (by omega) (eT ht2) rfl i_X5_takeTombstoneFrom_X5 4 (by decide) m_X5_takeTombstoneFrom_f21 rfl (v := .ref (gA G (15 + 6 * t2 + 4))) rfl dX5_takeTombstoneFrom_3 ?_
  refine lv_iload_n S.1 S.2.1 dX5_takeTombstoneFrom_6 rfl (lv_at hl 2 rfl) ?_
  refine r_ialdC S Z (n := 92) (pB ht2 (by decide) (by decide)) (by omega) (by decide) dX5_takeTombstoneFrom_7 ?_
  refine lv_aload_n S.1 S.2.1 dX5_takeTombstoneFrom_8 rfl (lv_at hl 1 rfl) ?_
  refine r_get (C := RX5) (T := TX5) (N := 6) (ci := 5) S Z (by omega) (eT ht2) rfl i_X5_takeTombstoneFrom_X5 5 (by decide) m_X5_takeTombstoneFrom_f24 rfl (v := .ref (gA G (15 + 6 * t2 + 5))) rfl dX5_takeTombstoneFrom_9 ?_
  refine lv_iload_n S.1 S.2.1 dX5_takeTombstoneFrom_12 rfl (lv_at hl 2 rfl) ?_
  refine r_ialdC S Z (n := 92) (pB ht2 (by decide) (by decide)) (by omega) (by decide) dX5_takeTombstoneFrom_13 ?_
  refine va_callv (va_runV (As := [.int (nI k), .int (cI σ (15 + 6 * t2 + 4) k), .int (cI σ (15 + 6 * t2 + 5) k)]) (rest := []) S (k_X5_takeTombstone l G σ μ o t k (cI σ (15 + 6 * t2 + 4) k) (cI σ (15 + 6 * t2 + 5) k) ht (by omega)) (cwV 3 S.2.2.2.2 gX5_takeTombstoneFrom_X5_takeTombstone rfl rfl rfl ⟨rfl, hy_X5_takeTombstone⟩ ⟨Nat.le_of_ble_eq_true rfl, Nat.le_of_ble_eq_true rfl⟩) (wPc_V (q := (RX5, TX5, 6)) Z (by omega) (eT ht) rfl) rfl rfl hl.1 rfl (lv_room (Nat.le_of_ble_eq_true rfl)) dX5_takeTombstoneFrom_14 ⟨Nat.le_of_ble_eq_true rfl, Nat.le_of_ble_eq_true rfl⟩) Z.2.2.2.2 (fun _ _ h => h) (fun _ h => h) (fun u_2 T9 H1 locs1 hT9 hvm hw hB hz hk9 hS => ?_)
  subst hw
  have Z : wZ G (takT σ t k (cI σ (15 + 6 * t2 + 4) k) (cI σ (15 + 6 * t2 + 5) k)) (μ) o s H1 locs1 := wZ_callP Z hB hT9 hS
  clear hB hT9 hS hk9 hz hvm T9
  revert Z; generalize H1 = H; generalize locs1 = locs; intro Z
  refine W.widen (k := 0) (n := 0) (by decide) (by decide) ?_
  rw [hQ]
  have q9 : (takF σ t t2 k : cS) = takT σ t k (cI σ (15 + 6 * t2 + 4) k) (cI σ (15 + 6 * t2 + 5) k) := rfl
  rw [← q9] at Z
  exact W.vret S.1 S.2.1 hret (fun _ hT9 hW => ⟨⟨(takF σ t t2 k, μ), rfl, rfl, wZ_P Z hT9 hW⟩, Z.2.2.2.2.F hT9⟩) Z.2.2.2.2.2.2 dX5_takeTombstoneFrom_17

theorem m_X5_takeCellFrom_s53 : Cond.static yX7_cellAt ∈ wsX5_takeCellFrom := by decide +kernel
theorem m_X5_takeCellFrom_zRX7 : Cond.initialized RX7 ∈ wsX5_takeCellFrom := by decide +kernel
theorem i_X5_takeCellFrom_X5 : ∀ w ∈ wsX50, w ∈ wsX5_takeCellFrom := by decide +kernel
theorem m_X5_takeCellFrom_f15 : Cond.fieldLink RX5 15 "WideCell$Table" "values" "[I" ∈ wsX5_takeCellFrom := by decide +kernel
theorem m_X5_takeCellFrom_f9 : Cond.fieldLink RX5 9 "WideCell$Table" "stamps" "[I" ∈ wsX5_takeCellFrom := by decide +kernel
theorem m_X5_takeCellFrom_f18 : Cond.fieldLink RX5 18 "WideCell$Table" "ends" "[I" ∈ wsX5_takeCellFrom := by decide +kernel
abbrev rm_k_X5_takeCellFrom : Room := { frames := 3, cells := 0, slots := 0, locals := 69 }
set_option maxHeartbeats 4000000 in
set_option maxRecDepth 100000 in
theorem k_X5_takeCellFrom (l : Launch) (G : wG) (σ : cS) (μ : mS) (o : Nat → Int64) (t : Nat) (t2 : Nat) (row : Nat) (col : Nat) (ht : t < 4) (ht2 : t2 < 4) (hrow : row < 16) (hcol : col < 4) : Met l yX5_takeCellFrom wsX5_takeCellFrom rm_k_X5_takeCellFrom (wPc G σ μ o [.ref (gA G (15 + 6 * t)), .ref (gA G (15 + 6 * t2)), .int (nI row), .int (nI col)]) (va_Qv (fun u : cS × mS => u = (tkC σ t t2 row col, μ)) (fun u t => wI G u.1 u.2 o t) (gP G)) 0 0 (gP G) := by
  refine Met.ofW (cc := cX5_takeCellFrom) (maxL := 7) (ret := none) (by decide) rfl ?_
  intro p e s m args below meth c s₁ B hml hv
  obtain ⟨hargs, hI⟩ := hv
  have S : CallFix p m c cX5_takeCellFrom 7 s args wsX5_takeCellFrom RX5 := ⟨B.exec, B.bytes, hml, findClass_of_methodNamed B.named, atoms_spec (ws := wsX5_takeCellFrom) B.pre⟩
  have hret := B.returns
  have hlocks := B.notSynchronized
  have Z := wZ_0 hI
  clear hI
  obtain ⟨Q, hQ⟩ : ∃ Q, Q = MQ below (va_Qv (fun u : cS × mS => u = (tkC σ t t2 row col, μ)) (fun u t => wI G u.1 u.2 o t) (gP G)) args s 0 0 (gP G) := ⟨_, rfl⟩
  rw [← hQ]
  have hl := lv_entry [.ref (gA G (15 + 6 * t)), .ref (gA G (15 + 6 * t2)), .int (nI row), .int (nI col)] (n := 7) (Nat.le_of_ble_eq_true rfl)
  rw [show entryFrame m args 7 = entryFrame m ([.ref (gA G (15 + 6 * t)), .ref (gA G (15 + 6 * t2)), .int (nI row), .int (nI col)] : List Value).toArray 7 from by rw [hargs], lg_entry_eq]
  generalize (lg_sl [.ref (gA G (15 + 6 * t)), .ref (gA G (15 + 6 * t2)), .int (nI row), .int (nI col)] ++ List.replicate (7 - (lg_sl [.ref (gA G (15 + 6 * t)), .ref (gA G (15 + 6 * t2)), .int (nI row), .int (nI col)]).length) Slot.unset).toArray = ls at hl ⊢
  have hl : lv_has ls 7 [(0, .ref (gA G (15 + 6 * t))), (1, .ref (gA G (15 + 6 * t2))), (2, .int (nI row)), (3, .int (nI col))] := hl
  refine lv_iload_n S.1 S.2.1 dX5_takeCellFrom_0 rfl (lv_at hl 2 rfl) ?_
  refine lv_iload_n S.1 S.2.1 dX5_takeCellFrom_1 rfl (lv_at hl 3 rfl) ?_
  refine vp_callSi (va_runSN (As := [.int (nI row), .int (nI col)]) (rest := []) S (k_X7_cellAt l G σ μ o row col ) ⟨va_cnB 2 S.2.2.2.2 gX5_takeCellFrom_X7_cellAt_n53 rfl rfl rfl (Z.2.1.2.1 _ n_RX5_53) (S.2.2.2.2 _ m_X5_takeCellFrom_zRX7) hy_X7_cellAt ⟨Nat.le_of_ble_eq_true rfl, Nat.le_of_ble_eq_true rfl⟩, S.2.2.2.2 _ m_X5_takeCellFrom_s53, trivial⟩ (wPc_S Z) rfl rfl hl.1 rfl (lv_room (Nat.le_of_ble_eq_true rfl)) dX5_takeCellFrom_2 ⟨Nat.le_of_ble_eq_true rfl, Nat.le_of_ble_eq_true rfl⟩).run (fun r_1 h_2 => ?_)
  subst h_2
  refine lv_istore (lv' := [(4, .int (nI (row * 4 + col))), (0, .ref (gA G (15 + 6 * t))), (1, .ref (gA G (15 + 6 * t2))), (2, .int (nI row)), (3, .int (nI col))]) S.1 S.2.1 dX5_takeCellFrom_5 hl (by decide) rfl (fun ls hl => ?_)
  refine lv_aload_n S.1 S.2.1 dX5_takeCellFrom_7 rfl (lv_at hl 1 rfl) ?_
  refine lv_iload S.1 S.2.1 dX5_takeCellFrom_8 (lv_at hl 0 rfl) ?_
  refine lv_aload_n S.1 S.2.1 dX5_takeCellFrom_10 rfl (lv_at hl 2 rfl) ?_
  refine r_get (C := RX5) (T := TX5) (N := 6) (ci := 5) S Z (by omega) (eT ht2) rfl i_X5_takeCellFrom_X5 2 (by decide) m_X5_takeCellFrom_f15 rfl (v := .ref (gA G (15 + 6 * t2 + 2))) rfl dX5_takeCellFrom_11 ?_
  refine lv_iload S.1 S.2.1 dX5_takeCellFrom_14 (lv_at hl 0 rfl) ?_
  refine r_ialdC S Z (n := 64) (pT ht2 (by decide) (by decide)) (by omega) (by decide) dX5_takeCellFrom_16 ?_
  refine lv_aload_n S.1 S.2.1 dX5_takeCellFrom_17 rfl (lv_at hl 2 rfl) ?_
  refine r_get (C := RX5) (T := TX5) (N := 6) (ci := 5) S Z (by omega) (eT ht2) rfl i_X5_takeCellFrom_X5 1 (by decide) m_X5_takeCellFrom_f9 rfl (v := .ref (gA G (15 + 6 * t2 + 1))) rfl dX5_takeCellFrom_18 ?_
  refine lv_iload S.1 S.2.1 dX5_takeCellFrom_21 (lv_at hl 0 rfl) ?_
  refine r_ialdC S Z (n := 64) (pT ht2 (by decide) (by decide)) (by omega) (by decide) dX5_takeCellFrom_23 ?_
  refine lv_aload_n S.1 S.2.1 dX5_takeCellFrom_24 rfl (lv_at hl 2 rfl) ?_
  refine r_get (C := RX5) (T := TX5) (N := 6) (ci := 5) S Z (by omega) (eT ht2) rfl i_X5_takeCellFrom_X5 3 (by decide) m_X5_takeCellFrom_f18 rfl (v := .ref (gA G (15 + 6 * t2 + 3))) rfl dX5_takeCellFrom_25 ?_
  refine lv_iload S.1 S.2.1 dX5_takeCellFrom_28 (lv_at hl 0 rfl) ?_
  refine r_ialdC S Z (n := 64) (pT ht2 (by decide) (by decide)) (by omega) (by decide) dX5_takeCellFrom_30 ?_
  refine va_callv (va_runV (As := [.int (nI (row * 4 + col)), .int (cI σ (15 + 6 * t2 + 2) (row * 4 + col)), .int (cI σ (15 + 6 * t2 + 1) (row * 4 + col)), .int (cI σ (15 + 6 * t2 + 3) (row * 4 + col))]) (rest := []) S (k_X5_takeEntry l G σ μ o t (row * 4 + col) (cI σ (15 + 6 * t2 + 2) (row * 4 + col)) (cI σ (15 + 6 * t2 + 1) (row * 4 + col)) (cI σ (15 + 6 * t2 + 3) (row * 4 + col)) ht (by omega)) (cwV 4 S.2.2.2.2 gX5_takeCellFrom_X5_takeEntry rfl rfl rfl ⟨rfl, hy_X5_takeEntry⟩ ⟨Nat.le_of_ble_eq_true rfl, Nat.le_of_ble_eq_true rfl⟩) (wPc_V (q := (RX5, TX5, 6)) Z (by omega) (eT ht) rfl) rfl rfl hl.1 rfl (lv_room (Nat.le_of_ble_eq_true rfl)) dX5_takeCellFrom_31 ⟨Nat.le_of_ble_eq_true rfl, Nat.le_of_ble_eq_true rfl⟩) Z.2.2.2.2 (fun _ _ h => h) (fun _ h => h) (fun u_4 T9 H1 locs1 hT9 hvm hw hB hz hk9 hS => ?_)
  subst hw
  have Z : wZ G (takE σ t (row * 4 + col) (cI σ (15 + 6 * t2 + 2) (row * 4 + col)) (cI σ (15 + 6 * t2 + 1) (row * 4 + col)) (cI σ (15 + 6 * t2 + 3) (row * 4 + col))) (μ) o s H1 locs1 := wZ_callP Z hB hT9 hS
  clear hB hT9 hS hk9 hz hvm T9
  revert Z; generalize H1 = H; generalize locs1 = locs; intro Z
  refine W.widen (k := 0) (n := 0) (by decide) (by decide) ?_
  refine lv_iconst (v := nI 0) S.1 S.2.1 dX5_takeCellFrom_34 (by decide) ?_
  refine lv_istore (lv' := [(5, .int (nI 0)), (4, .int (nI (row * 4 + col))), (0, .ref (gA G (15 + 6 * t))), (1, .ref (gA G (15 + 6 * t2))), (2, .int (nI row)), (3, .int (nI col))]) S.1 S.2.1 dX5_takeCellFrom_35 hl (by decide) rfl (fun ls hl => ?_)
  have L_37 : ∀ (n : Nat) (i : Nat) (hi : i ≤ 11) (hn : 11 - i < n) (H : Heap) (locs : List Loc) (Z : wZ G (tkCn σ t t2 row col i) (μ) o s H locs) (ls : Array Slot) (hl : lv_has ls 7 [(0, .ref (gA G (15 + 6 * t))), (1, .ref (gA G (15 + 6 * t2))), (2, .int (nI row)), (3, .int (nI col)), (5, .int (nI i))]), W p l e (headSpec wsX5_takeCellFrom rm_k_X5_takeCellFrom).room s m args below meth c H locs 0 0 Q (F0 m 37 ls []) := by
    intro n
    induction n with
    | zero => intro i hi hn; omega
    | succ n ih_37 =>
      intro i hi hn H locs Z ls hl
      refine lv_iload S.1 S.2.1 dX5_takeCellFrom_37 (lv_at hl 4 rfl) ?_
      refine lv_bipush (v := nI 11) S.1 S.2.1 dX5_takeCellFrom_39 (by decide) ?_
      refine r_icmpN_ge S (tgt := 73) (by omega) (by omega) dX5_takeCellFrom_41 (by decide) (fun c_5 => ?_) (fun c_5 => ?_)
      · skip
        obtain rfl : i = 11 := by omega
        rw [hQ]
        have q9 : (tkC σ t t2 row col : cS) = tkCn σ t t2 row col 11 := rfl
        rw [← q9] at Z
        exact W.vret S.1 S.2.1 hret (fun _ hT9 hW => ⟨⟨(tkC σ t t2 row col, μ), rfl, rfl, wZ_P Z hT9 hW⟩, Z.2.2.2.2.F hT9⟩) Z.2.2.2.2.2.2 dX5_takeCellFrom_73
      · skip
        refine lv_aload_n S.1 S.2.1 dX5_takeCellFrom_44 rfl (lv_at hl 0 rfl) ?_
        refine lv_iload_n S.1 S.2.1 dX5_takeCellFrom_45 rfl (lv_at hl 2 rfl) ?_
        refine lv_iload_n S.1 S.2.1 dX5_takeCellFrom_46 rfl (lv_at hl 3 rfl) ?_
        refine lv_iload S.1 S.2.1 dX5_takeCellFrom_47 (lv_at hl 4 rfl) ?_
        refine vp_callSi (va_runV (As := [.int (nI row), .int (nI col), .int (nI i)]) (rest := []) S (k_X5_coverPlace l G (tkCn σ t t2 row col i) μ o t row col i ht (by omega) (by omega) (by omega)) (cwV 3 S.2.2.2.2 gX5_takeCellFrom_X5_coverPlace rfl rfl rfl ⟨rfl, hy_X5_coverPlace⟩ ⟨Nat.le_of_ble_eq_true rfl, Nat.le_of_ble_eq_true rfl⟩) (wPc_V (q := (RX5, TX5, 6)) Z (by omega) (eT ht) rfl) rfl rfl hl.1 rfl (lv_room (Nat.le_of_ble_eq_true rfl)) dX5_takeCellFrom_49 ⟨Nat.le_of_ble_eq_true rfl, Nat.le_of_ble_eq_true rfl⟩).run (fun r_6 h_7 => ?_)
        rcases h_7 with ⟨q0_8, rfl⟩ | ⟨pl_10, q0_8, q1_11, rfl⟩
        · skip
          refine lv_istore (lv' := [(6, .int (-1)), (0, .ref (gA G (15 + 6 * t))), (1, .ref (gA G (15 + 6 * t2))), (2, .int (nI row)), (3, .int (nI col)), (5, .int (nI i))]) S.1 S.2.1 dX5_takeCellFrom_52 hl (by decide) rfl (fun ls hl => ?_)
          refine lv_iload S.1 S.2.1 dX5_takeCellFrom_54 (lv_at hl 0 rfl) ?_
          refine lv_iconst (v := -1) S.1 S.2.1 dX5_takeCellFrom_56 (by decide) ?_
          refine lv_icmp_eq (tgt := 67) S.1 S.2.1 dX5_takeCellFrom_57 (by decide) (fun c_12 => ?_) (fun c_12 => absurd rfl c_12)
          refine lv_iinc (v := nI (i + 1)) (lv' := [(5, .int (nI (i + 1))), (6, .int (-1)), (0, .ref (gA G (15 + 6 * t))), (1, .ref (gA G (15 + 6 * t2))), (2, .int (nI row)), (3, .int (nI col))]) S.1 S.2.1 dX5_takeCellFrom_67 hl (k := 5) rfl (nI_inc rfl) (by decide) rfl (fun ls hl => ?_)
          refine lv_goto (tgt := 37) S.1 S.2.1 dX5_takeCellFrom_70 (by decide) ?_
          have q9 : (tkCn σ t t2 row col (i + 1) : cS) = tkCn σ t t2 row col i := by first | (simp [tkC, tkCn, hi, c_5, q0_8]; done) | (simp [tkC, tkCn, hi, c_5, q0_8]; omega) | (simp [tkC, tkCn, ← Int32.not_le, hi, c_5, q0_8]; done)
          rw [← q9] at Z
          exact ih_37 (i + 1) (by omega) (by omega) _ _ Z ls (lv_sub hl [2, 3, 4, 5, 0] rfl)
        · skip
          refine lv_istore (lv' := [(6, .int (nI pl_10)), (0, .ref (gA G (15 + 6 * t))), (1, .ref (gA G (15 + 6 * t2))), (2, .int (nI row)), (3, .int (nI col)), (5, .int (nI i))]) S.1 S.2.1 dX5_takeCellFrom_52 hl (by decide) rfl (fun ls hl => ?_)
          refine lv_iload S.1 S.2.1 dX5_takeCellFrom_54 (lv_at hl 0 rfl) ?_
          refine lv_iconst (v := -1) S.1 S.2.1 dX5_takeCellFrom_56 (by decide) ?_
          refine lv_icmp_eq (tgt := 67) S.1 S.2.1 dX5_takeCellFrom_57 (by decide) (fun c_13 => absurd c_13 (nI_nm1 (by omega))) (fun c_13 => ?_)
          refine lv_aload_n S.1 S.2.1 dX5_takeCellFrom_60 rfl (lv_at hl 1 rfl) ?_
          refine lv_aload_n S.1 S.2.1 dX5_takeCellFrom_61 rfl (lv_at hl 2 rfl) ?_
          refine lv_iload S.1 S.2.1 dX5_takeCellFrom_62 (lv_at hl 0 rfl) ?_
          refine va_callv (va_runV (As := [.ref (gA G (15 + 6 * t2)), .int (nI pl_10)]) (rest := []) S (k_X5_takeTombstoneFrom l G (tkCn σ t t2 row col i) μ o t t2 pl_10 ht ht2 (by omega)) (cwV 2 S.2.2.2.2 gX5_takeCellFrom_X5_takeTombstoneFrom rfl rfl rfl ⟨rfl, hy_X5_takeTombstoneFrom⟩ ⟨Nat.le_of_ble_eq_true rfl, Nat.le_of_ble_eq_true rfl⟩) (wPc_V (q := (RX5, TX5, 6)) Z (by omega) (eT ht) rfl) rfl rfl hl.1 rfl (lv_room (Nat.le_of_ble_eq_true rfl)) dX5_takeCellFrom_64 ⟨Nat.le_of_ble_eq_true rfl, Nat.le_of_ble_eq_true rfl⟩) Z.2.2.2.2 (fun _ _ h => h) (fun _ h => h) (fun u_15 T9 H1 locs1 hT9 hvm hw hB hz hk9 hS => ?_)
          subst hw
          have Z : wZ G (takF (tkCn σ t t2 row col i) t t2 pl_10) (μ) o s H1 locs1 := wZ_callP Z hB hT9 hS
          clear hB hT9 hS hk9 hz hvm T9
          revert Z; generalize H1 = H; generalize locs1 = locs; intro Z
          refine W.widen (k := 0) (n := 0) (by decide) (by decide) ?_
          refine lv_iinc (v := nI (i + 1)) (lv' := [(5, .int (nI (i + 1))), (6, .int (nI pl_10)), (0, .ref (gA G (15 + 6 * t))), (1, .ref (gA G (15 + 6 * t2))), (2, .int (nI row)), (3, .int (nI col))]) S.1 S.2.1 dX5_takeCellFrom_67 hl (k := 5) rfl (nI_inc rfl) (by decide) rfl (fun ls hl => ?_)
          refine lv_goto (tgt := 37) S.1 S.2.1 dX5_takeCellFrom_70 (by decide) ?_
          have q9 : (tkCn σ t t2 row col (i + 1) : cS) = takF (tkCn σ t t2 row col i) t t2 pl_10 := by first | (simp [tkC, tkCn, hi, c_5, q0_8, q1_11]; done) | (simp [tkC, tkCn, hi, c_5, q0_8, q1_11]; omega) | (simp [tkC, tkCn, ← Int32.not_le, hi, c_5, q0_8, q1_11]; done)
          rw [← q9] at Z
          exact ih_37 (i + 1) (by omega) (by omega) _ _ Z ls (lv_sub hl [2, 3, 4, 5, 0] rfl)
  have q9 : (tkCn σ t t2 row col 0 : cS) = takE σ t (row * 4 + col) (cI σ (15 + 6 * t2 + 2) (row * 4 + col)) (cI σ (15 + 6 * t2 + 1) (row * 4 + col)) (cI σ (15 + 6 * t2 + 3) (row * 4 + col)) := by first | (simp [tkC, tkCn]; done) | (simp [tkC, tkCn]; omega) | (simp [tkC, tkCn, ← Int32.not_le]; done)
  rw [← q9] at Z
  exact L_37 (11 - 0 + 1) 0 (by omega) (by omega) _ _ Z ls (lv_sub hl [2, 3, 4, 5, 0] rfl)

abbrev rm_k_X5_takeRowFrom : Room := { frames := 4, cells := 0, slots := 0, locals := 95 }
set_option maxHeartbeats 4000000 in
set_option maxRecDepth 100000 in
theorem k_X5_takeRowFrom (l : Launch) (G : wG) (σ : cS) (μ : mS) (o : Nat → Int64) (t : Nat) (t2 : Nat) (row : Nat) (ht : t < 4) (ht2 : t2 < 4) (hrow : row < 16) : Met l yX5_takeRowFrom wsX5_takeRowFrom rm_k_X5_takeRowFrom (wPc G σ μ o [.ref (gA G (15 + 6 * t)), .ref (gA G (15 + 6 * t2)), .int (nI row)]) (va_Qv (fun u : cS × mS => u = (tkR σ t t2 row, μ)) (fun u t => wI G u.1 u.2 o t) (gP G)) 0 0 (gP G) := by
  refine Met.ofW (cc := cX5_takeRowFrom) (maxL := 4) (ret := none) (by decide) rfl ?_
  intro p e s m args below meth c s₁ B hml hv
  obtain ⟨hargs, hI⟩ := hv
  have S : CallFix p m c cX5_takeRowFrom 4 s args wsX5_takeRowFrom RX5 := ⟨B.exec, B.bytes, hml, findClass_of_methodNamed B.named, atoms_spec (ws := wsX5_takeRowFrom) B.pre⟩
  have hret := B.returns
  have hlocks := B.notSynchronized
  have Z := wZ_0 hI
  clear hI
  obtain ⟨Q, hQ⟩ : ∃ Q, Q = MQ below (va_Qv (fun u : cS × mS => u = (tkR σ t t2 row, μ)) (fun u t => wI G u.1 u.2 o t) (gP G)) args s 0 0 (gP G) := ⟨_, rfl⟩
  rw [← hQ]
  have hl := lv_entry [.ref (gA G (15 + 6 * t)), .ref (gA G (15 + 6 * t2)), .int (nI row)] (n := 4) (Nat.le_of_ble_eq_true rfl)
  rw [show entryFrame m args 4 = entryFrame m ([.ref (gA G (15 + 6 * t)), .ref (gA G (15 + 6 * t2)), .int (nI row)] : List Value).toArray 4 from by rw [hargs], lg_entry_eq]
  generalize (lg_sl [.ref (gA G (15 + 6 * t)), .ref (gA G (15 + 6 * t2)), .int (nI row)] ++ List.replicate (4 - (lg_sl [.ref (gA G (15 + 6 * t)), .ref (gA G (15 + 6 * t2)), .int (nI row)]).length) Slot.unset).toArray = ls at hl ⊢
  have hl : lv_has ls 4 [(0, .ref (gA G (15 + 6 * t))), (1, .ref (gA G (15 + 6 * t2))), (2, .int (nI row))] := hl
  refine lv_iconst (v := nI 0) S.1 S.2.1 dX5_takeRowFrom_0 (by decide) ?_
  refine lv_istore_n (lv' := [(3, .int (nI 0)), (0, .ref (gA G (15 + 6 * t))), (1, .ref (gA G (15 + 6 * t2))), (2, .int (nI row))]) S.1 S.2.1 dX5_takeRowFrom_1 rfl hl (by decide) rfl (fun ls hl => ?_)
  have L_2 : ∀ (n : Nat) (i : Nat) (hi : i ≤ 4) (hn : 4 - i < n) (H : Heap) (locs : List Loc) (Z : wZ G (tkRn σ t t2 row i) (μ) o s H locs) (ls : Array Slot) (hl : lv_has ls 4 [(0, .ref (gA G (15 + 6 * t))), (1, .ref (gA G (15 + 6 * t2))), (2, .int (nI row)), (3, .int (nI i))]), W p l e (headSpec wsX5_takeRowFrom rm_k_X5_takeRowFrom).room s m args below meth c H locs 0 0 Q (F0 m 2 ls []) := by
    intro n
    induction n with
    | zero => intro i hi hn; omega
    | succ n ih_2 =>
      intro i hi hn H locs Z ls hl
      refine lv_iload_n S.1 S.2.1 dX5_takeRowFrom_2 rfl (lv_at hl 3 rfl) ?_
      refine lv_iconst (v := nI 4) S.1 S.2.1 dX5_takeRowFrom_3 (by decide) ?_
      refine r_icmpN_ge S (tgt := 20) (by omega) (by omega) dX5_takeRowFrom_4 (by decide) (fun c_1 => ?_) (fun c_1 => ?_)
      · skip
        obtain rfl : i = 4 := by omega
        rw [hQ]
        have q9 : (tkR σ t t2 row : cS) = tkRn σ t t2 row 4 := rfl
        rw [← q9] at Z
        exact W.vret S.1 S.2.1 hret (fun _ hT9 hW => ⟨⟨(tkR σ t t2 row, μ), rfl, rfl, wZ_P Z hT9 hW⟩, Z.2.2.2.2.F hT9⟩) Z.2.2.2.2.2.2 dX5_takeRowFrom_20
      · skip
        refine lv_aload_n S.1 S.2.1 dX5_takeRowFrom_7 rfl (lv_at hl 0 rfl) ?_
        refine lv_aload_n S.1 S.2.1 dX5_takeRowFrom_8 rfl (lv_at hl 1 rfl) ?_
        refine lv_iload_n S.1 S.2.1 dX5_takeRowFrom_9 rfl (lv_at hl 2 rfl) ?_
        refine lv_iload_n S.1 S.2.1 dX5_takeRowFrom_10 rfl (lv_at hl 3 rfl) ?_
        refine va_callv (va_runV (As := [.ref (gA G (15 + 6 * t2)), .int (nI row), .int (nI i)]) (rest := []) S (k_X5_takeCellFrom l G (tkRn σ t t2 row i) μ o t t2 row i ht ht2 (by omega) (by omega)) (cwV 3 S.2.2.2.2 gX5_takeRowFrom_X5_takeCellFrom rfl rfl rfl ⟨rfl, hy_X5_takeCellFrom⟩ ⟨Nat.le_of_ble_eq_true rfl, Nat.le_of_ble_eq_true rfl⟩) (wPc_V (q := (RX5, TX5, 6)) Z (by omega) (eT ht) rfl) rfl rfl hl.1 rfl (lv_room (Nat.le_of_ble_eq_true rfl)) dX5_takeRowFrom_11 ⟨Nat.le_of_ble_eq_true rfl, Nat.le_of_ble_eq_true rfl⟩) Z.2.2.2.2 (fun _ _ h => h) (fun _ h => h) (fun u_3 T9 H1 locs1 hT9 hvm hw hB hz hk9 hS => ?_)
        subst hw
        have Z : wZ G (tkC (tkRn σ t t2 row i) t t2 row i) (μ) o s H1 locs1 := wZ_callP Z hB hT9 hS
        clear hB hT9 hS hk9 hz hvm T9
        revert Z; generalize H1 = H; generalize locs1 = locs; intro Z
        refine W.widen (k := 0) (n := 0) (by decide) (by decide) ?_
        refine lv_iinc (v := nI (i + 1)) (lv' := [(3, .int (nI (i + 1))), (0, .ref (gA G (15 + 6 * t))), (1, .ref (gA G (15 + 6 * t2))), (2, .int (nI row))]) S.1 S.2.1 dX5_takeRowFrom_14 hl (k := 3) rfl (nI_inc rfl) (by decide) rfl (fun ls hl => ?_)
        refine lv_goto (tgt := 2) S.1 S.2.1 dX5_takeRowFrom_17 (by decide) ?_
        have q9 : (tkRn σ t t2 row (i + 1) : cS) = tkC (tkRn σ t t2 row i) t t2 row i := by first | (simp [tkR, tkRn, hi, c_1]; done) | (simp [tkR, tkRn, hi, c_1]; omega) | (simp [tkR, tkRn, ← Int32.not_le, hi, c_1]; done)
        rw [← q9] at Z
        exact ih_2 (i + 1) (by omega) (by omega) _ _ Z ls (lv_sub hl [1, 2, 3, 0] rfl)
  have q9 : (tkRn σ t t2 row 0 : cS) = σ := by first | (simp [tkR, tkRn]; done) | (simp [tkR, tkRn]; omega) | (simp [tkR, tkRn, ← Int32.not_le]; done)
  rw [← q9] at Z
  exact L_2 (4 - 0 + 1) 0 (by omega) (by omega) _ _ Z ls (lv_sub hl [1, 2, 3, 0] rfl)

abbrev rm_k_X5_dropEntry : Room := { frames := 1, cells := 0, slots := 0, locals := 24 }
set_option maxHeartbeats 4000000 in
set_option maxRecDepth 100000 in
theorem k_X5_dropEntry (l : Launch) (G : wG) (σ : cS) (μ : mS) (o : Nat → Int64) (t : Nat) (k : Nat) (ht : t < 4) (hk : k < 64) : Met l yX5_dropEntry wsX5_dropEntry rm_k_X5_dropEntry (wPc G σ μ o [.ref (gA G (15 + 6 * t)), .int (nI k)]) (va_Qv (fun u : cS × mS => u = (dropE σ t k, μ)) (fun u t => wI G u.1 u.2 o t) (gP G)) 0 0 (gP G) := by
  refine Met.ofW (cc := cX5_dropEntry) (maxL := 2) (ret := none) (by decide) rfl ?_
  intro p e s m args below meth c s₁ B hml hv
  obtain ⟨hargs, hI⟩ := hv
  have S : CallFix p m c cX5_dropEntry 2 s args wsX5_dropEntry RX5 := ⟨B.exec, B.bytes, hml, findClass_of_methodNamed B.named, atoms_spec (ws := wsX5_dropEntry) B.pre⟩
  have hret := B.returns
  have hlocks := B.notSynchronized
  have Z := wZ_0 hI
  clear hI
  obtain ⟨Q, hQ⟩ : ∃ Q, Q = MQ below (va_Qv (fun u : cS × mS => u = (dropE σ t k, μ)) (fun u t => wI G u.1 u.2 o t) (gP G)) args s 0 0 (gP G) := ⟨_, rfl⟩
  rw [← hQ]
  have hl := lv_entry [.ref (gA G (15 + 6 * t)), .int (nI k)] (n := 2) (Nat.le_of_ble_eq_true rfl)
  rw [show entryFrame m args 2 = entryFrame m ([.ref (gA G (15 + 6 * t)), .int (nI k)] : List Value).toArray 2 from by rw [hargs], lg_entry_eq]
  generalize (lg_sl [.ref (gA G (15 + 6 * t)), .int (nI k)] ++ List.replicate (2 - (lg_sl [.ref (gA G (15 + 6 * t)), .int (nI k)]).length) Slot.unset).toArray = ls at hl ⊢
  have hl : lv_has ls 2 [(0, .ref (gA G (15 + 6 * t))), (1, .int (nI k))] := hl
  refine lv_aload_n S.1 S.2.1 dX5_dropEntry_0 rfl (lv_at hl 0 rfl) ?_
  refine lv_iload_n S.1 S.2.1 dX5_dropEntry_1 rfl (lv_at hl 1 rfl) ?_
  refine lv_iconst (v := nI 0) S.1 S.2.1 dX5_dropEntry_2 (by decide) ?_
  refine lv_iconst (v := -1) S.1 S.2.1 dX5_dropEntry_3 (by decide) ?_
  refine lv_iconst (v := nI 0) S.1 S.2.1 dX5_dropEntry_4 (by decide) ?_
  refine va_callv (va_runV (As := [.int (nI k), .int (nI 0), .int (-1), .int (nI 0)]) (rest := []) S (k_X5_putEntry l G σ μ o t k (nI 0) (-1) (nI 0) ht (by omega)) (cwV 4 S.2.2.2.2 gX5_dropEntry_X5_putEntry rfl rfl rfl ⟨rfl, hy_X5_putEntry⟩ ⟨Nat.le_of_ble_eq_true rfl, Nat.le_of_ble_eq_true rfl⟩) (wPc_V (q := (RX5, TX5, 6)) Z (by omega) (eT ht) rfl) rfl rfl hl.1 rfl (lv_room (Nat.le_of_ble_eq_true rfl)) dX5_dropEntry_5 ⟨Nat.le_of_ble_eq_true rfl, Nat.le_of_ble_eq_true rfl⟩) Z.2.2.2.2 (fun _ _ h => h) (fun _ h => h) (fun u_2 T9 H1 locs1 hT9 hvm hw hB hz hk9 hS => ?_)
  subst hw
  have Z : wZ G (putE σ t k (nI 0) (-1) (nI 0)) (μ) o s H1 locs1 := wZ_callP Z hB hT9 hS
  clear hB hT9 hS hk9 hz hvm T9
  revert Z; generalize H1 = H; generalize locs1 = locs; intro Z
  refine W.widen (k := 0) (n := 0) (by decide) (by decide) ?_
  rw [hQ]
  have q9 : (dropE σ t k : cS) = putE σ t k (nI 0) (-1) (nI 0) := rfl
  rw [← q9] at Z
  exact W.vret S.1 S.2.1 hret (fun _ hT9 hW => ⟨⟨(dropE σ t k, μ), rfl, rfl, wZ_P Z hT9 hW⟩, Z.2.2.2.2.F hT9⟩) Z.2.2.2.2.2.2 dX5_dropEntry_8
