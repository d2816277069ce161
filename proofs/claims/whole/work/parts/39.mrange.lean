theorem i_X8_deleteRange_X8 : ∀ w ∈ wsX80, w ∈ wsX8_deleteRange := by decide +kernel
theorem m_X8_deleteRange_f94 : Cond.fieldLink RX8 94 "WideCellModel" "ranges" "I" ∈ wsX8_deleteRange := by decide +kernel
theorem m_X8_deleteRange_f25 : Cond.fieldLink RX8 25 "WideCellModel" "first" "[I" ∈ wsX8_deleteRange := by decide +kernel
theorem m_X8_deleteRange_f28 : Cond.fieldLink RX8 28 "WideCellModel" "last" "[I" ∈ wsX8_deleteRange := by decide +kernel
abbrev rm_k_X8_deleteRange : Room := { frames := 5, cells := 0, slots := 0, locals := 125 }
set_option maxHeartbeats 4000000 in
set_option maxRecDepth 100000 in
theorem k_X8_deleteRange (l : Launch) (G : wG) (σ : cS) (μ : mS) (o : Nat → Int64) (cs : Int32) (a : Nat) (b : Nat) (sp : Int32) (ha : a < 16) (hb : b < 16) (hm : mOK μ) : Met l yX8_deleteRange wsX8_deleteRange rm_k_X8_deleteRange (wPc G σ μ o [.ref (gA G 39), .int (cs), .int (nI a), .int (nI b), .int (sp)]) (va_Qi (fun (rr : Int32) (u : cS × mS) => rr = nI (drR μ cs a b sp) ∧ u = (σ, drM μ cs a b sp)) (fun u t => wI G u.1 u.2 o t) (gP G)) 0 0 (gP G) := by
  refine Met.ofW (cc := cX8_deleteRange) (maxL := 8) (ret := (some .int)) (by decide) rfl ?_
  intro p e s m args below meth c s₁ B hml hv
  obtain ⟨hargs, hI⟩ := hv
  have S : CallFix p m c cX8_deleteRange 8 s args wsX8_deleteRange RX8 := ⟨B.exec, B.bytes, hml, findClass_of_methodNamed B.named, atoms_spec (ws := wsX8_deleteRange) B.pre⟩
  have hret := B.returns
  have hlocks := B.notSynchronized
  have Z := wZ_0 hI
  clear hI
  obtain ⟨Q, hQ⟩ : ∃ Q, Q = MQ below (va_Qi (fun (rr : Int32) (u : cS × mS) => rr = nI (drR μ cs a b sp) ∧ u = (σ, drM μ cs a b sp)) (fun u t => wI G u.1 u.2 o t) (gP G)) args s 0 0 (gP G) := ⟨_, rfl⟩
  rw [← hQ]
  have hl := lv_entry [.ref (gA G 39), .int (cs), .int (nI a), .int (nI b), .int (sp)] (n := 8) (Nat.le_of_ble_eq_true rfl)
  rw [show entryFrame m args 8 = entryFrame m ([.ref (gA G 39), .int (cs), .int (nI a), .int (nI b), .int (sp)] : List Value).toArray 8 from by rw [hargs], lg_entry_eq]
  generalize (lg_sl [.ref (gA G 39), .int (cs), .int (nI a), .int (nI b), .int (sp)] ++ List.replicate (8 - (lg_sl [.ref (gA G 39), .int (cs), .int (nI a), .int (nI b), .int (sp)]).length) Slot.unset).toArray = ls at hl ⊢
  have hl : lv_has ls 8 [(0, .ref (gA G 39)), (1, .int (cs)), (2, .int (nI a)), (3, .int (nI b)), (4, .int (sp))] := hl
  have hmr := hm.1
  have hfl : frI μ a b ≤ mR μ := by have h := fr_le (μ := μ) (a := a) (b := b) (mR μ) 0; unfold frI; omega
  have L_101 : ∀   (H : Heap) (locs : List Loc) (Z : wZ G (σ) (μ) o s H locs) (ls : Array Slot) (hl : lv_has ls 8 [(0, .ref (gA G 39)), (1, .int (cs)), (2, .int (nI a)), (3, .int (nI b)), (4, .int (sp)), (5, .int (bi true)), (6, .int (nI (frI μ a b))), (7, .int (bi (drG cs a b sp)))]), W p l e (headSpec wsX8_deleteRange rm_k_X8_deleteRange).room s m args below meth c H locs 0 0 Q (F0 m 101 ls []) := by
    intro   H locs Z ls hl
    refine lv_aload_n S.1 S.2.1 dX8_deleteRange_101 rfl (lv_at hl 0 rfl) ?_
    refine lv_iload S.1 S.2.1 dX8_deleteRange_102 (lv_at hl 5 rfl) ?_
    refine r_if_neB S (tgt := 111) dX8_deleteRange_104 (by decide) (fun c_1 => ?_) (fun c_1 => absurd c_1 (by decide))
    refine lv_iload S.1 S.2.1 dX8_deleteRange_111 (lv_at hl 7 rfl) ?_
    refine r_if_neB S (tgt := 120) dX8_deleteRange_113 (by decide) (fun c_2 => ?_) (fun c_2 => ?_)
    · skip
      refine lv_iload S.1 S.2.1 dX8_deleteRange_120 (lv_at hl 6 rfl) ?_
      refine lv_bipush (v := nI 8) S.1 S.2.1 dX8_deleteRange_122 (by decide) ?_
      refine r_icmpN_ne S (tgt := 131) (by omega) (by omega) dX8_deleteRange_124 (by decide) (fun c_3 => ?_) (fun c_3 => ?_)
      · skip
        refine lv_iconst (v := nI 0) S.1 S.2.1 dX8_deleteRange_131 (by decide) ?_
        refine va_calli (va_runV (As := [.int (nI 0)]) (rest := []) S (k_X8_can l G σ μ o 0 (by omega)) (cwV 1 S.2.2.2.2 gX8_deleteRange_X8_can rfl rfl rfl ⟨rfl, hy_X8_can⟩ ⟨Nat.le_of_ble_eq_true rfl, Nat.le_of_ble_eq_true rfl⟩) (wPc_V (q := (RX8, TX8, 19)) Z (by decide) rfl rfl) rfl rfl hl.1 rfl (lv_room (Nat.le_of_ble_eq_true rfl)) dX8_deleteRange_132 ⟨Nat.le_of_ble_eq_true rfl, Nat.le_of_ble_eq_true rfl⟩) Z.2.2.2.2 (fun _ _ h => h) (fun _ h => h) (fun r_4 u_5 T9 H1 locs1 hT9 hvm hw hB hz hk9 hS => ?_)
        obtain ⟨hr9, rfl⟩ := hw
        rw [hr9]; clear hr9 r_4
        have Z : wZ G (σ) (thr μ 0) o s H1 locs1 := wZ_callP Z hB hT9 hS
        clear hB hT9 hS hk9 hz hvm T9
        revert Z; generalize H1 = H; generalize locs1 = locs; intro Z
        refine W.widen (k := 0) (n := 0) (by decide) (by decide) ?_
        refine r_if_neB S (tgt := 140) dX8_deleteRange_135 (by decide) (fun c_6 => ?_) (fun c_6 => absurd c_6 (by decide))
        refine lv_iload S.1 S.2.1 dX8_deleteRange_140 (lv_at hl 6 rfl) ?_
        refine lv_aload_n S.1 S.2.1 dX8_deleteRange_142 rfl (lv_at hl 0 rfl) ?_
        refine r_get (C := RX8) (T := TX8) (N := 19) (ci := 8) S Z (by decide) rfl rfl i_X8_deleteRange_X8 5 (by decide) m_X8_deleteRange_f94 rfl (v := .int (nI (mR μ))) rfl dX8_deleteRange_143 ?_
        refine r_icmpN_ne S (tgt := 175) (by omega) (by omega) dX8_deleteRange_146 (by decide) (fun c_7 => ?_) (fun c_7 => ?_)
        · skip
          refine lv_aload_n S.1 S.2.1 dX8_deleteRange_175 rfl (lv_at hl 0 rfl) ?_
          refine lv_iload_n S.1 S.2.1 dX8_deleteRange_176 rfl (lv_at hl 1 rfl) ?_
          refine lv_iconst (v := nI 1) S.1 S.2.1 dX8_deleteRange_177 (by decide) ?_
          refine lv_bipush (v := nI 84) S.1 S.2.1 dX8_deleteRange_178 (by decide) ?_
          refine lv_iload S.1 S.2.1 dX8_deleteRange_180 (lv_at hl 6 rfl) ?_
          refine r_addN S dX8_deleteRange_182 ?_
          refine lv_iload S.1 S.2.1 dX8_deleteRange_183 (lv_at hl 4 rfl) ?_
          refine va_calli (va_runV (As := [.int (cs), .int (bi true), .int (nI (84 + (frI μ a b))), .int (sp)]) (rest := []) S (k_X8_buries l G σ (thr μ 0) o cs (84 + (frI μ a b)) sp (by omega) (by first | exact hm | exact ok_mR hm (by omega))) (cwV 4 S.2.2.2.2 gX8_deleteRange_X8_buries rfl rfl rfl ⟨rfl, hy_X8_buries⟩ ⟨Nat.le_of_ble_eq_true rfl, Nat.le_of_ble_eq_true rfl⟩) (wPc_V (q := (RX8, TX8, 19)) Z (by decide) rfl rfl) rfl rfl hl.1 rfl (lv_room (Nat.le_of_ble_eq_true rfl)) dX8_deleteRange_185 ⟨Nat.le_of_ble_eq_true rfl, Nat.le_of_ble_eq_true rfl⟩) Z.2.2.2.2 (fun _ _ h => h) (fun _ h => h) (fun r_8 u_9 T9 H1 locs1 hT9 hvm hw hB hz hk9 hS => ?_)
          obtain ⟨hr9, rfl⟩ := hw
          rw [hr9]; clear hr9 r_8
          have Z : wZ G (σ) (buS (thr μ 0) cs (84 + (frI μ a b)) sp) o s H1 locs1 := wZ_callP Z hB hT9 hS
          clear hB hT9 hS hk9 hz hvm T9
          revert Z; generalize H1 = H; generalize locs1 = locs; intro Z
          refine W.widen (k := 0) (n := 0) (by decide) (by decide) ?_
          rw [hQ]
          have q8 : (drM μ cs a b sp : mS) = buS (thr μ 0) cs (84 + (frI μ a b)) sp := by first | (simp [bi, drR, drM, c_2, c_3, c_7]; done) | (simp [bi, drR, drM, c_2, c_3, c_7]; omega) | (simp [bi, drR, drM, ← Int32.not_le, c_2, c_3, c_7]; done) | with_reducible rfl
          rw [← q8] at Z
          exact W.iret (v := nI (buR (thr μ 0) cs (84 + (frI μ a b)) sp)) S.1 S.2.1 hret (fun _ hT9 hW => ⟨⟨_, (σ, drM μ cs a b sp), rfl, ⟨(by first | (simp [bi, drR, drM, c_2, c_3, c_7]; done) | (simp [bi, drR, drM, c_2, c_3, c_7]; omega) | (simp [bi, drR, drM, ← Int32.not_le, c_2, c_3, c_7]; done)), rfl⟩, wZ_P Z hT9 hW⟩, Z.2.2.2.2.F hT9⟩) Z.2.2.2.2.2.2 dX8_deleteRange_188
        · skip
          refine lv_aload_n S.1 S.2.1 dX8_deleteRange_149 rfl (lv_at hl 0 rfl) ?_
          refine r_get (C := RX8) (T := TX8) (N := 19) (ci := 8) S Z (by decide) rfl rfl i_X8_deleteRange_X8 6 (by decide) m_X8_deleteRange_f25 rfl (v := .ref (gA G 45)) rfl dX8_deleteRange_150 ?_
          refine lv_iload S.1 S.2.1 dX8_deleteRange_153 (lv_at hl 6 rfl) ?_
          refine lv_iload_n S.1 S.2.1 dX8_deleteRange_155 rfl (lv_at hl 2 rfl) ?_
          refine r_wM S Z (n := 8) ⟨rfl, rfl⟩ (by omega) (by decide) dX8_deleteRange_156 (fun H locs Z => ?_)
          refine lv_aload_n S.1 S.2.1 dX8_deleteRange_157 rfl (lv_at hl 0 rfl) ?_
          refine r_get (C := RX8) (T := TX8) (N := 19) (ci := 8) S Z (by decide) rfl rfl i_X8_deleteRange_X8 7 (by decide) m_X8_deleteRange_f28 rfl (v := .ref (gA G 46)) rfl dX8_deleteRange_158 ?_
          refine lv_iload S.1 S.2.1 dX8_deleteRange_161 (lv_at hl 6 rfl) ?_
          refine lv_iload_n S.1 S.2.1 dX8_deleteRange_163 rfl (lv_at hl 3 rfl) ?_
          refine r_wM S Z (n := 8) ⟨rfl, rfl⟩ (by omega) (by decide) dX8_deleteRange_164 (fun H locs Z => ?_)
          refine lv_aload_n S.1 S.2.1 dX8_deleteRange_165 rfl (lv_at hl 0 rfl) ?_
          refine lv_dup S.1 S.2.1 dX8_deleteRange_166 rfl ?_
          refine r_get (C := RX8) (T := TX8) (N := 19) (ci := 8) S Z (by decide) rfl rfl i_X8_deleteRange_X8 5 (by decide) m_X8_deleteRange_f94 rfl (v := .int (nI (mR μ))) rfl dX8_deleteRange_167 ?_
          refine lv_iconst (v := nI 1) S.1 S.2.1 dX8_deleteRange_170 (by decide) ?_
          refine r_addN S dX8_deleteRange_171 ?_
          refine r_put (C := RX8) (T := TX8) (N := 19) (ci := 8) (σ' := σ) (μ' := mR' (w2 (w2 (thr μ 0) 45 (frI μ a b) (nI a)) 46 (frI μ a b) (nI b)) ((mR μ) + 1)) S Z (by decide) rfl rfl i_X8_deleteRange_X8 tyX8 tyX8_ok nmX8 5 (by decide) m_X8_deleteRange_f94 rfl rfl (ty := .int) (v := .int (nI ((mR μ) + 1))) (by decide +kernel) rfl rfl (Nat.le_of_ble_eq_true rfl) rfl rfl (sMR _) dX8_deleteRange_172 (fun H locs Z => ?_)
          refine lv_aload_n S.1 S.2.1 dX8_deleteRange_175 rfl (lv_at hl 0 rfl) ?_
          refine lv_iload_n S.1 S.2.1 dX8_deleteRange_176 rfl (lv_at hl 1 rfl) ?_
          refine lv_iconst (v := nI 1) S.1 S.2.1 dX8_deleteRange_177 (by decide) ?_
          refine lv_bipush (v := nI 84) S.1 S.2.1 dX8_deleteRange_178 (by decide) ?_
          refine lv_iload S.1 S.2.1 dX8_deleteRange_180 (lv_at hl 6 rfl) ?_
          refine r_addN S dX8_deleteRange_182 ?_
          refine lv_iload S.1 S.2.1 dX8_deleteRange_183 (lv_at hl 4 rfl) ?_
          refine va_calli (va_runV (As := [.int (cs), .int (bi true), .int (nI (84 + (frI μ a b))), .int (sp)]) (rest := []) S (k_X8_buries l G σ (mR' (w2 (w2 (thr μ 0) 45 (frI μ a b) (nI a)) 46 (frI μ a b) (nI b)) ((mR μ) + 1)) o cs (84 + (frI μ a b)) sp (by omega) (by first | exact hm | exact ok_mR hm (by omega))) (cwV 4 S.2.2.2.2 gX8_deleteRange_X8_buries rfl rfl rfl ⟨rfl, hy_X8_buries⟩ ⟨Nat.le_of_ble_eq_true rfl, Nat.le_of_ble_eq_true rfl⟩) (wPc_V (q := (RX8, TX8, 19)) Z (by decide) rfl rfl) rfl rfl hl.1 rfl (lv_room (Nat.le_of_ble_eq_true rfl)) dX8_deleteRange_185 ⟨Nat.le_of_ble_eq_true rfl, Nat.le_of_ble_eq_true rfl⟩) Z.2.2.2.2 (fun _ _ h => h) (fun _ h => h) (fun r_10 u_11 T9 H1 locs1 hT9 hvm hw hB hz hk9 hS => ?_)
          obtain ⟨hr9, rfl⟩ := hw
          rw [hr9]; clear hr9 r_10
          have Z : wZ G (σ) (buS (mR' (w2 (w2 (thr μ 0) 45 (frI μ a b) (nI a)) 46 (frI μ a b) (nI b)) ((mR μ) + 1)) cs (84 + (frI μ a b)) sp) o s H1 locs1 := wZ_callP Z hB hT9 hS
          clear hB hT9 hS hk9 hz hvm T9
          revert Z; generalize H1 = H; generalize locs1 = locs; intro Z
          refine W.widen (k := 0) (n := 0) (by decide) (by decide) ?_
          rw [hQ]
          have q8 : (drM μ cs a b sp : mS) = buS (mR' (w2 (w2 (thr μ 0) 45 (frI μ a b) (nI a)) 46 (frI μ a b) (nI b)) ((mR μ) + 1)) cs (84 + (frI μ a b)) sp := by first | (simp [bi, drR, drM, c_2, c_3, c_7]; done) | (simp [bi, drR, drM, c_2, c_3, c_7]; omega) | (simp [bi, drR, drM, ← Int32.not_le, c_2, c_3, c_7]; done) | (simp [bi, drR, drM, c_2, c_3, eq_true c_7]; done) | with_reducible rfl
          rw [← q8] at Z
          exact W.iret (v := nI (buR (mR' (w2 (w2 (thr μ 0) 45 (frI μ a b) (nI a)) 46 (frI μ a b) (nI b)) ((mR μ) + 1)) cs (84 + (frI μ a b)) sp)) S.1 S.2.1 hret (fun _ hT9 hW => ⟨⟨_, (σ, drM μ cs a b sp), rfl, ⟨(by first | (simp [bi, drR, drM, c_2, c_3, c_7]; done) | (simp [bi, drR, drM, c_2, c_3, c_7]; omega) | (simp [bi, drR, drM, ← Int32.not_le, c_2, c_3, c_7]; done) | (simp [bi, drR, drM, c_2, c_3, eq_true c_7]; done)), rfl⟩, wZ_P Z hT9 hW⟩, Z.2.2.2.2.F hT9⟩) Z.2.2.2.2.2.2 dX8_deleteRange_188
      · skip
        refine lv_iconst (v := nI 3) S.1 S.2.1 dX8_deleteRange_127 (by decide) ?_
        refine lv_goto (tgt := 132) S.1 S.2.1 dX8_deleteRange_128 (by decide) ?_
        refine va_calli (va_runV (As := [.int (nI 3)]) (rest := []) S (k_X8_can l G σ μ o 3 (by omega)) (cwV 1 S.2.2.2.2 gX8_deleteRange_X8_can rfl rfl rfl ⟨rfl, hy_X8_can⟩ ⟨Nat.le_of_ble_eq_true rfl, Nat.le_of_ble_eq_true rfl⟩) (wPc_V (q := (RX8, TX8, 19)) Z (by decide) rfl rfl) rfl rfl hl.1 rfl (lv_room (Nat.le_of_ble_eq_true rfl)) dX8_deleteRange_132 ⟨Nat.le_of_ble_eq_true rfl, Nat.le_of_ble_eq_true rfl⟩) Z.2.2.2.2 (fun _ _ h => h) (fun _ h => h) (fun r_12 u_13 T9 H1 locs1 hT9 hvm hw hB hz hk9 hS => ?_)
        obtain ⟨hr9, rfl⟩ := hw
        rw [hr9]; clear hr9 r_12
        have Z : wZ G (σ) (thr μ 3) o s H1 locs1 := wZ_callP Z hB hT9 hS
        clear hB hT9 hS hk9 hz hvm T9
        revert Z; generalize H1 = H; generalize locs1 = locs; intro Z
        refine W.widen (k := 0) (n := 0) (by decide) (by decide) ?_
        refine r_if_neB S (tgt := 140) dX8_deleteRange_135 (by decide) (fun c_14 => absurd c_14 (by decide)) (fun c_14 => ?_)
        refine lv_iconst (v := nI 0) S.1 S.2.1 dX8_deleteRange_138 (by decide) ?_
        rw [hQ]
        have q8 : (drM μ cs a b sp : mS) = thr μ 3 := by first | (simp [bi, drR, drM, c_2, c_3]; done) | (simp [bi, drR, drM, c_2, c_3]; omega) | (simp [bi, drR, drM, ← Int32.not_le, c_2, c_3]; done) | (simp [bi, drR, drM, c_2, eq_true c_3]; done) | with_reducible rfl
        rw [← q8] at Z
        exact W.iret (v := nI 0) S.1 S.2.1 hret (fun _ hT9 hW => ⟨⟨_, (σ, drM μ cs a b sp), rfl, ⟨(by first | (simp [bi, drR, drM, c_2, c_3]; done) | (simp [bi, drR, drM, c_2, c_3]; omega) | (simp [bi, drR, drM, ← Int32.not_le, c_2, c_3]; done) | (simp [bi, drR, drM, c_2, eq_true c_3]; done)), rfl⟩, wZ_P Z hT9 hW⟩, Z.2.2.2.2.F hT9⟩) Z.2.2.2.2.2.2 dX8_deleteRange_139
    · skip
      refine lv_iconst (v := nI 2) S.1 S.2.1 dX8_deleteRange_116 (by decide) ?_
      refine lv_goto (tgt := 132) S.1 S.2.1 dX8_deleteRange_117 (by decide) ?_
      refine va_calli (va_runV (As := [.int (nI 2)]) (rest := []) S (k_X8_can l G σ μ o 2 (by omega)) (cwV 1 S.2.2.2.2 gX8_deleteRange_X8_can rfl rfl rfl ⟨rfl, hy_X8_can⟩ ⟨Nat.le_of_ble_eq_true rfl, Nat.le_of_ble_eq_true rfl⟩) (wPc_V (q := (RX8, TX8, 19)) Z (by decide) rfl rfl) rfl rfl hl.1 rfl (lv_room (Nat.le_of_ble_eq_true rfl)) dX8_deleteRange_132 ⟨Nat.le_of_ble_eq_true rfl, Nat.le_of_ble_eq_true rfl⟩) Z.2.2.2.2 (fun _ _ h => h) (fun _ h => h) (fun r_15 u_16 T9 H1 locs1 hT9 hvm hw hB hz hk9 hS => ?_)
      obtain ⟨hr9, rfl⟩ := hw
      rw [hr9]; clear hr9 r_15
      have Z : wZ G (σ) (thr μ 2) o s H1 locs1 := wZ_callP Z hB hT9 hS
      clear hB hT9 hS hk9 hz hvm T9
      revert Z; generalize H1 = H; generalize locs1 = locs; intro Z
      refine W.widen (k := 0) (n := 0) (by decide) (by decide) ?_
      refine r_if_neB S (tgt := 140) dX8_deleteRange_135 (by decide) (fun c_17 => absurd c_17 (by decide)) (fun c_17 => ?_)
      refine lv_iconst (v := nI 0) S.1 S.2.1 dX8_deleteRange_138 (by decide) ?_
      rw [hQ]
      have q8 : (drM μ cs a b sp : mS) = thr μ 2 := by first | (simp [bi, drR, drM, c_2]; done) | (simp [bi, drR, drM, c_2]; omega) | (simp [bi, drR, drM, ← Int32.not_le, c_2]; done) | (simp [bi, drR, drM, eq_true c_2]; done) | with_reducible rfl
      rw [← q8] at Z
      exact W.iret (v := nI 0) S.1 S.2.1 hret (fun _ hT9 hW => ⟨⟨_, (σ, drM μ cs a b sp), rfl, ⟨(by first | (simp [bi, drR, drM, c_2]; done) | (simp [bi, drR, drM, c_2]; omega) | (simp [bi, drR, drM, ← Int32.not_le, c_2]; done) | (simp [bi, drR, drM, eq_true c_2]; done)), rfl⟩, wZ_P Z hT9 hW⟩, Z.2.2.2.2.F hT9⟩) Z.2.2.2.2.2.2 dX8_deleteRange_139
  have L_67 : ∀   (H : Heap) (locs : List Loc) (Z : wZ G (σ) (μ) o s H locs) (ls : Array Slot) (hl : lv_has ls 8 [(0, .ref (gA G 39)), (1, .int (cs)), (2, .int (nI a)), (3, .int (nI b)), (4, .int (sp)), (5, .int (bi true)), (6, .int (nI (frI μ a b)))]), W p l e (headSpec wsX8_deleteRange rm_k_X8_deleteRange).room s m args below meth c H locs 0 0 Q (F0 m 67 ls []) := by
    intro   H locs Z ls hl
    refine lv_iload_n S.1 S.2.1 dX8_deleteRange_67 rfl (lv_at hl 1 rfl) ?_
    refine lv_iconst (v := nI 0) S.1 S.2.1 dX8_deleteRange_68 (by decide) ?_
    refine lv_bipush (v := nI 7) S.1 S.2.1 dX8_deleteRange_69 (by decide) ?_
    refine vp_callSi (va_runS (As := [.int (cs), .int (nI 0), .int (nI 7)]) (rest := []) S (k_X8_isIn l G σ μ o cs (nI 0) (nI 7) ) (va_cwS 3 S.2.2.2.2 gX8_deleteRange_X8_isIn rfl rfl rfl hy_X8_isIn ⟨Nat.le_of_ble_eq_true rfl, Nat.le_of_ble_eq_true rfl⟩) (wPc_S Z) rfl rfl hl.1 rfl (lv_room (Nat.le_of_ble_eq_true rfl)) dX8_deleteRange_71 ⟨Nat.le_of_ble_eq_true rfl, Nat.le_of_ble_eq_true rfl⟩).run (fun r_18 h_19 => ?_)
    rw [h_19]; clear h_19 r_18
    refine r_if_eqB S (tgt := 98) dX8_deleteRange_74 (by decide) (fun c_20 => ?_) (fun c_20 => ?_)
    · skip
      refine lv_iconst (v := nI 0) S.1 S.2.1 dX8_deleteRange_98 (by decide) ?_
      refine lv_istore (lv' := [(7, .int (nI 0)), (0, .ref (gA G 39)), (1, .int (cs)), (2, .int (nI a)), (3, .int (nI b)), (4, .int (sp)), (5, .int (bi true)), (6, .int (nI (frI μ a b)))]) S.1 S.2.1 dX8_deleteRange_99 hl (by decide) rfl (fun ls hl => ?_)
      have q_21 : (bi (drG cs a b sp) : Int32) = nI 0 := by first | with_reducible rfl | (first | (simp [bi, drG, c_20]; done) | (simp [bi, drG, c_20]; omega) | (simp [bi, drG, ← Int32.not_le, c_20]; done) | (simp [bi, drG, eq_true c_20]; done)) | rfl
      have hl : lv_has ls 8 [(0, .ref (gA G 39)), (1, .int (cs)), (2, .int (nI a)), (3, .int (nI b)), (4, .int (sp)), (5, .int (bi true)), (6, .int (nI (frI μ a b))), (7, .int (bi (drG cs a b sp)))] := by
        have hl := lv_sub hl [1, 2, 3, 4, 5, 6, 7, 0] rfl
        rw [q_21]; exact hl
      exact L_101   _ _ Z ls (hl)
    · skip
      refine lv_iload S.1 S.2.1 dX8_deleteRange_77 (lv_at hl 4 rfl) ?_
      refine lv_iconst (v := nI 0) S.1 S.2.1 dX8_deleteRange_79 (by decide) ?_
      refine lv_sipush (v := nI 999) S.1 S.2.1 dX8_deleteRange_80 (by decide) ?_
      refine vp_callSi (va_runS (As := [.int (sp), .int (nI 0), .int (nI 999)]) (rest := []) S (k_X8_isIn l G σ μ o sp (nI 0) (nI 999) ) (va_cwS 3 S.2.2.2.2 gX8_deleteRange_X8_isIn rfl rfl rfl hy_X8_isIn ⟨Nat.le_of_ble_eq_true rfl, Nat.le_of_ble_eq_true rfl⟩) (wPc_S Z) rfl rfl hl.1 rfl (lv_room (Nat.le_of_ble_eq_true rfl)) dX8_deleteRange_83 ⟨Nat.le_of_ble_eq_true rfl, Nat.le_of_ble_eq_true rfl⟩).run (fun r_22 h_23 => ?_)
      rw [h_23]; clear h_23 r_22
      refine r_if_eqB S (tgt := 98) dX8_deleteRange_86 (by decide) (fun c_24 => ?_) (fun c_24 => ?_)
      · skip
        refine lv_iconst (v := nI 0) S.1 S.2.1 dX8_deleteRange_98 (by decide) ?_
        refine lv_istore (lv' := [(7, .int (nI 0)), (0, .ref (gA G 39)), (1, .int (cs)), (2, .int (nI a)), (3, .int (nI b)), (4, .int (sp)), (5, .int (bi true)), (6, .int (nI (frI μ a b)))]) S.1 S.2.1 dX8_deleteRange_99 hl (by decide) rfl (fun ls hl => ?_)
        have q_25 : (bi (drG cs a b sp) : Int32) = nI 0 := by first | with_reducible rfl | (first | (simp [bi, drG, c_20, c_24]; done) | (simp [bi, drG, c_20, c_24]; omega) | (simp [bi, drG, ← Int32.not_le, c_20, c_24]; done) | (simp [bi, drG, c_20, eq_true c_24]; done)) | rfl
        have hl : lv_has ls 8 [(0, .ref (gA G 39)), (1, .int (cs)), (2, .int (nI a)), (3, .int (nI b)), (4, .int (sp)), (5, .int (bi true)), (6, .int (nI (frI μ a b))), (7, .int (bi (drG cs a b sp)))] := by
          have hl := lv_sub hl [1, 2, 3, 4, 5, 6, 7, 0] rfl
          rw [q_25]; exact hl
        exact L_101   _ _ Z ls (hl)
      · skip
        refine lv_iload_n S.1 S.2.1 dX8_deleteRange_89 rfl (lv_at hl 3 rfl) ?_
        refine lv_iload_n S.1 S.2.1 dX8_deleteRange_90 rfl (lv_at hl 2 rfl) ?_
        refine r_icmpN_lt S (tgt := 98) (by omega) (by omega) dX8_deleteRange_91 (by decide) (fun c_26 => ?_) (fun c_26 => ?_)
        · skip
          refine lv_iconst (v := nI 0) S.1 S.2.1 dX8_deleteRange_98 (by decide) ?_
          refine lv_istore (lv' := [(7, .int (nI 0)), (0, .ref (gA G 39)), (1, .int (cs)), (2, .int (nI a)), (3, .int (nI b)), (4, .int (sp)), (5, .int (bi true)), (6, .int (nI (frI μ a b)))]) S.1 S.2.1 dX8_deleteRange_99 hl (by decide) rfl (fun ls hl => ?_)
          have q_27 : (bi (drG cs a b sp) : Int32) = nI 0 := by first | with_reducible rfl | (first | (simp [bi, drG, c_20, c_24, c_26]; done) | (simp [bi, drG, c_20, c_24, c_26]; omega) | (simp [bi, drG, ← Int32.not_le, c_20, c_24, c_26]; done)) | rfl
          have hl : lv_has ls 8 [(0, .ref (gA G 39)), (1, .int (cs)), (2, .int (nI a)), (3, .int (nI b)), (4, .int (sp)), (5, .int (bi true)), (6, .int (nI (frI μ a b))), (7, .int (bi (drG cs a b sp)))] := by
            have hl := lv_sub hl [1, 2, 3, 4, 5, 6, 7, 0] rfl
            rw [q_27]; exact hl
          exact L_101   _ _ Z ls (hl)
        · skip
          refine lv_iconst (v := nI 1) S.1 S.2.1 dX8_deleteRange_94 (by decide) ?_
          refine lv_goto (tgt := 99) S.1 S.2.1 dX8_deleteRange_95 (by decide) ?_
          refine lv_istore (lv' := [(7, .int (nI 1)), (0, .ref (gA G 39)), (1, .int (cs)), (2, .int (nI a)), (3, .int (nI b)), (4, .int (sp)), (5, .int (bi true)), (6, .int (nI (frI μ a b)))]) S.1 S.2.1 dX8_deleteRange_99 hl (by decide) rfl (fun ls hl => ?_)
          have q_28 : (bi (drG cs a b sp) : Int32) = nI 1 := by first | with_reducible rfl | (first | (simp [bi, drG, c_20, c_24, c_26, Nat.not_lt.mpr c_26]; done) | (simp [bi, drG, c_20, c_24, c_26, Nat.not_lt.mpr c_26]; omega) | (simp [bi, drG, ← Int32.not_le, c_20, c_24, c_26, Nat.not_lt.mpr c_26]; done)) | rfl
          have hl : lv_has ls 8 [(0, .ref (gA G 39)), (1, .int (cs)), (2, .int (nI a)), (3, .int (nI b)), (4, .int (sp)), (5, .int (bi true)), (6, .int (nI (frI μ a b))), (7, .int (bi (drG cs a b sp)))] := by
            have hl := lv_sub hl [1, 2, 3, 4, 5, 6, 7, 0] rfl
            rw [q_28]; exact hl
          exact L_101   _ _ Z ls (hl)
  refine lv_iload_n S.1 S.2.1 dX8_deleteRange_0 rfl (lv_at hl 2 rfl) ?_
  refine lv_iconst (v := nI 0) S.1 S.2.1 dX8_deleteRange_1 (by decide) ?_
  refine lv_bipush (v := nI 15) S.1 S.2.1 dX8_deleteRange_2 (by decide) ?_
  refine vp_callSi (va_runS (As := [.int (nI a), .int (nI 0), .int (nI 15)]) (rest := []) S (k_X8_isIn l G σ μ o (nI a) (nI 0) (nI 15) ) (va_cwS 3 S.2.2.2.2 gX8_deleteRange_X8_isIn rfl rfl rfl hy_X8_isIn ⟨Nat.le_of_ble_eq_true rfl, Nat.le_of_ble_eq_true rfl⟩) (wPc_S Z) rfl rfl hl.1 rfl (lv_room (Nat.le_of_ble_eq_true rfl)) dX8_deleteRange_4 ⟨Nat.le_of_ble_eq_true rfl, Nat.le_of_ble_eq_true rfl⟩).run (fun r_29 h_30 => ?_)
  rw [h_30]; clear h_30 r_29
  refine r_if_eqB S (tgt := 24) dX8_deleteRange_7 (by decide) (fun c_31 => absurd c_31 (by rw [isInB_ok (Nat.zero_le _) (by omega) (by decide)]; decide)) (fun c_31 => ?_)
  refine lv_iload_n S.1 S.2.1 dX8_deleteRange_10 rfl (lv_at hl 3 rfl) ?_
  refine lv_iconst (v := nI 0) S.1 S.2.1 dX8_deleteRange_11 (by decide) ?_
  refine lv_bipush (v := nI 15) S.1 S.2.1 dX8_deleteRange_12 (by decide) ?_
  refine vp_callSi (va_runS (As := [.int (nI b), .int (nI 0), .int (nI 15)]) (rest := []) S (k_X8_isIn l G σ μ o (nI b) (nI 0) (nI 15) ) (va_cwS 3 S.2.2.2.2 gX8_deleteRange_X8_isIn rfl rfl rfl hy_X8_isIn ⟨Nat.le_of_ble_eq_true rfl, Nat.le_of_ble_eq_true rfl⟩) (wPc_S Z) rfl rfl hl.1 rfl (lv_room (Nat.le_of_ble_eq_true rfl)) dX8_deleteRange_14 ⟨Nat.le_of_ble_eq_true rfl, Nat.le_of_ble_eq_true rfl⟩).run (fun r_32 h_33 => ?_)
  rw [h_33]; clear h_33 r_32
  refine r_if_eqB S (tgt := 24) dX8_deleteRange_17 (by decide) (fun c_34 => absurd c_34 (by rw [isInB_ok (Nat.zero_le _) (by omega) (by decide)]; decide)) (fun c_34 => ?_)
  refine lv_iconst (v := nI 1) S.1 S.2.1 dX8_deleteRange_20 (by decide) ?_
  refine lv_goto (tgt := 25) S.1 S.2.1 dX8_deleteRange_21 (by decide) ?_
  refine lv_istore (lv' := [(5, .int (nI 1)), (0, .ref (gA G 39)), (1, .int (cs)), (2, .int (nI a)), (3, .int (nI b)), (4, .int (sp))]) S.1 S.2.1 dX8_deleteRange_25 hl (by decide) rfl (fun ls hl => ?_)
  refine lv_iconst (v := nI 0) S.1 S.2.1 dX8_deleteRange_27 (by decide) ?_
  refine lv_istore (lv' := [(6, .int (nI 0)), (5, .int (nI 1)), (0, .ref (gA G 39)), (1, .int (cs)), (2, .int (nI a)), (3, .int (nI b)), (4, .int (sp))]) S.1 S.2.1 dX8_deleteRange_28 hl (by decide) rfl (fun ls hl => ?_)
  have L_30 : ∀ (n : Nat) (i : Nat) (hi : i ≤ mR μ) (hf : ∀ x : Nat, x < i → frM μ a b x = false) (hn : mR μ - i < n) (H : Heap) (locs : List Loc) (Z : wZ G (σ) (μ) o s H locs) (ls : Array Slot) (hl : lv_has ls 8 [(0, .ref (gA G 39)), (1, .int (cs)), (2, .int (nI a)), (3, .int (nI b)), (4, .int (sp)), (5, .int (bi true)), (6, .int (nI i))]), W p l e (headSpec wsX8_deleteRange rm_k_X8_deleteRange).room s m args below meth c H locs 0 0 Q (F0 m 30 ls []) := by
    intro n
    induction n with
    | zero => intro i hi hf hn; omega
    | succ n ih_30 =>
      intro i hi hf hn H locs Z ls hl
      refine lv_iload S.1 S.2.1 dX8_deleteRange_30 (lv_at hl 6 rfl) ?_
      refine lv_aload_n S.1 S.2.1 dX8_deleteRange_32 rfl (lv_at hl 0 rfl) ?_
      refine r_get (C := RX8) (T := TX8) (N := 19) (ci := 8) S Z (by decide) rfl rfl i_X8_deleteRange_X8 5 (by decide) m_X8_deleteRange_f94 rfl (v := .int (nI (mR μ))) rfl dX8_deleteRange_33 ?_
      refine r_icmpN_ge S (tgt := 67) (by omega) (by omega) dX8_deleteRange_36 (by decide) (fun c_35 => ?_) (fun c_35 => ?_)
      · skip
        have q_36 : (nI (frI μ a b) : Int32) = nI i := by first | (unfold frI; rw [fr_hit (mR μ) 0 (fun j hj => by rw [Nat.zero_add]; exact hf j (by omega))]; exact congrArg nI (by omega)) | (unfold frI; rw [fr_at (mR μ) 0 i (by omega) (fun j hj => by rw [Nat.zero_add]; exact hf j hj) (by rw [Nat.zero_add]; simp [frM, c_31, c_34, hi, hf, c_35])]; exact congrArg nI (by omega))
        have hl : lv_has ls 8 [(0, .ref (gA G 39)), (1, .int (cs)), (2, .int (nI a)), (3, .int (nI b)), (4, .int (sp)), (5, .int (bi true)), (6, .int (nI (frI μ a b)))] := by
          have hl := lv_sub hl [0, 1, 2, 3, 4, 5, 6] rfl
          rw [q_36]; exact hl
        exact L_67   _ _ Z ls (hl)
      · skip
        refine lv_aload_n S.1 S.2.1 dX8_deleteRange_39 rfl (lv_at hl 0 rfl) ?_
        refine r_get (C := RX8) (T := TX8) (N := 19) (ci := 8) S Z (by decide) rfl rfl i_X8_deleteRange_X8 6 (by decide) m_X8_deleteRange_f25 rfl (v := .ref (gA G 45)) rfl dX8_deleteRange_40 ?_
        refine lv_iload S.1 S.2.1 dX8_deleteRange_43 (lv_at hl 6 rfl) ?_
        refine r_ialdM S Z (n := 8) ⟨rfl, rfl⟩ (by omega) (by decide) dX8_deleteRange_45 ?_
        refine lv_iload_n S.1 S.2.1 dX8_deleteRange_46 rfl (lv_at hl 2 rfl) ?_
        refine lv_icmp_ne (tgt := 61) S.1 S.2.1 dX8_deleteRange_47 (by decide) (fun c_37 => ?_) (fun c_37 => ?_)
        · skip
          refine lv_iinc (v := nI (i + 1)) (lv' := [(6, .int (nI (i + 1))), (0, .ref (gA G 39)), (1, .int (cs)), (2, .int (nI a)), (3, .int (nI b)), (4, .int (sp)), (5, .int (bi true))]) S.1 S.2.1 dX8_deleteRange_61 hl (k := 6) rfl (nI_inc rfl) (by decide) rfl (fun ls hl => ?_)
          refine lv_goto (tgt := 30) S.1 S.2.1 dX8_deleteRange_64 (by decide) ?_
          exact ih_30 (i + 1) (by first | omega | exact Nat.zero_le _) (by first | exact (fun x hx => absurd hx (Nat.not_lt_zero x)) | (intro x hx; rcases (show x < i ∨ x = i by omega) with h9 | h9; exact hf x h9; subst h9; simp [frM, c_31, c_34, hi, hf, c_35, c_37])) (by omega) _ _ Z ls (lv_sub hl [1, 2, 3, 4, 5, 6, 0] rfl)
        · skip
          refine lv_aload_n S.1 S.2.1 dX8_deleteRange_50 rfl (lv_at hl 0 rfl) ?_
          refine r_get (C := RX8) (T := TX8) (N := 19) (ci := 8) S Z (by decide) rfl rfl i_X8_deleteRange_X8 7 (by decide) m_X8_deleteRange_f28 rfl (v := .ref (gA G 46)) rfl dX8_deleteRange_51 ?_
          refine lv_iload S.1 S.2.1 dX8_deleteRange_54 (lv_at hl 6 rfl) ?_
          refine r_ialdM S Z (n := 8) ⟨rfl, rfl⟩ (by omega) (by decide) dX8_deleteRange_56 ?_
          refine lv_iload_n S.1 S.2.1 dX8_deleteRange_57 rfl (lv_at hl 3 rfl) ?_
          refine lv_icmp_eq (tgt := 67) S.1 S.2.1 dX8_deleteRange_58 (by decide) (fun c_38 => ?_) (fun c_38 => ?_)
          · skip
            have q_39 : (nI (frI μ a b) : Int32) = nI i := by first | (unfold frI; rw [fr_hit (mR μ) 0 (fun j hj => by rw [Nat.zero_add]; exact hf j (by omega))]; exact congrArg nI (by omega)) | (unfold frI; rw [fr_at (mR μ) 0 i (by omega) (fun j hj => by rw [Nat.zero_add]; exact hf j hj) (by rw [Nat.zero_add]; simp [frM, c_31, c_34, hi, hf, c_35, c_37, c_38])]; exact congrArg nI (by omega))
            have hl : lv_has ls 8 [(0, .ref (gA G 39)), (1, .int (cs)), (2, .int (nI a)), (3, .int (nI b)), (4, .int (sp)), (5, .int (bi true)), (6, .int (nI (frI μ a b)))] := by
              have hl := lv_sub hl [0, 1, 2, 3, 4, 5, 6] rfl
              rw [q_39]; exact hl
            exact L_67   _ _ Z ls (hl)
          · skip
            refine lv_iinc (v := nI (i + 1)) (lv' := [(6, .int (nI (i + 1))), (0, .ref (gA G 39)), (1, .int (cs)), (2, .int (nI a)), (3, .int (nI b)), (4, .int (sp)), (5, .int (bi true))]) S.1 S.2.1 dX8_deleteRange_61 hl (k := 6) rfl (nI_inc rfl) (by decide) rfl (fun ls hl => ?_)
            refine lv_goto (tgt := 30) S.1 S.2.1 dX8_deleteRange_64 (by decide) ?_
            exact ih_30 (i + 1) (by first | omega | exact Nat.zero_le _) (by first | exact (fun x hx => absurd hx (Nat.not_lt_zero x)) | (intro x hx; rcases (show x < i ∨ x = i by omega) with h9 | h9; exact hf x h9; subst h9; simp [frM, c_31, c_34, hi, hf, c_35, c_37, c_38])) (by omega) _ _ Z ls (lv_sub hl [1, 2, 3, 4, 5, 6, 0] rfl)
  have q_40 : (bi true : Int32) = nI 1 := by rfl
  have hl : lv_has ls 8 [(0, .ref (gA G 39)), (1, .int (cs)), (2, .int (nI a)), (3, .int (nI b)), (4, .int (sp)), (5, .int (bi true)), (6, .int (nI 0))] := by
    have hl := lv_sub hl [2, 3, 4, 5, 6, 1, 0] rfl
    rw [q_40]; exact hl
  exact L_30 (mR μ - 0 + 1) 0 (by first | omega | exact Nat.zero_le _) (by first | exact (fun x hx => absurd hx (Nat.not_lt_zero x)) | (intro x hx; rcases (show x < i ∨ x = i by omega) with h9 | h9; exact hf x h9; subst h9; simp [frM, c_31, c_34])) (Nat.lt_succ_self _) _ _ Z ls (hl)

abbrev rm_k_X8_deleteRange_B : Room := { frames := 1, cells := 0, slots := 0, locals := 22 }
set_option maxHeartbeats 4000000 in
set_option maxRecDepth 100000 in
theorem k_X8_deleteRange_B (l : Launch) (G : wG) (σ : cS) (μ : mS) (o : Nat → Int64) (cs : Int32) (x : Int32) (y : Int32) (sp : Int32) (hb : (isInB x (nI 0) (nI 15) && isInB y (nI 0) (nI 15)) = false) (hmr : mR μ ≤ 8) : Met l yX8_deleteRange wsX8_deleteRange rm_k_X8_deleteRange_B (wPc G σ μ o [.ref (gA G 39), .int (cs), .int (x), .int (y), .int (sp)]) (va_Qi (fun (rr : Int32) (u : cS × mS) => rr = nI (0) ∧ u = (σ, thr μ 1)) (fun u t => wI G u.1 u.2 o t) (gP G)) 0 0 (gP G) := by
  refine Met.ofW (cc := cX8_deleteRange) (maxL := 8) (ret := (some .int)) (by decide) rfl ?_
  intro p e s m args below meth c s₁ B hml hv
  obtain ⟨hargs, hI⟩ := hv
  have S : CallFix p m c cX8_deleteRange 8 s args wsX8_deleteRange RX8 := ⟨B.exec, B.bytes, hml, findClass_of_methodNamed B.named, atoms_spec (ws := wsX8_deleteRange) B.pre⟩
  have hret := B.returns
  have hlocks := B.notSynchronized
  have Z := wZ_0 hI
  clear hI
  obtain ⟨Q, hQ⟩ : ∃ Q, Q = MQ below (va_Qi (fun (rr : Int32) (u : cS × mS) => rr = nI (0) ∧ u = (σ, thr μ 1)) (fun u t => wI G u.1 u.2 o t) (gP G)) args s 0 0 (gP G) := ⟨_, rfl⟩
  rw [← hQ]
  have hl := lv_entry [.ref (gA G 39), .int (cs), .int (x), .int (y), .int (sp)] (n := 8) (Nat.le_of_ble_eq_true rfl)
  rw [show entryFrame m args 8 = entryFrame m ([.ref (gA G 39), .int (cs), .int (x), .int (y), .int (sp)] : List Value).toArray 8 from by rw [hargs], lg_entry_eq]
  generalize (lg_sl [.ref (gA G 39), .int (cs), .int (x), .int (y), .int (sp)] ++ List.replicate (8 - (lg_sl [.ref (gA G 39), .int (cs), .int (x), .int (y), .int (sp)]).length) Slot.unset).toArray = ls at hl ⊢
  have hl : lv_has ls 8 [(0, .ref (gA G 39)), (1, .int (cs)), (2, .int (x)), (3, .int (y)), (4, .int (sp))] := hl
  have L_67 : ∀ (i : Nat) (hi : i ≤ mR μ) (H : Heap) (locs : List Loc) (Z : wZ G (σ) (μ) o s H locs) (ls : Array Slot) (hl : lv_has ls 8 [(0, .ref (gA G 39)), (1, .int (cs)), (2, .int (x)), (3, .int (y)), (4, .int (sp)), (5, .int (bi false)), (6, .int (nI i))]), W p l e (headSpec wsX8_deleteRange rm_k_X8_deleteRange_B).room s m args below meth c H locs 0 0 Q (F0 m 67 ls []) := by
    intro i hi H locs Z ls hl
    refine lv_iload_n S.1 S.2.1 dX8_deleteRange_67 rfl (lv_at hl 1 rfl) ?_
    refine lv_iconst (v := nI 0) S.1 S.2.1 dX8_deleteRange_68 (by decide) ?_
    refine lv_bipush (v := nI 7) S.1 S.2.1 dX8_deleteRange_69 (by decide) ?_
    refine vp_callSi (va_runS (As := [.int (cs), .int (nI 0), .int (nI 7)]) (rest := []) S (k_X8_isIn l G σ μ o cs (nI 0) (nI 7) ) (va_cwS 3 S.2.2.2.2 gX8_deleteRange_X8_isIn rfl rfl rfl hy_X8_isIn ⟨Nat.le_of_ble_eq_true rfl, Nat.le_of_ble_eq_true rfl⟩) (wPc_S Z) rfl rfl hl.1 rfl (lv_room (Nat.le_of_ble_eq_true rfl)) dX8_deleteRange_71 ⟨Nat.le_of_ble_eq_true rfl, Nat.le_of_ble_eq_true rfl⟩).run (fun r_1 h_2 => ?_)
    rw [h_2]; clear h_2 r_1
    refine r_if_eqB S (tgt := 98) dX8_deleteRange_74 (by decide) (fun c_3 => ?_) (fun c_3 => ?_)
    · skip
      refine lv_iconst (v := nI 0) S.1 S.2.1 dX8_deleteRange_98 (by decide) ?_
      refine lv_istore (lv' := [(7, .int (nI 0)), (0, .ref (gA G 39)), (1, .int (cs)), (2, .int (x)), (3, .int (y)), (4, .int (sp)), (5, .int (bi false)), (6, .int (nI i))]) S.1 S.2.1 dX8_deleteRange_99 hl (by decide) rfl (fun ls hl => ?_)
      refine lv_aload_n S.1 S.2.1 dX8_deleteRange_101 rfl (lv_at hl 1 rfl) ?_
      refine lv_iload S.1 S.2.1 dX8_deleteRange_102 (lv_at hl 6 rfl) ?_
      refine r_if_neB S (tgt := 111) dX8_deleteRange_104 (by decide) (fun c_4 => absurd c_4 (by decide)) (fun c_4 => ?_)
      refine lv_iconst (v := nI 1) S.1 S.2.1 dX8_deleteRange_107 (by decide) ?_
      refine lv_goto (tgt := 132) S.1 S.2.1 dX8_deleteRange_108 (by decide) ?_
      refine va_calli (va_runV (As := [.int (nI 1)]) (rest := []) S (k_X8_can l G σ μ o 1 (by omega)) (cwV 1 S.2.2.2.2 gX8_deleteRange_X8_can rfl rfl rfl ⟨rfl, hy_X8_can⟩ ⟨Nat.le_of_ble_eq_true rfl, Nat.le_of_ble_eq_true rfl⟩) (wPc_V (q := (RX8, TX8, 19)) Z (by decide) rfl rfl) rfl rfl hl.1 rfl (lv_room (Nat.le_of_ble_eq_true rfl)) dX8_deleteRange_132 ⟨Nat.le_of_ble_eq_true rfl, Nat.le_of_ble_eq_true rfl⟩) Z.2.2.2.2 (fun _ _ h => h) (fun _ h => h) (fun r_5 u_6 T9 H1 locs1 hT9 hvm hw hB hz hk9 hS => ?_)
      obtain ⟨hr9, rfl⟩ := hw
      rw [hr9]; clear hr9 r_5
      have Z : wZ G (σ) (thr μ 1) o s H1 locs1 := wZ_callP Z hB hT9 hS
      clear hB hT9 hS hk9 hz hvm T9
      revert Z; generalize H1 = H; generalize locs1 = locs; intro Z
      refine W.widen (k := 0) (n := 0) (by decide) (by decide) ?_
      refine r_if_neB S (tgt := 140) dX8_deleteRange_135 (by decide) (fun c_7 => absurd c_7 (by decide)) (fun c_7 => ?_)
      refine lv_iconst (v := nI 0) S.1 S.2.1 dX8_deleteRange_138 (by decide) ?_
      rw [hQ]
      exact W.iret (v := nI 0) S.1 S.2.1 hret (fun _ hT9 hW => ⟨⟨_, (σ, thr μ 1), rfl, ⟨rfl, rfl⟩, wZ_P Z hT9 hW⟩, Z.2.2.2.2.F hT9⟩) Z.2.2.2.2.2.2 dX8_deleteRange_139
    · skip
      refine lv_iload S.1 S.2.1 dX8_deleteRange_77 (lv_at hl 4 rfl) ?_
      refine lv_iconst (v := nI 0) S.1 S.2.1 dX8_deleteRange_79 (by decide) ?_
      refine lv_sipush (v := nI 999) S.1 S.2.1 dX8_deleteRange_80 (by decide) ?_
      refine vp_callSi (va_runS (As := [.int (sp), .int (nI 0), .int (nI 999)]) (rest := []) S (k_X8_isIn l G σ μ o sp (nI 0) (nI 999) ) (va_cwS 3 S.2.2.2.2 gX8_deleteRange_X8_isIn rfl rfl rfl hy_X8_isIn ⟨Nat.le_of_ble_eq_true rfl, Nat.le_of_ble_eq_true rfl⟩) (wPc_S Z) rfl rfl hl.1 rfl (lv_room (Nat.le_of_ble_eq_true rfl)) dX8_deleteRange_83 ⟨Nat.le_of_ble_eq_true rfl, Nat.le_of_ble_eq_true rfl⟩).run (fun r_8 h_9 => ?_)
      rw [h_9]; clear h_9 r_8
      refine r_if_eqB S (tgt := 98) dX8_deleteRange_86 (by decide) (fun c_10 => ?_) (fun c_10 => ?_)
      · skip
        refine lv_iconst (v := nI 0) S.1 S.2.1 dX8_deleteRange_98 (by decide) ?_
        refine lv_istore (lv' := [(7, .int (nI 0)), (0, .ref (gA G 39)), (1, .int (cs)), (2, .int (x)), (3, .int (y)), (4, .int (sp)), (5, .int (bi false)), (6, .int (nI i))]) S.1 S.2.1 dX8_deleteRange_99 hl (by decide) rfl (fun ls hl => ?_)
        refine lv_aload_n S.1 S.2.1 dX8_deleteRange_101 rfl (lv_at hl 1 rfl) ?_
        refine lv_iload S.1 S.2.1 dX8_deleteRange_102 (lv_at hl 6 rfl) ?_
        refine r_if_neB S (tgt := 111) dX8_deleteRange_104 (by decide) (fun c_11 => absurd c_11 (by decide)) (fun c_11 => ?_)
        refine lv_iconst (v := nI 1) S.1 S.2.1 dX8_deleteRange_107 (by decide) ?_
        refine lv_goto (tgt := 132) S.1 S.2.1 dX8_deleteRange_108 (by decide) ?_
        refine va_calli (va_runV (As := [.int (nI 1)]) (rest := []) S (k_X8_can l G σ μ o 1 (by omega)) (cwV 1 S.2.2.2.2 gX8_deleteRange_X8_can rfl rfl rfl ⟨rfl, hy_X8_can⟩ ⟨Nat.le_of_ble_eq_true rfl, Nat.le_of_ble_eq_true rfl⟩) (wPc_V (q := (RX8, TX8, 19)) Z (by decide) rfl rfl) rfl rfl hl.1 rfl (lv_room (Nat.le_of_ble_eq_true rfl)) dX8_deleteRange_132 ⟨Nat.le_of_ble_eq_true rfl, Nat.le_of_ble_eq_true rfl⟩) Z.2.2.2.2 (fun _ _ h => h) (fun _ h => h) (fun r_12 u_13 T9 H1 locs1 hT9 hvm hw hB hz hk9 hS => ?_)
        obtain ⟨hr9, rfl⟩ := hw
        rw [hr9]; clear hr9 r_12
        have Z : wZ G (σ) (thr μ 1) o s H1 locs1 := wZ_callP Z hB hT9 hS
        clear hB hT9 hS hk9 hz hvm T9
        revert Z; generalize H1 = H; generalize locs1 = locs; intro Z
        refine W.widen (k := 0) (n := 0) (by decide) (by decide) ?_
        refine r_if_neB S (tgt := 140) dX8_deleteRange_135 (by decide) (fun c_14 => absurd c_14 (by decide)) (fun c_14 => ?_)
        refine lv_iconst (v := nI 0) S.1 S.2.1 dX8_deleteRange_138 (by decide) ?_
        rw [hQ]
        exact W.iret (v := nI 0) S.1 S.2.1 hret (fun _ hT9 hW => ⟨⟨_, (σ, thr μ 1), rfl, ⟨rfl, rfl⟩, wZ_P Z hT9 hW⟩, Z.2.2.2.2.F hT9⟩) Z.2.2.2.2.2.2 dX8_deleteRange_139
      · skip
        refine lv_iload_n S.1 S.2.1 dX8_deleteRange_89 rfl (lv_at hl 3 rfl) ?_
        refine lv_iload_n S.1 S.2.1 dX8_deleteRange_90 rfl (lv_at hl 2 rfl) ?_
        refine lv_icmp_lt (tgt := 98) S.1 S.2.1 dX8_deleteRange_91 (by decide) (fun c_15 => ?_) (fun c_15 => ?_)
        · skip
          refine lv_iconst (v := nI 0) S.1 S.2.1 dX8_deleteRange_98 (by decide) ?_
          refine lv_istore (lv' := [(7, .int (nI 0)), (0, .ref (gA G 39)), (1, .int (cs)), (2, .int (x)), (3, .int (y)), (4, .int (sp)), (5, .int (bi false)), (6, .int (nI i))]) S.1 S.2.1 dX8_deleteRange_99 hl (by decide) rfl (fun ls hl => ?_)
          refine lv_aload_n S.1 S.2.1 dX8_deleteRange_101 rfl (lv_at hl 1 rfl) ?_
          refine lv_iload S.1 S.2.1 dX8_deleteRange_102 (lv_at hl 6 rfl) ?_
          refine r_if_neB S (tgt := 111) dX8_deleteRange_104 (by decide) (fun c_16 => absurd c_16 (by decide)) (fun c_16 => ?_)
          refine lv_iconst (v := nI 1) S.1 S.2.1 dX8_deleteRange_107 (by decide) ?_
          refine lv_goto (tgt := 132) S.1 S.2.1 dX8_deleteRange_108 (by decide) ?_
          refine va_calli (va_runV (As := [.int (nI 1)]) (rest := []) S (k_X8_can l G σ μ o 1 (by omega)) (cwV 1 S.2.2.2.2 gX8_deleteRange_X8_can rfl rfl rfl ⟨rfl, hy_X8_can⟩ ⟨Nat.le_of_ble_eq_true rfl, Nat.le_of_ble_eq_true rfl⟩) (wPc_V (q := (RX8, TX8, 19)) Z (by decide) rfl rfl) rfl rfl hl.1 rfl (lv_room (Nat.le_of_ble_eq_true rfl)) dX8_deleteRange_132 ⟨Nat.le_of_ble_eq_true rfl, Nat.le_of_ble_eq_true rfl⟩) Z.2.2.2.2 (fun _ _ h => h) (fun _ h => h) (fun r_17 u_18 T9 H1 locs1 hT9 hvm hw hB hz hk9 hS => ?_)
          obtain ⟨hr9, rfl⟩ := hw
          rw [hr9]; clear hr9 r_17
          have Z : wZ G (σ) (thr μ 1) o s H1 locs1 := wZ_callP Z hB hT9 hS
          clear hB hT9 hS hk9 hz hvm T9
          revert Z; generalize H1 = H; generalize locs1 = locs; intro Z
          refine W.widen (k := 0) (n := 0) (by decide) (by decide) ?_
          refine r_if_neB S (tgt := 140) dX8_deleteRange_135 (by decide) (fun c_19 => absurd c_19 (by decide)) (fun c_19 => ?_)
          refine lv_iconst (v := nI 0) S.1 S.2.1 dX8_deleteRange_138 (by decide) ?_
          rw [hQ]
          exact W.iret (v := nI 0) S.1 S.2.1 hret (fun _ hT9 hW => ⟨⟨_, (σ, thr μ 1), rfl, ⟨rfl, rfl⟩, wZ_P Z hT9 hW⟩, Z.2.2.2.2.F hT9⟩) Z.2.2.2.2.2.2 dX8_deleteRange_139
        · skip
          refine lv_iconst (v := nI 1) S.1 S.2.1 dX8_deleteRange_94 (by decide) ?_
          refine lv_goto (tgt := 99) S.1 S.2.1 dX8_deleteRange_95 (by decide) ?_
          refine lv_istore (lv' := [(7, .int (nI 1)), (0, .ref (gA G 39)), (1, .int (cs)), (2, .int (x)), (3, .int (y)), (4, .int (sp)), (5, .int (bi false)), (6, .int (nI i))]) S.1 S.2.1 dX8_deleteRange_99 hl (by decide) rfl (fun ls hl => ?_)
          refine lv_aload_n S.1 S.2.1 dX8_deleteRange_101 rfl (lv_at hl 1 rfl) ?_
          refine lv_iload S.1 S.2.1 dX8_deleteRange_102 (lv_at hl 6 rfl) ?_
          refine r_if_neB S (tgt := 111) dX8_deleteRange_104 (by decide) (fun c_20 => absurd c_20 (by decide)) (fun c_20 => ?_)
          refine lv_iconst (v := nI 1) S.1 S.2.1 dX8_deleteRange_107 (by decide) ?_
          refine lv_goto (tgt := 132) S.1 S.2.1 dX8_deleteRange_108 (by decide) ?_
          refine va_calli (va_runV (As := [.int (nI 1)]) (rest := []) S (k_X8_can l G σ μ o 1 (by omega)) (cwV 1 S.2.2.2.2 gX8_deleteRange_X8_can rfl rfl rfl ⟨rfl, hy_X8_can⟩ ⟨Nat.le_of_ble_eq_true rfl, Nat.le_of_ble_eq_true rfl⟩) (wPc_V (q := (RX8, TX8, 19)) Z (by decide) rfl rfl) rfl rfl hl.1 rfl (lv_room (Nat.le_of_ble_eq_true rfl)) dX8_deleteRange_132 ⟨Nat.le_of_ble_eq_true rfl, Nat.le_of_ble_eq_true rfl⟩) Z.2.2.2.2 (fun _ _ h => h) (fun _ h => h) (fun r_21 u_22 T9 H1 locs1 hT9 hvm hw hB hz hk9 hS => ?_)
          obtain ⟨hr9, rfl⟩ := hw
          rw [hr9]; clear hr9 r_21
          have Z : wZ G (σ) (thr μ 1) o s H1 locs1 := wZ_callP Z hB hT9 hS
          clear hB hT9 hS hk9 hz hvm T9
          revert Z; generalize H1 = H; generalize locs1 = locs; intro Z
          refine W.widen (k := 0) (n := 0) (by decide) (by decide) ?_
          refine r_if_neB S (tgt := 140) dX8_deleteRange_135 (by decide) (fun c_23 => absurd c_23 (by decide)) (fun c_23 => ?_)
          refine lv_iconst (v := nI 0) S.1 S.2.1 dX8_deleteRange_138 (by decide) ?_
          rw [hQ]
          exact W.iret (v := nI 0) S.1 S.2.1 hret (fun _ hT9 hW => ⟨⟨_, (σ, thr μ 1), rfl, ⟨rfl, rfl⟩, wZ_P Z hT9 hW⟩, Z.2.2.2.2.F hT9⟩) Z.2.2.2.2.2.2 dX8_deleteRange_139
  have L_27 : ∀   (H : Heap) (locs : List Loc) (Z : wZ G (σ) (μ) o s H locs) (ls : Array Slot) (hl : lv_has ls 8 [(0, .ref (gA G 39)), (1, .int (cs)), (2, .int (x)), (3, .int (y)), (4, .int (sp)), (5, .int (bi false))]), W p l e (headSpec wsX8_deleteRange rm_k_X8_deleteRange_B).room s m args below meth c H locs 0 0 Q (F0 m 27 ls []) := by
    intro   H locs Z ls hl
    refine lv_iconst (v := nI 0) S.1 S.2.1 dX8_deleteRange_27 (by decide) ?_
    refine lv_istore (lv' := [(6, .int (nI 0)), (0, .ref (gA G 39)), (1, .int (cs)), (2, .int (x)), (3, .int (y)), (4, .int (sp)), (5, .int (bi false))]) S.1 S.2.1 dX8_deleteRange_28 hl (by decide) rfl (fun ls hl => ?_)
    have L_30 : ∀ (n : Nat) (i : Nat) (hi : i ≤ mR μ) (hn : mR μ - i < n) (H : Heap) (locs : List Loc) (Z : wZ G (σ) (μ) o s H locs) (ls : Array Slot) (hl : lv_has ls 8 [(0, .ref (gA G 39)), (1, .int (cs)), (2, .int (x)), (3, .int (y)), (4, .int (sp)), (5, .int (bi false)), (6, .int (nI i))]), W p l e (headSpec wsX8_deleteRange rm_k_X8_deleteRange_B).room s m args below meth c H locs 0 0 Q (F0 m 30 ls []) := by
      intro n
      induction n with
      | zero => intro i hi hn; omega
      | succ n ih_30 =>
        intro i hi hn H locs Z ls hl
        refine lv_iload S.1 S.2.1 dX8_deleteRange_30 (lv_at hl 6 rfl) ?_
        refine lv_aload_n S.1 S.2.1 dX8_deleteRange_32 rfl (lv_at hl 0 rfl) ?_
        refine r_get (C := RX8) (T := TX8) (N := 19) (ci := 8) S Z (by decide) rfl rfl i_X8_deleteRange_X8 5 (by decide) m_X8_deleteRange_f94 rfl (v := .int (nI (mR μ))) rfl dX8_deleteRange_33 ?_
        refine r_icmpN_ge S (tgt := 67) (by omega) (by omega) dX8_deleteRange_36 (by decide) (fun c_24 => ?_) (fun c_24 => ?_)
        · skip
          exact L_67 i (by first | omega | exact Nat.zero_le _) _ _ Z ls (lv_sub hl [0, 1, 2, 3, 4, 5, 6] rfl)
        · skip
          refine lv_aload_n S.1 S.2.1 dX8_deleteRange_39 rfl (lv_at hl 0 rfl) ?_
          refine r_get (C := RX8) (T := TX8) (N := 19) (ci := 8) S Z (by decide) rfl rfl i_X8_deleteRange_X8 6 (by decide) m_X8_deleteRange_f25 rfl (v := .ref (gA G 45)) rfl dX8_deleteRange_40 ?_
          refine lv_iload S.1 S.2.1 dX8_deleteRange_43 (lv_at hl 6 rfl) ?_
          refine r_ialdM S Z (n := 8) ⟨rfl, rfl⟩ (by omega) (by decide) dX8_deleteRange_45 ?_
          refine lv_iload_n S.1 S.2.1 dX8_deleteRange_46 rfl (lv_at hl 2 rfl) ?_
          refine lv_icmp_ne (tgt := 61) S.1 S.2.1 dX8_deleteRange_47 (by decide) (fun c_25 => ?_) (fun c_25 => ?_)
          · skip
            refine lv_iinc (v := nI (i + 1)) (lv' := [(6, .int (nI (i + 1))), (0, .ref (gA G 39)), (1, .int (cs)), (2, .int (x)), (3, .int (y)), (4, .int (sp)), (5, .int (bi false))]) S.1 S.2.1 dX8_deleteRange_61 hl (k := 6) rfl (nI_inc rfl) (by decide) rfl (fun ls hl => ?_)
            refine lv_goto (tgt := 30) S.1 S.2.1 dX8_deleteRange_64 (by decide) ?_
            exact ih_30 (i + 1) (by first | omega | exact Nat.zero_le _) (by omega) _ _ Z ls (lv_sub hl [1, 2, 3, 4, 5, 6, 0] rfl)
          · skip
            refine lv_aload_n S.1 S.2.1 dX8_deleteRange_50 rfl (lv_at hl 0 rfl) ?_
            refine r_get (C := RX8) (T := TX8) (N := 19) (ci := 8) S Z (by decide) rfl rfl i_X8_deleteRange_X8 7 (by decide) m_X8_deleteRange_f28 rfl (v := .ref (gA G 46)) rfl dX8_deleteRange_51 ?_
            refine lv_iload S.1 S.2.1 dX8_deleteRange_54 (lv_at hl 6 rfl) ?_
            refine r_ialdM S Z (n := 8) ⟨rfl, rfl⟩ (by omega) (by decide) dX8_deleteRange_56 ?_
            refine lv_iload_n S.1 S.2.1 dX8_deleteRange_57 rfl (lv_at hl 3 rfl) ?_
            refine lv_icmp_eq (tgt := 67) S.1 S.2.1 dX8_deleteRange_58 (by decide) (fun c_26 => ?_) (fun c_26 => ?_)
            · skip
              exact L_67 i (by first | omega | exact Nat.zero_le _) _ _ Z ls (lv_sub hl [0, 1, 2, 3, 4, 5, 6] rfl)
            · skip
              refine lv_iinc (v := nI (i + 1)) (lv' := [(6, .int (nI (i + 1))), (0, .ref (gA G 39)), (1, .int (cs)), (2, .int (x)), (3, .int (y)), (4, .int (sp)), (5, .int (bi false))]) S.1 S.2.1 dX8_deleteRange_61 hl (k := 6) rfl (nI_inc rfl) (by decide) rfl (fun ls hl => ?_)
              refine lv_goto (tgt := 30) S.1 S.2.1 dX8_deleteRange_64 (by decide) ?_
              exact ih_30 (i + 1) (by first | omega | exact Nat.zero_le _) (by omega) _ _ Z ls (lv_sub hl [1, 2, 3, 4, 5, 6, 0] rfl)
    exact L_30 (mR μ - 0 + 1) 0 (by first | omega | exact Nat.zero_le _) (Nat.lt_succ_self _) _ _ Z ls (lv_sub hl [1, 2, 3, 4, 5, 6, 0] rfl)
  refine lv_iload_n S.1 S.2.1 dX8_deleteRange_0 rfl (lv_at hl 2 rfl) ?_
  refine lv_iconst (v := nI 0) S.1 S.2.1 dX8_deleteRange_1 (by decide) ?_
  refine lv_bipush (v := nI 15) S.1 S.2.1 dX8_deleteRange_2 (by decide) ?_
  refine vp_callSi (va_runS (As := [.int (x), .int (nI 0), .int (nI 15)]) (rest := []) S (k_X8_isIn l G σ μ o x (nI 0) (nI 15) ) (va_cwS 3 S.2.2.2.2 gX8_deleteRange_X8_isIn rfl rfl rfl hy_X8_isIn ⟨Nat.le_of_ble_eq_true rfl, Nat.le_of_ble_eq_true rfl⟩) (wPc_S Z) rfl rfl hl.1 rfl (lv_room (Nat.le_of_ble_eq_true rfl)) dX8_deleteRange_4 ⟨Nat.le_of_ble_eq_true rfl, Nat.le_of_ble_eq_true rfl⟩).run (fun r_27 h_28 => ?_)
  rw [h_28]; clear h_28 r_27
  refine r_if_eqB S (tgt := 24) dX8_deleteRange_7 (by decide) (fun c_29 => ?_) (fun c_29 => ?_)
  · skip
    refine lv_iconst (v := nI 0) S.1 S.2.1 dX8_deleteRange_24 (by decide) ?_
    refine lv_istore (lv' := [(5, .int (nI 0)), (0, .ref (gA G 39)), (1, .int (cs)), (2, .int (x)), (3, .int (y)), (4, .int (sp))]) S.1 S.2.1 dX8_deleteRange_25 hl (by decide) rfl (fun ls hl => ?_)
    have q_30 : (bi false : Int32) = nI 0 := by rfl
    have hl : lv_has ls 8 [(0, .ref (gA G 39)), (1, .int (cs)), (2, .int (x)), (3, .int (y)), (4, .int (sp)), (5, .int (bi false))] := by
      have hl := lv_sub hl [1, 2, 3, 4, 5, 0] rfl
      rw [q_30]; exact hl
    exact L_27   _ _ Z ls (hl)
  · skip
    refine lv_iload_n S.1 S.2.1 dX8_deleteRange_10 rfl (lv_at hl 3 rfl) ?_
    refine lv_iconst (v := nI 0) S.1 S.2.1 dX8_deleteRange_11 (by decide) ?_
    refine lv_bipush (v := nI 15) S.1 S.2.1 dX8_deleteRange_12 (by decide) ?_
    refine vp_callSi (va_runS (As := [.int (y), .int (nI 0), .int (nI 15)]) (rest := []) S (k_X8_isIn l G σ μ o y (nI 0) (nI 15) ) (va_cwS 3 S.2.2.2.2 gX8_deleteRange_X8_isIn rfl rfl rfl hy_X8_isIn ⟨Nat.le_of_ble_eq_true rfl, Nat.le_of_ble_eq_true rfl⟩) (wPc_S Z) rfl rfl hl.1 rfl (lv_room (Nat.le_of_ble_eq_true rfl)) dX8_deleteRange_14 ⟨Nat.le_of_ble_eq_true rfl, Nat.le_of_ble_eq_true rfl⟩).run (fun r_31 h_32 => ?_)
    rw [h_32]; clear h_32 r_31
    refine r_if_eqB S (tgt := 24) dX8_deleteRange_17 (by decide) (fun c_33 => ?_) (fun c_33 => absurd c_33 (by simp_all))
    refine lv_iconst (v := nI 0) S.1 S.2.1 dX8_deleteRange_24 (by decide) ?_
    refine lv_istore (lv' := [(5, .int (nI 0)), (0, .ref (gA G 39)), (1, .int (cs)), (2, .int (x)), (3, .int (y)), (4, .int (sp))]) S.1 S.2.1 dX8_deleteRange_25 hl (by decide) rfl (fun ls hl => ?_)
    have q_34 : (bi false : Int32) = nI 0 := by rfl
    have hl : lv_has ls 8 [(0, .ref (gA G 39)), (1, .int (cs)), (2, .int (x)), (3, .int (y)), (4, .int (sp)), (5, .int (bi false))] := by
      have hl := lv_sub hl [1, 2, 3, 4, 5, 0] rfl
      rw [q_34]; exact hl
    exact L_27   _ _ Z ls (hl)
