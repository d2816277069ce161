theorem i_X8_compares_X8 : ∀ w ∈ wsX80, w ∈ wsX8_compares := by decide +kernel
theorem m_X8_compares_f134 : Cond.fieldLink RX8 134 "WideCellModel" "visited" "I" ∈ wsX8_compares := by decide +kernel
abbrev rm_k_X8_compares : Room := { frames := 5, cells := 0, slots := 0, locals := 119 }
set_option maxHeartbeats 4000000 in
set_option maxRecDepth 100000 in
theorem k_X8_compares (l : Launch) (G : wG) (σ : cS) (μ : mS) (o : Nat → Int64) (k : Nat) (j : Nat) (hk3 : k < 3) (hj3 : j < 3) (hmr : mR μ ≤ 8) : Met l yX8_compares wsX8_compares rm_k_X8_compares (wPc G σ μ o [.ref (gA G 39), .int (nI k), .int (nI j)]) (va_Qi (fun (rr : Int32) (u : cS × mS) => rr = cpS μ k j 5 ∧ u = (σ, cpE μ k j)) (fun u t => wI G u.1 u.2 o t) (gP G)) 0 0 (gP G) := by
  refine Met.ofW (cc := cX8_compares) (maxL := 8) (ret := (some .int)) (by decide) rfl ?_
  intro p e s m args below meth c s₁ B hml hv
  obtain ⟨hargs, hI⟩ := hv
  have S : CallFix p m c cX8_compares 8 s args wsX8_compares RX8 := ⟨B.exec, B.bytes, hml, findClass_of_methodNamed B.named, atoms_spec (ws := wsX8_compares) B.pre⟩
  have hret := B.returns
  have hlocks := B.notSynchronized
  have Z := wZ_0 hI
  clear hI
  obtain ⟨Q, hQ⟩ : ∃ Q, Q = MQ below (va_Qi (fun (rr : Int32) (u : cS × mS) => rr = cpS μ k j 5 ∧ u = (σ, cpE μ k j)) (fun u t => wI G u.1 u.2 o t) (gP G)) args s 0 0 (gP G) := ⟨_, rfl⟩
  rw [← hQ]
  have hl := lv_entry [.ref (gA G 39), .int (nI k), .int (nI j)] (n := 8) (Nat.le_of_ble_eq_true rfl)
  rw [show entryFrame m args 8 = entryFrame m ([.ref (gA G 39), .int (nI k), .int (nI j)] : List Value).toArray 8 from by rw [hargs], lg_entry_eq]
  generalize (lg_sl [.ref (gA G 39), .int (nI k), .int (nI j)] ++ List.replicate (8 - (lg_sl [.ref (gA G 39), .int (nI k), .int (nI j)]).length) Slot.unset).toArray = ls at hl ⊢
  have hl : lv_has ls 8 [(0, .ref (gA G 39)), (1, .int (nI k)), (2, .int (nI j))] := hl
  refine lv_iconst (v := nI 1) S.1 S.2.1 dX8_compares_0 (by decide) ?_
  refine lv_istore_n (lv' := [(3, .int (nI 1)), (0, .ref (gA G 39)), (1, .int (nI k)), (2, .int (nI j))]) S.1 S.2.1 dX8_compares_1 rfl hl (by decide) rfl (fun ls hl => ?_)
  refine lv_aload_n S.1 S.2.1 dX8_compares_2 rfl (lv_at hl 1 rfl) ?_
  refine lv_iconst (v := nI 0) S.1 S.2.1 dX8_compares_3 (by decide) ?_
  refine r_put (C := RX8) (T := TX8) (N := 19) (ci := 8) (σ' := σ) (μ' := mV' μ 17 (nI 0)) S Z (by decide) rfl rfl i_X8_compares_X8 tyX8 tyX8_ok nmX8 17 (by decide) m_X8_compares_f134 rfl rfl (ty := .int) (v := .int (nI 0)) (by decide +kernel) rfl rfl (Nat.le_of_ble_eq_true rfl) rfl rfl (sMV17 _) dX8_compares_4 (fun H locs Z => ?_)
  refine lv_iconst (v := nI 0) S.1 S.2.1 dX8_compares_7 (by decide) ?_
  refine lv_istore (lv' := [(4, .int (nI 0)), (3, .int (nI 1)), (0, .ref (gA G 39)), (1, .int (nI k)), (2, .int (nI j))]) S.1 S.2.1 dX8_compares_8 hl (by decide) rfl (fun ls hl => ?_)
  have L_10 : ∀ (n : Nat) (lv : Nat) (hlv : lv ≤ 5) (hn : 5 - lv < n) (H : Heap) (locs : List Loc) (Z : wZ G (σ) (mV' μ 17 (cpC μ k j lv)) o s H locs) (ls : Array Slot) (hl : lv_has ls 8 [(0, .ref (gA G 39)), (1, .int (nI k)), (2, .int (nI j)), (3, .int (cpS μ k j lv)), (4, .int (nI lv))]), W p l e (headSpec wsX8_compares rm_k_X8_compares).room s m args below meth c H locs 0 0 Q (F0 m 10 ls []) := by
    intro n
    induction n with
    | zero => intro lv hlv hn; omega
    | succ n ih_10 =>
      intro lv hlv hn H locs Z ls hl
      refine lv_iload S.1 S.2.1 dX8_compares_10 (lv_at hl 4 rfl) ?_
      refine lv_iconst (v := nI 5) S.1 S.2.1 dX8_compares_12 (by decide) ?_
      refine r_icmpN_ge S (tgt := 127) (by omega) (by omega) dX8_compares_13 (by decide) (fun c_1 => ?_) (fun c_1 => ?_)
      · skip
        obtain rfl : lv = 5 := by omega
        refine lv_iload_n S.1 S.2.1 dX8_compares_127 rfl (lv_at hl 3 rfl) ?_
        rw [hQ]
        have q8 : (cpE μ k j : mS) = mV' μ 17 (cpC μ k j 5) := by unfold cpE; rfl
        rw [← q8] at Z
        exact W.iret (v := cpS μ k j 5) S.1 S.2.1 hret (fun _ hT9 hW => ⟨⟨_, (σ, cpE μ k j), rfl, ⟨rfl, rfl⟩, wZ_P Z hT9 hW⟩, Z.2.2.2.2.F hT9⟩) Z.2.2.2.2.2.2 dX8_compares_128
      · skip
        have hp2 := p2 (show lv < 5 by omega)
        refine lv_iconst (v := nI 0) S.1 S.2.1 dX8_compares_16 (by decide) ?_
        refine lv_istore (lv' := [(5, .int (nI 0)), (0, .ref (gA G 39)), (1, .int (nI k)), (2, .int (nI j)), (3, .int (cpS μ k j lv)), (4, .int (nI lv))]) S.1 S.2.1 dX8_compares_17 hl (by decide) rfl (fun ls hl => ?_)
        refine lv_iconst (v := nI 0) S.1 S.2.1 dX8_compares_19 (by decide) ?_
        refine lv_istore (lv' := [(6, .int (nI 0)), (5, .int (nI 0)), (0, .ref (gA G 39)), (1, .int (nI k)), (2, .int (nI j)), (3, .int (cpS μ k j lv)), (4, .int (nI lv))]) S.1 S.2.1 dX8_compares_20 hl (by decide) rfl (fun ls hl => ?_)
        have L_22 : ∀ (n : Nat) (nd : Nat) (hnd : nd ≤ 2 ^ lv) (hn : 2 ^ lv - nd < n) (H : Heap) (locs : List Loc) (Z : wZ G (σ) (mV' μ 17 (cpV (cpS μ k j lv) nd (cpC μ k j lv))) o s H locs) (ls : Array Slot) (hl : lv_has ls 8 [(0, .ref (gA G 39)), (1, .int (nI k)), (2, .int (nI j)), (3, .int (cpS μ k j lv)), (4, .int (nI lv)), (5, .int (cpX μ k j lv (cpS μ k j lv) nd)), (6, .int (nI nd))]), W p l e (headSpec wsX8_compares rm_k_X8_compares).room s m args below meth c H locs 0 0 Q (F0 m 22 ls []) := by
          intro n
          induction n with
          | zero => intro nd hnd hn; omega
          | succ n ih_22 =>
            intro nd hnd hn H locs Z ls hl
            refine lv_iload S.1 S.2.1 dX8_compares_22 (lv_at hl 6 rfl) ?_
            refine lv_iconst (v := nI 1) S.1 S.2.1 dX8_compares_24 (by decide) ?_
            refine lv_iload S.1 S.2.1 dX8_compares_25 (lv_at hl 4 rfl) ?_
            refine r_shl1 S (by omega) dX8_compares_27 ?_
            refine r_icmpN_ge S (tgt := 118) (by omega) (by omega) dX8_compares_28 (by decide) (fun c_2 => ?_) (fun c_2 => ?_)
            · skip
              obtain rfl : nd = 2 ^ lv := by omega
              refine lv_iload S.1 S.2.1 dX8_compares_118 (lv_at hl 5 rfl) ?_
              refine lv_istore_n (lv' := [(3, .int (cpX μ k j lv (cpS μ k j lv) (2 ^ lv))), (0, .ref (gA G 39)), (1, .int (nI k)), (2, .int (nI j)), (4, .int (nI lv)), (5, .int (cpX μ k j lv (cpS μ k j lv) (2 ^ lv))), (6, .int (nI (2 ^ lv)))]) S.1 S.2.1 dX8_compares_120 rfl hl (by decide) rfl (fun ls hl => ?_)
              refine lv_iinc (v := nI (lv + 1)) (lv' := [(4, .int (nI (lv + 1))), (3, .int (cpX μ k j lv (cpS μ k j lv) (2 ^ lv))), (0, .ref (gA G 39)), (1, .int (nI k)), (2, .int (nI j)), (5, .int (cpX μ k j lv (cpS μ k j lv) (2 ^ lv))), (6, .int (nI (2 ^ lv)))]) S.1 S.2.1 dX8_compares_121 hl (k := 4) rfl (nI_inc rfl) (by decide) rfl (fun ls hl => ?_)
              refine lv_goto (tgt := 10) S.1 S.2.1 dX8_compares_124 (by decide) ?_
              have q_3 : (cpS μ k j (lv + 1) : Int32) = cpX μ k j lv (cpS μ k j lv) (2 ^ lv) := by rfl
              have hl : lv_has ls 8 [(0, .ref (gA G 39)), (1, .int (nI k)), (2, .int (nI j)), (3, .int (cpS μ k j (lv + 1))), (4, .int (nI (lv + 1)))] := by
                have hl := lv_sub hl [2, 3, 4, 1, 0] rfl
                rw [q_3]; exact hl
              have q8 : (mV' μ 17 (cpC μ k j (lv + 1)) : mS) = mV' μ 17 (cpV (cpS μ k j lv) (2 ^ lv) (cpC μ k j lv)) := by rfl
              rw [← q8] at Z
              exact ih_10 (lv + 1) (by first | omega | exact Nat.zero_le _) (by omega) _ _ Z ls (hl)
            · skip
              refine lv_iload_n S.1 S.2.1 dX8_compares_31 rfl (lv_at hl 3 rfl) ?_
              refine lv_iload S.1 S.2.1 dX8_compares_32 (lv_at hl 6 rfl) ?_
              refine lv_ishr S.1 S.2.1 dX8_compares_34 ?_
              refine lv_iconst (v := nI 1) S.1 S.2.1 dX8_compares_35 (by decide) ?_
              refine lv_iand S.1 S.2.1 dX8_compares_36 ?_
              refine lv_iconst (v := nI 1) S.1 S.2.1 dX8_compares_37 (by decide) ?_
              refine lv_icmp_ne (tgt := 112) S.1 S.2.1 dX8_compares_38 (by decide) (fun c_4 => ?_) (fun c_4 => ?_)
              · skip
                refine lv_iinc (v := nI (nd + 1)) (lv' := [(6, .int (nI (nd + 1))), (0, .ref (gA G 39)), (1, .int (nI k)), (2, .int (nI j)), (3, .int (cpS μ k j lv)), (4, .int (nI lv)), (5, .int (cpX μ k j lv (cpS μ k j lv) nd))]) S.1 S.2.1 dX8_compares_112 hl (k := 6) rfl (nI_inc rfl) (by decide) rfl (fun ls hl => ?_)
                refine lv_goto (tgt := 22) S.1 S.2.1 dX8_compares_115 (by decide) ?_
                have q_5 : (cpX μ k j lv (cpS μ k j lv) (nd + 1) : Int32) = cpX μ k j lv (cpS μ k j lv) nd := by first | (first | (simp [cpX, cpV, bitB, nxt, mV_i, mV_s, hlv, c_1, hnd, c_2, c_4]; done) | (simp [cpX, cpV, bitB, nxt, mV_i, mV_s, hlv, c_1, hnd, c_2, c_4]; omega) | (simp [cpX, cpV, bitB, nxt, mV_i, mV_s, ← Int32.not_le, hlv, c_1, hnd, c_2, c_4]; done)) | with_reducible rfl
                have hl : lv_has ls 8 [(0, .ref (gA G 39)), (1, .int (nI k)), (2, .int (nI j)), (3, .int (cpS μ k j lv)), (4, .int (nI lv)), (5, .int (cpX μ k j lv (cpS μ k j lv) (nd + 1))), (6, .int (nI (nd + 1)))] := by
                  have hl := lv_sub hl [1, 2, 3, 4, 5, 6, 0] rfl
                  rw [q_5]; exact hl
                have q8 : (mV' μ 17 (cpV (cpS μ k j lv) (nd + 1) (cpC μ k j lv)) : mS) = mV' μ 17 (cpV (cpS μ k j lv) nd (cpC μ k j lv)) := by first | (simp [cpX, cpV, bitB, nxt, mV_i, mV_s, hlv, c_1, hnd, c_2, c_4]; done) | (simp [cpX, cpV, bitB, nxt, mV_i, mV_s, hlv, c_1, hnd, c_2, c_4]; omega) | (simp [cpX, cpV, bitB, nxt, mV_i, mV_s, ← Int32.not_le, hlv, c_1, hnd, c_2, c_4]; done)
                rw [← q8] at Z
                exact ih_22 (nd + 1) (by first | omega | exact Nat.zero_le _) (by omega) _ _ Z ls (hl)
              · skip
                refine lv_aload_n S.1 S.2.1 dX8_compares_41 rfl (lv_at hl 0 rfl) ?_
                refine lv_dup S.1 S.2.1 dX8_compares_42 rfl ?_
                refine r_get (C := RX8) (T := TX8) (N := 19) (ci := 8) S Z (by decide) rfl rfl i_X8_compares_X8 17 (by decide) m_X8_compares_f134 rfl (v := .int (mV (mV' μ 17 (cpV (cpS μ k j lv) nd (cpC μ k j lv))) 17)) rfl dX8_compares_43 ?_
                refine lv_iconst (v := nI 1) S.1 S.2.1 dX8_compares_46 (by decide) ?_
                refine lv_iadd S.1 S.2.1 dX8_compares_47 ?_
                refine r_put (C := RX8) (T := TX8) (N := 19) (ci := 8) (σ' := σ) (μ' := mV' (mV' μ 17 (cpV (cpS μ k j lv) nd (cpC μ k j lv))) 17 ((mV (mV' μ 17 (cpV (cpS μ k j lv) nd (cpC μ k j lv))) 17 + nI 1))) S Z (by decide) rfl rfl i_X8_compares_X8 tyX8 tyX8_ok nmX8 17 (by decide) m_X8_compares_f134 rfl rfl (ty := .int) (v := .int ((mV (mV' μ 17 (cpV (cpS μ k j lv) nd (cpC μ k j lv))) 17 + nI 1))) (by decide +kernel) rfl rfl (Nat.le_of_ble_eq_true rfl) rfl rfl (sMV17 _) dX8_compares_48 (fun H locs Z => ?_)
                refine lv_aload_n S.1 S.2.1 dX8_compares_51 rfl (lv_at hl 0 rfl) ?_
                refine lv_iload_n S.1 S.2.1 dX8_compares_52 rfl (lv_at hl 1 rfl) ?_
                refine lv_iload S.1 S.2.1 dX8_compares_53 (lv_at hl 4 rfl) ?_
                refine lv_iload S.1 S.2.1 dX8_compares_55 (lv_at hl 6 rfl) ?_
                refine vp_callSi (va_runV (As := [.int (nI k), .int (nI lv), .int (nI nd)]) (rest := []) S (k_X8_sumOfNode l G σ (mV' (mV' μ 17 (cpV (cpS μ k j lv) nd (cpC μ k j lv))) 17 ((mV (mV' μ 17 (cpV (cpS μ k j lv) nd (cpC μ k j lv))) 17 + nI 1))) o μ k lv nd (by omega) (by omega) (by omega) hmr ⟨rfl, rfl⟩) (cwV 3 S.2.2.2.2 gX8_compares_X8_sumOfNode rfl rfl rfl ⟨rfl, hy_X8_sumOfNode⟩ ⟨Nat.le_of_ble_eq_true rfl, Nat.le_of_ble_eq_true rfl⟩) (wPc_V (q := (RX8, TX8, 19)) Z (by decide) rfl rfl) rfl rfl hl.1 rfl (lv_room (Nat.le_of_ble_eq_true rfl)) dX8_compares_57 ⟨Nat.le_of_ble_eq_true rfl, Nat.le_of_ble_eq_true rfl⟩).run (fun r_6 h_7 => ?_)
                rw [h_7]; clear h_7 r_6
                refine lv_aload_n S.1 S.2.1 dX8_compares_60 rfl (lv_at hl 0 rfl) ?_
                refine lv_iload_n S.1 S.2.1 dX8_compares_61 rfl (lv_at hl 2 rfl) ?_
                refine lv_iload S.1 S.2.1 dX8_compares_62 (lv_at hl 4 rfl) ?_
                refine lv_iload S.1 S.2.1 dX8_compares_64 (lv_at hl 6 rfl) ?_
                refine vp_callSi (va_runV (As := [.int (nI j), .int (nI lv), .int (nI nd)]) (rest := [.int (snM μ k lv nd)]) S (k_X8_sumOfNode l G σ (mV' (mV' μ 17 (cpV (cpS μ k j lv) nd (cpC μ k j lv))) 17 ((mV (mV' μ 17 (cpV (cpS μ k j lv) nd (cpC μ k j lv))) 17 + nI 1))) o μ j lv nd (by omega) (by omega) (by omega) hmr ⟨rfl, rfl⟩) (cwV 3 S.2.2.2.2 gX8_compares_X8_sumOfNode rfl rfl rfl ⟨rfl, hy_X8_sumOfNode⟩ ⟨Nat.le_of_ble_eq_true rfl, Nat.le_of_ble_eq_true rfl⟩) (wPc_V (q := (RX8, TX8, 19)) Z (by decide) rfl rfl) rfl rfl hl.1 rfl (lv_room (Nat.le_of_ble_eq_true rfl)) dX8_compares_66 ⟨Nat.le_of_ble_eq_true rfl, Nat.le_of_ble_eq_true rfl⟩).run (fun r_8 h_9 => ?_)
                rw [h_9]; clear h_9 r_8
                refine lv_icmp_eq (tgt := 76) S.1 S.2.1 dX8_compares_69 (by decide) (fun c_10 => ?_) (fun c_10 => ?_)
                · skip
                  refine lv_iconst (v := nI 0) S.1 S.2.1 dX8_compares_76 (by decide) ?_
                  refine lv_istore (lv' := [(7, .int (nI 0)), (0, .ref (gA G 39)), (1, .int (nI k)), (2, .int (nI j)), (3, .int (cpS μ k j lv)), (4, .int (nI lv)), (5, .int (cpX μ k j lv (cpS μ k j lv) nd)), (6, .int (nI nd))]) S.1 S.2.1 dX8_compares_77 hl (by decide) rfl (fun ls hl => ?_)
                  refine lv_iload S.1 S.2.1 dX8_compares_79 (lv_at hl 6 rfl) ?_
                  refine lv_iload S.1 S.2.1 dX8_compares_81 (lv_at hl 0 rfl) ?_
                  refine r_if_neN S (tgt := 90) (by decide) dX8_compares_83 (by decide) (fun c_11 => absurd c_11 (by decide)) (fun c_11 => ?_)
                  refine lv_iconst (v := nI 0) S.1 S.2.1 dX8_compares_86 (by decide) ?_
                  refine lv_goto (tgt := 109) S.1 S.2.1 dX8_compares_87 (by decide) ?_
                  refine lv_ior S.1 S.2.1 dX8_compares_109 ?_
                  refine lv_istore (lv' := [(5, .int ((cpX μ k j lv (cpS μ k j lv) nd ||| nI 0))), (7, .int (nI 0)), (0, .ref (gA G 39)), (1, .int (nI k)), (2, .int (nI j)), (3, .int (cpS μ k j lv)), (4, .int (nI lv)), (6, .int (nI nd))]) S.1 S.2.1 dX8_compares_110 hl (by decide) rfl (fun ls hl => ?_)
                  refine lv_iinc (v := nI (nd + 1)) (lv' := [(6, .int (nI (nd + 1))), (5, .int ((cpX μ k j lv (cpS μ k j lv) nd ||| nI 0))), (7, .int (nI 0)), (0, .ref (gA G 39)), (1, .int (nI k)), (2, .int (nI j)), (3, .int (cpS μ k j lv)), (4, .int (nI lv))]) S.1 S.2.1 dX8_compares_112 hl (k := 7) rfl (nI_inc rfl) (by decide) rfl (fun ls hl => ?_)
                  refine lv_goto (tgt := 22) S.1 S.2.1 dX8_compares_115 (by decide) ?_
                  have q_12 : (cpX μ k j lv (cpS μ k j lv) (nd + 1) : Int32) = (cpX μ k j lv (cpS μ k j lv) nd ||| nI 0) := by first | (first | (simp [cpX, cpV, bitB, nxt, mV_i, mV_s, hlv, c_1, hnd, c_2, c_4, c_10]; done) | (simp [cpX, cpV, bitB, nxt, mV_i, mV_s, hlv, c_1, hnd, c_2, c_4, c_10]; omega) | (simp [cpX, cpV, bitB, nxt, mV_i, mV_s, ← Int32.not_le, hlv, c_1, hnd, c_2, c_4, c_10]; done) | (simp [cpX, cpV, bitB, nxt, mV_i, mV_s, hlv, c_1, hnd, c_2, eq_true c_4, eq_true c_10]; done)) | with_reducible rfl
                  have hl : lv_has ls 8 [(0, .ref (gA G 39)), (1, .int (nI k)), (2, .int (nI j)), (3, .int (cpS μ k j lv)), (4, .int (nI lv)), (5, .int (cpX μ k j lv (cpS μ k j lv) (nd + 1))), (6, .int (nI (nd + 1)))] := by
                    have hl := lv_sub hl [3, 4, 5, 6, 7, 1, 0] rfl
                    rw [q_12]; exact hl
                  have q8 : (mV' μ 17 (cpV (cpS μ k j lv) (nd + 1) (cpC μ k j lv)) : mS) = mV' (mV' μ 17 (cpV (cpS μ k j lv) nd (cpC μ k j lv))) 17 ((mV (mV' μ 17 (cpV (cpS μ k j lv) nd (cpC μ k j lv))) 17 + nI 1)) := by first | (simp [cpX, cpV, bitB, nxt, mV_i, mV_s, hlv, c_1, hnd, c_2, c_4, c_10]; done) | (simp [cpX, cpV, bitB, nxt, mV_i, mV_s, hlv, c_1, hnd, c_2, c_4, c_10]; omega) | (simp [cpX, cpV, bitB, nxt, mV_i, mV_s, ← Int32.not_le, hlv, c_1, hnd, c_2, c_4, c_10]; done) | (simp [cpX, cpV, bitB, nxt, mV_i, mV_s, hlv, c_1, hnd, c_2, eq_true c_4, eq_true c_10]; done)
                  rw [← q8] at Z
                  exact ih_22 (nd + 1) (by first | omega | exact Nat.zero_le _) (by omega) _ _ Z ls (hl)
                · skip
                  refine lv_iconst (v := nI 1) S.1 S.2.1 dX8_compares_72 (by decide) ?_
                  refine lv_goto (tgt := 77) S.1 S.2.1 dX8_compares_73 (by decide) ?_
                  refine lv_istore (lv' := [(7, .int (nI 1)), (0, .ref (gA G 39)), (1, .int (nI k)), (2, .int (nI j)), (3, .int (cpS μ k j lv)), (4, .int (nI lv)), (5, .int (cpX μ k j lv (cpS μ k j lv) nd)), (6, .int (nI nd))]) S.1 S.2.1 dX8_compares_77 hl (by decide) rfl (fun ls hl => ?_)
                  refine lv_iload S.1 S.2.1 dX8_compares_79 (lv_at hl 6 rfl) ?_
                  refine lv_iload S.1 S.2.1 dX8_compares_81 (lv_at hl 0 rfl) ?_
                  refine r_if_neN S (tgt := 90) (by decide) dX8_compares_83 (by decide) (fun c_13 => ?_) (fun c_13 => absurd c_13 (by decide))
                  refine lv_iload S.1 S.2.1 dX8_compares_90 (lv_at hl 5 rfl) ?_
                  refine lv_iconst (v := nI 4) S.1 S.2.1 dX8_compares_92 (by decide) ?_
                  refine r_icmpN_ne S (tgt := 103) (by omega) (by omega) dX8_compares_93 (by decide) (fun c_14 => ?_) (fun c_14 => ?_)
                  · skip
                    refine lv_iconst (v := nI 3) S.1 S.2.1 dX8_compares_103 (by decide) ?_
                    refine lv_iconst (v := nI 2) S.1 S.2.1 dX8_compares_104 (by decide) ?_
                    refine lv_iload S.1 S.2.1 dX8_compares_105 (lv_at hl 7 rfl) ?_
                    refine r_mulN S dX8_compares_107 ?_
                    refine lv_ishl S.1 S.2.1 dX8_compares_108 ?_
                    refine lv_ior S.1 S.2.1 dX8_compares_109 ?_
                    refine lv_istore (lv' := [(5, .int ((cpX μ k j lv (cpS μ k j lv) nd ||| (nI 3 <<< (nI (2 * nd) &&& 31))))), (7, .int (nI 1)), (0, .ref (gA G 39)), (1, .int (nI k)), (2, .int (nI j)), (3, .int (cpS μ k j lv)), (4, .int (nI lv)), (6, .int (nI nd))]) S.1 S.2.1 dX8_compares_110 hl (by decide) rfl (fun ls hl => ?_)
                    refine lv_iinc (v := nI (nd + 1)) (lv' := [(6, .int (nI (nd + 1))), (5, .int ((cpX μ k j lv (cpS μ k j lv) nd ||| (nI 3 <<< (nI (2 * nd) &&& 31))))), (7, .int (nI 1)), (0, .ref (gA G 39)), (1, .int (nI k)), (2, .int (nI j)), (3, .int (cpS μ k j lv)), (4, .int (nI lv))]) S.1 S.2.1 dX8_compares_112 hl (k := 7) rfl (nI_inc rfl) (by decide) rfl (fun ls hl => ?_)
                    refine lv_goto (tgt := 22) S.1 S.2.1 dX8_compares_115 (by decide) ?_
                    have q_15 : (cpX μ k j lv (cpS μ k j lv) (nd + 1) : Int32) = (cpX μ k j lv (cpS μ k j lv) nd ||| (nI 3 <<< (nI (2 * nd) &&& 31))) := by first | (first | (simp [cpX, cpV, bitB, nxt, mV_i, mV_s, hlv, c_1, hnd, c_2, c_4, c_10, c_14]; done) | (simp [cpX, cpV, bitB, nxt, mV_i, mV_s, hlv, c_1, hnd, c_2, c_4, c_10, c_14]; omega) | (simp [cpX, cpV, bitB, nxt, mV_i, mV_s, ← Int32.not_le, hlv, c_1, hnd, c_2, c_4, c_10, c_14]; done) | (simp [cpX, cpV, bitB, nxt, mV_i, mV_s, hlv, c_1, hnd, c_2, eq_true c_4, c_10, c_14]; done)) | with_reducible rfl
                    have hl : lv_has ls 8 [(0, .ref (gA G 39)), (1, .int (nI k)), (2, .int (nI j)), (3, .int (cpS μ k j lv)), (4, .int (nI lv)), (5, .int (cpX μ k j lv (cpS μ k j lv) (nd + 1))), (6, .int (nI (nd + 1)))] := by
                      have hl := lv_sub hl [3, 4, 5, 6, 7, 1, 0] rfl
                      rw [q_15]; exact hl
                    have q8 : (mV' μ 17 (cpV (cpS μ k j lv) (nd + 1) (cpC μ k j lv)) : mS) = mV' (mV' μ 17 (cpV (cpS μ k j lv) nd (cpC μ k j lv))) 17 ((mV (mV' μ 17 (cpV (cpS μ k j lv) nd (cpC μ k j lv))) 17 + nI 1)) := by first | (simp [cpX, cpV, bitB, nxt, mV_i, mV_s, hlv, c_1, hnd, c_2, c_4, c_10, c_14]; done) | (simp [cpX, cpV, bitB, nxt, mV_i, mV_s, hlv, c_1, hnd, c_2, c_4, c_10, c_14]; omega) | (simp [cpX, cpV, bitB, nxt, mV_i, mV_s, ← Int32.not_le, hlv, c_1, hnd, c_2, c_4, c_10, c_14]; done) | (simp [cpX, cpV, bitB, nxt, mV_i, mV_s, hlv, c_1, hnd, c_2, eq_true c_4, c_10, c_14]; done)
                    rw [← q8] at Z
                    exact ih_22 (nd + 1) (by first | omega | exact Nat.zero_le _) (by omega) _ _ Z ls (hl)
                  · skip
                    refine lv_iconst (v := nI 1) S.1 S.2.1 dX8_compares_96 (by decide) ?_
                    refine lv_iload S.1 S.2.1 dX8_compares_97 (lv_at hl 7 rfl) ?_
                    refine lv_ishl S.1 S.2.1 dX8_compares_99 ?_
                    refine lv_goto (tgt := 109) S.1 S.2.1 dX8_compares_100 (by decide) ?_
                    refine lv_ior S.1 S.2.1 dX8_compares_109 ?_
                    refine lv_istore (lv' := [(5, .int ((cpX μ k j lv (cpS μ k j lv) nd ||| (nI 1 <<< (nI nd &&& 31))))), (7, .int (nI 1)), (0, .ref (gA G 39)), (1, .int (nI k)), (2, .int (nI j)), (3, .int (cpS μ k j lv)), (4, .int (nI lv)), (6, .int (nI nd))]) S.1 S.2.1 dX8_compares_110 hl (by decide) rfl (fun ls hl => ?_)
                    refine lv_iinc (v := nI (nd + 1)) (lv' := [(6, .int (nI (nd + 1))), (5, .int ((cpX μ k j lv (cpS μ k j lv) nd ||| (nI 1 <<< (nI nd &&& 31))))), (7, .int (nI 1)), (0, .ref (gA G 39)), (1, .int (nI k)), (2, .int (nI j)), (3, .int (cpS μ k j lv)), (4, .int (nI lv))]) S.1 S.2.1 dX8_compares_112 hl (k := 7) rfl (nI_inc rfl) (by decide) rfl (fun ls hl => ?_)
                    refine lv_goto (tgt := 22) S.1 S.2.1 dX8_compares_115 (by decide) ?_
                    have q_16 : (cpX μ k j lv (cpS μ k j lv) (nd + 1) : Int32) = (cpX μ k j lv (cpS μ k j lv) nd ||| (nI 1 <<< (nI nd &&& 31))) := by first | (first | (simp [cpX, cpV, bitB, nxt, mV_i, mV_s, hlv, c_1, hnd, c_2, c_4, c_10, c_14]; done) | (simp [cpX, cpV, bitB, nxt, mV_i, mV_s, hlv, c_1, hnd, c_2, c_4, c_10, c_14]; omega) | (simp [cpX, cpV, bitB, nxt, mV_i, mV_s, ← Int32.not_le, hlv, c_1, hnd, c_2, c_4, c_10, c_14]; done) | (simp [cpX, cpV, bitB, nxt, mV_i, mV_s, hlv, c_1, hnd, c_2, eq_true c_4, c_10, eq_true c_14]; done)) | with_reducible rfl
                    have hl : lv_has ls 8 [(0, .ref (gA G 39)), (1, .int (nI k)), (2, .int (nI j)), (3, .int (cpS μ k j lv)), (4, .int (nI lv)), (5, .int (cpX μ k j lv (cpS μ k j lv) (nd + 1))), (6, .int (nI (nd + 1)))] := by
                      have hl := lv_sub hl [3, 4, 5, 6, 7, 1, 0] rfl
                      rw [q_16]; exact hl
                    have q8 : (mV' μ 17 (cpV (cpS μ k j lv) (nd + 1) (cpC μ k j lv)) : mS) = mV' (mV' μ 17 (cpV (cpS μ k j lv) nd (cpC μ k j lv))) 17 ((mV (mV' μ 17 (cpV (cpS μ k j lv) nd (cpC μ k j lv))) 17 + nI 1)) := by first | (simp [cpX, cpV, bitB, nxt, mV_i, mV_s, hlv, c_1, hnd, c_2, c_4, c_10, c_14]; done) | (simp [cpX, cpV, bitB, nxt, mV_i, mV_s, hlv, c_1, hnd, c_2, c_4, c_10, c_14]; omega) | (simp [cpX, cpV, bitB, nxt, mV_i, mV_s, ← Int32.not_le, hlv, c_1, hnd, c_2, c_4, c_10, c_14]; done) | (simp [cpX, cpV, bitB, nxt, mV_i, mV_s, hlv, c_1, hnd, c_2, eq_true c_4, c_10, eq_true c_14]; done)
                    rw [← q8] at Z
                    exact ih_22 (nd + 1) (by first | omega | exact Nat.zero_le _) (by omega) _ _ Z ls (hl)
        have q_17 : (cpX μ k j lv (cpS μ k j lv) 0 : Int32) = nI 0 := by rfl
        have hl : lv_has ls 8 [(0, .ref (gA G 39)), (1, .int (nI k)), (2, .int (nI j)), (3, .int (cpS μ k j lv)), (4, .int (nI lv)), (5, .int (cpX μ k j lv (cpS μ k j lv) 0)), (6, .int (nI 0))] := by
          have hl := lv_sub hl [2, 3, 4, 5, 6, 1, 0] rfl
          rw [q_17]; exact hl
        have q8 : (mV' μ 17 (cpV (cpS μ k j lv) 0 (cpC μ k j lv)) : mS) = mV' μ 17 (cpC μ k j lv) := by rfl
        rw [← q8] at Z
        exact L_22 (2 ^ lv - 0 + 1) 0 (by first | omega | exact Nat.zero_le _) (Nat.lt_succ_self _) _ _ Z ls (hl)
  have q_18 : (cpS μ k j 0 : Int32) = nI 1 := by rfl
  have hl : lv_has ls 8 [(0, .ref (gA G 39)), (1, .int (nI k)), (2, .int (nI j)), (3, .int (cpS μ k j 0)), (4, .int (nI 0))] := by
    have hl := lv_sub hl [2, 3, 4, 1, 0] rfl
    rw [q_18]; exact hl
  have q8 : (mV' μ 17 (cpC μ k j 0) : mS) = mV' μ 17 (nI 0) := by rfl
  rw [← q8] at Z
  exact L_10 (5 - 0 + 1) 0 (by first | omega | exact Nat.zero_le _) (Nat.lt_succ_self _) _ _ Z ls (hl)

theorem i_X8_makeAlike_X8 : ∀ w ∈ wsX80, w ∈ wsX8_makeAlike := by decide +kernel
theorem m_X8_makeAlike_f31 : Cond.fieldLink RX8 31 "WideCellModel" "isUp" "[Z" ∈ wsX8_makeAlike := by decide +kernel
abbrev rm_k_X8_makeAlike : Room := { frames := 6, cells := 0, slots := 0, locals := 146 }
set_option maxHeartbeats 4000000 in
set_option maxRecDepth 100000 in
theorem k_X8_makeAlike (l : Launch) (G : wG) (σ : cS) (μ : mS) (o : Nat → Int64) (k : Nat) (j : Nat) (hk3 : k < 3) (hj3 : j < 3) (hmr : mR μ ≤ 8) : Met l yX8_makeAlike wsX8_makeAlike rm_k_X8_makeAlike (wPc G σ μ o [.ref (gA G 39), .int (nI k), .int (nI j)]) (va_Qi (fun (rr : Int32) (u : cS × mS) => rr = nI (maQ μ k j) ∧ u = (σ, maF μ k j)) (fun u t => wI G u.1 u.2 o t) (gP G)) 0 0 (gP G) := by
  refine Met.ofW (cc := cX8_makeAlike) (maxL := 7) (ret := (some .int)) (by decide) rfl ?_
  intro p e s m args below meth c s₁ B hml hv
  obtain ⟨hargs, hI⟩ := hv
  have S : CallFix p m c cX8_makeAlike 7 s args wsX8_makeAlike RX8 := ⟨B.exec, B.bytes, hml, findClass_of_methodNamed B.named, atoms_spec (ws := wsX8_makeAlike) B.pre⟩
  have hret := B.returns
  have hlocks := B.notSynchronized
  have Z := wZ_0 hI
  clear hI
  obtain ⟨Q, hQ⟩ : ∃ Q, Q = MQ below (va_Qi (fun (rr : Int32) (u : cS × mS) => rr = nI (maQ μ k j) ∧ u = (σ, maF μ k j)) (fun u t => wI G u.1 u.2 o t) (gP G)) args s 0 0 (gP G) := ⟨_, rfl⟩
  rw [← hQ]
  have hl := lv_entry [.ref (gA G 39), .int (nI k), .int (nI j)] (n := 7) (Nat.le_of_ble_eq_true rfl)
  rw [show entryFrame m args 7 = entryFrame m ([.ref (gA G 39), .int (nI k), .int (nI j)] : List Value).toArray 7 from by rw [hargs], lg_entry_eq]
  generalize (lg_sl [.ref (gA G 39), .int (nI k), .int (nI j)] ++ List.replicate (7 - (lg_sl [.ref (gA G 39), .int (nI k), .int (nI j)]).length) Slot.unset).toArray = ls at hl ⊢
  have hl : lv_has ls 7 [(0, .ref (gA G 39)), (1, .int (nI k)), (2, .int (nI j))] := hl
  refine lv_aload_n S.1 S.2.1 dX8_makeAlike_0 rfl (lv_at hl 0 rfl) ?_
  refine lv_iload_n S.1 S.2.1 dX8_makeAlike_1 rfl (lv_at hl 1 rfl) ?_
  refine vp_callSi (va_runS (As := [.int (nI k)]) (rest := [.ref (gA G 39)]) S (k_X8_isCopy l G σ μ o (nI k) ) (va_cwS 1 S.2.2.2.2 gX8_makeAlike_X8_isCopy rfl rfl rfl hy_X8_isCopy ⟨Nat.le_of_ble_eq_true rfl, Nat.le_of_ble_eq_true rfl⟩) (wPc_S Z) rfl rfl hl.1 rfl (lv_room (Nat.le_of_ble_eq_true rfl)) dX8_makeAlike_2 ⟨Nat.le_of_ble_eq_true rfl, Nat.le_of_ble_eq_true rfl⟩).run (fun r_1 h_2 => ?_)
  rw [h_2]; clear h_2 r_1
  refine r_if_eqB S (tgt := 15) dX8_makeAlike_5 (by decide) (fun c_3 => absurd c_3 (by rw [isCopyB_ok hk3]; decide)) (fun c_3 => ?_)
  refine lv_iload_n S.1 S.2.1 dX8_makeAlike_8 rfl (lv_at hl 2 rfl) ?_
  refine vp_callSi (va_runS (As := [.int (nI j)]) (rest := [.ref (gA G 39)]) S (k_X8_isCopy l G σ μ o (nI j) ) (va_cwS 1 S.2.2.2.2 gX8_makeAlike_X8_isCopy rfl rfl rfl hy_X8_isCopy ⟨Nat.le_of_ble_eq_true rfl, Nat.le_of_ble_eq_true rfl⟩) (wPc_S Z) rfl rfl hl.1 rfl (lv_room (Nat.le_of_ble_eq_true rfl)) dX8_makeAlike_9 ⟨Nat.le_of_ble_eq_true rfl, Nat.le_of_ble_eq_true rfl⟩).run (fun r_4 h_5 => ?_)
  rw [h_5]; clear h_5 r_4
  refine r_if_neB S (tgt := 19) dX8_makeAlike_12 (by decide) (fun c_6 => ?_) (fun c_6 => absurd c_6 (by rw [isCopyB_ok hj3]; decide))
  refine lv_iload_n S.1 S.2.1 dX8_makeAlike_19 rfl (lv_at hl 1 rfl) ?_
  refine lv_iload_n S.1 S.2.1 dX8_makeAlike_20 rfl (lv_at hl 2 rfl) ?_
  refine r_icmpN_ne S (tgt := 28) (by omega) (by omega) dX8_makeAlike_21 (by decide) (fun c_7 => ?_) (fun c_7 => ?_)
  · skip
    refine lv_aload_n S.1 S.2.1 dX8_makeAlike_28 rfl (lv_at hl 0 rfl) ?_
    refine r_get (C := RX8) (T := TX8) (N := 19) (ci := 8) S Z (by decide) rfl rfl i_X8_makeAlike_X8 8 (by decide) m_X8_makeAlike_f31 rfl (v := .ref (gA G 47)) rfl dX8_makeAlike_29 ?_
    refine lv_iload_n S.1 S.2.1 dX8_makeAlike_32 rfl (lv_at hl 1 rfl) ?_
    refine r_zald (k := 47) (n := 4) (f := fun j => bi (mU μ j)) S Z (by decide) rfl (by omega) (by decide) dX8_makeAlike_33 ?_
    refine r_if_eqB S (tgt := 50) dX8_makeAlike_34 (by decide) (fun c_8 => ?_) (fun c_8 => ?_)
    · skip
      refine lv_iconst (v := nI 3) S.1 S.2.1 dX8_makeAlike_50 (by decide) ?_
      refine va_calli (va_runV (As := [.int (nI 3)]) (rest := []) S (k_X8_can l G σ μ o 3 (by omega)) (cwV 1 S.2.2.2.2 gX8_makeAlike_X8_can rfl rfl rfl ⟨rfl, hy_X8_can⟩ ⟨Nat.le_of_ble_eq_true rfl, Nat.le_of_ble_eq_true rfl⟩) (wPc_V (q := (RX8, TX8, 19)) Z (by decide) rfl rfl) rfl rfl hl.1 rfl (lv_room (Nat.le_of_ble_eq_true rfl)) dX8_makeAlike_51 ⟨Nat.le_of_ble_eq_true rfl, Nat.le_of_ble_eq_true rfl⟩) Z.2.2.2.2 (fun _ _ h => h) (fun _ h => h) (fun r_9 u_10 T9 H1 locs1 hT9 hvm hw hB hz hk9 hS => ?_)
      obtain ⟨hr9, rfl⟩ := hw
      rw [hr9]; clear hr9 r_9
      have Z : wZ G (σ) (thr μ 3) o s H1 locs1 := wZ_callP Z hB hT9 hS
      clear hB hT9 hS hk9 hz hvm T9
      revert Z; generalize H1 = H; generalize locs1 = locs; intro Z
      refine W.widen (k := 0) (n := 0) (by decide) (by decide) ?_
      refine r_if_neB S (tgt := 59) dX8_makeAlike_54 (by decide) (fun c_11 => absurd c_11 (by decide)) (fun c_11 => ?_)
      refine lv_iconst (v := nI 0) S.1 S.2.1 dX8_makeAlike_57 (by decide) ?_
      rw [hQ]
      have q8 : (maF μ k j : mS) = thr μ 3 := by first | (simp [bi, maQ, maF, rdC, c_3, c_6, c_7, c_8]; done) | (simp [bi, maQ, maF, rdC, c_3, c_6, c_7, c_8]; omega) | (simp [bi, maQ, maF, rdC, ← Int32.not_le, c_3, c_6, c_7, c_8]; done) | (simp [bi, maQ, maF, rdC, c_3, c_6, c_7, eq_true c_8]; done) | with_reducible rfl
      rw [← q8] at Z
      exact W.iret (v := nI 0) S.1 S.2.1 hret (fun _ hT9 hW => ⟨⟨_, (σ, maF μ k j), rfl, ⟨(by first | (simp [bi, maQ, maF, rdC, c_3, c_6, c_7, c_8]; done) | (simp [bi, maQ, maF, rdC, c_3, c_6, c_7, c_8]; omega) | (simp [bi, maQ, maF, rdC, ← Int32.not_le, c_3, c_6, c_7, c_8]; done) | (simp [bi, maQ, maF, rdC, c_3, c_6, c_7, eq_true c_8]; done)), rfl⟩, wZ_P Z hT9 hW⟩, Z.2.2.2.2.F hT9⟩) Z.2.2.2.2.2.2 dX8_makeAlike_58
    · skip
      refine lv_aload_n S.1 S.2.1 dX8_makeAlike_37 rfl (lv_at hl 0 rfl) ?_
      refine r_get (C := RX8) (T := TX8) (N := 19) (ci := 8) S Z (by decide) rfl rfl i_X8_makeAlike_X8 8 (by decide) m_X8_makeAlike_f31 rfl (v := .ref (gA G 47)) rfl dX8_makeAlike_38 ?_
      refine lv_iload_n S.1 S.2.1 dX8_makeAlike_41 rfl (lv_at hl 2 rfl) ?_
      refine r_zald (k := 47) (n := 4) (f := fun j => bi (mU μ j)) S Z (by decide) rfl (by omega) (by decide) dX8_makeAlike_42 ?_
      refine r_if_eqB S (tgt := 50) dX8_makeAlike_43 (by decide) (fun c_12 => ?_) (fun c_12 => ?_)
      · skip
        refine lv_iconst (v := nI 3) S.1 S.2.1 dX8_makeAlike_50 (by decide) ?_
        refine va_calli (va_runV (As := [.int (nI 3)]) (rest := []) S (k_X8_can l G σ μ o 3 (by omega)) (cwV 1 S.2.2.2.2 gX8_makeAlike_X8_can rfl rfl rfl ⟨rfl, hy_X8_can⟩ ⟨Nat.le_of_ble_eq_true rfl, Nat.le_of_ble_eq_true rfl⟩) (wPc_V (q := (RX8, TX8, 19)) Z (by decide) rfl rfl) rfl rfl hl.1 rfl (lv_room (Nat.le_of_ble_eq_true rfl)) dX8_makeAlike_51 ⟨Nat.le_of_ble_eq_true rfl, Nat.le_of_ble_eq_true rfl⟩) Z.2.2.2.2 (fun _ _ h => h) (fun _ h => h) (fun r_13 u_14 T9 H1 locs1 hT9 hvm hw hB hz hk9 hS => ?_)
        obtain ⟨hr9, rfl⟩ := hw
        rw [hr9]; clear hr9 r_13
        have Z : wZ G (σ) (thr μ 3) o s H1 locs1 := wZ_callP Z hB hT9 hS
        clear hB hT9 hS hk9 hz hvm T9
        revert Z; generalize H1 = H; generalize locs1 = locs; intro Z
        refine W.widen (k := 0) (n := 0) (by decide) (by decide) ?_
        refine r_if_neB S (tgt := 59) dX8_makeAlike_54 (by decide) (fun c_15 => absurd c_15 (by decide)) (fun c_15 => ?_)
        refine lv_iconst (v := nI 0) S.1 S.2.1 dX8_makeAlike_57 (by decide) ?_
        rw [hQ]
        have q8 : (maF μ k j : mS) = thr μ 3 := by first | (simp [bi, maQ, maF, rdC, c_3, c_6, c_7, c_8, c_12]; done) | (simp [bi, maQ, maF, rdC, c_3, c_6, c_7, c_8, c_12]; omega) | (simp [bi, maQ, maF, rdC, ← Int32.not_le, c_3, c_6, c_7, c_8, c_12]; done) | (simp [bi, maQ, maF, rdC, c_3, c_6, c_7, c_8, eq_true c_12]; done) | with_reducible rfl
        rw [← q8] at Z
        exact W.iret (v := nI 0) S.1 S.2.1 hret (fun _ hT9 hW => ⟨⟨_, (σ, maF μ k j), rfl, ⟨(by first | (simp [bi, maQ, maF, rdC, c_3, c_6, c_7, c_8, c_12]; done) | (simp [bi, maQ, maF, rdC, c_3, c_6, c_7, c_8, c_12]; omega) | (simp [bi, maQ, maF, rdC, ← Int32.not_le, c_3, c_6, c_7, c_8, c_12]; done) | (simp [bi, maQ, maF, rdC, c_3, c_6, c_7, c_8, eq_true c_12]; done)), rfl⟩, wZ_P Z hT9 hW⟩, Z.2.2.2.2.F hT9⟩) Z.2.2.2.2.2.2 dX8_makeAlike_58
      · skip
        refine lv_iconst (v := nI 0) S.1 S.2.1 dX8_makeAlike_46 (by decide) ?_
        refine lv_goto (tgt := 51) S.1 S.2.1 dX8_makeAlike_47 (by decide) ?_
        refine va_calli (va_runV (As := [.int (nI 0)]) (rest := []) S (k_X8_can l G σ μ o 0 (by omega)) (cwV 1 S.2.2.2.2 gX8_makeAlike_X8_can rfl rfl rfl ⟨rfl, hy_X8_can⟩ ⟨Nat.le_of_ble_eq_true rfl, Nat.le_of_ble_eq_true rfl⟩) (wPc_V (q := (RX8, TX8, 19)) Z (by decide) rfl rfl) rfl rfl hl.1 rfl (lv_room (Nat.le_of_ble_eq_true rfl)) dX8_makeAlike_51 ⟨Nat.le_of_ble_eq_true rfl, Nat.le_of_ble_eq_true rfl⟩) Z.2.2.2.2 (fun _ _ h => h) (fun _ h => h) (fun r_16 u_17 T9 H1 locs1 hT9 hvm hw hB hz hk9 hS => ?_)
        obtain ⟨hr9, rfl⟩ := hw
        rw [hr9]; clear hr9 r_16
        have Z : wZ G (σ) (thr μ 0) o s H1 locs1 := wZ_callP Z hB hT9 hS
        clear hB hT9 hS hk9 hz hvm T9
        revert Z; generalize H1 = H; generalize locs1 = locs; intro Z
        refine W.widen (k := 0) (n := 0) (by decide) (by decide) ?_
        refine r_if_neB S (tgt := 59) dX8_makeAlike_54 (by decide) (fun c_18 => ?_) (fun c_18 => absurd c_18 (by decide))
        refine lv_aload_n S.1 S.2.1 dX8_makeAlike_59 rfl (lv_at hl 0 rfl) ?_
        refine lv_iload_n S.1 S.2.1 dX8_makeAlike_60 rfl (lv_at hl 1 rfl) ?_
        refine lv_iload_n S.1 S.2.1 dX8_makeAlike_61 rfl (lv_at hl 2 rfl) ?_
        refine va_calli (va_runV (As := [.int (nI k), .int (nI j)]) (rest := []) S (k_X8_compares l G σ (thr μ 0) o k j (by omega) (by omega) hmr) (cwV 2 S.2.2.2.2 gX8_makeAlike_X8_compares rfl rfl rfl ⟨rfl, hy_X8_compares⟩ ⟨Nat.le_of_ble_eq_true rfl, Nat.le_of_ble_eq_true rfl⟩) (wPc_V (q := (RX8, TX8, 19)) Z (by decide) rfl rfl) rfl rfl hl.1 rfl (lv_room (Nat.le_of_ble_eq_true rfl)) dX8_makeAlike_62 ⟨Nat.le_of_ble_eq_true rfl, Nat.le_of_ble_eq_true rfl⟩) Z.2.2.2.2 (fun _ _ h => h) (fun _ h => h) (fun r_19 u_20 T9 H1 locs1 hT9 hvm hw hB hz hk9 hS => ?_)
        obtain ⟨hr9, rfl⟩ := hw
        rw [hr9]; clear hr9 r_19
        have Z : wZ G (σ) (cpE (thr μ 0) k j) o s H1 locs1 := wZ_callP Z hB hT9 hS
        clear hB hT9 hS hk9 hz hvm T9
        revert Z; generalize H1 = H; generalize locs1 = locs; intro Z
        refine W.widen (k := 0) (n := 0) (by decide) (by decide) ?_
        refine lv_istore_n (lv' := [(3, .int (cpS (thr μ 0) k j 5)), (0, .ref (gA G 39)), (1, .int (nI k)), (2, .int (nI j))]) S.1 S.2.1 dX8_makeAlike_65 rfl hl (by decide) rfl (fun ls hl => ?_)
        refine lv_iconst (v := nI 0) S.1 S.2.1 dX8_makeAlike_66 (by decide) ?_
        refine lv_istore (lv' := [(4, .int (nI 0)), (3, .int (cpS (thr μ 0) k j 5)), (0, .ref (gA G 39)), (1, .int (nI k)), (2, .int (nI j))]) S.1 S.2.1 dX8_makeAlike_67 hl (by decide) rfl (fun ls hl => ?_)
        refine lv_iconst (v := nI 0) S.1 S.2.1 dX8_makeAlike_69 (by decide) ?_
        refine lv_istore (lv' := [(5, .int (nI 0)), (4, .int (nI 0)), (3, .int (cpS (thr μ 0) k j 5)), (0, .ref (gA G 39)), (1, .int (nI k)), (2, .int (nI j))]) S.1 S.2.1 dX8_makeAlike_70 hl (by decide) rfl (fun ls hl => ?_)
        have L_72 : ∀ (n : Nat) (i : Nat) (hi : i ≤ 16) (hn : 16 - i < n) (H : Heap) (locs : List Loc) (Z : wZ G (σ) (maR (cpE (thr μ 0) k j) k j (cpS (thr μ 0) k j 5) i) o s H locs) (ls : Array Slot) (hl : lv_has ls 7 [(0, .ref (gA G 39)), (1, .int (nI k)), (2, .int (nI j)), (3, .int (cpS (thr μ 0) k j 5)), (4, .int (nI (maN (cpS (thr μ 0) k j 5) i))), (5, .int (nI i))]), W p l e (headSpec wsX8_makeAlike rm_k_X8_makeAlike).room s m args below meth c H locs 0 0 Q (F0 m 72 ls []) := by
          intro n
          induction n with
          | zero => intro i hi hn; omega
          | succ n ih_72 =>
            intro i hi hn H locs Z ls hl
            refine lv_iload S.1 S.2.1 dX8_makeAlike_72 (lv_at hl 5 rfl) ?_
            refine lv_bipush (v := nI 16) S.1 S.2.1 dX8_makeAlike_74 (by decide) ?_
            refine r_icmpN_ge S (tgt := 182) (by omega) (by omega) dX8_makeAlike_76 (by decide) (fun c_21 => ?_) (fun c_21 => ?_)
            · skip
              obtain rfl : i = 16 := by omega
              refine lv_iload S.1 S.2.1 dX8_makeAlike_182 (lv_at hl 4 rfl) ?_
              rw [hQ]
              have q8 : (maF μ k j : mS) = maR (cpE (thr μ 0) k j) k j (cpS (thr μ 0) k j 5) 16 := by first | (simp [bi, maQ, maF, rdC, c_3, c_6, c_7, c_8, c_12, hi, c_21, Nat.not_lt.mpr c_21]; done) | (simp [bi, maQ, maF, rdC, c_3, c_6, c_7, c_8, c_12, hi, c_21, Nat.not_lt.mpr c_21]; omega) | (simp [bi, maQ, maF, rdC, ← Int32.not_le, c_3, c_6, c_7, c_8, c_12, hi, c_21, Nat.not_lt.mpr c_21]; done) | with_reducible rfl
              rw [← q8] at Z
              exact W.iret (v := nI (maN (cpS (thr μ 0) k j 5) 16)) S.1 S.2.1 hret (fun _ hT9 hW => ⟨⟨_, (σ, maF μ k j), rfl, ⟨(by first | (simp [bi, maQ, maF, rdC, c_3, c_6, c_7, c_8, c_12, hi, c_21, Nat.not_lt.mpr c_21]; done) | (simp [bi, maQ, maF, rdC, c_3, c_6, c_7, c_8, c_12, hi, c_21, Nat.not_lt.mpr c_21]; omega) | (simp [bi, maQ, maF, rdC, ← Int32.not_le, c_3, c_6, c_7, c_8, c_12, hi, c_21, Nat.not_lt.mpr c_21]; done)), rfl⟩, wZ_P Z hT9 hW⟩, Z.2.2.2.2.F hT9⟩) Z.2.2.2.2.2.2 dX8_makeAlike_184
            · skip
              refine lv_iload_n S.1 S.2.1 dX8_makeAlike_79 rfl (lv_at hl 3 rfl) ?_
              refine lv_iload S.1 S.2.1 dX8_makeAlike_80 (lv_at hl 5 rfl) ?_
              refine lv_ishr S.1 S.2.1 dX8_makeAlike_82 ?_
              refine lv_iconst (v := nI 1) S.1 S.2.1 dX8_makeAlike_83 (by decide) ?_
              refine lv_iand S.1 S.2.1 dX8_makeAlike_84 ?_
              refine lv_iconst (v := nI 1) S.1 S.2.1 dX8_makeAlike_85 (by decide) ?_
              refine lv_icmp_ne (tgt := 176) S.1 S.2.1 dX8_makeAlike_86 (by decide) (fun c_22 => ?_) (fun c_22 => ?_)
              · skip
                refine lv_iinc (v := nI (i + 1)) (lv' := [(5, .int (nI (i + 1))), (0, .ref (gA G 39)), (1, .int (nI k)), (2, .int (nI j)), (3, .int (cpS (thr μ 0) k j 5)), (4, .int (nI (maN (cpS (thr μ 0) k j 5) i)))]) S.1 S.2.1 dX8_makeAlike_176 hl (k := 5) rfl (nI_inc rfl) (by decide) rfl (fun ls hl => ?_)
                refine lv_goto (tgt := 72) S.1 S.2.1 dX8_makeAlike_179 (by decide) ?_
                have q_23 : (nI (maN (cpS (thr μ 0) k j 5) (i + 1)) : Int32) = nI (maN (cpS (thr μ 0) k j 5) i) := by first | (first | (simp [maR, maN, bitB, c_3, c_6, c_7, c_8, c_12, hi, c_21, c_22]; done) | (simp [maR, maN, bitB, c_3, c_6, c_7, c_8, c_12, hi, c_21, c_22]; omega) | (simp [maR, maN, bitB, ← Int32.not_le, c_3, c_6, c_7, c_8, c_12, hi, c_21, c_22]; done)) | exact congrArg nI (by omega) | with_reducible rfl
                have hl : lv_has ls 7 [(0, .ref (gA G 39)), (1, .int (nI k)), (2, .int (nI j)), (3, .int (cpS (thr μ 0) k j 5)), (4, .int (nI (maN (cpS (thr μ 0) k j 5) (i + 1)))), (5, .int (nI (i + 1)))] := by
                  have hl := lv_sub hl [1, 2, 3, 4, 5, 0] rfl
                  rw [q_23]; exact hl
                have q8 : (maR (cpE (thr μ 0) k j) k j (cpS (thr μ 0) k j 5) (i + 1) : mS) = maR (cpE (thr μ 0) k j) k j (cpS (thr μ 0) k j 5) i := by first | (simp [maR, maN, bitB, c_3, c_6, c_7, c_8, c_12, hi, c_21, c_22]; done) | (simp [maR, maN, bitB, c_3, c_6, c_7, c_8, c_12, hi, c_21, c_22]; omega) | (simp [maR, maN, bitB, ← Int32.not_le, c_3, c_6, c_7, c_8, c_12, hi, c_21, c_22]; done)
                rw [← q8] at Z
                exact ih_72 (i + 1) (by first | omega | exact Nat.zero_le _) (by omega) _ _ Z ls (hl)
              · skip
                refine lv_iinc (v := nI (maN (cpS (thr μ 0) k j 5) i + 1)) (lv' := [(4, .int (nI (maN (cpS (thr μ 0) k j 5) i + 1))), (0, .ref (gA G 39)), (1, .int (nI k)), (2, .int (nI j)), (3, .int (cpS (thr μ 0) k j 5)), (5, .int (nI i))]) S.1 S.2.1 dX8_makeAlike_89 hl (k := 4) rfl (nI_inc rfl) (by decide) rfl (fun ls hl => ?_)
                refine lv_iconst (v := nI 0) S.1 S.2.1 dX8_makeAlike_92 (by decide) ?_
                refine lv_istore (lv' := [(6, .int (nI 0)), (4, .int (nI (maN (cpS (thr μ 0) k j 5) i + 1))), (0, .ref (gA G 39)), (1, .int (nI k)), (2, .int (nI j)), (3, .int (cpS (thr μ 0) k j 5)), (5, .int (nI i))]) S.1 S.2.1 dX8_makeAlike_93 hl (by decide) rfl (fun ls hl => ?_)
                have L_95 : ∀ (n : Nat) (i2 : Nat) (hi2 : i2 ≤ 4) (hn : 4 - i2 < n) (H : Heap) (locs : List Loc) (Z : wZ G (σ) (maC (maR (cpE (thr μ 0) k j) k j (cpS (thr μ 0) k j 5) i) k j i i2) o s H locs) (ls : Array Slot) (hl : lv_has ls 7 [(0, .ref (gA G 39)), (1, .int (nI k)), (2, .int (nI j)), (3, .int (cpS (thr μ 0) k j 5)), (4, .int (nI (maN (cpS (thr μ 0) k j 5) i + 1))), (5, .int (nI i)), (6, .int (nI i2))]), W p l e (headSpec wsX8_makeAlike rm_k_X8_makeAlike).room s m args below meth c H locs 0 0 Q (F0 m 95 ls []) := by
                  intro n
                  induction n with
                  | zero => intro i2 hi2 hn; omega
                  | succ n ih_95 =>
                    intro i2 hi2 hn H locs Z ls hl
                    refine lv_iload S.1 S.2.1 dX8_makeAlike_95 (lv_at hl 6 rfl) ?_
                    refine lv_iconst (v := nI 4) S.1 S.2.1 dX8_makeAlike_97 (by decide) ?_
                    refine r_icmpN_ge S (tgt := 133) (by omega) (by omega) dX8_makeAlike_98 (by decide) (fun c_24 => ?_) (fun c_24 => ?_)
                    · skip
                      obtain rfl : i2 = 4 := by omega
                      refine lv_iconst (v := nI 0) S.1 S.2.1 dX8_makeAlike_133 (by decide) ?_
                      refine lv_istore (lv' := [(6, .int (nI 0)), (0, .ref (gA G 39)), (1, .int (nI k)), (2, .int (nI j)), (3, .int (cpS (thr μ 0) k j 5)), (4, .int (nI (maN (cpS (thr μ 0) k j 5) i + 1))), (5, .int (nI i))]) S.1 S.2.1 dX8_makeAlike_134 hl (by decide) rfl (fun ls hl => ?_)
                      have L_136 : ∀ (n : Nat) (i3 : Nat) (hi3 : i3 ≤ 92) (hn : 92 - i3 < n) (H : Heap) (locs : List Loc) (Z : wZ G (σ) (maT (maR (cpE (thr μ 0) k j) k j (cpS (thr μ 0) k j 5) i) k j i i3) o s H locs) (ls : Array Slot) (hl : lv_has ls 7 [(0, .ref (gA G 39)), (1, .int (nI k)), (2, .int (nI j)), (3, .int (cpS (thr μ 0) k j 5)), (4, .int (nI (maN (cpS (thr μ 0) k j 5) i + 1))), (5, .int (nI i)), (6, .int (nI i3))]), W p l e (headSpec wsX8_makeAlike rm_k_X8_makeAlike).room s m args below meth c H locs 0 0 Q (F0 m 136 ls []) := by
                        intro n
                        induction n with
                        | zero => intro i3 hi3 hn; omega
                        | succ n ih_136 =>
                          intro i3 hi3 hn H locs Z ls hl
                          refine lv_iload S.1 S.2.1 dX8_makeAlike_136 (lv_at hl 6 rfl) ?_
                          refine lv_bipush (v := nI 92) S.1 S.2.1 dX8_makeAlike_138 (by decide) ?_
                          refine r_icmpN_ge S (tgt := 176) (by omega) (by omega) dX8_makeAlike_140 (by decide) (fun c_25 => ?_) (fun c_25 => ?_)
                          · skip
                            obtain rfl : i3 = 92 := by omega
                            refine lv_iinc (v := nI (i + 1)) (lv' := [(5, .int (nI (i + 1))), (0, .ref (gA G 39)), (1, .int (nI k)), (2, .int (nI j)), (3, .int (cpS (thr μ 0) k j 5)), (4, .int (nI (maN (cpS (thr μ 0) k j 5) i + 1))), (6, .int (nI 92))]) S.1 S.2.1 dX8_makeAlike_176 hl (k := 5) rfl (nI_inc rfl) (by decide) rfl (fun ls hl => ?_)
                            refine lv_goto (tgt := 72) S.1 S.2.1 dX8_makeAlike_179 (by decide) ?_
                            have q_26 : (nI (maN (cpS (thr μ 0) k j 5) (i + 1)) : Int32) = nI (maN (cpS (thr μ 0) k j 5) i + 1) := by first | (first | (simp [maR, maN, bitB, c_3, c_6, c_7, c_8, c_12, hi, c_21, c_22, hi2, c_24, hi3, c_25, Nat.not_lt.mpr c_24, Nat.not_lt.mpr c_25]; done) | (simp [maR, maN, bitB, c_3, c_6, c_7, c_8, c_12, hi, c_21, c_22, hi2, c_24, hi3, c_25, Nat.not_lt.mpr c_24, Nat.not_lt.mpr c_25]; omega) | (simp [maR, maN, bitB, ← Int32.not_le, c_3, c_6, c_7, c_8, c_12, hi, c_21, c_22, hi2, c_24, hi3, c_25, Nat.not_lt.mpr c_24, Nat.not_lt.mpr c_25]; done) | (simp [maR, maN, bitB, c_3, c_6, c_7, c_8, c_12, hi, c_21, eq_true c_22, hi2, c_24, hi3, c_25, Nat.not_lt.mpr c_24, Nat.not_lt.mpr c_25]; done)) | exact congrArg nI (by omega) | with_reducible rfl
                            have hl : lv_has ls 7 [(0, .ref (gA G 39)), (1, .int (nI k)), (2, .int (nI j)), (3, .int (cpS (thr μ 0) k j 5)), (4, .int (nI (maN (cpS (thr μ 0) k j 5) (i + 1)))), (5, .int (nI (i + 1)))] := by
                              have hl := lv_sub hl [1, 2, 3, 4, 5, 0] rfl
                              rw [q_26]; exact hl
                            have q8 : (maR (cpE (thr μ 0) k j) k j (cpS (thr μ 0) k j 5) (i + 1) : mS) = maT (maR (cpE (thr μ 0) k j) k j (cpS (thr μ 0) k j 5) i) k j i 92 := by first | (simp [maR, maN, bitB, c_3, c_6, c_7, c_8, c_12, hi, c_21, c_22, hi2, c_24, hi3, c_25, Nat.not_lt.mpr c_24, Nat.not_lt.mpr c_25]; done) | (simp [maR, maN, bitB, c_3, c_6, c_7, c_8, c_12, hi, c_21, c_22, hi2, c_24, hi3, c_25, Nat.not_lt.mpr c_24, Nat.not_lt.mpr c_25]; omega) | (simp [maR, maN, bitB, ← Int32.not_le, c_3, c_6, c_7, c_8, c_12, hi, c_21, c_22, hi2, c_24, hi3, c_25, Nat.not_lt.mpr c_24, Nat.not_lt.mpr c_25]; done) | (simp [maR, maN, bitB, c_3, c_6, c_7, c_8, c_12, hi, c_21, eq_true c_22, hi2, c_24, hi3, c_25, Nat.not_lt.mpr c_24, Nat.not_lt.mpr c_25]; done)
                            rw [← q8] at Z
                            exact ih_72 (i + 1) (by first | omega | exact Nat.zero_le _) (by omega) _ _ Z ls (hl)
                          · skip
                            refine lv_aload_n S.1 S.2.1 dX8_makeAlike_143 rfl (lv_at hl 0 rfl) ?_
                            refine lv_iload S.1 S.2.1 dX8_makeAlike_144 (lv_at hl 6 rfl) ?_
                            refine lv_iload S.1 S.2.1 dX8_makeAlike_146 (lv_at hl 5 rfl) ?_
                            refine vp_callSi (va_runV (As := [.int (nI i3), .int (nI i)]) (rest := []) S (k_X8_touches l G σ (maT (maR (cpE (thr μ 0) k j) k j (cpS (thr μ 0) k j 5) i) k j i i3) o i3 i (by omega) (by omega) (by rw [maT_R, maR_R]; exact hmr)) (cwV 2 S.2.2.2.2 gX8_makeAlike_X8_touches rfl rfl rfl ⟨rfl, hy_X8_touches⟩ ⟨Nat.le_of_ble_eq_true rfl, Nat.le_of_ble_eq_true rfl⟩) (wPc_V (q := (RX8, TX8, 19)) Z (by decide) rfl rfl) rfl rfl hl.1 rfl (lv_room (Nat.le_of_ble_eq_true rfl)) dX8_makeAlike_148 ⟨Nat.le_of_ble_eq_true rfl, Nat.le_of_ble_eq_true rfl⟩).run (fun r_27 h_28 => ?_)
                            rw [h_28]; clear h_28 r_27
                            refine r_if_eqB S (tgt := 170) dX8_makeAlike_151 (by decide) (fun c_29 => ?_) (fun c_29 => ?_)
                            · skip
                              refine lv_iinc (v := nI (i3 + 1)) (lv' := [(6, .int (nI (i3 + 1))), (0, .ref (gA G 39)), (1, .int (nI k)), (2, .int (nI j)), (3, .int (cpS (thr μ 0) k j 5)), (4, .int (nI (maN (cpS (thr μ 0) k j 5) i + 1))), (5, .int (nI i))]) S.1 S.2.1 dX8_makeAlike_170 hl (k := 6) rfl (nI_inc rfl) (by decide) rfl (fun ls hl => ?_)
                              refine lv_goto (tgt := 136) S.1 S.2.1 dX8_makeAlike_173 (by decide) ?_
                              have q8 : (maT (maR (cpE (thr μ 0) k j) k j (cpS (thr μ 0) k j 5) i) k j i (i3 + 1) : mS) = maT (maR (cpE (thr μ 0) k j) k j (cpS (thr μ 0) k j 5) i) k j i i3 := by first | (simp [maT, c_3, c_6, c_7, c_8, c_12, hi, c_21, c_22, hi2, c_24, hi3, c_25, c_29, Nat.not_lt.mpr c_24]; done) | (simp [maT, c_3, c_6, c_7, c_8, c_12, hi, c_21, c_22, hi2, c_24, hi3, c_25, c_29, Nat.not_lt.mpr c_24]; omega) | (simp [maT, ← Int32.not_le, c_3, c_6, c_7, c_8, c_12, hi, c_21, c_22, hi2, c_24, hi3, c_25, c_29, Nat.not_lt.mpr c_24]; done) | (simp [maT, c_3, c_6, c_7, c_8, c_12, hi, c_21, eq_true c_22, hi2, c_24, hi3, c_25, eq_true c_29, Nat.not_lt.mpr c_24]; done)
                              rw [← q8] at Z
                              exact ih_136 (i3 + 1) (by first | omega | exact Nat.zero_le _) (by omega) _ _ Z ls (lv_sub hl [1, 2, 3, 4, 5, 6, 0] rfl)
                            · skip
                              refine lv_aload_n S.1 S.2.1 dX8_makeAlike_154 rfl (lv_at hl 0 rfl) ?_
                              refine lv_iload_n S.1 S.2.1 dX8_makeAlike_155 rfl (lv_at hl 1 rfl) ?_
                              refine lv_iload_n S.1 S.2.1 dX8_makeAlike_156 rfl (lv_at hl 2 rfl) ?_
                              refine lv_iload S.1 S.2.1 dX8_makeAlike_157 (lv_at hl 6 rfl) ?_
                              refine va_callv (va_runV (As := [.int (nI k), .int (nI j), .int (nI i3)]) (rest := []) S (k_X8_givesTomb l G σ (maT (maR (cpE (thr μ 0) k j) k j (cpS (thr μ 0) k j 5) i) k j i i3) o k j i3 (by omega) (by omega) (by omega)) (cwV 3 S.2.2.2.2 gX8_makeAlike_X8_givesTomb rfl rfl rfl ⟨rfl, hy_X8_givesTomb⟩ ⟨Nat.le_of_ble_eq_true rfl, Nat.le_of_ble_eq_true rfl⟩) (wPc_V (q := (RX8, TX8, 19)) Z (by decide) rfl rfl) rfl rfl hl.1 rfl (lv_room (Nat.le_of_ble_eq_true rfl)) dX8_makeAlike_159 ⟨Nat.le_of_ble_eq_true rfl, Nat.le_of_ble_eq_true rfl⟩) Z.2.2.2.2 (fun _ _ h => h) (fun _ h => h) (fun u_31 T9 H1 locs1 hT9 hvm hw hB hz hk9 hS => ?_)
                              subst hw
                              have Z : wZ G (σ) (givT (maT (maR (cpE (thr μ 0) k j) k j (cpS (thr μ 0) k j 5) i) k j i i3) k j i3) o s H1 locs1 := wZ_callP Z hB hT9 hS
                              clear hB hT9 hS hk9 hz hvm T9
                              revert Z; generalize H1 = H; generalize locs1 = locs; intro Z
                              refine W.widen (k := 0) (n := 0) (by decide) (by decide) ?_
                              refine lv_aload_n S.1 S.2.1 dX8_makeAlike_162 rfl (lv_at hl 0 rfl) ?_
                              refine lv_iload_n S.1 S.2.1 dX8_makeAlike_163 rfl (lv_at hl 2 rfl) ?_
                              refine lv_iload_n S.1 S.2.1 dX8_makeAlike_164 rfl (lv_at hl 1 rfl) ?_
                              refine lv_iload S.1 S.2.1 dX8_makeAlike_165 (lv_at hl 6 rfl) ?_
                              refine va_callv (va_runV (As := [.int (nI j), .int (nI k), .int (nI i3)]) (rest := []) S (k_X8_givesTomb l G σ (givT (maT (maR (cpE (thr μ 0) k j) k j (cpS (thr μ 0) k j 5) i) k j i i3) k j i3) o j k i3 (by omega) (by omega) (by omega)) (cwV 3 S.2.2.2.2 gX8_makeAlike_X8_givesTomb rfl rfl rfl ⟨rfl, hy_X8_givesTomb⟩ ⟨Nat.le_of_ble_eq_true rfl, Nat.le_of_ble_eq_true rfl⟩) (wPc_V (q := (RX8, TX8, 19)) Z (by decide) rfl rfl) rfl rfl hl.1 rfl (lv_room (Nat.le_of_ble_eq_true rfl)) dX8_makeAlike_167 ⟨Nat.le_of_ble_eq_true rfl, Nat.le_of_ble_eq_true rfl⟩) Z.2.2.2.2 (fun _ _ h => h) (fun _ h => h) (fun u_33 T9 H1 locs1 hT9 hvm hw hB hz hk9 hS => ?_)
                              subst hw
                              have Z : wZ G (σ) (givT (givT (maT (maR (cpE (thr μ 0) k j) k j (cpS (thr μ 0) k j 5) i) k j i i3) k j i3) j k i3) o s H1 locs1 := wZ_callP Z hB hT9 hS
                              clear hB hT9 hS hk9 hz hvm T9
                              revert Z; generalize H1 = H; generalize locs1 = locs; intro Z
                              refine W.widen (k := 0) (n := 0) (by decide) (by decide) ?_
                              refine lv_iinc (v := nI (i3 + 1)) (lv' := [(6, .int (nI (i3 + 1))), (0, .ref (gA G 39)), (1, .int (nI k)), (2, .int (nI j)), (3, .int (cpS (thr μ 0) k j 5)), (4, .int (nI (maN (cpS (thr μ 0) k j 5) i + 1))), (5, .int (nI i))]) S.1 S.2.1 dX8_makeAlike_170 hl (k := 6) rfl (nI_inc rfl) (by decide) rfl (fun ls hl => ?_)
                              refine lv_goto (tgt := 136) S.1 S.2.1 dX8_makeAlike_173 (by decide) ?_
                              have q8 : (maT (maR (cpE (thr μ 0) k j) k j (cpS (thr μ 0) k j 5) i) k j i (i3 + 1) : mS) = givT (givT (maT (maR (cpE (thr μ 0) k j) k j (cpS (thr μ 0) k j 5) i) k j i i3) k j i3) j k i3 := by first | (simp [maT, c_3, c_6, c_7, c_8, c_12, hi, c_21, c_22, hi2, c_24, hi3, c_25, c_29, Nat.not_lt.mpr c_24]; done) | (simp [maT, c_3, c_6, c_7, c_8, c_12, hi, c_21, c_22, hi2, c_24, hi3, c_25, c_29, Nat.not_lt.mpr c_24]; omega) | (simp [maT, ← Int32.not_le, c_3, c_6, c_7, c_8, c_12, hi, c_21, c_22, hi2, c_24, hi3, c_25, c_29, Nat.not_lt.mpr c_24]; done) | (simp [maT, c_3, c_6, c_7, c_8, c_12, hi, c_21, eq_true c_22, hi2, c_24, hi3, c_25, c_29, Nat.not_lt.mpr c_24]; done)
                              rw [← q8] at Z
                              exact ih_136 (i3 + 1) (by first | omega | exact Nat.zero_le _) (by omega) _ _ Z ls (lv_sub hl [1, 2, 3, 4, 5, 6, 0] rfl)
                      have q8 : (maT (maR (cpE (thr μ 0) k j) k j (cpS (thr μ 0) k j 5) i) k j i 0 : mS) = maC (maR (cpE (thr μ 0) k j) k j (cpS (thr μ 0) k j 5) i) k j i 4 := by first | (simp [maT, c_3, c_6, c_7, c_8, c_12, hi, c_21, c_22, hi2, c_24, Nat.not_lt.mpr c_24]; done) | (simp [maT, c_3, c_6, c_7, c_8, c_12, hi, c_21, c_22, hi2, c_24, Nat.not_lt.mpr c_24]; omega) | (simp [maT, ← Int32.not_le, c_3, c_6, c_7, c_8, c_12, hi, c_21, c_22, hi2, c_24, Nat.not_lt.mpr c_24]; done) | (simp [maT, c_3, c_6, c_7, c_8, c_12, hi, c_21, eq_true c_22, hi2, c_24, Nat.not_lt.mpr c_24]; done)
                      rw [← q8] at Z
                      exact L_136 (92 - 0 + 1) 0 (by first | omega | exact Nat.zero_le _) (Nat.lt_succ_self _) _ _ Z ls (lv_sub hl [1, 2, 3, 4, 5, 6, 0] rfl)
                    · skip
                      refine lv_aload_n S.1 S.2.1 dX8_makeAlike_101 rfl (lv_at hl 0 rfl) ?_
                      refine lv_iload_n S.1 S.2.1 dX8_makeAlike_102 rfl (lv_at hl 1 rfl) ?_
                      refine lv_iload_n S.1 S.2.1 dX8_makeAlike_103 rfl (lv_at hl 2 rfl) ?_
                      refine lv_iconst (v := nI 4) S.1 S.2.1 dX8_makeAlike_104 (by decide) ?_
                      refine lv_iload S.1 S.2.1 dX8_makeAlike_105 (lv_at hl 5 rfl) ?_
                      refine r_mulN S dX8_makeAlike_107 ?_
                      refine lv_iload S.1 S.2.1 dX8_makeAlike_108 (lv_at hl 6 rfl) ?_
                      refine r_addN S dX8_makeAlike_110 ?_
                      refine va_callv (va_runV (As := [.int (nI k), .int (nI j), .int (nI ((4 * i) + i2))]) (rest := []) S (k_X8_gives l G σ (maC (maR (cpE (thr μ 0) k j) k j (cpS (thr μ 0) k j 5) i) k j i i2) o k j ((4 * i) + i2) (by omega) (by omega) (by omega)) (cwV 3 S.2.2.2.2 gX8_makeAlike_X8_gives rfl rfl rfl ⟨rfl, hy_X8_gives⟩ ⟨Nat.le_of_ble_eq_true rfl, Nat.le_of_ble_eq_true rfl⟩) (wPc_V (q := (RX8, TX8, 19)) Z (by decide) rfl rfl) rfl rfl hl.1 rfl (lv_room (Nat.le_of_ble_eq_true rfl)) dX8_makeAlike_111 ⟨Nat.le_of_ble_eq_true rfl, Nat.le_of_ble_eq_true rfl⟩) Z.2.2.2.2 (fun _ _ h => h) (fun _ h => h) (fun u_35 T9 H1 locs1 hT9 hvm hw hB hz hk9 hS => ?_)
                      subst hw
                      have Z : wZ G (σ) (givE (maC (maR (cpE (thr μ 0) k j) k j (cpS (thr μ 0) k j 5) i) k j i i2) k j ((4 * i) + i2)) o s H1 locs1 := wZ_callP Z hB hT9 hS
                      clear hB hT9 hS hk9 hz hvm T9
                      revert Z; generalize H1 = H; generalize locs1 = locs; intro Z
                      refine W.widen (k := 0) (n := 0) (by decide) (by decide) ?_
                      refine lv_aload_n S.1 S.2.1 dX8_makeAlike_114 rfl (lv_at hl 0 rfl) ?_
                      refine lv_iload_n S.1 S.2.1 dX8_makeAlike_115 rfl (lv_at hl 2 rfl) ?_
                      refine lv_iload_n S.1 S.2.1 dX8_makeAlike_116 rfl (lv_at hl 1 rfl) ?_
                      refine lv_iconst (v := nI 4) S.1 S.2.1 dX8_makeAlike_117 (by decide) ?_
                      refine lv_iload S.1 S.2.1 dX8_makeAlike_118 (lv_at hl 5 rfl) ?_
                      refine r_mulN S dX8_makeAlike_120 ?_
                      refine lv_iload S.1 S.2.1 dX8_makeAlike_121 (lv_at hl 6 rfl) ?_
                      refine r_addN S dX8_makeAlike_123 ?_
                      refine va_callv (va_runV (As := [.int (nI j), .int (nI k), .int (nI ((4 * i) + i2))]) (rest := []) S (k_X8_gives l G σ (givE (maC (maR (cpE (thr μ 0) k j) k j (cpS (thr μ 0) k j 5) i) k j i i2) k j ((4 * i) + i2)) o j k ((4 * i) + i2) (by omega) (by omega) (by omega)) (cwV 3 S.2.2.2.2 gX8_makeAlike_X8_gives rfl rfl rfl ⟨rfl, hy_X8_gives⟩ ⟨Nat.le_of_ble_eq_true rfl, Nat.le_of_ble_eq_true rfl⟩) (wPc_V (q := (RX8, TX8, 19)) Z (by decide) rfl rfl) rfl rfl hl.1 rfl (lv_room (Nat.le_of_ble_eq_true rfl)) dX8_makeAlike_124 ⟨Nat.le_of_ble_eq_true rfl, Nat.le_of_ble_eq_true rfl⟩) Z.2.2.2.2 (fun _ _ h => h) (fun _ h => h) (fun u_37 T9 H1 locs1 hT9 hvm hw hB hz hk9 hS => ?_)
                      subst hw
                      have Z : wZ G (σ) (givE (givE (maC (maR (cpE (thr μ 0) k j) k j (cpS (thr μ 0) k j 5) i) k j i i2) k j ((4 * i) + i2)) j k ((4 * i) + i2)) o s H1 locs1 := wZ_callP Z hB hT9 hS
                      clear hB hT9 hS hk9 hz hvm T9
                      revert Z; generalize H1 = H; generalize locs1 = locs; intro Z
                      refine W.widen (k := 0) (n := 0) (by decide) (by decide) ?_
                      refine lv_iinc (v := nI (i2 + 1)) (lv' := [(6, .int (nI (i2 + 1))), (0, .ref (gA G 39)), (1, .int (nI k)), (2, .int (nI j)), (3, .int (cpS (thr μ 0) k j 5)), (4, .int (nI (maN (cpS (thr μ 0) k j 5) i + 1))), (5, .int (nI i))]) S.1 S.2.1 dX8_makeAlike_127 hl (k := 6) rfl (nI_inc rfl) (by decide) rfl (fun ls hl => ?_)
                      refine lv_goto (tgt := 95) S.1 S.2.1 dX8_makeAlike_130 (by decide) ?_
                      have q8 : (maC (maR (cpE (thr μ 0) k j) k j (cpS (thr μ 0) k j 5) i) k j i (i2 + 1) : mS) = givE (givE (maC (maR (cpE (thr μ 0) k j) k j (cpS (thr μ 0) k j 5) i) k j i i2) k j ((4 * i) + i2)) j k ((4 * i) + i2) := by first | (simp [maC, c_3, c_6, c_7, c_8, c_12, hi, c_21, c_22, hi2, c_24]; done) | (simp [maC, c_3, c_6, c_7, c_8, c_12, hi, c_21, c_22, hi2, c_24]; omega) | (simp [maC, ← Int32.not_le, c_3, c_6, c_7, c_8, c_12, hi, c_21, c_22, hi2, c_24]; done) | (simp [maC, c_3, c_6, c_7, c_8, c_12, hi, c_21, eq_true c_22, hi2, c_24]; done)
                      rw [← q8] at Z
                      exact ih_95 (i2 + 1) (by first | omega | exact Nat.zero_le _) (by omega) _ _ Z ls (lv_sub hl [1, 2, 3, 4, 5, 6, 0] rfl)
                have q8 : (maC (maR (cpE (thr μ 0) k j) k j (cpS (thr μ 0) k j 5) i) k j i 0 : mS) = maR (cpE (thr μ 0) k j) k j (cpS (thr μ 0) k j 5) i := by first | (simp [maC, c_3, c_6, c_7, c_8, c_12, hi, c_21, c_22]; done) | (simp [maC, c_3, c_6, c_7, c_8, c_12, hi, c_21, c_22]; omega) | (simp [maC, ← Int32.not_le, c_3, c_6, c_7, c_8, c_12, hi, c_21, c_22]; done) | (simp [maC, c_3, c_6, c_7, c_8, c_12, hi, c_21, eq_true c_22]; done)
                rw [← q8] at Z
                exact L_95 (4 - 0 + 1) 0 (by first | omega | exact Nat.zero_le _) (Nat.lt_succ_self _) _ _ Z ls (lv_sub hl [2, 3, 4, 5, 1, 6, 0] rfl)
        have q_38 : (nI (maN (cpS (thr μ 0) k j 5) 0) : Int32) = nI 0 := by first | with_reducible rfl | (first | (simp [maR, maN, bitB, c_3, c_6, c_7, c_8, c_12]; done) | (simp [maR, maN, bitB, c_3, c_6, c_7, c_8, c_12]; omega) | (simp [maR, maN, bitB, ← Int32.not_le, c_3, c_6, c_7, c_8, c_12]; done)) | exact congrArg nI (by omega) | rfl
        have hl : lv_has ls 7 [(0, .ref (gA G 39)), (1, .int (nI k)), (2, .int (nI j)), (3, .int (cpS (thr μ 0) k j 5)), (4, .int (nI (maN (cpS (thr μ 0) k j 5) 0))), (5, .int (nI 0))] := by
          have hl := lv_sub hl [3, 4, 5, 2, 1, 0] rfl
          rw [q_38]; exact hl
        have q8 : (maR (cpE (thr μ 0) k j) k j (cpS (thr μ 0) k j 5) 0 : mS) = cpE (thr μ 0) k j := by first | (simp [maR, maN, bitB, c_3, c_6, c_7, c_8, c_12]; done) | (simp [maR, maN, bitB, c_3, c_6, c_7, c_8, c_12]; omega) | (simp [maR, maN, bitB, ← Int32.not_le, c_3, c_6, c_7, c_8, c_12]; done)
        rw [← q8] at Z
        exact L_72 (16 - 0 + 1) 0 (by first | omega | exact Nat.zero_le _) (Nat.lt_succ_self _) _ _ Z ls (hl)
  · skip
    refine lv_iconst (v := nI 2) S.1 S.2.1 dX8_makeAlike_24 (by decide) ?_
    refine lv_goto (tgt := 51) S.1 S.2.1 dX8_makeAlike_25 (by decide) ?_
    refine va_calli (va_runV (As := [.int (nI 2)]) (rest := []) S (k_X8_can l G σ μ o 2 (by omega)) (cwV 1 S.2.2.2.2 gX8_makeAlike_X8_can rfl rfl rfl ⟨rfl, hy_X8_can⟩ ⟨Nat.le_of_ble_eq_true rfl, Nat.le_of_ble_eq_true rfl⟩) (wPc_V (q := (RX8, TX8, 19)) Z (by decide) rfl rfl) rfl rfl hl.1 rfl (lv_room (Nat.le_of_ble_eq_true rfl)) dX8_makeAlike_51 ⟨Nat.le_of_ble_eq_true rfl, Nat.le_of_ble_eq_true rfl⟩) Z.2.2.2.2 (fun _ _ h => h) (fun _ h => h) (fun r_39 u_40 T9 H1 locs1 hT9 hvm hw hB hz hk9 hS => ?_)
    obtain ⟨hr9, rfl⟩ := hw
    rw [hr9]; clear hr9 r_39
    have Z : wZ G (σ) (thr μ 2) o s H1 locs1 := wZ_callP Z hB hT9 hS
    clear hB hT9 hS hk9 hz hvm T9
    revert Z; generalize H1 = H; generalize locs1 = locs; intro Z
    refine W.widen (k := 0) (n := 0) (by decide) (by decide) ?_
    refine r_if_neB S (tgt := 59) dX8_makeAlike_54 (by decide) (fun c_41 => absurd c_41 (by decide)) (fun c_41 => ?_)
    refine lv_iconst (v := nI 0) S.1 S.2.1 dX8_makeAlike_57 (by decide) ?_
    rw [hQ]
    have q8 : (maF μ k j : mS) = thr μ 2 := by first | (simp [bi, maQ, maF, rdC, c_3, c_6, c_7]; done) | (simp [bi, maQ, maF, rdC, c_3, c_6, c_7]; omega) | (simp [bi, maQ, maF, rdC, ← Int32.not_le, c_3, c_6, c_7]; done) | (simp [bi, maQ, maF, rdC, c_3, c_6, eq_true c_7]; done) | with_reducible rfl
    rw [← q8] at Z
    exact W.iret (v := nI 0) S.1 S.2.1 hret (fun _ hT9 hW => ⟨⟨_, (σ, maF μ k j), rfl, ⟨(by first | (simp [bi, maQ, maF, rdC, c_3, c_6, c_7]; done) | (simp [bi, maQ, maF, rdC, c_3, c_6, c_7]; omega) | (simp [bi, maQ, maF, rdC, ← Int32.not_le, c_3, c_6, c_7]; done) | (simp [bi, maQ, maF, rdC, c_3, c_6, eq_true c_7]; done)), rfl⟩, wZ_P Z hT9 hW⟩, Z.2.2.2.2.F hT9⟩) Z.2.2.2.2.2.2 dX8_makeAlike_58

abbrev rm_k_X8_makeAlike_B : Room := { frames := 2, cells := 0, slots := 0, locals := 42 }
set_option maxHeartbeats 4000000 in
set_option maxRecDepth 100000 in
theorem k_X8_makeAlike_B (l : Launch) (G : wG) (σ : cS) (μ : mS) (o : Nat → Int64) (x : Int32) (y : Int32) (hb : (isCopyB x && isCopyB y) = false) : Met l yX8_makeAlike wsX8_makeAlike rm_k_X8_makeAlike_B (wPc G σ μ o [.ref (gA G 39), .int (x), .int (y)]) (va_Qi (fun (rr : Int32) (u : cS × mS) => rr = nI (0) ∧ u = (σ, thr μ 1)) (fun u t => wI G u.1 u.2 o t) (gP G)) 0 0 (gP G) := by
  refine Met.ofW (cc := cX8_makeAlike) (maxL := 7) (ret := (some .int)) (by decide) rfl ?_
  intro p e s m args below meth c s₁ B hml hv
  obtain ⟨hargs, hI⟩ := hv
  have S : CallFix p m c cX8_makeAlike 7 s args wsX8_makeAlike RX8 := ⟨B.exec, B.bytes, hml, findClass_of_methodNamed B.named, atoms_spec (ws := wsX8_makeAlike) B.pre⟩
  have hret := B.returns
  have hlocks := B.notSynchronized
  have Z := wZ_0 hI
  clear hI
  obtain ⟨Q, hQ⟩ : ∃ Q, Q = MQ below (va_Qi (fun (rr : Int32) (u : cS × mS) => rr = nI (0) ∧ u = (σ, thr μ 1)) (fun u t => wI G u.1 u.2 o t) (gP G)) args s 0 0 (gP G) := ⟨_, rfl⟩
  rw [← hQ]
  have hl := lv_entry [.ref (gA G 39), .int (x), .int (y)] (n := 7) (Nat.le_of_ble_eq_true rfl)
  rw [show entryFrame m args 7 = entryFrame m ([.ref (gA G 39), .int (x), .int (y)] : List Value).toArray 7 from by rw [hargs], lg_entry_eq]
  generalize (lg_sl [.ref (gA G 39), .int (x), .int (y)] ++ List.replicate (7 - (lg_sl [.ref (gA G 39), .int (x), .int (y)]).length) Slot.unset).toArray = ls at hl ⊢
  have hl : lv_has ls 7 [(0, .ref (gA G 39)), (1, .int (x)), (2, .int (y))] := hl
  refine lv_aload_n S.1 S.2.1 dX8_makeAlike_0 rfl (lv_at hl 0 rfl) ?_
  refine lv_iload_n S.1 S.2.1 dX8_makeAlike_1 rfl (lv_at hl 1 rfl) ?_
  refine vp_callSi (va_runS (As := [.int (x)]) (rest := [.ref (gA G 39)]) S (k_X8_isCopy l G σ μ o x ) (va_cwS 1 S.2.2.2.2 gX8_makeAlike_X8_isCopy rfl rfl rfl hy_X8_isCopy ⟨Nat.le_of_ble_eq_true rfl, Nat.le_of_ble_eq_true rfl⟩) (wPc_S Z) rfl rfl hl.1 rfl (lv_room (Nat.le_of_ble_eq_true rfl)) dX8_makeAlike_2 ⟨Nat.le_of_ble_eq_true rfl, Nat.le_of_ble_eq_true rfl⟩).run (fun r_1 h_2 => ?_)
  rw [h_2]; clear h_2 r_1
  refine r_if_eqB S (tgt := 15) dX8_makeAlike_5 (by decide) (fun c_3 => ?_) (fun c_3 => ?_)
  · skip
    refine lv_iconst (v := nI 1) S.1 S.2.1 dX8_makeAlike_15 (by decide) ?_
    refine lv_goto (tgt := 51) S.1 S.2.1 dX8_makeAlike_16 (by decide) ?_
    refine va_calli (va_runV (As := [.int (nI 1)]) (rest := []) S (k_X8_can l G σ μ o 1 (by omega)) (cwV 1 S.2.2.2.2 gX8_makeAlike_X8_can rfl rfl rfl ⟨rfl, hy_X8_can⟩ ⟨Nat.le_of_ble_eq_true rfl, Nat.le_of_ble_eq_true rfl⟩) (wPc_V (q := (RX8, TX8, 19)) Z (by decide) rfl rfl) rfl rfl hl.1 rfl (lv_room (Nat.le_of_ble_eq_true rfl)) dX8_makeAlike_51 ⟨Nat.le_of_ble_eq_true rfl, Nat.le_of_ble_eq_true rfl⟩) Z.2.2.2.2 (fun _ _ h => h) (fun _ h => h) (fun r_4 u_5 T9 H1 locs1 hT9 hvm hw hB hz hk9 hS => ?_)
    obtain ⟨hr9, rfl⟩ := hw
    rw [hr9]; clear hr9 r_4
    have Z : wZ G (σ) (thr μ 1) o s H1 locs1 := wZ_callP Z hB hT9 hS
    clear hB hT9 hS hk9 hz hvm T9
    revert Z; generalize H1 = H; generalize locs1 = locs; intro Z
    refine W.widen (k := 0) (n := 0) (by decide) (by decide) ?_
    refine r_if_neB S (tgt := 59) dX8_makeAlike_54 (by decide) (fun c_6 => absurd c_6 (by decide)) (fun c_6 => ?_)
    refine lv_iconst (v := nI 0) S.1 S.2.1 dX8_makeAlike_57 (by decide) ?_
    rw [hQ]
    exact W.iret (v := nI 0) S.1 S.2.1 hret (fun _ hT9 hW => ⟨⟨_, (σ, thr μ 1), rfl, ⟨rfl, rfl⟩, wZ_P Z hT9 hW⟩, Z.2.2.2.2.F hT9⟩) Z.2.2.2.2.2.2 dX8_makeAlike_58
  · skip
    refine lv_iload_n S.1 S.2.1 dX8_makeAlike_8 rfl (lv_at hl 2 rfl) ?_
    refine vp_callSi (va_runS (As := [.int (y)]) (rest := [.ref (gA G 39)]) S (k_X8_isCopy l G σ μ o y ) (va_cwS 1 S.2.2.2.2 gX8_makeAlike_X8_isCopy rfl rfl rfl hy_X8_isCopy ⟨Nat.le_of_ble_eq_true rfl, Nat.le_of_ble_eq_true rfl⟩) (wPc_S Z) rfl rfl hl.1 rfl (lv_room (Nat.le_of_ble_eq_true rfl)) dX8_makeAlike_9 ⟨Nat.le_of_ble_eq_true rfl, Nat.le_of_ble_eq_true rfl⟩).run (fun r_7 h_8 => ?_)
    rw [h_8]; clear h_8 r_7
    refine r_if_neB S (tgt := 19) dX8_makeAlike_12 (by decide) (fun c_9 => absurd c_9 (by simp_all)) (fun c_9 => ?_)
    refine lv_iconst (v := nI 1) S.1 S.2.1 dX8_makeAlike_15 (by decide) ?_
    refine lv_goto (tgt := 51) S.1 S.2.1 dX8_makeAlike_16 (by decide) ?_
    refine va_calli (va_runV (As := [.int (nI 1)]) (rest := []) S (k_X8_can l G σ μ o 1 (by omega)) (cwV 1 S.2.2.2.2 gX8_makeAlike_X8_can rfl rfl rfl ⟨rfl, hy_X8_can⟩ ⟨Nat.le_of_ble_eq_true rfl, Nat.le_of_ble_eq_true rfl⟩) (wPc_V (q := (RX8, TX8, 19)) Z (by decide) rfl rfl) rfl rfl hl.1 rfl (lv_room (Nat.le_of_ble_eq_true rfl)) dX8_makeAlike_51 ⟨Nat.le_of_ble_eq_true rfl, Nat.le_of_ble_eq_true rfl⟩) Z.2.2.2.2 (fun _ _ h => h) (fun _ h => h) (fun r_10 u_11 T9 H1 locs1 hT9 hvm hw hB hz hk9 hS => ?_)
    obtain ⟨hr9, rfl⟩ := hw
    rw [hr9]; clear hr9 r_10
    have Z : wZ G (σ) (thr μ 1) o s H1 locs1 := wZ_callP Z hB hT9 hS
    clear hB hT9 hS hk9 hz hvm T9
    revert Z; generalize H1 = H; generalize locs1 = locs; intro Z
    refine W.widen (k := 0) (n := 0) (by decide) (by decide) ?_
    refine r_if_neB S (tgt := 59) dX8_makeAlike_54 (by decide) (fun c_12 => absurd c_12 (by decide)) (fun c_12 => ?_)
    refine lv_iconst (v := nI 0) S.1 S.2.1 dX8_makeAlike_57 (by decide) ?_
    rw [hQ]
    exact W.iret (v := nI 0) S.1 S.2.1 hret (fun _ hT9 hW => ⟨⟨_, (σ, thr μ 1), rfl, ⟨rfl, rfl⟩, wZ_P Z hT9 hW⟩, Z.2.2.2.2.F hT9⟩) Z.2.2.2.2.2.2 dX8_makeAlike_58

theorem i_X8_clean_X8 : ∀ w ∈ wsX80, w ∈ wsX8_clean := by decide +kernel
theorem m_X8_clean_f31 : Cond.fieldLink RX8 31 "WideCellModel" "isUp" "[Z" ∈ wsX8_clean := by decide +kernel
theorem m_X8_clean_f7 : Cond.fieldLink RX8 7 "WideCellModel" "stamp" "[I" ∈ wsX8_clean := by decide +kernel
theorem m_X8_clean_f16 : Cond.fieldLink RX8 16 "WideCellModel" "end" "[I" ∈ wsX8_clean := by decide +kernel
theorem m_X8_clean_f83 : Cond.fieldLink RX8 83 "WideCellModel" "time" "I" ∈ wsX8_clean := by decide +kernel
theorem m_X8_clean_f50 : Cond.fieldLink RX8 50 "WideCellModel" "grace" "I" ∈ wsX8_clean := by decide +kernel
theorem m_X8_clean_f19 : Cond.fieldLink RX8 19 "WideCellModel" "tomb" "[I" ∈ wsX8_clean := by decide +kernel
theorem m_X8_clean_f22 : Cond.fieldLink RX8 22 "WideCellModel" "made" "[I" ∈ wsX8_clean := by decide +kernel
abbrev rm_k_X8_clean : Room := { frames := 3, cells := 0, slots := 0, locals := 71 }
set_option maxHeartbeats 4000000 in
set_option maxRecDepth 100000 in
theorem k_X8_clean (l : Launch) (G : wG) (σ : cS) (μ : mS) (o : Nat → Int64) (k : Nat) (hk3 : k < 3) (hmr : mR μ ≤ 8) : Met l yX8_clean wsX8_clean rm_k_X8_clean (wPc G σ μ o [.ref (gA G 39), .int (nI k)]) (va_Qi (fun (rr : Int32) (u : cS × mS) => rr = nI (clQ μ k) ∧ u = (σ, clF μ k)) (fun u t => wI G u.1 u.2 o t) (gP G)) 0 0 (gP G) := by
  refine Met.ofW (cc := cX8_clean) (maxL := 5) (ret := (some .int)) (by decide) rfl ?_
  intro p e s m args below meth c s₁ B hml hv
  obtain ⟨hargs, hI⟩ := hv
  have S : CallFix p m c cX8_clean 5 s args wsX8_clean RX8 := ⟨B.exec, B.bytes, hml, findClass_of_methodNamed B.named, atoms_spec (ws := wsX8_clean) B.pre⟩
  have hret := B.returns
  have hlocks := B.notSynchronized
  have Z := wZ_0 hI
  clear hI
  obtain ⟨Q, hQ⟩ : ∃ Q, Q = MQ below (va_Qi (fun (rr : Int32) (u : cS × mS) => rr = nI (clQ μ k) ∧ u = (σ, clF μ k)) (fun u t => wI G u.1 u.2 o t) (gP G)) args s 0 0 (gP G) := ⟨_, rfl⟩
  rw [← hQ]
  have hl := lv_entry [.ref (gA G 39), .int (nI k)] (n := 5) (Nat.le_of_ble_eq_true rfl)
  rw [show entryFrame m args 5 = entryFrame m ([.ref (gA G 39), .int (nI k)] : List Value).toArray 5 from by rw [hargs], lg_entry_eq]
  generalize (lg_sl [.ref (gA G 39), .int (nI k)] ++ List.replicate (5 - (lg_sl [.ref (gA G 39), .int (nI k)]).length) Slot.unset).toArray = ls at hl ⊢
  have hl : lv_has ls 5 [(0, .ref (gA G 39)), (1, .int (nI k))] := hl
  refine lv_aload_n S.1 S.2.1 dX8_clean_0 rfl (lv_at hl 0 rfl) ?_
  refine lv_iload_n S.1 S.2.1 dX8_clean_1 rfl (lv_at hl 1 rfl) ?_
  refine vp_callSi (va_runS (As := [.int (nI k)]) (rest := [.ref (gA G 39)]) S (k_X8_isCopy l G σ μ o (nI k) ) (va_cwS 1 S.2.2.2.2 gX8_clean_X8_isCopy rfl rfl rfl hy_X8_isCopy ⟨Nat.le_of_ble_eq_true rfl, Nat.le_of_ble_eq_true rfl⟩) (wPc_S Z) rfl rfl hl.1 rfl (lv_room (Nat.le_of_ble_eq_true rfl)) dX8_clean_2 ⟨Nat.le_of_ble_eq_true rfl, Nat.le_of_ble_eq_true rfl⟩).run (fun r_1 h_2 => ?_)
  rw [h_2]; clear h_2 r_1
  refine r_if_neB S (tgt := 12) dX8_clean_5 (by decide) (fun c_3 => ?_) (fun c_3 => absurd c_3 (by rw [isCopyB_ok hk3]; decide))
  refine lv_aload_n S.1 S.2.1 dX8_clean_12 rfl (lv_at hl 0 rfl) ?_
  refine r_get (C := RX8) (T := TX8) (N := 19) (ci := 8) S Z (by decide) rfl rfl i_X8_clean_X8 8 (by decide) m_X8_clean_f31 rfl (v := .ref (gA G 47)) rfl dX8_clean_13 ?_
  refine lv_iload_n S.1 S.2.1 dX8_clean_16 rfl (lv_at hl 1 rfl) ?_
  refine r_zald (k := 47) (n := 4) (f := fun j => bi (mU μ j)) S Z (by decide) rfl (by omega) (by decide) dX8_clean_17 ?_
  refine r_if_eqB S (tgt := 25) dX8_clean_18 (by decide) (fun c_4 => ?_) (fun c_4 => ?_)
  · skip
    refine lv_iconst (v := nI 2) S.1 S.2.1 dX8_clean_25 (by decide) ?_
    refine va_calli (va_runV (As := [.int (nI 2)]) (rest := []) S (k_X8_can l G σ μ o 2 (by omega)) (cwV 1 S.2.2.2.2 gX8_clean_X8_can rfl rfl rfl ⟨rfl, hy_X8_can⟩ ⟨Nat.le_of_ble_eq_true rfl, Nat.le_of_ble_eq_true rfl⟩) (wPc_V (q := (RX8, TX8, 19)) Z (by decide) rfl rfl) rfl rfl hl.1 rfl (lv_room (Nat.le_of_ble_eq_true rfl)) dX8_clean_26 ⟨Nat.le_of_ble_eq_true rfl, Nat.le_of_ble_eq_true rfl⟩) Z.2.2.2.2 (fun _ _ h => h) (fun _ h => h) (fun r_5 u_6 T9 H1 locs1 hT9 hvm hw hB hz hk9 hS => ?_)
    obtain ⟨hr9, rfl⟩ := hw
    rw [hr9]; clear hr9 r_5
    have Z : wZ G (σ) (thr μ 2) o s H1 locs1 := wZ_callP Z hB hT9 hS
    clear hB hT9 hS hk9 hz hvm T9
    revert Z; generalize H1 = H; generalize locs1 = locs; intro Z
    refine W.widen (k := 0) (n := 0) (by decide) (by decide) ?_
    refine r_if_neB S (tgt := 34) dX8_clean_29 (by decide) (fun c_7 => absurd c_7 (by decide)) (fun c_7 => ?_)
    refine lv_iconst (v := nI 0) S.1 S.2.1 dX8_clean_32 (by decide) ?_
    rw [hQ]
    have q8 : (clF μ k : mS) = thr μ 2 := by first | (simp [bi, clQ, clF, mU_thr, c_3, c_4]; done) | (simp [bi, clQ, clF, mU_thr, c_3, c_4]; omega) | (simp [bi, clQ, clF, mU_thr, ← Int32.not_le, c_3, c_4]; done) | (simp [bi, clQ, clF, mU_thr, c_3, eq_true c_4]; done) | with_reducible rfl
    rw [← q8] at Z
    exact W.iret (v := nI 0) S.1 S.2.1 hret (fun _ hT9 hW => ⟨⟨_, (σ, clF μ k), rfl, ⟨(by first | (simp [bi, clQ, clF, mU_thr, c_3, c_4]; done) | (simp [bi, clQ, clF, mU_thr, c_3, c_4]; omega) | (simp [bi, clQ, clF, mU_thr, ← Int32.not_le, c_3, c_4]; done) | (simp [bi, clQ, clF, mU_thr, c_3, eq_true c_4]; done)), rfl⟩, wZ_P Z hT9 hW⟩, Z.2.2.2.2.F hT9⟩) Z.2.2.2.2.2.2 dX8_clean_33
  · skip
    refine lv_iconst (v := nI 0) S.1 S.2.1 dX8_clean_21 (by decide) ?_
    refine lv_goto (tgt := 26) S.1 S.2.1 dX8_clean_22 (by decide) ?_
    refine va_calli (va_runV (As := [.int (nI 0)]) (rest := []) S (k_X8_can l G σ μ o 0 (by omega)) (cwV 1 S.2.2.2.2 gX8_clean_X8_can rfl rfl rfl ⟨rfl, hy_X8_can⟩ ⟨Nat.le_of_ble_eq_true rfl, Nat.le_of_ble_eq_true rfl⟩) (wPc_V (q := (RX8, TX8, 19)) Z (by decide) rfl rfl) rfl rfl hl.1 rfl (lv_room (Nat.le_of_ble_eq_true rfl)) dX8_clean_26 ⟨Nat.le_of_ble_eq_true rfl, Nat.le_of_ble_eq_true rfl⟩) Z.2.2.2.2 (fun _ _ h => h) (fun _ h => h) (fun r_8 u_9 T9 H1 locs1 hT9 hvm hw hB hz hk9 hS => ?_)
    obtain ⟨hr9, rfl⟩ := hw
    rw [hr9]; clear hr9 r_8
    have Z : wZ G (σ) (thr μ 0) o s H1 locs1 := wZ_callP Z hB hT9 hS
    clear hB hT9 hS hk9 hz hvm T9
    revert Z; generalize H1 = H; generalize locs1 = locs; intro Z
    refine W.widen (k := 0) (n := 0) (by decide) (by decide) ?_
    refine r_if_neB S (tgt := 34) dX8_clean_29 (by decide) (fun c_10 => ?_) (fun c_10 => absurd c_10 (by decide))
    refine lv_iconst (v := nI 0) S.1 S.2.1 dX8_clean_34 (by decide) ?_
    refine lv_istore_n (lv' := [(2, .int (nI 0)), (0, .ref (gA G 39)), (1, .int (nI k))]) S.1 S.2.1 dX8_clean_35 rfl hl (by decide) rfl (fun ls hl => ?_)
    refine lv_iconst (v := nI 0) S.1 S.2.1 dX8_clean_36 (by decide) ?_
    refine lv_istore_n (lv' := [(3, .int (nI 0)), (2, .int (nI 0)), (0, .ref (gA G 39)), (1, .int (nI k))]) S.1 S.2.1 dX8_clean_37 rfl hl (by decide) rfl (fun ls hl => ?_)
    have L_38 : ∀ (n : Nat) (i : Nat) (hi : i ≤ 64) (hn : 64 - i < n) (H : Heap) (locs : List Loc) (Z : wZ G (σ) ((cl1 (thr μ 0) k i).1) o s H locs) (ls : Array Slot) (hl : lv_has ls 5 [(0, .ref (gA G 39)), (1, .int (nI k)), (2, .int (nI ((cl1 (thr μ 0) k i).2))), (3, .int (nI i))]), W p l e (headSpec wsX8_clean rm_k_X8_clean).room s m args below meth c H locs 0 0 Q (F0 m 38 ls []) := by
      intro n
      induction n with
      | zero => intro i hi hn; omega
      | succ n ih_38 =>
        intro i hi hn H locs Z ls hl
        refine lv_iload_n S.1 S.2.1 dX8_clean_38 rfl (lv_at hl 3 rfl) ?_
        refine lv_bipush (v := nI 64) S.1 S.2.1 dX8_clean_39 (by decide) ?_
        refine r_icmpN_ge S (tgt := 101) (by omega) (by omega) dX8_clean_41 (by decide) (fun c_11 => ?_) (fun c_11 => ?_)
        · skip
          obtain rfl : i = 64 := by omega
          refine lv_bipush (v := nI 92) S.1 S.2.1 dX8_clean_101 (by decide) ?_
          refine lv_iload_n S.1 S.2.1 dX8_clean_103 rfl (lv_at hl 1 rfl) ?_
          refine r_mulN S dX8_clean_104 ?_
          refine lv_istore_n (lv' := [(3, .int (nI (92 * k))), (0, .ref (gA G 39)), (1, .int (nI k)), (2, .int (nI ((cl1 (thr μ 0) k 64).2)))]) S.1 S.2.1 dX8_clean_105 rfl hl (by decide) rfl (fun ls hl => ?_)
          have L_106 : ∀ (n : Nat) (i2 : Nat) (hi2 : i2 ≤ 92) (hn : 92 - i2 < n) (H : Heap) (locs : List Loc) (Z : wZ G (σ) ((cl2 (thr μ 0) k i2).1) o s H locs) (ls : Array Slot) (hl : lv_has ls 5 [(0, .ref (gA G 39)), (1, .int (nI k)), (2, .int (nI ((cl2 (thr μ 0) k i2).2))), (3, .int (nI (92 * k + i2)))]), W p l e (headSpec wsX8_clean rm_k_X8_clean).room s m args below meth c H locs 0 0 Q (F0 m 106 ls []) := by
            intro n
            induction n with
            | zero => intro i2 hi2 hn; omega
            | succ n ih_106 =>
              intro i2 hi2 hn H locs Z ls hl
              refine lv_iload_n S.1 S.2.1 dX8_clean_106 rfl (lv_at hl 3 rfl) ?_
              refine lv_bipush (v := nI 92) S.1 S.2.1 dX8_clean_107 (by decide) ?_
              refine lv_iload_n S.1 S.2.1 dX8_clean_109 rfl (lv_at hl 1 rfl) ?_
              refine r_mulN S dX8_clean_110 ?_
              refine lv_bipush (v := nI 92) S.1 S.2.1 dX8_clean_111 (by decide) ?_
              refine r_addN S dX8_clean_113 ?_
              refine r_icmpN_ge S (tgt := 161) (by omega) (by omega) dX8_clean_114 (by decide) (fun c_12 => ?_) (fun c_12 => ?_)
              · skip
                refine lv_bipush (v := nI 64) S.1 S.2.1 dX8_clean_161 (by decide) ?_
                refine lv_iload_n S.1 S.2.1 dX8_clean_163 rfl (lv_at hl 1 rfl) ?_
                refine r_mulN S dX8_clean_164 ?_
                refine lv_istore_n (lv' := [(3, .int (nI (64 * k))), (0, .ref (gA G 39)), (1, .int (nI k)), (2, .int (nI ((cl2 (thr μ 0) k i2).2)))]) S.1 S.2.1 dX8_clean_165 rfl hl (by decide) rfl (fun ls hl => ?_)
                have L_166 : ∀ (n : Nat) (i3 : Nat) (hi3 : i3 ≤ 64) (hn : 64 - i3 < n) (H : Heap) (locs : List Loc) (Z : wZ G (σ) ((cl3 (thr μ 0) k i3).1) o s H locs) (ls : Array Slot) (hl : lv_has ls 5 [(0, .ref (gA G 39)), (1, .int (nI k)), (2, .int (nI ((cl3 (thr μ 0) k i3).2))), (3, .int (nI (64 * k + i3)))]), W p l e (headSpec wsX8_clean rm_k_X8_clean).room s m args below meth c H locs 0 0 Q (F0 m 166 ls []) := by
                  intro n
                  induction n with
                  | zero => intro i3 hi3 hn; omega
                  | succ n ih_166 =>
                    intro i3 hi3 hn H locs Z ls hl
                    refine lv_iload_n S.1 S.2.1 dX8_clean_166 rfl (lv_at hl 3 rfl) ?_
                    refine lv_bipush (v := nI 64) S.1 S.2.1 dX8_clean_167 (by decide) ?_
                    refine lv_iload_n S.1 S.2.1 dX8_clean_169 rfl (lv_at hl 1 rfl) ?_
                    refine r_mulN S dX8_clean_170 ?_
                    refine lv_bipush (v := nI 64) S.1 S.2.1 dX8_clean_171 (by decide) ?_
                    refine r_addN S dX8_clean_173 ?_
                    refine r_icmpN_ge S (tgt := 231) (by omega) (by omega) dX8_clean_174 (by decide) (fun c_13 => ?_) (fun c_13 => ?_)
                    · skip
                      have e64 : i3 = 64 := by omega
                      refine lv_iload_n S.1 S.2.1 dX8_clean_231 rfl (lv_at hl 2 rfl) ?_
                      rw [hQ]
                      have q8 : (clF μ k : mS) = (cl3 (thr μ 0) k i3).1 := by first | (simp [bi, clQ, clF, mU_thr, c_3, c_4, hi, c_11, hi2, c_12, hi3, c_13, e64, Nat.not_lt.mpr c_11, Nat.not_lt.mpr c_12, Nat.not_lt.mpr c_13]; done) | (simp [bi, clQ, clF, mU_thr, c_3, c_4, hi, c_11, hi2, c_12, hi3, c_13, e64, Nat.not_lt.mpr c_11, Nat.not_lt.mpr c_12, Nat.not_lt.mpr c_13]; omega) | (simp [bi, clQ, clF, mU_thr, ← Int32.not_le, c_3, c_4, hi, c_11, hi2, c_12, hi3, c_13, e64, Nat.not_lt.mpr c_11, Nat.not_lt.mpr c_12, Nat.not_lt.mpr c_13]; done) | with_reducible rfl
                      rw [← q8] at Z
                      exact W.iret (v := nI ((cl3 (thr μ 0) k i3).2)) S.1 S.2.1 hret (fun _ hT9 hW => ⟨⟨_, (σ, clF μ k), rfl, ⟨(by first | (simp [bi, clQ, clF, mU_thr, c_3, c_4, hi, c_11, hi2, c_12, hi3, c_13, e64, Nat.not_lt.mpr c_11, Nat.not_lt.mpr c_12, Nat.not_lt.mpr c_13]; done) | (simp [bi, clQ, clF, mU_thr, c_3, c_4, hi, c_11, hi2, c_12, hi3, c_13, e64, Nat.not_lt.mpr c_11, Nat.not_lt.mpr c_12, Nat.not_lt.mpr c_13]; omega) | (simp [bi, clQ, clF, mU_thr, ← Int32.not_le, c_3, c_4, hi, c_11, hi2, c_12, hi3, c_13, e64, Nat.not_lt.mpr c_11, Nat.not_lt.mpr c_12, Nat.not_lt.mpr c_13]; done)), rfl⟩, wZ_P Z hT9 hW⟩, Z.2.2.2.2.F hT9⟩) Z.2.2.2.2.2.2 dX8_clean_232
                    · skip
                      refine lv_aload_n S.1 S.2.1 dX8_clean_177 rfl (lv_at hl 0 rfl) ?_
                      refine r_get (C := RX8) (T := TX8) (N := 19) (ci := 8) S Z (by decide) rfl rfl i_X8_clean_X8 0 (by decide) m_X8_clean_f7 rfl (v := .ref (gA G 40)) rfl dX8_clean_178 ?_
                      refine lv_iload_n S.1 S.2.1 dX8_clean_181 rfl (lv_at hl 3 rfl) ?_
                      refine r_ialdM S Z (n := 256) ⟨rfl, rfl⟩ (by omega) (by decide) dX8_clean_182 ?_
                      refine lv_iconst (v := -1) S.1 S.2.1 dX8_clean_183 (by decide) ?_
                      refine lv_icmp_eq (tgt := 225) S.1 S.2.1 dX8_clean_184 (by decide) (fun c_14 => ?_) (fun c_14 => ?_)
                      · skip
                        refine lv_iinc (v := nI (64 * k + i3 + 1)) (lv' := [(3, .int (nI (64 * k + i3 + 1))), (0, .ref (gA G 39)), (1, .int (nI k)), (2, .int (nI ((cl3 (thr μ 0) k i3).2)))]) S.1 S.2.1 dX8_clean_225 hl (k := 3) rfl (nI_inc rfl) (by decide) rfl (fun ls hl => ?_)
                        refine lv_goto (tgt := 166) S.1 S.2.1 dX8_clean_228 (by decide) ?_
                        have q_15 : (nI ((cl3 (thr μ 0) k (i3 + 1)).2) : Int32) = nI ((cl3 (thr μ 0) k i3).2) := by first | (first | (simp [cl3, c_3, c_4, hi, c_11, hi2, c_12, hi3, c_13, c_14, Nat.not_lt.mpr c_11, Nat.not_lt.mpr c_12]; done) | (simp [cl3, c_3, c_4, hi, c_11, hi2, c_12, hi3, c_13, c_14, Nat.not_lt.mpr c_11, Nat.not_lt.mpr c_12]; omega) | (simp [cl3, ← Int32.not_le, c_3, c_4, hi, c_11, hi2, c_12, hi3, c_13, c_14, Nat.not_lt.mpr c_11, Nat.not_lt.mpr c_12]; done) | (simp [cl3, c_3, c_4, hi, c_11, hi2, c_12, hi3, c_13, eq_true c_14, Nat.not_lt.mpr c_11, Nat.not_lt.mpr c_12]; done)) | exact congrArg nI (by omega) | with_reducible rfl
                        have q_16 : (nI (64 * k + (i3 + 1)) : Int32) = nI (64 * k + i3 + 1) := by exact congrArg nI (by omega)
                        have hl : lv_has ls 5 [(0, .ref (gA G 39)), (1, .int (nI k)), (2, .int (nI ((cl3 (thr μ 0) k (i3 + 1)).2))), (3, .int (nI (64 * k + (i3 + 1))))] := by
                          have hl := lv_sub hl [1, 2, 3, 0] rfl
                          rw [q_15, q_16]; exact hl
                        have q8 : ((cl3 (thr μ 0) k (i3 + 1)).1 : mS) = (cl3 (thr μ 0) k i3).1 := by first | (simp [cl3, c_3, c_4, hi, c_11, hi2, c_12, hi3, c_13, c_14, Nat.not_lt.mpr c_11, Nat.not_lt.mpr c_12]; done) | (simp [cl3, c_3, c_4, hi, c_11, hi2, c_12, hi3, c_13, c_14, Nat.not_lt.mpr c_11, Nat.not_lt.mpr c_12]; omega) | (simp [cl3, ← Int32.not_le, c_3, c_4, hi, c_11, hi2, c_12, hi3, c_13, c_14, Nat.not_lt.mpr c_11, Nat.not_lt.mpr c_12]; done) | (simp [cl3, c_3, c_4, hi, c_11, hi2, c_12, hi3, c_13, eq_true c_14, Nat.not_lt.mpr c_11, Nat.not_lt.mpr c_12]; done)
                        rw [← q8] at Z
                        exact ih_166 (i3 + 1) (by first | omega | exact Nat.zero_le _) (by omega) _ _ Z ls (hl)
                      · skip
                        refine lv_aload_n S.1 S.2.1 dX8_clean_187 rfl (lv_at hl 0 rfl) ?_
                        refine r_get (C := RX8) (T := TX8) (N := 19) (ci := 8) S Z (by decide) rfl rfl i_X8_clean_X8 2 (by decide) m_X8_clean_f16 rfl (v := .ref (gA G 42)) rfl dX8_clean_188 ?_
                        refine lv_iload_n S.1 S.2.1 dX8_clean_191 rfl (lv_at hl 3 rfl) ?_
                        refine r_ialdM S Z (n := 256) ⟨rfl, rfl⟩ (by omega) (by decide) dX8_clean_192 ?_
                        refine lv_iconst (v := -1) S.1 S.2.1 dX8_clean_193 (by decide) ?_
                        refine lv_icmp_eq (tgt := 225) S.1 S.2.1 dX8_clean_194 (by decide) (fun c_17 => ?_) (fun c_17 => ?_)
                        · skip
                          refine lv_iinc (v := nI (64 * k + i3 + 1)) (lv' := [(3, .int (nI (64 * k + i3 + 1))), (0, .ref (gA G 39)), (1, .int (nI k)), (2, .int (nI ((cl3 (thr μ 0) k i3).2)))]) S.1 S.2.1 dX8_clean_225 hl (k := 3) rfl (nI_inc rfl) (by decide) rfl (fun ls hl => ?_)
                          refine lv_goto (tgt := 166) S.1 S.2.1 dX8_clean_228 (by decide) ?_
                          have q_18 : (nI ((cl3 (thr μ 0) k (i3 + 1)).2) : Int32) = nI ((cl3 (thr μ 0) k i3).2) := by first | (first | (simp [cl3, c_3, c_4, hi, c_11, hi2, c_12, hi3, c_13, c_14, c_17, Nat.not_lt.mpr c_11, Nat.not_lt.mpr c_12]; done) | (simp [cl3, c_3, c_4, hi, c_11, hi2, c_12, hi3, c_13, c_14, c_17, Nat.not_lt.mpr c_11, Nat.not_lt.mpr c_12]; omega) | (simp [cl3, ← Int32.not_le, c_3, c_4, hi, c_11, hi2, c_12, hi3, c_13, c_14, c_17, Nat.not_lt.mpr c_11, Nat.not_lt.mpr c_12]; done) | (simp [cl3, c_3, c_4, hi, c_11, hi2, c_12, hi3, c_13, c_14, eq_true c_17, Nat.not_lt.mpr c_11, Nat.not_lt.mpr c_12]; done)) | exact congrArg nI (by omega) | with_reducible rfl
                          have q_19 : (nI (64 * k + (i3 + 1)) : Int32) = nI (64 * k + i3 + 1) := by exact congrArg nI (by omega)
                          have hl : lv_has ls 5 [(0, .ref (gA G 39)), (1, .int (nI k)), (2, .int (nI ((cl3 (thr μ 0) k (i3 + 1)).2))), (3, .int (nI (64 * k + (i3 + 1))))] := by
                            have hl := lv_sub hl [1, 2, 3, 0] rfl
                            rw [q_18, q_19]; exact hl
                          have q8 : ((cl3 (thr μ 0) k (i3 + 1)).1 : mS) = (cl3 (thr μ 0) k i3).1 := by first | (simp [cl3, c_3, c_4, hi, c_11, hi2, c_12, hi3, c_13, c_14, c_17, Nat.not_lt.mpr c_11, Nat.not_lt.mpr c_12]; done) | (simp [cl3, c_3, c_4, hi, c_11, hi2, c_12, hi3, c_13, c_14, c_17, Nat.not_lt.mpr c_11, Nat.not_lt.mpr c_12]; omega) | (simp [cl3, ← Int32.not_le, c_3, c_4, hi, c_11, hi2, c_12, hi3, c_13, c_14, c_17, Nat.not_lt.mpr c_11, Nat.not_lt.mpr c_12]; done) | (simp [cl3, c_3, c_4, hi, c_11, hi2, c_12, hi3, c_13, c_14, eq_true c_17, Nat.not_lt.mpr c_11, Nat.not_lt.mpr c_12]; done)
                          rw [← q8] at Z
                          exact ih_166 (i3 + 1) (by first | omega | exact Nat.zero_le _) (by omega) _ _ Z ls (hl)
                        · skip
                          refine lv_aload_n S.1 S.2.1 dX8_clean_197 rfl (lv_at hl 0 rfl) ?_
                          refine r_get (C := RX8) (T := TX8) (N := 19) (ci := 8) S Z (by decide) rfl rfl i_X8_clean_X8 14 (by decide) m_X8_clean_f83 rfl (v := .int (mV ((cl3 (thr μ 0) k i3).1) 14)) rfl dX8_clean_198 ?_
                          refine lv_aload_n S.1 S.2.1 dX8_clean_201 rfl (lv_at hl 0 rfl) ?_
                          refine r_get (C := RX8) (T := TX8) (N := 19) (ci := 8) S Z (by decide) rfl rfl i_X8_clean_X8 2 (by decide) m_X8_clean_f16 rfl (v := .ref (gA G 42)) rfl dX8_clean_202 ?_
                          refine lv_iload_n S.1 S.2.1 dX8_clean_205 rfl (lv_at hl 3 rfl) ?_
                          refine r_ialdM S Z (n := 256) ⟨rfl, rfl⟩ (by omega) (by decide) dX8_clean_206 ?_
                          refine lv_isub S.1 S.2.1 dX8_clean_207 ?_
                          refine lv_aload_n S.1 S.2.1 dX8_clean_208 rfl (lv_at hl 0 rfl) ?_
                          refine r_get (C := RX8) (T := TX8) (N := 19) (ci := 8) S Z (by decide) rfl rfl i_X8_clean_X8 15 (by decide) m_X8_clean_f50 rfl (v := .int (mV ((cl3 (thr μ 0) k i3).1) 15)) rfl dX8_clean_209 ?_
                          refine lv_icmp_lt (tgt := 225) S.1 S.2.1 dX8_clean_212 (by decide) (fun c_20 => ?_) (fun c_20 => ?_)
                          · skip
                            refine lv_iinc (v := nI (64 * k + i3 + 1)) (lv' := [(3, .int (nI (64 * k + i3 + 1))), (0, .ref (gA G 39)), (1, .int (nI k)), (2, .int (nI ((cl3 (thr μ 0) k i3).2)))]) S.1 S.2.1 dX8_clean_225 hl (k := 3) rfl (nI_inc rfl) (by decide) rfl (fun ls hl => ?_)
                            refine lv_goto (tgt := 166) S.1 S.2.1 dX8_clean_228 (by decide) ?_
                            have q_21 : (nI ((cl3 (thr μ 0) k (i3 + 1)).2) : Int32) = nI ((cl3 (thr μ 0) k i3).2) := by first | (first | (simp [cl3, c_3, c_4, hi, c_11, hi2, c_12, hi3, c_13, c_14, c_17, c_20, Nat.not_lt.mpr c_11, Nat.not_lt.mpr c_12]; done) | (simp [cl3, c_3, c_4, hi, c_11, hi2, c_12, hi3, c_13, c_14, c_17, c_20, Nat.not_lt.mpr c_11, Nat.not_lt.mpr c_12]; omega) | (simp [cl3, ← Int32.not_le, c_3, c_4, hi, c_11, hi2, c_12, hi3, c_13, c_14, c_17, c_20, Nat.not_lt.mpr c_11, Nat.not_lt.mpr c_12]; done)) | exact congrArg nI (by omega) | with_reducible rfl
                            have q_22 : (nI (64 * k + (i3 + 1)) : Int32) = nI (64 * k + i3 + 1) := by exact congrArg nI (by omega)
                            have hl : lv_has ls 5 [(0, .ref (gA G 39)), (1, .int (nI k)), (2, .int (nI ((cl3 (thr μ 0) k (i3 + 1)).2))), (3, .int (nI (64 * k + (i3 + 1))))] := by
                              have hl := lv_sub hl [1, 2, 3, 0] rfl
                              rw [q_21, q_22]; exact hl
                            have q8 : ((cl3 (thr μ 0) k (i3 + 1)).1 : mS) = (cl3 (thr μ 0) k i3).1 := by first | (simp [cl3, c_3, c_4, hi, c_11, hi2, c_12, hi3, c_13, c_14, c_17, c_20, Nat.not_lt.mpr c_11, Nat.not_lt.mpr c_12]; done) | (simp [cl3, c_3, c_4, hi, c_11, hi2, c_12, hi3, c_13, c_14, c_17, c_20, Nat.not_lt.mpr c_11, Nat.not_lt.mpr c_12]; omega) | (simp [cl3, ← Int32.not_le, c_3, c_4, hi, c_11, hi2, c_12, hi3, c_13, c_14, c_17, c_20, Nat.not_lt.mpr c_11, Nat.not_lt.mpr c_12]; done)
                            rw [← q8] at Z
                            exact ih_166 (i3 + 1) (by first | omega | exact Nat.zero_le _) (by omega) _ _ Z ls (hl)
                          · skip
                            refine lv_aload_n S.1 S.2.1 dX8_clean_215 rfl (lv_at hl 0 rfl) ?_
                            refine r_get (C := RX8) (T := TX8) (N := 19) (ci := 8) S Z (by decide) rfl rfl i_X8_clean_X8 0 (by decide) m_X8_clean_f7 rfl (v := .ref (gA G 40)) rfl dX8_clean_216 ?_
                            refine lv_iload_n S.1 S.2.1 dX8_clean_219 rfl (lv_at hl 3 rfl) ?_
                            refine lv_iconst (v := -1) S.1 S.2.1 dX8_clean_220 (by decide) ?_
                            refine r_wM S Z (n := 256) ⟨rfl, rfl⟩ (by omega) (by decide) dX8_clean_221 (fun H locs Z => ?_)
                            refine lv_iinc (v := nI ((cl3 (thr μ 0) k i3).2 + 1)) (lv' := [(2, .int (nI ((cl3 (thr μ 0) k i3).2 + 1))), (0, .ref (gA G 39)), (1, .int (nI k)), (3, .int (nI (64 * k + i3)))]) S.1 S.2.1 dX8_clean_222 hl (k := 2) rfl (nI_inc rfl) (by decide) rfl (fun ls hl => ?_)
                            refine lv_iinc (v := nI (64 * k + i3 + 1)) (lv' := [(3, .int (nI (64 * k + i3 + 1))), (2, .int (nI ((cl3 (thr μ 0) k i3).2 + 1))), (0, .ref (gA G 39)), (1, .int (nI k))]) S.1 S.2.1 dX8_clean_225 hl (k := 3) rfl (nI_inc rfl) (by decide) rfl (fun ls hl => ?_)
                            refine lv_goto (tgt := 166) S.1 S.2.1 dX8_clean_228 (by decide) ?_
                            have q_23 : (nI ((cl3 (thr μ 0) k (i3 + 1)).2) : Int32) = nI ((cl3 (thr μ 0) k i3).2 + 1) := by first | (first | (simp [cl3, c_3, c_4, hi, c_11, hi2, c_12, hi3, c_13, c_14, c_17, c_20, Nat.not_lt.mpr c_11, Nat.not_lt.mpr c_12]; done) | (simp [cl3, c_3, c_4, hi, c_11, hi2, c_12, hi3, c_13, c_14, c_17, c_20, Nat.not_lt.mpr c_11, Nat.not_lt.mpr c_12]; omega) | (simp [cl3, ← Int32.not_le, c_3, c_4, hi, c_11, hi2, c_12, hi3, c_13, c_14, c_17, c_20, Nat.not_lt.mpr c_11, Nat.not_lt.mpr c_12]; done)) | exact congrArg nI (by omega) | with_reducible rfl
                            have q_24 : (nI (64 * k + (i3 + 1)) : Int32) = nI (64 * k + i3 + 1) := by exact congrArg nI (by omega)
                            have hl : lv_has ls 5 [(0, .ref (gA G 39)), (1, .int (nI k)), (2, .int (nI ((cl3 (thr μ 0) k (i3 + 1)).2))), (3, .int (nI (64 * k + (i3 + 1))))] := by
                              have hl := lv_sub hl [2, 3, 1, 0] rfl
                              rw [q_23, q_24]; exact hl
                            have q8 : ((cl3 (thr μ 0) k (i3 + 1)).1 : mS) = w2 ((cl3 (thr μ 0) k i3).1) 40 (64 * k + i3) (-1) := by first | (simp [cl3, c_3, c_4, hi, c_11, hi2, c_12, hi3, c_13, c_14, c_17, c_20, Nat.not_lt.mpr c_11, Nat.not_lt.mpr c_12]; done) | (simp [cl3, c_3, c_4, hi, c_11, hi2, c_12, hi3, c_13, c_14, c_17, c_20, Nat.not_lt.mpr c_11, Nat.not_lt.mpr c_12]; omega) | (simp [cl3, ← Int32.not_le, c_3, c_4, hi, c_11, hi2, c_12, hi3, c_13, c_14, c_17, c_20, Nat.not_lt.mpr c_11, Nat.not_lt.mpr c_12]; done)
                            rw [← q8] at Z
                            exact ih_166 (i3 + 1) (by first | omega | exact Nat.zero_le _) (by omega) _ _ Z ls (hl)
                have q_25 : (nI ((cl3 (thr μ 0) k 0).2) : Int32) = nI ((cl2 (thr μ 0) k i2).2) := by (have e1 : i2 = 92 := (by omega); subst e1; rfl)
                have q_26 : (nI (64 * k + 0) : Int32) = nI (64 * k) := by rfl
                have hl : lv_has ls 5 [(0, .ref (gA G 39)), (1, .int (nI k)), (2, .int (nI ((cl3 (thr μ 0) k 0).2))), (3, .int (nI (64 * k + 0)))] := by
                  have hl := lv_sub hl [1, 2, 3, 0] rfl
                  rw [q_25, q_26]; exact hl
                have q8 : ((cl3 (thr μ 0) k 0).1 : mS) = (cl2 (thr μ 0) k i2).1 := by (rw [show i2 = 92 from by omega]; rfl)
                rw [← q8] at Z
                exact L_166 (64 - 0 + 1) 0 (by first | omega | exact Nat.zero_le _) (Nat.lt_succ_self _) _ _ Z ls (hl)
              · skip
                refine lv_aload_n S.1 S.2.1 dX8_clean_117 rfl (lv_at hl 0 rfl) ?_
                refine r_get (C := RX8) (T := TX8) (N := 19) (ci := 8) S Z (by decide) rfl rfl i_X8_clean_X8 3 (by decide) m_X8_clean_f19 rfl (v := .ref (gA G 43)) rfl dX8_clean_118 ?_
                refine lv_iload_n S.1 S.2.1 dX8_clean_121 rfl (lv_at hl 3 rfl) ?_
                refine r_ialdM S Z (n := 368) ⟨rfl, rfl⟩ (by omega) (by decide) dX8_clean_122 ?_
                refine lv_iconst (v := -1) S.1 S.2.1 dX8_clean_123 (by decide) ?_
                refine lv_icmp_eq (tgt := 155) S.1 S.2.1 dX8_clean_124 (by decide) (fun c_27 => ?_) (fun c_27 => ?_)
                · skip
                  refine lv_iinc (v := nI (92 * k + i2 + 1)) (lv' := [(3, .int (nI (92 * k + i2 + 1))), (0, .ref (gA G 39)), (1, .int (nI k)), (2, .int (nI ((cl2 (thr μ 0) k i2).2)))]) S.1 S.2.1 dX8_clean_155 hl (k := 3) rfl (nI_inc rfl) (by decide) rfl (fun ls hl => ?_)
                  refine lv_goto (tgt := 106) S.1 S.2.1 dX8_clean_158 (by decide) ?_
                  have q_28 : (nI ((cl2 (thr μ 0) k (i2 + 1)).2) : Int32) = nI ((cl2 (thr μ 0) k i2).2) := by first | (first | (simp [cl2, c_3, c_4, hi, c_11, hi2, c_12, c_27, Nat.not_lt.mpr c_11]; done) | (simp [cl2, c_3, c_4, hi, c_11, hi2, c_12, c_27, Nat.not_lt.mpr c_11]; omega) | (simp [cl2, ← Int32.not_le, c_3, c_4, hi, c_11, hi2, c_12, c_27, Nat.not_lt.mpr c_11]; done) | (simp [cl2, c_3, c_4, hi, c_11, hi2, c_12, eq_true c_27, Nat.not_lt.mpr c_11]; done)) | exact congrArg nI (by omega) | with_reducible rfl
                  have q_29 : (nI (92 * k + (i2 + 1)) : Int32) = nI (92 * k + i2 + 1) := by exact congrArg nI (by omega)
                  have hl : lv_has ls 5 [(0, .ref (gA G 39)), (1, .int (nI k)), (2, .int (nI ((cl2 (thr μ 0) k (i2 + 1)).2))), (3, .int (nI (92 * k + (i2 + 1))))] := by
                    have hl := lv_sub hl [1, 2, 3, 0] rfl
                    rw [q_28, q_29]; exact hl
                  have q8 : ((cl2 (thr μ 0) k (i2 + 1)).1 : mS) = (cl2 (thr μ 0) k i2).1 := by first | (simp [cl2, c_3, c_4, hi, c_11, hi2, c_12, c_27, Nat.not_lt.mpr c_11]; done) | (simp [cl2, c_3, c_4, hi, c_11, hi2, c_12, c_27, Nat.not_lt.mpr c_11]; omega) | (simp [cl2, ← Int32.not_le, c_3, c_4, hi, c_11, hi2, c_12, c_27, Nat.not_lt.mpr c_11]; done) | (simp [cl2, c_3, c_4, hi, c_11, hi2, c_12, eq_true c_27, Nat.not_lt.mpr c_11]; done)
                  rw [← q8] at Z
                  exact ih_106 (i2 + 1) (by first | omega | exact Nat.zero_le _) (by omega) _ _ Z ls (hl)
                · skip
                  refine lv_aload_n S.1 S.2.1 dX8_clean_127 rfl (lv_at hl 0 rfl) ?_
                  refine r_get (C := RX8) (T := TX8) (N := 19) (ci := 8) S Z (by decide) rfl rfl i_X8_clean_X8 14 (by decide) m_X8_clean_f83 rfl (v := .int (mV ((cl2 (thr μ 0) k i2).1) 14)) rfl dX8_clean_128 ?_
                  refine lv_aload_n S.1 S.2.1 dX8_clean_131 rfl (lv_at hl 0 rfl) ?_
                  refine r_get (C := RX8) (T := TX8) (N := 19) (ci := 8) S Z (by decide) rfl rfl i_X8_clean_X8 4 (by decide) m_X8_clean_f22 rfl (v := .ref (gA G 44)) rfl dX8_clean_132 ?_
                  refine lv_iload_n S.1 S.2.1 dX8_clean_135 rfl (lv_at hl 3 rfl) ?_
                  refine r_ialdM S Z (n := 368) ⟨rfl, rfl⟩ (by omega) (by decide) dX8_clean_136 ?_
                  refine lv_isub S.1 S.2.1 dX8_clean_137 ?_
                  refine lv_aload_n S.1 S.2.1 dX8_clean_138 rfl (lv_at hl 0 rfl) ?_
                  refine r_get (C := RX8) (T := TX8) (N := 19) (ci := 8) S Z (by decide) rfl rfl i_X8_clean_X8 15 (by decide) m_X8_clean_f50 rfl (v := .int (mV ((cl2 (thr μ 0) k i2).1) 15)) rfl dX8_clean_139 ?_
                  refine lv_icmp_lt (tgt := 155) S.1 S.2.1 dX8_clean_142 (by decide) (fun c_30 => ?_) (fun c_30 => ?_)
                  · skip
                    refine lv_iinc (v := nI (92 * k + i2 + 1)) (lv' := [(3, .int (nI (92 * k + i2 + 1))), (0, .ref (gA G 39)), (1, .int (nI k)), (2, .int (nI ((cl2 (thr μ 0) k i2).2)))]) S.1 S.2.1 dX8_clean_155 hl (k := 3) rfl (nI_inc rfl) (by decide) rfl (fun ls hl => ?_)
                    refine lv_goto (tgt := 106) S.1 S.2.1 dX8_clean_158 (by decide) ?_
                    have q_31 : (nI ((cl2 (thr μ 0) k (i2 + 1)).2) : Int32) = nI ((cl2 (thr μ 0) k i2).2) := by first | (first | (simp [cl2, c_3, c_4, hi, c_11, hi2, c_12, c_27, c_30, Nat.not_lt.mpr c_11]; done) | (simp [cl2, c_3, c_4, hi, c_11, hi2, c_12, c_27, c_30, Nat.not_lt.mpr c_11]; omega) | (simp [cl2, ← Int32.not_le, c_3, c_4, hi, c_11, hi2, c_12, c_27, c_30, Nat.not_lt.mpr c_11]; done)) | exact congrArg nI (by omega) | with_reducible rfl
                    have q_32 : (nI (92 * k + (i2 + 1)) : Int32) = nI (92 * k + i2 + 1) := by exact congrArg nI (by omega)
                    have hl : lv_has ls 5 [(0, .ref (gA G 39)), (1, .int (nI k)), (2, .int (nI ((cl2 (thr μ 0) k (i2 + 1)).2))), (3, .int (nI (92 * k + (i2 + 1))))] := by
                      have hl := lv_sub hl [1, 2, 3, 0] rfl
                      rw [q_31, q_32]; exact hl
                    have q8 : ((cl2 (thr μ 0) k (i2 + 1)).1 : mS) = (cl2 (thr μ 0) k i2).1 := by first | (simp [cl2, c_3, c_4, hi, c_11, hi2, c_12, c_27, c_30, Nat.not_lt.mpr c_11]; done) | (simp [cl2, c_3, c_4, hi, c_11, hi2, c_12, c_27, c_30, Nat.not_lt.mpr c_11]; omega) | (simp [cl2, ← Int32.not_le, c_3, c_4, hi, c_11, hi2, c_12, c_27, c_30, Nat.not_lt.mpr c_11]; done)
                    rw [← q8] at Z
                    exact ih_106 (i2 + 1) (by first | omega | exact Nat.zero_le _) (by omega) _ _ Z ls (hl)
                  · skip
                    refine lv_aload_n S.1 S.2.1 dX8_clean_145 rfl (lv_at hl 0 rfl) ?_
                    refine r_get (C := RX8) (T := TX8) (N := 19) (ci := 8) S Z (by decide) rfl rfl i_X8_clean_X8 3 (by decide) m_X8_clean_f19 rfl (v := .ref (gA G 43)) rfl dX8_clean_146 ?_
                    refine lv_iload_n S.1 S.2.1 dX8_clean_149 rfl (lv_at hl 3 rfl) ?_
                    refine lv_iconst (v := -1) S.1 S.2.1 dX8_clean_150 (by decide) ?_
                    refine r_wM S Z (n := 368) ⟨rfl, rfl⟩ (by omega) (by decide) dX8_clean_151 (fun H locs Z => ?_)
                    refine lv_iinc (v := nI ((cl2 (thr μ 0) k i2).2 + 1)) (lv' := [(2, .int (nI ((cl2 (thr μ 0) k i2).2 + 1))), (0, .ref (gA G 39)), (1, .int (nI k)), (3, .int (nI (92 * k + i2)))]) S.1 S.2.1 dX8_clean_152 hl (k := 2) rfl (nI_inc rfl) (by decide) rfl (fun ls hl => ?_)
                    refine lv_iinc (v := nI (92 * k + i2 + 1)) (lv' := [(3, .int (nI (92 * k + i2 + 1))), (2, .int (nI ((cl2 (thr μ 0) k i2).2 + 1))), (0, .ref (gA G 39)), (1, .int (nI k))]) S.1 S.2.1 dX8_clean_155 hl (k := 3) rfl (nI_inc rfl) (by decide) rfl (fun ls hl => ?_)
                    refine lv_goto (tgt := 106) S.1 S.2.1 dX8_clean_158 (by decide) ?_
                    have q_33 : (nI ((cl2 (thr μ 0) k (i2 + 1)).2) : Int32) = nI ((cl2 (thr μ 0) k i2).2 + 1) := by first | (first | (simp [cl2, c_3, c_4, hi, c_11, hi2, c_12, c_27, c_30, Nat.not_lt.mpr c_11]; done) | (simp [cl2, c_3, c_4, hi, c_11, hi2, c_12, c_27, c_30, Nat.not_lt.mpr c_11]; omega) | (simp [cl2, ← Int32.not_le, c_3, c_4, hi, c_11, hi2, c_12, c_27, c_30, Nat.not_lt.mpr c_11]; done)) | exact congrArg nI (by omega) | with_reducible rfl
                    have q_34 : (nI (92 * k + (i2 + 1)) : Int32) = nI (92 * k + i2 + 1) := by exact congrArg nI (by omega)
                    have hl : lv_has ls 5 [(0, .ref (gA G 39)), (1, .int (nI k)), (2, .int (nI ((cl2 (thr μ 0) k (i2 + 1)).2))), (3, .int (nI (92 * k + (i2 + 1))))] := by
                      have hl := lv_sub hl [2, 3, 1, 0] rfl
                      rw [q_33, q_34]; exact hl
                    have q8 : ((cl2 (thr μ 0) k (i2 + 1)).1 : mS) = w2 ((cl2 (thr μ 0) k i2).1) 43 (92 * k + i2) (-1) := by first | (simp [cl2, c_3, c_4, hi, c_11, hi2, c_12, c_27, c_30, Nat.not_lt.mpr c_11]; done) | (simp [cl2, c_3, c_4, hi, c_11, hi2, c_12, c_27, c_30, Nat.not_lt.mpr c_11]; omega) | (simp [cl2, ← Int32.not_le, c_3, c_4, hi, c_11, hi2, c_12, c_27, c_30, Nat.not_lt.mpr c_11]; done)
                    rw [← q8] at Z
                    exact ih_106 (i2 + 1) (by first | omega | exact Nat.zero_le _) (by omega) _ _ Z ls (hl)
          have q_35 : (nI ((cl2 (thr μ 0) k 0).2) : Int32) = nI ((cl1 (thr μ 0) k 64).2) := by rfl
          have q_36 : (nI (92 * k + 0) : Int32) = nI (92 * k) := by rfl
          have hl : lv_has ls 5 [(0, .ref (gA G 39)), (1, .int (nI k)), (2, .int (nI ((cl2 (thr μ 0) k 0).2))), (3, .int (nI (92 * k + 0)))] := by
            have hl := lv_sub hl [1, 2, 3, 0] rfl
            rw [q_35, q_36]; exact hl
          have q8 : ((cl2 (thr μ 0) k 0).1 : mS) = (cl1 (thr μ 0) k 64).1 := by rfl
          rw [← q8] at Z
          exact L_106 (92 - 0 + 1) 0 (by first | omega | exact Nat.zero_le _) (Nat.lt_succ_self _) _ _ Z ls (hl)
        · skip
          refine lv_bipush (v := nI 64) S.1 S.2.1 dX8_clean_44 (by decide) ?_
          refine lv_iload_n S.1 S.2.1 dX8_clean_46 rfl (lv_at hl 1 rfl) ?_
          refine r_mulN S dX8_clean_47 ?_
          refine lv_iload_n S.1 S.2.1 dX8_clean_48 rfl (lv_at hl 3 rfl) ?_
          refine r_addN S dX8_clean_49 ?_
          refine lv_istore (lv' := [(4, .int (nI ((64 * k) + i))), (0, .ref (gA G 39)), (1, .int (nI k)), (2, .int (nI ((cl1 (thr μ 0) k i).2))), (3, .int (nI i))]) S.1 S.2.1 dX8_clean_50 hl (by decide) rfl (fun ls hl => ?_)
          refine lv_aload_n S.1 S.2.1 dX8_clean_52 rfl (lv_at hl 1 rfl) ?_
          refine r_get (C := RX8) (T := TX8) (N := 19) (ci := 8) S Z (by decide) rfl rfl i_X8_clean_X8 0 (by decide) m_X8_clean_f7 rfl (v := .ref (gA G 40)) rfl dX8_clean_53 ?_
          refine lv_iload S.1 S.2.1 dX8_clean_56 (lv_at hl 0 rfl) ?_
          refine r_ialdM S Z (n := 256) ⟨rfl, rfl⟩ (by omega) (by decide) dX8_clean_58 ?_
          refine lv_iconst (v := -1) S.1 S.2.1 dX8_clean_59 (by decide) ?_
          refine lv_icmp_eq (tgt := 95) S.1 S.2.1 dX8_clean_60 (by decide) (fun c_37 => ?_) (fun c_37 => ?_)
          · skip
            refine lv_iinc (v := nI (i + 1)) (lv' := [(3, .int (nI (i + 1))), (4, .int (nI ((64 * k) + i))), (0, .ref (gA G 39)), (1, .int (nI k)), (2, .int (nI ((cl1 (thr μ 0) k i).2)))]) S.1 S.2.1 dX8_clean_95 hl (k := 4) rfl (nI_inc rfl) (by decide) rfl (fun ls hl => ?_)
            refine lv_goto (tgt := 38) S.1 S.2.1 dX8_clean_98 (by decide) ?_
            have q_38 : (nI ((cl1 (thr μ 0) k (i + 1)).2) : Int32) = nI ((cl1 (thr μ 0) k i).2) := by first | (first | (simp [cl1, c_3, c_4, hi, c_11, c_37]; done) | (simp [cl1, c_3, c_4, hi, c_11, c_37]; omega) | (simp [cl1, ← Int32.not_le, c_3, c_4, hi, c_11, c_37]; done) | (simp [cl1, c_3, c_4, hi, c_11, eq_true c_37]; done)) | exact congrArg nI (by omega) | with_reducible rfl
            have hl : lv_has ls 5 [(0, .ref (gA G 39)), (1, .int (nI k)), (2, .int (nI ((cl1 (thr μ 0) k (i + 1)).2))), (3, .int (nI (i + 1)))] := by
              have hl := lv_sub hl [2, 3, 4, 0] rfl
              rw [q_38]; exact hl
            have q8 : ((cl1 (thr μ 0) k (i + 1)).1 : mS) = (cl1 (thr μ 0) k i).1 := by first | (simp [cl1, c_3, c_4, hi, c_11, c_37]; done) | (simp [cl1, c_3, c_4, hi, c_11, c_37]; omega) | (simp [cl1, ← Int32.not_le, c_3, c_4, hi, c_11, c_37]; done) | (simp [cl1, c_3, c_4, hi, c_11, eq_true c_37]; done)
            rw [← q8] at Z
            exact ih_38 (i + 1) (by first | omega | exact Nat.zero_le _) (by omega) _ _ Z ls (hl)
          · skip
            refine lv_aload_n S.1 S.2.1 dX8_clean_63 rfl (lv_at hl 1 rfl) ?_
            refine r_get (C := RX8) (T := TX8) (N := 19) (ci := 8) S Z (by decide) rfl rfl i_X8_clean_X8 0 (by decide) m_X8_clean_f7 rfl (v := .ref (gA G 40)) rfl dX8_clean_64 ?_
            refine lv_iload S.1 S.2.1 dX8_clean_67 (lv_at hl 0 rfl) ?_
            refine r_ialdM S Z (n := 256) ⟨rfl, rfl⟩ (by omega) (by decide) dX8_clean_69 ?_
            refine lv_aload_n S.1 S.2.1 dX8_clean_70 rfl (lv_at hl 1 rfl) ?_
            refine lv_iload_n S.1 S.2.1 dX8_clean_71 rfl (lv_at hl 2 rfl) ?_
            refine lv_iload_n S.1 S.2.1 dX8_clean_72 rfl (lv_at hl 4 rfl) ?_
            refine lv_iconst (v := nI 4) S.1 S.2.1 dX8_clean_73 (by decide) ?_
            refine r_divN S (by omega) (by decide) (by decide) dX8_clean_74 ?_
            refine lv_iload_n S.1 S.2.1 dX8_clean_75 rfl (lv_at hl 4 rfl) ?_
            refine lv_iconst (v := nI 4) S.1 S.2.1 dX8_clean_76 (by decide) ?_
            refine r_remN S (by omega) (by decide) (by decide) dX8_clean_77 ?_
            refine vp_callSi (va_runV (As := [.int (nI k), .int (nI (i / 4)), .int (nI (i % 4))]) (rest := [.int (mI ((cl1 (thr μ 0) k i).1) 40 ((64 * k) + i))]) S (k_X8_buried l G σ ((cl1 (thr μ 0) k i).1) o k (i / 4) (i % 4) (by omega) (by omega) (by omega) (by rw [cl1_R]; exact hmr)) (cwV 3 S.2.2.2.2 gX8_clean_X8_buried rfl rfl rfl ⟨rfl, hy_X8_buried⟩ ⟨Nat.le_of_ble_eq_true rfl, Nat.le_of_ble_eq_true rfl⟩) (wPc_V (q := (RX8, TX8, 19)) Z (by decide) rfl rfl) rfl rfl hl.1 rfl (lv_room (Nat.le_of_ble_eq_true rfl)) dX8_clean_78 ⟨Nat.le_of_ble_eq_true rfl, Nat.le_of_ble_eq_true rfl⟩).run (fun r_39 h_40 => ?_)
            rw [h_40]; clear h_40 r_39
            refine lv_icmp_gt (tgt := 95) S.1 S.2.1 dX8_clean_81 (by decide) (fun c_41 => ?_) (fun c_41 => ?_)
            · skip
              refine lv_iinc (v := nI (i + 1)) (lv' := [(3, .int (nI (i + 1))), (4, .int (nI ((64 * k) + i))), (0, .ref (gA G 39)), (1, .int (nI k)), (2, .int (nI ((cl1 (thr μ 0) k i).2)))]) S.1 S.2.1 dX8_clean_95 hl (k := 4) rfl (nI_inc rfl) (by decide) rfl (fun ls hl => ?_)
              refine lv_goto (tgt := 38) S.1 S.2.1 dX8_clean_98 (by decide) ?_
              have q_42 : (nI ((cl1 (thr μ 0) k (i + 1)).2) : Int32) = nI ((cl1 (thr μ 0) k i).2) := by first | (first | (simp [cl1, c_3, c_4, hi, c_11, c_37, c_41]; done) | (simp [cl1, c_3, c_4, hi, c_11, c_37, c_41]; omega) | (simp [cl1, ← Int32.not_le, c_3, c_4, hi, c_11, c_37, c_41]; done)) | exact congrArg nI (by omega) | with_reducible rfl
              have hl : lv_has ls 5 [(0, .ref (gA G 39)), (1, .int (nI k)), (2, .int (nI ((cl1 (thr μ 0) k (i + 1)).2))), (3, .int (nI (i + 1)))] := by
                have hl := lv_sub hl [2, 3, 4, 0] rfl
                rw [q_42]; exact hl
              have q8 : ((cl1 (thr μ 0) k (i + 1)).1 : mS) = (cl1 (thr μ 0) k i).1 := by first | (simp [cl1, c_3, c_4, hi, c_11, c_37, c_41]; done) | (simp [cl1, c_3, c_4, hi, c_11, c_37, c_41]; omega) | (simp [cl1, ← Int32.not_le, c_3, c_4, hi, c_11, c_37, c_41]; done)
              rw [← q8] at Z
              exact ih_38 (i + 1) (by first | omega | exact Nat.zero_le _) (by omega) _ _ Z ls (hl)
            · skip
              refine lv_aload_n S.1 S.2.1 dX8_clean_84 rfl (lv_at hl 1 rfl) ?_
              refine r_get (C := RX8) (T := TX8) (N := 19) (ci := 8) S Z (by decide) rfl rfl i_X8_clean_X8 0 (by decide) m_X8_clean_f7 rfl (v := .ref (gA G 40)) rfl dX8_clean_85 ?_
              refine lv_iload S.1 S.2.1 dX8_clean_88 (lv_at hl 0 rfl) ?_
              refine lv_iconst (v := -1) S.1 S.2.1 dX8_clean_90 (by decide) ?_
              refine r_wM S Z (n := 256) ⟨rfl, rfl⟩ (by omega) (by decide) dX8_clean_91 (fun H locs Z => ?_)
              refine lv_iinc (v := nI ((cl1 (thr μ 0) k i).2 + 1)) (lv' := [(2, .int (nI ((cl1 (thr μ 0) k i).2 + 1))), (4, .int (nI ((64 * k) + i))), (0, .ref (gA G 39)), (1, .int (nI k)), (3, .int (nI i))]) S.1 S.2.1 dX8_clean_92 hl (k := 3) rfl (nI_inc rfl) (by decide) rfl (fun ls hl => ?_)
              refine lv_iinc (v := nI (i + 1)) (lv' := [(3, .int (nI (i + 1))), (2, .int (nI ((cl1 (thr μ 0) k i).2 + 1))), (4, .int (nI ((64 * k) + i))), (0, .ref (gA G 39)), (1, .int (nI k))]) S.1 S.2.1 dX8_clean_95 hl (k := 4) rfl (nI_inc rfl) (by decide) rfl (fun ls hl => ?_)
              refine lv_goto (tgt := 38) S.1 S.2.1 dX8_clean_98 (by decide) ?_
              have q_43 : (nI ((cl1 (thr μ 0) k (i + 1)).2) : Int32) = nI ((cl1 (thr μ 0) k i).2 + 1) := by first | (first | (simp [cl1, c_3, c_4, hi, c_11, c_37, c_41]; done) | (simp [cl1, c_3, c_4, hi, c_11, c_37, c_41]; omega) | (simp [cl1, ← Int32.not_le, c_3, c_4, hi, c_11, c_37, c_41]; done)) | exact congrArg nI (by omega) | with_reducible rfl
              have hl : lv_has ls 5 [(0, .ref (gA G 39)), (1, .int (nI k)), (2, .int (nI ((cl1 (thr μ 0) k (i + 1)).2))), (3, .int (nI (i + 1)))] := by
                have hl := lv_sub hl [3, 4, 1, 0] rfl
                rw [q_43]; exact hl
              have q8 : ((cl1 (thr μ 0) k (i + 1)).1 : mS) = w2 ((cl1 (thr μ 0) k i).1) 40 ((64 * k) + i) (-1) := by first | (simp [cl1, c_3, c_4, hi, c_11, c_37, c_41]; done) | (simp [cl1, c_3, c_4, hi, c_11, c_37, c_41]; omega) | (simp [cl1, ← Int32.not_le, c_3, c_4, hi, c_11, c_37, c_41]; done)
              rw [← q8] at Z
              exact ih_38 (i + 1) (by first | omega | exact Nat.zero_le _) (by omega) _ _ Z ls (hl)
    have q_44 : (nI ((cl1 (thr μ 0) k 0).2) : Int32) = nI 0 := by first | with_reducible rfl | (first | (simp [cl1, c_3, c_4]; done) | (simp [cl1, c_3, c_4]; omega) | (simp [cl1, ← Int32.not_le, c_3, c_4]; done)) | exact congrArg nI (by omega) | rfl
    have hl : lv_has ls 5 [(0, .ref (gA G 39)), (1, .int (nI k)), (2, .int (nI ((cl1 (thr μ 0) k 0).2))), (3, .int (nI 0))] := by
      have hl := lv_sub hl [2, 3, 1, 0] rfl
      rw [q_44]; exact hl
    have q8 : ((cl1 (thr μ 0) k 0).1 : mS) = thr μ 0 := by first | (simp [cl1, c_3, c_4]; done) | (simp [cl1, c_3, c_4]; omega) | (simp [cl1, ← Int32.not_le, c_3, c_4]; done)
    rw [← q8] at Z
    exact L_38 (64 - 0 + 1) 0 (by first | omega | exact Nat.zero_le _) (Nat.lt_succ_self _) _ _ Z ls (hl)

abbrev rm_k_X8_clean_B : Room := { frames := 2, cells := 0, slots := 0, locals := 42 }
set_option maxHeartbeats 4000000 in
set_option maxRecDepth 100000 in
theorem k_X8_clean_B (l : Launch) (G : wG) (σ : cS) (μ : mS) (o : Nat → Int64) (x : Int32) (hb : isCopyB x = false) : Met l yX8_clean wsX8_clean rm_k_X8_clean_B (wPc G σ μ o [.ref (gA G 39), .int (x)]) (va_Qi (fun (rr : Int32) (u : cS × mS) => rr = nI (0) ∧ u = (σ, thr μ 1)) (fun u t => wI G u.1 u.2 o t) (gP G)) 0 0 (gP G) := by
  refine Met.ofW (cc := cX8_clean) (maxL := 5) (ret := (some .int)) (by decide) rfl ?_
  intro p e s m args below meth c s₁ B hml hv
  obtain ⟨hargs, hI⟩ := hv
  have S : CallFix p m c cX8_clean 5 s args wsX8_clean RX8 := ⟨B.exec, B.bytes, hml, findClass_of_methodNamed B.named, atoms_spec (ws := wsX8_clean) B.pre⟩
  have hret := B.returns
  have hlocks := B.notSynchronized
  have Z := wZ_0 hI
  clear hI
  obtain ⟨Q, hQ⟩ : ∃ Q, Q = MQ below (va_Qi (fun (rr : Int32) (u : cS × mS) => rr = nI (0) ∧ u = (σ, thr μ 1)) (fun u t => wI G u.1 u.2 o t) (gP G)) args s 0 0 (gP G) := ⟨_, rfl⟩
  rw [← hQ]
  have hl := lv_entry [.ref (gA G 39), .int (x)] (n := 5) (Nat.le_of_ble_eq_true rfl)
  rw [show entryFrame m args 5 = entryFrame m ([.ref (gA G 39), .int (x)] : List Value).toArray 5 from by rw [hargs], lg_entry_eq]
  generalize (lg_sl [.ref (gA G 39), .int (x)] ++ List.replicate (5 - (lg_sl [.ref (gA G 39), .int (x)]).length) Slot.unset).toArray = ls at hl ⊢
  have hl : lv_has ls 5 [(0, .ref (gA G 39)), (1, .int (x))] := hl
  refine lv_aload_n S.1 S.2.1 dX8_clean_0 rfl (lv_at hl 0 rfl) ?_
  refine lv_iload_n S.1 S.2.1 dX8_clean_1 rfl (lv_at hl 1 rfl) ?_
  refine vp_callSi (va_runS (As := [.int (x)]) (rest := [.ref (gA G 39)]) S (k_X8_isCopy l G σ μ o x ) (va_cwS 1 S.2.2.2.2 gX8_clean_X8_isCopy rfl rfl rfl hy_X8_isCopy ⟨Nat.le_of_ble_eq_true rfl, Nat.le_of_ble_eq_true rfl⟩) (wPc_S Z) rfl rfl hl.1 rfl (lv_room (Nat.le_of_ble_eq_true rfl)) dX8_clean_2 ⟨Nat.le_of_ble_eq_true rfl, Nat.le_of_ble_eq_true rfl⟩).run (fun r_1 h_2 => ?_)
  rw [h_2]; clear h_2 r_1
  refine r_if_neB S (tgt := 12) dX8_clean_5 (by decide) (fun c_3 => absurd c_3 (by simp_all)) (fun c_3 => ?_)
  refine lv_iconst (v := nI 1) S.1 S.2.1 dX8_clean_8 (by decide) ?_
  refine lv_goto (tgt := 26) S.1 S.2.1 dX8_clean_9 (by decide) ?_
  refine va_calli (va_runV (As := [.int (nI 1)]) (rest := []) S (k_X8_can l G σ μ o 1 (by omega)) (cwV 1 S.2.2.2.2 gX8_clean_X8_can rfl rfl rfl ⟨rfl, hy_X8_can⟩ ⟨Nat.le_of_ble_eq_true rfl, Nat.le_of_ble_eq_true rfl⟩) (wPc_V (q := (RX8, TX8, 19)) Z (by decide) rfl rfl) rfl rfl hl.1 rfl (lv_room (Nat.le_of_ble_eq_true rfl)) dX8_clean_26 ⟨Nat.le_of_ble_eq_true rfl, Nat.le_of_ble_eq_true rfl⟩) Z.2.2.2.2 (fun _ _ h => h) (fun _ h => h) (fun r_4 u_5 T9 H1 locs1 hT9 hvm hw hB hz hk9 hS => ?_)
  obtain ⟨hr9, rfl⟩ := hw
  rw [hr9]; clear hr9 r_4
  have Z : wZ G (σ) (thr μ 1) o s H1 locs1 := wZ_callP Z hB hT9 hS
  clear hB hT9 hS hk9 hz hvm T9
  revert Z; generalize H1 = H; generalize locs1 = locs; intro Z
  refine W.widen (k := 0) (n := 0) (by decide) (by decide) ?_
  refine r_if_neB S (tgt := 34) dX8_clean_29 (by decide) (fun c_6 => absurd c_6 (by decide)) (fun c_6 => ?_)
  refine lv_iconst (v := nI 0) S.1 S.2.1 dX8_clean_32 (by decide) ?_
  rw [hQ]
  exact W.iret (v := nI 0) S.1 S.2.1 hret (fun _ hT9 hW => ⟨⟨_, (σ, thr μ 1), rfl, ⟨rfl, rfl⟩, wZ_P Z hT9 hW⟩, Z.2.2.2.2.F hT9⟩) Z.2.2.2.2.2.2 dX8_clean_33
