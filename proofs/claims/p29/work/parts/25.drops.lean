theorem i_X5_dropTombstonesMadeBy_X5 : ∀ w ∈ wsX50, w ∈ wsX5_dropTombstonesMadeBy := by decide +kernel
theorem m_X5_dropTombstonesMadeBy_f21 : Cond.fieldLink RX5 21 "WideCell$Table" "burials" "[I" ∈ wsX5_dropTombstonesMadeBy := by decide +kernel
theorem m_X5_dropTombstonesMadeBy_f24 : Cond.fieldLink RX5 24 "WideCell$Table" "madeAts" "[I" ∈ wsX5_dropTombstonesMadeBy := by decide +kernel
abbrev rm_k_X5_dropTombstonesMadeBy : Room := { frames := 1, cells := 0, slots := 0, locals := 23 }
set_option maxHeartbeats 4000000 in
set_option maxRecDepth 100000 in
theorem k_X5_dropTombstonesMadeBy (l : Launch) (G : wG) (σ : cS) (μ : mS) (o : Nat → Int64) (t : Nat) (la : Int32) (ht : t < 4) : Met l yX5_dropTombstonesMadeBy wsX5_dropTombstonesMadeBy rm_k_X5_dropTombstonesMadeBy (wPc G σ μ o [.ref (gA G (15 + 6 * t)), .int (la)]) (va_Qi (fun (rr : Int32) (u : cS × mS) => rr = nI ((dts σ t la 92).2) ∧ u = ((dts σ t la 92).1, μ)) (fun u t => wI G u.1 u.2 o t) (gP G)) 0 0 (gP G) := by
  refine Met.ofW (cc := cX5_dropTombstonesMadeBy) (maxL := 4) (ret := (some .int)) (by decide) rfl ?_
  intro p e s m args below meth c s₁ B hml hv
  obtain ⟨hargs, hI⟩ := hv
  have S : CallFix p m c cX5_dropTombstonesMadeBy 4 s args wsX5_dropTombstonesMadeBy RX5 := ⟨B.exec, B.bytes, hml, findClass_of_methodNamed B.named, atoms_spec (ws := wsX5_dropTombstonesMadeBy) B.pre⟩
  have hret := B.returns
  have hlocks := B.notSynchronized
  have Z := wZ_0 hI
  clear hI
  obtain ⟨Q, hQ⟩ : ∃ Q, Q = MQ below (va_Qi (fun (rr : Int32) (u : cS × mS) => rr = nI ((dts σ t la 92).2) ∧ u = ((dts σ t la 92).1, μ)) (fun u t => wI G u.1 u.2 o t) (gP G)) args s 0 0 (gP G) := ⟨_, rfl⟩
  rw [← hQ]
  have hl := lv_entry [.ref (gA G (15 + 6 * t)), .int (la)] (n := 4) (Nat.le_of_ble_eq_true rfl)
  rw [show entryFrame m args 4 = entryFrame m ([.ref (gA G (15 + 6 * t)), .int (la)] : List Value).toArray 4 from by rw [hargs], lg_entry_eq]
  generalize (lg_sl [.ref (gA G (15 + 6 * t)), .int (la)] ++ List.replicate (4 - (lg_sl [.ref (gA G (15 + 6 * t)), .int (la)]).length) Slot.unset).toArray = ls at hl ⊢
  have hl : lv_has ls 4 [(0, .ref (gA G (15 + 6 * t))), (1, .int (la))] := hl
  refine lv_iconst (v := nI 0) S.1 S.2.1 dX5_dropTombstonesMadeBy_0 (by decide) ?_
  refine lv_istore_n (lv' := [(2, .int (nI 0)), (0, .ref (gA G (15 + 6 * t))), (1, .int (la))]) S.1 S.2.1 dX5_dropTombstonesMadeBy_1 rfl hl (by decide) rfl (fun ls hl => ?_)
  refine lv_iconst (v := nI 0) S.1 S.2.1 dX5_dropTombstonesMadeBy_2 (by decide) ?_
  refine lv_istore_n (lv' := [(3, .int (nI 0)), (2, .int (nI 0)), (0, .ref (gA G (15 + 6 * t))), (1, .int (la))]) S.1 S.2.1 dX5_dropTombstonesMadeBy_3 rfl hl (by decide) rfl (fun ls hl => ?_)
  have L_4 : ∀ (n : Nat) (i : Nat) (hi : i ≤ 92) (hn : 92 - i < n) (H : Heap) (locs : List Loc) (Z : wZ G ((dts σ t la i).1) (μ) o s H locs) (ls : Array Slot) (hl : lv_has ls 4 [(0, .ref (gA G (15 + 6 * t))), (1, .int (la)), (2, .int (nI ((dts σ t la i).2))), (3, .int (nI i))]), W p l e (headSpec wsX5_dropTombstonesMadeBy rm_k_X5_dropTombstonesMadeBy).room s m args below meth c H locs 0 0 Q (F0 m 4 ls []) := by
    intro n
    induction n with
    | zero => intro i hi hn; omega
    | succ n ih_4 =>
      intro i hi hn H locs Z ls hl
      refine lv_iload_n S.1 S.2.1 dX5_dropTombstonesMadeBy_4 rfl (lv_at hl 3 rfl) ?_
      refine lv_bipush (v := nI 92) S.1 S.2.1 dX5_dropTombstonesMadeBy_5 (by decide) ?_
      refine r_icmpN_ge S (tgt := 46) (by omega) (by omega) dX5_dropTombstonesMadeBy_7 (by decide) (fun c_1 => ?_) (fun c_1 => ?_)
      · skip
        obtain rfl : i = 92 := by omega
        refine lv_iload_n S.1 S.2.1 dX5_dropTombstonesMadeBy_46 rfl (lv_at hl 2 rfl) ?_
        rw [hQ]
        exact W.iret (v := nI ((dts σ t la 92).2)) S.1 S.2.1 hret (fun _ hT9 hW => ⟨⟨_, ((dts σ t la 92).1, μ), rfl, ⟨rfl, rfl⟩, wZ_P Z hT9 hW⟩, Z.2.2.2.2.F hT9⟩) Z.2.2.2.2.2.2 dX5_dropTombstonesMadeBy_47
      · skip
        refine lv_aload_n S.1 S.2.1 dX5_dropTombstonesMadeBy_10 rfl (lv_at hl 0 rfl) ?_
        refine r_get (C := RX5) (T := TX5) (N := 6) (ci := 5) S Z (by omega) (eT ht) rfl i_X5_dropTombstonesMadeBy_X5 4 (by decide) m_X5_dropTombstonesMadeBy_f21 rfl (v := .ref (gA G (15 + 6 * t + 4))) rfl dX5_dropTombstonesMadeBy_11 ?_
        refine lv_iload_n S.1 S.2.1 dX5_dropTombstonesMadeBy_14 rfl (lv_at hl 3 rfl) ?_
        refine r_ialdC S Z (n := 92) (pB ht (by decide) (by decide)) (by omega) (by decide) dX5_dropTombstonesMadeBy_15 ?_
        refine lv_iconst (v := -1) S.1 S.2.1 dX5_dropTombstonesMadeBy_16 (by decide) ?_
        refine lv_icmp_eq (tgt := 40) S.1 S.2.1 dX5_dropTombstonesMadeBy_17 (by decide) (fun c_2 => ?_) (fun c_2 => ?_)
        · skip
          refine lv_iinc (v := nI (i + 1)) (lv' := [(3, .int (nI (i + 1))), (0, .ref (gA G (15 + 6 * t))), (1, .int (la)), (2, .int (nI ((dts σ t la i).2)))]) S.1 S.2.1 dX5_dropTombstonesMadeBy_40 hl (k := 3) rfl (nI_inc rfl) (by decide) rfl (fun ls hl => ?_)
          refine lv_goto (tgt := 4) S.1 S.2.1 dX5_dropTombstonesMadeBy_43 (by decide) ?_
          have q_3 : (nI ((dts σ t la (i + 1)).2) : Int32) = nI ((dts σ t la i).2) := by first | (first | (simp [dts, hi, c_1, c_2]; done) | (simp [dts, hi, c_1, c_2]; omega) | (simp [dts, ← Int32.not_le, hi, c_1, c_2]; done) | (simp [dts, hi, c_1, eq_true c_2]; done)) | exact congrArg nI (by omega) | rfl
          have hl : lv_has ls 4 [(0, .ref (gA G (15 + 6 * t))), (1, .int (la)), (2, .int (nI ((dts σ t la (i + 1)).2))), (3, .int (nI (i + 1)))] := by
            have hl := lv_sub hl [1, 2, 3, 0] rfl
            rw [q_3]; exact hl
          have q9 : ((dts σ t la (i + 1)).1 : cS) = (dts σ t la i).1 := by first | (simp [dts, hi, c_1, c_2]; done) | (simp [dts, hi, c_1, c_2]; omega) | (simp [dts, ← Int32.not_le, hi, c_1, c_2]; done) | (simp [dts, hi, c_1, eq_true c_2]; done)
          rw [← q9] at Z
          exact ih_4 (i + 1) (by omega) (by omega) _ _ Z ls (hl)
        · skip
          refine lv_aload_n S.1 S.2.1 dX5_dropTombstonesMadeBy_20 rfl (lv_at hl 0 rfl) ?_
          refine r_get (C := RX5) (T := TX5) (N := 6) (ci := 5) S Z (by omega) (eT ht) rfl i_X5_dropTombstonesMadeBy_X5 5 (by decide) m_X5_dropTombstonesMadeBy_f24 rfl (v := .ref (gA G (15 + 6 * t + 5))) rfl dX5_dropTombstonesMadeBy_21 ?_
          refine lv_iload_n S.1 S.2.1 dX5_dropTombstonesMadeBy_24 rfl (lv_at hl 3 rfl) ?_
          refine r_ialdC S Z (n := 92) (pB ht (by decide) (by decide)) (by omega) (by decide) dX5_dropTombstonesMadeBy_25 ?_
          refine lv_iload_n S.1 S.2.1 dX5_dropTombstonesMadeBy_26 rfl (lv_at hl 1 rfl) ?_
          refine lv_icmp_gt (tgt := 40) S.1 S.2.1 dX5_dropTombstonesMadeBy_27 (by decide) (fun c_4 => ?_) (fun c_4 => ?_)
          · skip
            refine lv_iinc (v := nI (i + 1)) (lv' := [(3, .int (nI (i + 1))), (0, .ref (gA G (15 + 6 * t))), (1, .int (la)), (2, .int (nI ((dts σ t la i).2)))]) S.1 S.2.1 dX5_dropTombstonesMadeBy_40 hl (k := 3) rfl (nI_inc rfl) (by decide) rfl (fun ls hl => ?_)
            refine lv_goto (tgt := 4) S.1 S.2.1 dX5_dropTombstonesMadeBy_43 (by decide) ?_
            have q_5 : (nI ((dts σ t la (i + 1)).2) : Int32) = nI ((dts σ t la i).2) := by first | (first | (simp [dts, hi, c_1, c_2, c_4]; done) | (simp [dts, hi, c_1, c_2, c_4]; omega) | (simp [dts, ← Int32.not_le, hi, c_1, c_2, c_4]; done)) | exact congrArg nI (by omega) | rfl
            have hl : lv_has ls 4 [(0, .ref (gA G (15 + 6 * t))), (1, .int (la)), (2, .int (nI ((dts σ t la (i + 1)).2))), (3, .int (nI (i + 1)))] := by
              have hl := lv_sub hl [1, 2, 3, 0] rfl
              rw [q_5]; exact hl
            have q9 : ((dts σ t la (i + 1)).1 : cS) = (dts σ t la i).1 := by first | (simp [dts, hi, c_1, c_2, c_4]; done) | (simp [dts, hi, c_1, c_2, c_4]; omega) | (simp [dts, ← Int32.not_le, hi, c_1, c_2, c_4]; done)
            rw [← q9] at Z
            exact ih_4 (i + 1) (by omega) (by omega) _ _ Z ls (hl)
          · skip
            refine lv_aload_n S.1 S.2.1 dX5_dropTombstonesMadeBy_30 rfl (lv_at hl 0 rfl) ?_
            refine lv_iload_n S.1 S.2.1 dX5_dropTombstonesMadeBy_31 rfl (lv_at hl 3 rfl) ?_
            refine lv_iconst (v := -1) S.1 S.2.1 dX5_dropTombstonesMadeBy_32 (by decide) ?_
            refine lv_iconst (v := nI 0) S.1 S.2.1 dX5_dropTombstonesMadeBy_33 (by decide) ?_
            refine va_callv (va_runV (As := [.int (nI i), .int (-1), .int (nI 0)]) (rest := []) S (k_X5_putTombstone l G ((dts σ t la i).1) μ o t i (-1) (nI 0) ht (by omega)) (cwV 3 S.2.2.2.2 gX5_dropTombstonesMadeBy_X5_putTombstone rfl rfl rfl ⟨rfl, hy_X5_putTombstone⟩ ⟨Nat.le_of_ble_eq_true rfl, Nat.le_of_ble_eq_true rfl⟩) (wPc_V (q := (RX5, TX5, 6)) Z (by omega) (eT ht) rfl) rfl rfl hl.1 rfl (lv_room (Nat.le_of_ble_eq_true rfl)) dX5_dropTombstonesMadeBy_34 ⟨Nat.le_of_ble_eq_true rfl, Nat.le_of_ble_eq_true rfl⟩) Z.2.2.2.2 (fun _ _ h => h) (fun _ h => h) (fun u_7 T9 H1 locs1 hT9 hvm hw hB hz hk9 hS => ?_)
            subst hw
            have Z : wZ G (putT ((dts σ t la i).1) t i (-1) (nI 0)) (μ) o s H1 locs1 := wZ_callP Z hB hT9 hS
            clear hB hT9 hS hk9 hz hvm T9
            revert Z; generalize H1 = H; generalize locs1 = locs; intro Z
            refine W.widen (k := 0) (n := 0) (by decide) (by decide) ?_
            refine lv_iinc (v := nI ((dts σ t la i).2 + 1)) (lv' := [(2, .int (nI ((dts σ t la i).2 + 1))), (0, .ref (gA G (15 + 6 * t))), (1, .int (la)), (3, .int (nI i))]) S.1 S.2.1 dX5_dropTombstonesMadeBy_37 hl (k := 2) rfl (nI_inc rfl) (by decide) rfl (fun ls hl => ?_)
            refine lv_iinc (v := nI (i + 1)) (lv' := [(3, .int (nI (i + 1))), (2, .int (nI ((dts σ t la i).2 + 1))), (0, .ref (gA G (15 + 6 * t))), (1, .int (la))]) S.1 S.2.1 dX5_dropTombstonesMadeBy_40 hl (k := 3) rfl (nI_inc rfl) (by decide) rfl (fun ls hl => ?_)
            refine lv_goto (tgt := 4) S.1 S.2.1 dX5_dropTombstonesMadeBy_43 (by decide) ?_
            have q_8 : (nI ((dts σ t la (i + 1)).2) : Int32) = nI ((dts σ t la i).2 + 1) := by first | (first | (simp [dts, hi, c_1, c_2, c_4]; done) | (simp [dts, hi, c_1, c_2, c_4]; omega) | (simp [dts, ← Int32.not_le, hi, c_1, c_2, c_4]; done)) | exact congrArg nI (by omega) | rfl
            have hl : lv_has ls 4 [(0, .ref (gA G (15 + 6 * t))), (1, .int (la)), (2, .int (nI ((dts σ t la (i + 1)).2))), (3, .int (nI (i + 1)))] := by
              have hl := lv_sub hl [2, 3, 1, 0] rfl
              rw [q_8]; exact hl
            have q9 : ((dts σ t la (i + 1)).1 : cS) = putT ((dts σ t la i).1) t i (-1) (nI 0) := by first | (simp [dts, hi, c_1, c_2, c_4]; done) | (simp [dts, hi, c_1, c_2, c_4]; omega) | (simp [dts, ← Int32.not_le, hi, c_1, c_2, c_4]; done)
            rw [← q9] at Z
            exact ih_4 (i + 1) (by omega) (by omega) _ _ Z ls (hl)
  have q_9 : (nI ((dts σ t la 0).2) : Int32) = nI 0 := by first | rfl | (first | (simp [dts]; done) | (simp [dts]; omega) | (simp [dts, ← Int32.not_le]; done)) | exact congrArg nI (by omega)
  have hl : lv_has ls 4 [(0, .ref (gA G (15 + 6 * t))), (1, .int (la)), (2, .int (nI ((dts σ t la 0).2))), (3, .int (nI 0))] := by
    have hl := lv_sub hl [2, 3, 1, 0] rfl
    rw [q_9]; exact hl
  have q9 : ((dts σ t la 0).1 : cS) = σ := by first | (simp [dts]; done) | (simp [dts]; omega) | (simp [dts, ← Int32.not_le]; done)
  rw [← q9] at Z
  exact L_4 (92 - 0 + 1) 0 (by omega) (by omega) _ _ Z ls (hl)

theorem i_X5_dropEntriesEndedBy_X5 : ∀ w ∈ wsX50, w ∈ wsX5_dropEntriesEndedBy := by decide +kernel
theorem m_X5_dropEntriesEndedBy_f9 : Cond.fieldLink RX5 9 "WideCell$Table" "stamps" "[I" ∈ wsX5_dropEntriesEndedBy := by decide +kernel
theorem m_X5_dropEntriesEndedBy_f18 : Cond.fieldLink RX5 18 "WideCell$Table" "ends" "[I" ∈ wsX5_dropEntriesEndedBy := by decide +kernel
abbrev rm_k_X5_dropEntriesEndedBy : Room := { frames := 2, cells := 0, slots := 0, locals := 45 }
set_option maxHeartbeats 4000000 in
set_option maxRecDepth 100000 in
theorem k_X5_dropEntriesEndedBy (l : Launch) (G : wG) (σ : cS) (μ : mS) (o : Nat → Int64) (t : Nat) (la : Int32) (ht : t < 4) : Met l yX5_dropEntriesEndedBy wsX5_dropEntriesEndedBy rm_k_X5_dropEntriesEndedBy (wPc G σ μ o [.ref (gA G (15 + 6 * t)), .int (la)]) (va_Qi (fun (rr : Int32) (u : cS × mS) => rr = nI ((des σ t la 64).2) ∧ u = ((des σ t la 64).1, μ)) (fun u t => wI G u.1 u.2 o t) (gP G)) 0 0 (gP G) := by
  refine Met.ofW (cc := cX5_dropEntriesEndedBy) (maxL := 4) (ret := (some .int)) (by decide) rfl ?_
  intro p e s m args below meth c s₁ B hml hv
  obtain ⟨hargs, hI⟩ := hv
  have S : CallFix p m c cX5_dropEntriesEndedBy 4 s args wsX5_dropEntriesEndedBy RX5 := ⟨B.exec, B.bytes, hml, findClass_of_methodNamed B.named, atoms_spec (ws := wsX5_dropEntriesEndedBy) B.pre⟩
  have hret := B.returns
  have hlocks := B.notSynchronized
  have Z := wZ_0 hI
  clear hI
  obtain ⟨Q, hQ⟩ : ∃ Q, Q = MQ below (va_Qi (fun (rr : Int32) (u : cS × mS) => rr = nI ((des σ t la 64).2) ∧ u = ((des σ t la 64).1, μ)) (fun u t => wI G u.1 u.2 o t) (gP G)) args s 0 0 (gP G) := ⟨_, rfl⟩
  rw [← hQ]
  have hl := lv_entry [.ref (gA G (15 + 6 * t)), .int (la)] (n := 4) (Nat.le_of_ble_eq_true rfl)
  rw [show entryFrame m args 4 = entryFrame m ([.ref (gA G (15 + 6 * t)), .int (la)] : List Value).toArray 4 from by rw [hargs], lg_entry_eq]
  generalize (lg_sl [.ref (gA G (15 + 6 * t)), .int (la)] ++ List.replicate (4 - (lg_sl [.ref (gA G (15 + 6 * t)), .int (la)]).length) Slot.unset).toArray = ls at hl ⊢
  have hl : lv_has ls 4 [(0, .ref (gA G (15 + 6 * t))), (1, .int (la))] := hl
  refine lv_iconst (v := nI 0) S.1 S.2.1 dX5_dropEntriesEndedBy_0 (by decide) ?_
  refine lv_istore_n (lv' := [(2, .int (nI 0)), (0, .ref (gA G (15 + 6 * t))), (1, .int (la))]) S.1 S.2.1 dX5_dropEntriesEndedBy_1 rfl hl (by decide) rfl (fun ls hl => ?_)
  refine lv_iconst (v := nI 0) S.1 S.2.1 dX5_dropEntriesEndedBy_2 (by decide) ?_
  refine lv_istore_n (lv' := [(3, .int (nI 0)), (2, .int (nI 0)), (0, .ref (gA G (15 + 6 * t))), (1, .int (la))]) S.1 S.2.1 dX5_dropEntriesEndedBy_3 rfl hl (by decide) rfl (fun ls hl => ?_)
  have L_4 : ∀ (n : Nat) (i : Nat) (hi : i ≤ 64) (hn : 64 - i < n) (H : Heap) (locs : List Loc) (Z : wZ G ((des σ t la i).1) (μ) o s H locs) (ls : Array Slot) (hl : lv_has ls 4 [(0, .ref (gA G (15 + 6 * t))), (1, .int (la)), (2, .int (nI ((des σ t la i).2))), (3, .int (nI i))]), W p l e (headSpec wsX5_dropEntriesEndedBy rm_k_X5_dropEntriesEndedBy).room s m args below meth c H locs 0 0 Q (F0 m 4 ls []) := by
    intro n
    induction n with
    | zero => intro i hi hn; omega
    | succ n ih_4 =>
      intro i hi hn H locs Z ls hl
      refine lv_iload_n S.1 S.2.1 dX5_dropEntriesEndedBy_4 rfl (lv_at hl 3 rfl) ?_
      refine lv_bipush (v := nI 64) S.1 S.2.1 dX5_dropEntriesEndedBy_5 (by decide) ?_
      refine r_icmpN_ge S (tgt := 47) (by omega) (by omega) dX5_dropEntriesEndedBy_7 (by decide) (fun c_1 => ?_) (fun c_1 => ?_)
      · skip
        obtain rfl : i = 64 := by omega
        refine lv_iload_n S.1 S.2.1 dX5_dropEntriesEndedBy_47 rfl (lv_at hl 2 rfl) ?_
        rw [hQ]
        exact W.iret (v := nI ((des σ t la 64).2)) S.1 S.2.1 hret (fun _ hT9 hW => ⟨⟨_, ((des σ t la 64).1, μ), rfl, ⟨rfl, rfl⟩, wZ_P Z hT9 hW⟩, Z.2.2.2.2.F hT9⟩) Z.2.2.2.2.2.2 dX5_dropEntriesEndedBy_48
      · skip
        refine lv_aload_n S.1 S.2.1 dX5_dropEntriesEndedBy_10 rfl (lv_at hl 0 rfl) ?_
        refine r_get (C := RX5) (T := TX5) (N := 6) (ci := 5) S Z (by omega) (eT ht) rfl i_X5_dropEntriesEndedBy_X5 1 (by decide) m_X5_dropEntriesEndedBy_f9 rfl (v := .ref (gA G (15 + 6 * t + 1))) rfl dX5_dropEntriesEndedBy_11 ?_
        refine lv_iload_n S.1 S.2.1 dX5_dropEntriesEndedBy_14 rfl (lv_at hl 3 rfl) ?_
        refine r_ialdC S Z (n := 64) (pT ht (by decide) (by decide)) (by omega) (by decide) dX5_dropEntriesEndedBy_15 ?_
        refine lv_iconst (v := -1) S.1 S.2.1 dX5_dropEntriesEndedBy_16 (by decide) ?_
        refine lv_icmp_eq (tgt := 41) S.1 S.2.1 dX5_dropEntriesEndedBy_17 (by decide) (fun c_2 => ?_) (fun c_2 => ?_)
        · skip
          refine lv_iinc (v := nI (i + 1)) (lv' := [(3, .int (nI (i + 1))), (0, .ref (gA G (15 + 6 * t))), (1, .int (la)), (2, .int (nI ((des σ t la i).2)))]) S.1 S.2.1 dX5_dropEntriesEndedBy_41 hl (k := 3) rfl (nI_inc rfl) (by decide) rfl (fun ls hl => ?_)
          refine lv_goto (tgt := 4) S.1 S.2.1 dX5_dropEntriesEndedBy_44 (by decide) ?_
          have q_3 : (nI ((des σ t la (i + 1)).2) : Int32) = nI ((des σ t la i).2) := by first | (first | (simp [des, hi, c_1, c_2]; done) | (simp [des, hi, c_1, c_2]; omega) | (simp [des, ← Int32.not_le, hi, c_1, c_2]; done) | (simp [des, hi, c_1, eq_true c_2]; done)) | exact congrArg nI (by omega) | rfl
          have hl : lv_has ls 4 [(0, .ref (gA G (15 + 6 * t))), (1, .int (la)), (2, .int (nI ((des σ t la (i + 1)).2))), (3, .int (nI (i + 1)))] := by
            have hl := lv_sub hl [1, 2, 3, 0] rfl
            rw [q_3]; exact hl
          have q9 : ((des σ t la (i + 1)).1 : cS) = (des σ t la i).1 := by first | (simp [des, hi, c_1, c_2]; done) | (simp [des, hi, c_1, c_2]; omega) | (simp [des, ← Int32.not_le, hi, c_1, c_2]; done) | (simp [des, hi, c_1, eq_true c_2]; done)
          rw [← q9] at Z
          exact ih_4 (i + 1) (by omega) (by omega) _ _ Z ls (hl)
        · skip
          refine lv_aload_n S.1 S.2.1 dX5_dropEntriesEndedBy_20 rfl (lv_at hl 0 rfl) ?_
          refine r_get (C := RX5) (T := TX5) (N := 6) (ci := 5) S Z (by omega) (eT ht) rfl i_X5_dropEntriesEndedBy_X5 3 (by decide) m_X5_dropEntriesEndedBy_f18 rfl (v := .ref (gA G (15 + 6 * t + 3))) rfl dX5_dropEntriesEndedBy_21 ?_
          refine lv_iload_n S.1 S.2.1 dX5_dropEntriesEndedBy_24 rfl (lv_at hl 3 rfl) ?_
          refine r_ialdC S Z (n := 64) (pT ht (by decide) (by decide)) (by omega) (by decide) dX5_dropEntriesEndedBy_25 ?_
          refine vp_callSi (va_runS (As := [.int (cI ((des σ t la i).1) (15 + 6 * t + 3) i)]) (rest := []) S (k_X5_endRank l G ((des σ t la i).1) μ o (cI ((des σ t la i).1) (15 + 6 * t + 3) i) ) (va_cwS 1 S.2.2.2.2 gX5_dropEntriesEndedBy_X5_endRank rfl rfl rfl hy_X5_endRank ⟨Nat.le_of_ble_eq_true rfl, Nat.le_of_ble_eq_true rfl⟩) (wPc_S Z) rfl rfl hl.1 rfl (lv_room (Nat.le_of_ble_eq_true rfl)) dX5_dropEntriesEndedBy_26 ⟨Nat.le_of_ble_eq_true rfl, Nat.le_of_ble_eq_true rfl⟩).run (fun r_4 h_5 => ?_)
          subst h_5
          refine lv_iload_n S.1 S.2.1 dX5_dropEntriesEndedBy_29 rfl (lv_at hl 1 rfl) ?_
          refine lv_icmp_gt (tgt := 41) S.1 S.2.1 dX5_dropEntriesEndedBy_30 (by decide) (fun c_6 => ?_) (fun c_6 => ?_)
          · skip
            refine lv_iinc (v := nI (i + 1)) (lv' := [(3, .int (nI (i + 1))), (0, .ref (gA G (15 + 6 * t))), (1, .int (la)), (2, .int (nI ((des σ t la i).2)))]) S.1 S.2.1 dX5_dropEntriesEndedBy_41 hl (k := 3) rfl (nI_inc rfl) (by decide) rfl (fun ls hl => ?_)
            refine lv_goto (tgt := 4) S.1 S.2.1 dX5_dropEntriesEndedBy_44 (by decide) ?_
            have q_7 : (nI ((des σ t la (i + 1)).2) : Int32) = nI ((des σ t la i).2) := by first | (first | (simp [des, hi, c_1, c_2, c_6]; done) | (simp [des, hi, c_1, c_2, c_6]; omega) | (simp [des, ← Int32.not_le, hi, c_1, c_2, c_6]; done)) | exact congrArg nI (by omega) | rfl
            have hl : lv_has ls 4 [(0, .ref (gA G (15 + 6 * t))), (1, .int (la)), (2, .int (nI ((des σ t la (i + 1)).2))), (3, .int (nI (i + 1)))] := by
              have hl := lv_sub hl [1, 2, 3, 0] rfl
              rw [q_7]; exact hl
            have q9 : ((des σ t la (i + 1)).1 : cS) = (des σ t la i).1 := by first | (simp [des, hi, c_1, c_2, c_6]; done) | (simp [des, hi, c_1, c_2, c_6]; omega) | (simp [des, ← Int32.not_le, hi, c_1, c_2, c_6]; done)
            rw [← q9] at Z
            exact ih_4 (i + 1) (by omega) (by omega) _ _ Z ls (hl)
          · skip
            refine lv_aload_n S.1 S.2.1 dX5_dropEntriesEndedBy_33 rfl (lv_at hl 0 rfl) ?_
            refine lv_iload_n S.1 S.2.1 dX5_dropEntriesEndedBy_34 rfl (lv_at hl 3 rfl) ?_
            refine va_callv (va_runV (As := [.int (nI i)]) (rest := []) S (k_X5_dropEntry l G ((des σ t la i).1) μ o t i ht (by omega)) (cwV 1 S.2.2.2.2 gX5_dropEntriesEndedBy_X5_dropEntry rfl rfl rfl ⟨rfl, hy_X5_dropEntry⟩ ⟨Nat.le_of_ble_eq_true rfl, Nat.le_of_ble_eq_true rfl⟩) (wPc_V (q := (RX5, TX5, 6)) Z (by omega) (eT ht) rfl) rfl rfl hl.1 rfl (lv_room (Nat.le_of_ble_eq_true rfl)) dX5_dropEntriesEndedBy_35 ⟨Nat.le_of_ble_eq_true rfl, Nat.le_of_ble_eq_true rfl⟩) Z.2.2.2.2 (fun _ _ h => h) (fun _ h => h) (fun u_9 T9 H1 locs1 hT9 hvm hw hB hz hk9 hS => ?_)
            subst hw
            have Z : wZ G (dropE ((des σ t la i).1) t i) (μ) o s H1 locs1 := wZ_callP Z hB hT9 hS
            clear hB hT9 hS hk9 hz hvm T9
            revert Z; generalize H1 = H; generalize locs1 = locs; intro Z
            refine W.widen (k := 0) (n := 0) (by decide) (by decide) ?_
            refine lv_iinc (v := nI ((des σ t la i).2 + 1)) (lv' := [(2, .int (nI ((des σ t la i).2 + 1))), (0, .ref (gA G (15 + 6 * t))), (1, .int (la)), (3, .int (nI i))]) S.1 S.2.1 dX5_dropEntriesEndedBy_38 hl (k := 2) rfl (nI_inc rfl) (by decide) rfl (fun ls hl => ?_)
            refine lv_iinc (v := nI (i + 1)) (lv' := [(3, .int (nI (i + 1))), (2, .int (nI ((des σ t la i).2 + 1))), (0, .ref (gA G (15 + 6 * t))), (1, .int (la))]) S.1 S.2.1 dX5_dropEntriesEndedBy_41 hl (k := 3) rfl (nI_inc rfl) (by decide) rfl (fun ls hl => ?_)
            refine lv_goto (tgt := 4) S.1 S.2.1 dX5_dropEntriesEndedBy_44 (by decide) ?_
            have q_10 : (nI ((des σ t la (i + 1)).2) : Int32) = nI ((des σ t la i).2 + 1) := by first | (first | (simp [des, hi, c_1, c_2, c_6]; done) | (simp [des, hi, c_1, c_2, c_6]; omega) | (simp [des, ← Int32.not_le, hi, c_1, c_2, c_6]; done)) | exact congrArg nI (by omega) | rfl
            have hl : lv_has ls 4 [(0, .ref (gA G (15 + 6 * t))), (1, .int (la)), (2, .int (nI ((des σ t la (i + 1)).2))), (3, .int (nI (i + 1)))] := by
              have hl := lv_sub hl [2, 3, 1, 0] rfl
              rw [q_10]; exact hl
            have q9 : ((des σ t la (i + 1)).1 : cS) = dropE ((des σ t la i).1) t i := by first | (simp [des, hi, c_1, c_2, c_6]; done) | (simp [des, hi, c_1, c_2, c_6]; omega) | (simp [des, ← Int32.not_le, hi, c_1, c_2, c_6]; done)
            rw [← q9] at Z
            exact ih_4 (i + 1) (by omega) (by omega) _ _ Z ls (hl)
  have q_11 : (nI ((des σ t la 0).2) : Int32) = nI 0 := by first | rfl | (first | (simp [des]; done) | (simp [des]; omega) | (simp [des, ← Int32.not_le]; done)) | exact congrArg nI (by omega)
  have hl : lv_has ls 4 [(0, .ref (gA G (15 + 6 * t))), (1, .int (la)), (2, .int (nI ((des σ t la 0).2))), (3, .int (nI 0))] := by
    have hl := lv_sub hl [2, 3, 1, 0] rfl
    rw [q_11]; exact hl
  have q9 : ((des σ t la 0).1 : cS) = σ := by first | (simp [des]; done) | (simp [des]; omega) | (simp [des, ← Int32.not_le]; done)
  rw [← q9] at Z
  exact L_4 (64 - 0 + 1) 0 (by omega) (by omega) _ _ Z ls (hl)

theorem m_X5_dropCovered_s53 : Cond.static yX7_cellAt ∈ wsX5_dropCovered := by decide +kernel
theorem m_X5_dropCovered_zRX7 : Cond.initialized RX7 ∈ wsX5_dropCovered := by decide +kernel
theorem i_X5_dropCovered_X5 : ∀ w ∈ wsX50, w ∈ wsX5_dropCovered := by decide +kernel
theorem m_X5_dropCovered_f9 : Cond.fieldLink RX5 9 "WideCell$Table" "stamps" "[I" ∈ wsX5_dropCovered := by decide +kernel
abbrev rm_k_X5_dropCovered : Room := { frames := 4, cells := 0, slots := 0, locals := 93 }
set_option maxHeartbeats 4000000 in
set_option maxRecDepth 100000 in
theorem k_X5_dropCovered (l : Launch) (G : wG) (σ : cS) (μ : mS) (o : Nat → Int64) (t : Nat) (ht : t < 4) : Met l yX5_dropCovered wsX5_dropCovered rm_k_X5_dropCovered (wPc G σ μ o [.ref (gA G (15 + 6 * t))]) (va_Qi (fun (rr : Int32) (u : cS × mS) => rr = nI ((dcs σ t 64).2) ∧ u = ((dcs σ t 64).1, μ)) (fun u t => wI G u.1 u.2 o t) (gP G)) 0 0 (gP G) := by
  refine Met.ofW (cc := cX5_dropCovered) (maxL := 5) (ret := (some .int)) (by decide) rfl ?_
  intro p e s m args below meth c s₁ B hml hv
  obtain ⟨hargs, hI⟩ := hv
  have S : CallFix p m c cX5_dropCovered 5 s args wsX5_dropCovered RX5 := ⟨B.exec, B.bytes, hml, findClass_of_methodNamed B.named, atoms_spec (ws := wsX5_dropCovered) B.pre⟩
  have hret := B.returns
  have hlocks := B.notSynchronized
  have Z := wZ_0 hI
  clear hI
  obtain ⟨Q, hQ⟩ : ∃ Q, Q = MQ below (va_Qi (fun (rr : Int32) (u : cS × mS) => rr = nI ((dcs σ t 64).2) ∧ u = ((dcs σ t 64).1, μ)) (fun u t => wI G u.1 u.2 o t) (gP G)) args s 0 0 (gP G) := ⟨_, rfl⟩
  rw [← hQ]
  have hl := lv_entry [.ref (gA G (15 + 6 * t))] (n := 5) (Nat.le_of_ble_eq_true rfl)
  rw [show entryFrame m args 5 = entryFrame m ([.ref (gA G (15 + 6 * t))] : List Value).toArray 5 from by rw [hargs], lg_entry_eq]
  generalize (lg_sl [.ref (gA G (15 + 6 * t))] ++ List.replicate (5 - (lg_sl [.ref (gA G (15 + 6 * t))]).length) Slot.unset).toArray = ls at hl ⊢
  have hl : lv_has ls 5 [(0, .ref (gA G (15 + 6 * t)))] := hl
  refine lv_iconst (v := nI 0) S.1 S.2.1 dX5_dropCovered_0 (by decide) ?_
  refine lv_istore_n (lv' := [(1, .int (nI 0)), (0, .ref (gA G (15 + 6 * t)))]) S.1 S.2.1 dX5_dropCovered_1 rfl hl (by decide) rfl (fun ls hl => ?_)
  refine lv_iconst (v := nI 0) S.1 S.2.1 dX5_dropCovered_2 (by decide) ?_
  refine lv_istore_n (lv' := [(2, .int (nI 0)), (1, .int (nI 0)), (0, .ref (gA G (15 + 6 * t)))]) S.1 S.2.1 dX5_dropCovered_3 rfl hl (by decide) rfl (fun ls hl => ?_)
  have L_4 : ∀ (n : Nat) (i : Nat) (hi : i ≤ 16) (hn : 16 - i < n) (H : Heap) (locs : List Loc) (Z : wZ G ((dcs σ t (i * 4)).1) (μ) o s H locs) (ls : Array Slot) (hl : lv_has ls 5 [(0, .ref (gA G (15 + 6 * t))), (1, .int (nI ((dcs σ t (i * 4)).2))), (2, .int (nI i))]), W p l e (headSpec wsX5_dropCovered rm_k_X5_dropCovered).room s m args below meth c H locs 0 0 Q (F0 m 4 ls []) := by
    intro n
    induction n with
    | zero => intro i hi hn; omega
    | succ n ih_4 =>
      intro i hi hn H locs Z ls hl
      refine lv_iload_n S.1 S.2.1 dX5_dropCovered_4 rfl (lv_at hl 2 rfl) ?_
      refine lv_bipush (v := nI 16) S.1 S.2.1 dX5_dropCovered_5 (by decide) ?_
      refine r_icmpN_ge S (tgt := 65) (by omega) (by omega) dX5_dropCovered_7 (by decide) (fun c_1 => ?_) (fun c_1 => ?_)
      · skip
        obtain rfl : i = 16 := by omega
        refine lv_iload_n S.1 S.2.1 dX5_dropCovered_65 rfl (lv_at hl 1 rfl) ?_
        rw [hQ]
        have q9 : ((dcs σ t 64).1 : cS) = (dcs σ t (16 * 4)).1 := (congrArg (fun z => (dcs σ t z).1) (show 64 = 16 * 4 from rfl))
        rw [← q9] at Z
        exact W.iret (v := nI ((dcs σ t (16 * 4)).2)) S.1 S.2.1 hret (fun _ hT9 hW => ⟨⟨_, ((dcs σ t 64).1, μ), rfl, ⟨(congrArg (fun z => nI (dcs σ t z).2) (show 16 * 4 = 64 from rfl)), rfl⟩, wZ_P Z hT9 hW⟩, Z.2.2.2.2.F hT9⟩) Z.2.2.2.2.2.2 dX5_dropCovered_66
      · skip
        refine lv_iconst (v := nI 0) S.1 S.2.1 dX5_dropCovered_10 (by decide) ?_
        refine lv_istore_n (lv' := [(3, .int (nI 0)), (0, .ref (gA G (15 + 6 * t))), (1, .int (nI ((dcs σ t (i * 4)).2))), (2, .int (nI i))]) S.1 S.2.1 dX5_dropCovered_11 rfl hl (by decide) rfl (fun ls hl => ?_)
        have L_12 : ∀ (n : Nat) (j : Nat) (hj : j ≤ 4) (hn : 4 - j < n) (H : Heap) (locs : List Loc) (Z : wZ G ((dcs σ t (i * 4 + j)).1) (μ) o s H locs) (ls : Array Slot) (hl : lv_has ls 5 [(0, .ref (gA G (15 + 6 * t))), (1, .int (nI ((dcs σ t (i * 4 + j)).2))), (2, .int (nI i)), (3, .int (nI j))]), W p l e (headSpec wsX5_dropCovered rm_k_X5_dropCovered).room s m args below meth c H locs 0 0 Q (F0 m 12 ls []) := by
          intro n
          induction n with
          | zero => intro j hj hn; omega
          | succ n ih_12 =>
            intro j hj hn H locs Z ls hl
            refine lv_iload_n S.1 S.2.1 dX5_dropCovered_12 rfl (lv_at hl 3 rfl) ?_
            refine lv_iconst (v := nI 4) S.1 S.2.1 dX5_dropCovered_13 (by decide) ?_
            refine r_icmpN_ge S (tgt := 59) (by omega) (by omega) dX5_dropCovered_14 (by decide) (fun c_2 => ?_) (fun c_2 => ?_)
            · skip
              obtain rfl : j = 4 := by omega
              refine lv_iinc (v := nI (i + 1)) (lv' := [(2, .int (nI (i + 1))), (0, .ref (gA G (15 + 6 * t))), (1, .int (nI ((dcs σ t (i * 4 + 4)).2))), (3, .int (nI 4))]) S.1 S.2.1 dX5_dropCovered_59 hl (k := 2) rfl (nI_inc rfl) (by decide) rfl (fun ls hl => ?_)
              refine lv_goto (tgt := 4) S.1 S.2.1 dX5_dropCovered_62 (by decide) ?_
              have q_3 : (nI ((dcs σ t ((i + 1) * 4)).2) : Int32) = nI ((dcs σ t (i * 4 + 4)).2) := by rw [show (i + 1) * 4 = i * 4 + 4 from by omega]
              have hl : lv_has ls 5 [(0, .ref (gA G (15 + 6 * t))), (1, .int (nI ((dcs σ t ((i + 1) * 4)).2))), (2, .int (nI (i + 1)))] := by
                have hl := lv_sub hl [1, 2, 0] rfl
                rw [q_3]; exact hl
              have q9 : ((dcs σ t ((i + 1) * 4)).1 : cS) = (dcs σ t (i * 4 + 4)).1 := by rw [show (i + 1) * 4 = i * 4 + 4 from by omega]
              rw [← q9] at Z
              exact ih_4 (i + 1) (by omega) (by omega) _ _ Z ls (hl)
            · skip
              refine lv_iload_n S.1 S.2.1 dX5_dropCovered_17 rfl (lv_at hl 2 rfl) ?_
              refine lv_iload_n S.1 S.2.1 dX5_dropCovered_18 rfl (lv_at hl 3 rfl) ?_
              refine vp_callSi (va_runSN (As := [.int (nI i), .int (nI j)]) (rest := []) S (k_X7_cellAt l G ((dcs σ t (i * 4 + j)).1) μ o i j ) ⟨va_cnB 2 S.2.2.2.2 gX5_dropCovered_X7_cellAt_n53 rfl rfl rfl (Z.2.1.2.1 _ n_RX5_53) (S.2.2.2.2 _ m_X5_dropCovered_zRX7) hy_X7_cellAt ⟨Nat.le_of_ble_eq_true rfl, Nat.le_of_ble_eq_true rfl⟩, S.2.2.2.2 _ m_X5_dropCovered_s53, trivial⟩ (wPc_S Z) rfl rfl hl.1 rfl (lv_room (Nat.le_of_ble_eq_true rfl)) dX5_dropCovered_19 ⟨Nat.le_of_ble_eq_true rfl, Nat.le_of_ble_eq_true rfl⟩).run (fun r_4 h_5 => ?_)
              subst h_5
              refine lv_istore (lv' := [(4, .int (nI (i * 4 + j))), (0, .ref (gA G (15 + 6 * t))), (1, .int (nI ((dcs σ t (i * 4 + j)).2))), (2, .int (nI i)), (3, .int (nI j))]) S.1 S.2.1 dX5_dropCovered_22 hl (by decide) rfl (fun ls hl => ?_)
              refine lv_aload_n S.1 S.2.1 dX5_dropCovered_24 rfl (lv_at hl 1 rfl) ?_
              refine r_get (C := RX5) (T := TX5) (N := 6) (ci := 5) S Z (by omega) (eT ht) rfl i_X5_dropCovered_X5 1 (by decide) m_X5_dropCovered_f9 rfl (v := .ref (gA G (15 + 6 * t + 1))) rfl dX5_dropCovered_25 ?_
              refine lv_iload S.1 S.2.1 dX5_dropCovered_28 (lv_at hl 0 rfl) ?_
              refine r_ialdC S Z (n := 64) (pT ht (by decide) (by decide)) (by omega) (by decide) dX5_dropCovered_30 ?_
              refine lv_iconst (v := -1) S.1 S.2.1 dX5_dropCovered_31 (by decide) ?_
              refine lv_icmp_eq (tgt := 53) S.1 S.2.1 dX5_dropCovered_32 (by decide) (fun c_6 => ?_) (fun c_6 => ?_)
              · skip
                refine lv_iinc (v := nI (j + 1)) (lv' := [(3, .int (nI (j + 1))), (4, .int (nI (i * 4 + j))), (0, .ref (gA G (15 + 6 * t))), (1, .int (nI ((dcs σ t (i * 4 + j)).2))), (2, .int (nI i))]) S.1 S.2.1 dX5_dropCovered_53 hl (k := 4) rfl (nI_inc rfl) (by decide) rfl (fun ls hl => ?_)
                refine lv_goto (tgt := 12) S.1 S.2.1 dX5_dropCovered_56 (by decide) ?_
                have q_7 : (nI ((dcs σ t (i * 4 + (j + 1))).2) : Int32) = nI ((dcs σ t (i * 4 + j)).2) := by rw [show i * 4 + (j + 1) = (i * 4 + j) + 1 from by omega]; simp only [dcs]; rw [show (i * 4 + j) / 4 = i from by omega, show (i * 4 + j) % 4 = j from by omega]; simp [hi, c_1, hj, c_2, c_6]
                have hl : lv_has ls 5 [(0, .ref (gA G (15 + 6 * t))), (1, .int (nI ((dcs σ t (i * 4 + (j + 1))).2))), (2, .int (nI i)), (3, .int (nI (j + 1)))] := by
                  have hl := lv_sub hl [2, 3, 4, 0] rfl
                  rw [q_7]; exact hl
                have q9 : ((dcs σ t (i * 4 + (j + 1))).1 : cS) = (dcs σ t (i * 4 + j)).1 := by rw [show i * 4 + (j + 1) = (i * 4 + j) + 1 from by omega]; simp only [dcs]; rw [show (i * 4 + j) / 4 = i from by omega, show (i * 4 + j) % 4 = j from by omega]; simp [hi, c_1, hj, c_2, c_6]
                rw [← q9] at Z
                exact ih_12 (j + 1) (by omega) (by omega) _ _ Z ls (hl)
              · skip
                refine lv_aload_n S.1 S.2.1 dX5_dropCovered_35 rfl (lv_at hl 1 rfl) ?_
                refine lv_iload_n S.1 S.2.1 dX5_dropCovered_36 rfl (lv_at hl 3 rfl) ?_
                refine lv_iload_n S.1 S.2.1 dX5_dropCovered_37 rfl (lv_at hl 4 rfl) ?_
                refine vp_callSi (va_runV (As := [.int (nI i), .int (nI j)]) (rest := []) S (k_X5_isCovered l G ((dcs σ t (i * 4 + j)).1) μ o t i j ht (by omega) (by omega)) (cwV 2 S.2.2.2.2 gX5_dropCovered_X5_isCovered rfl rfl rfl ⟨rfl, hy_X5_isCovered⟩ ⟨Nat.le_of_ble_eq_true rfl, Nat.le_of_ble_eq_true rfl⟩) (wPc_V (q := (RX5, TX5, 6)) Z (by omega) (eT ht) rfl) rfl rfl hl.1 rfl (lv_room (Nat.le_of_ble_eq_true rfl)) dX5_dropCovered_38 ⟨Nat.le_of_ble_eq_true rfl, Nat.le_of_ble_eq_true rfl⟩).run (fun r_8 h_9 => ?_)
                subst h_9
                refine r_if_eqB S (tgt := 53) dX5_dropCovered_41 (by decide) (fun c_10 => ?_) (fun c_10 => ?_)
                · skip
                  refine lv_iinc (v := nI (j + 1)) (lv' := [(3, .int (nI (j + 1))), (4, .int (nI (i * 4 + j))), (0, .ref (gA G (15 + 6 * t))), (1, .int (nI ((dcs σ t (i * 4 + j)).2))), (2, .int (nI i))]) S.1 S.2.1 dX5_dropCovered_53 hl (k := 4) rfl (nI_inc rfl) (by decide) rfl (fun ls hl => ?_)
                  refine lv_goto (tgt := 12) S.1 S.2.1 dX5_dropCovered_56 (by decide) ?_
                  have q_11 : (nI ((dcs σ t (i * 4 + (j + 1))).2) : Int32) = nI ((dcs σ t (i * 4 + j)).2) := by rw [show i * 4 + (j + 1) = (i * 4 + j) + 1 from by omega]; simp only [dcs]; rw [show (i * 4 + j) / 4 = i from by omega, show (i * 4 + j) % 4 = j from by omega]; simp [hi, c_1, hj, c_2, c_6, c_10]
                  have hl : lv_has ls 5 [(0, .ref (gA G (15 + 6 * t))), (1, .int (nI ((dcs σ t (i * 4 + (j + 1))).2))), (2, .int (nI i)), (3, .int (nI (j + 1)))] := by
                    have hl := lv_sub hl [2, 3, 4, 0] rfl
                    rw [q_11]; exact hl
                  have q9 : ((dcs σ t (i * 4 + (j + 1))).1 : cS) = (dcs σ t (i * 4 + j)).1 := by rw [show i * 4 + (j + 1) = (i * 4 + j) + 1 from by omega]; simp only [dcs]; rw [show (i * 4 + j) / 4 = i from by omega, show (i * 4 + j) % 4 = j from by omega]; simp [hi, c_1, hj, c_2, c_6, c_10]
                  rw [← q9] at Z
                  exact ih_12 (j + 1) (by omega) (by omega) _ _ Z ls (hl)
                · skip
                  refine lv_aload_n S.1 S.2.1 dX5_dropCovered_44 rfl (lv_at hl 1 rfl) ?_
                  refine lv_iload S.1 S.2.1 dX5_dropCovered_45 (lv_at hl 0 rfl) ?_
                  refine va_callv (va_runV (As := [.int (nI (i * 4 + j))]) (rest := []) S (k_X5_dropEntry l G ((dcs σ t (i * 4 + j)).1) μ o t (i * 4 + j) ht (by omega)) (cwV 1 S.2.2.2.2 gX5_dropCovered_X5_dropEntry rfl rfl rfl ⟨rfl, hy_X5_dropEntry⟩ ⟨Nat.le_of_ble_eq_true rfl, Nat.le_of_ble_eq_true rfl⟩) (wPc_V (q := (RX5, TX5, 6)) Z (by omega) (eT ht) rfl) rfl rfl hl.1 rfl (lv_room (Nat.le_of_ble_eq_true rfl)) dX5_dropCovered_47 ⟨Nat.le_of_ble_eq_true rfl, Nat.le_of_ble_eq_true rfl⟩) Z.2.2.2.2 (fun _ _ h => h) (fun _ h => h) (fun u_13 T9 H1 locs1 hT9 hvm hw hB hz hk9 hS => ?_)
                  subst hw
                  have Z : wZ G (dropE ((dcs σ t (i * 4 + j)).1) t (i * 4 + j)) (μ) o s H1 locs1 := wZ_callP Z hB hT9 hS
                  clear hB hT9 hS hk9 hz hvm T9
                  revert Z; generalize H1 = H; generalize locs1 = locs; intro Z
                  refine W.widen (k := 0) (n := 0) (by decide) (by decide) ?_
                  refine lv_iinc (v := nI ((dcs σ t (i * 4 + j)).2 + 1)) (lv' := [(1, .int (nI ((dcs σ t (i * 4 + j)).2 + 1))), (4, .int (nI (i * 4 + j))), (0, .ref (gA G (15 + 6 * t))), (2, .int (nI i)), (3, .int (nI j))]) S.1 S.2.1 dX5_dropCovered_50 hl (k := 2) rfl (nI_inc rfl) (by decide) rfl (fun ls hl => ?_)
                  refine lv_iinc (v := nI (j + 1)) (lv' := [(3, .int (nI (j + 1))), (1, .int (nI ((dcs σ t (i * 4 + j)).2 + 1))), (4, .int (nI (i * 4 + j))), (0, .ref (gA G (15 + 6 * t))), (2, .int (nI i))]) S.1 S.2.1 dX5_dropCovered_53 hl (k := 4) rfl (nI_inc rfl) (by decide) rfl (fun ls hl => ?_)
                  refine lv_goto (tgt := 12) S.1 S.2.1 dX5_dropCovered_56 (by decide) ?_
                  have q_14 : (nI ((dcs σ t (i * 4 + (j + 1))).2) : Int32) = nI ((dcs σ t (i * 4 + j)).2 + 1) := by rw [show i * 4 + (j + 1) = (i * 4 + j) + 1 from by omega]; simp only [dcs]; rw [show (i * 4 + j) / 4 = i from by omega, show (i * 4 + j) % 4 = j from by omega]; simp [hi, c_1, hj, c_2, c_6, c_10]
                  have hl : lv_has ls 5 [(0, .ref (gA G (15 + 6 * t))), (1, .int (nI ((dcs σ t (i * 4 + (j + 1))).2))), (2, .int (nI i)), (3, .int (nI (j + 1)))] := by
                    have hl := lv_sub hl [3, 1, 4, 0] rfl
                    rw [q_14]; exact hl
                  have q9 : ((dcs σ t (i * 4 + (j + 1))).1 : cS) = dropE ((dcs σ t (i * 4 + j)).1) t (i * 4 + j) := by rw [show i * 4 + (j + 1) = (i * 4 + j) + 1 from by omega]; simp only [dcs]; rw [show (i * 4 + j) / 4 = i from by omega, show (i * 4 + j) % 4 = j from by omega]; simp [hi, c_1, hj, c_2, c_6, c_10]
                  rw [← q9] at Z
                  exact ih_12 (j + 1) (by omega) (by omega) _ _ Z ls (hl)
        have q_15 : (nI ((dcs σ t (i * 4 + 0)).2) : Int32) = nI ((dcs σ t (i * 4)).2) := by rw [Nat.add_zero]
        have hl : lv_has ls 5 [(0, .ref (gA G (15 + 6 * t))), (1, .int (nI ((dcs σ t (i * 4 + 0)).2))), (2, .int (nI i)), (3, .int (nI 0))] := by
          have hl := lv_sub hl [1, 2, 3, 0] rfl
          rw [q_15]; exact hl
        have q9 : ((dcs σ t (i * 4 + 0)).1 : cS) = (dcs σ t (i * 4)).1 := by rw [Nat.add_zero]
        rw [← q9] at Z
        exact L_12 (4 - 0 + 1) 0 (by omega) (by omega) _ _ Z ls (hl)
  have q_16 : (nI ((dcs σ t (0 * 4)).2) : Int32) = nI 0 := by rw [Nat.zero_mul]; rfl
  have hl : lv_has ls 5 [(0, .ref (gA G (15 + 6 * t))), (1, .int (nI ((dcs σ t (0 * 4)).2))), (2, .int (nI 0))] := by
    have hl := lv_sub hl [2, 1, 0] rfl
    rw [q_16]; exact hl
  have q9 : ((dcs σ t (0 * 4)).1 : cS) = σ := by rw [Nat.zero_mul]; rfl
  rw [← q9] at Z
  exact L_4 (16 - 0 + 1) 0 (by omega) (by omega) _ _ Z ls (hl)
