theorem m_X1_makeSums_k28 : Cond.constant RX1 28 (65521) ∈ wsX1_makeSums := by decide +kernel
abbrev rm_k_X1_makeSums : Room := { frames := 2, cells := 0, slots := 0, locals := 47 }
set_option maxHeartbeats 4000000 in
set_option maxRecDepth 100000 in
theorem k_X1_makeSums (l : Launch) (G : wG) (σ : cS) (μ : mS) (o : Nat → Int64) (t : Nat) (k : Nat) (ht : t < 4) (hk : k = 6 ∨ k = 7) : Met l yX1_makeSums wsX1_makeSums rm_k_X1_makeSums (wPc G σ μ o [.ref (gA G (15 + 6 * t)), .ref (gA G (k))]) (va_Qv (fun u : cS × mS => u = (mkS σ t k, μ)) (fun u t => wI G u.1 u.2 o t) (gP G)) 0 0 (gP G) := by
  refine Met.ofW (cc := cX1_makeSums) (maxL := 3) (ret := none) (by decide) rfl ?_
  intro p e s m args below meth c s₁ B hml hv
  obtain ⟨hargs, hI⟩ := hv
  have S : CallFix p m c cX1_makeSums 3 s args wsX1_makeSums RX1 := ⟨B.exec, B.bytes, hml, findClass_of_methodNamed B.named, atoms_spec (ws := wsX1_makeSums) B.pre⟩
  have hret := B.returns
  have hlocks := B.notSynchronized
  have Z := wZ_0 hI
  clear hI
  obtain ⟨Q, hQ⟩ : ∃ Q, Q = MQ below (va_Qv (fun u : cS × mS => u = (mkS σ t k, μ)) (fun u t => wI G u.1 u.2 o t) (gP G)) args s 0 0 (gP G) := ⟨_, rfl⟩
  rw [← hQ]
  have hl := lv_entry [.ref (gA G (15 + 6 * t)), .ref (gA G (k))] (n := 3) (Nat.le_of_ble_eq_true rfl)
  rw [show entryFrame m args 3 = entryFrame m ([.ref (gA G (15 + 6 * t)), .ref (gA G (k))] : List Value).toArray 3 from by rw [hargs], lg_entry_eq]
  generalize (lg_sl [.ref (gA G (15 + 6 * t)), .ref (gA G (k))] ++ List.replicate (3 - (lg_sl [.ref (gA G (15 + 6 * t)), .ref (gA G (k))]).length) Slot.unset).toArray = ls at hl ⊢
  have hl : lv_has ls 3 [(0, .ref (gA G (15 + 6 * t))), (1, .ref (gA G (k)))] := hl
  refine lv_iconst (v := nI 0) S.1 S.2.1 dX1_makeSums_0 (by decide) ?_
  refine lv_istore_n (lv' := [(2, .int (nI 0)), (0, .ref (gA G (15 + 6 * t))), (1, .ref (gA G (k)))]) S.1 S.2.1 dX1_makeSums_1 rfl hl (by decide) rfl (fun ls hl => ?_)
  have L_2 : ∀ (n : Nat) (i : Nat) (hi : i ≤ 16) (hn : 16 - i < n) (H : Heap) (locs : List Loc) (Z : wZ G (ms1 σ t k i) (μ) o s H locs) (ls : Array Slot) (hl : lv_has ls 3 [(0, .ref (gA G (15 + 6 * t))), (1, .ref (gA G (k))), (2, .int (nI i))]), W p l e (headSpec wsX1_makeSums rm_k_X1_makeSums).room s m args below meth c H locs 0 0 Q (F0 m 2 ls []) := by
    intro n
    induction n with
    | zero => intro i hi hn; omega
    | succ n ih_2 =>
      intro i hi hn H locs Z ls hl
      refine lv_iload_n S.1 S.2.1 dX1_makeSums_2 rfl (lv_at hl 2 rfl) ?_
      refine lv_bipush (v := nI 16) S.1 S.2.1 dX1_makeSums_3 (by decide) ?_
      refine r_icmpN_ge S (tgt := 25) (by omega) (by omega) dX1_makeSums_5 (by decide) (fun c_1 => ?_) (fun c_1 => ?_)
      · skip
        obtain rfl : i = 16 := by omega
        refine lv_bipush (v := nI 15) S.1 S.2.1 dX1_makeSums_25 (by decide) ?_
        refine lv_istore_n (lv' := [(2, .int (nI 15)), (0, .ref (gA G (15 + 6 * t))), (1, .ref (gA G (k)))]) S.1 S.2.1 dX1_makeSums_27 rfl hl (by decide) rfl (fun ls hl => ?_)
        have L_28 : ∀ (n : Nat) (j : Nat) (hj : j ≤ 15) (hn : 15 - j < n) (H : Heap) (locs : List Loc) (Z : wZ G (ms2 σ t k j) (μ) o s H locs) (ls : Array Slot) (hl : lv_has ls 3 [(0, .ref (gA G (15 + 6 * t))), (1, .ref (gA G (k))), (2, .int (nI (15 - j)))]), W p l e (headSpec wsX1_makeSums rm_k_X1_makeSums).room s m args below meth c H locs 0 0 Q (F0 m 28 ls []) := by
          intro n
          induction n with
          | zero => intro j hj hn; omega
          | succ n ih_28 =>
            intro j hj hn H locs Z ls hl
            refine lv_iload_n S.1 S.2.1 dX1_makeSums_28 rfl (lv_at hl 2 rfl) ?_
            refine lv_iconst (v := nI 1) S.1 S.2.1 dX1_makeSums_29 (by decide) ?_
            refine r_icmpN_lt S (tgt := 58) (by omega) (by omega) dX1_makeSums_30 (by decide) (fun c_2 => ?_) (fun c_2 => ?_)
            · skip
              rw [hQ]
              have q9 : (mkS σ t k : cS) = ms2 σ t k j := by rw [show j = 15 from by omega]; rfl
              rw [← q9] at Z
              exact W.vret S.1 S.2.1 hret (fun _ hT9 hW => ⟨⟨(mkS σ t k, μ), rfl, rfl, wZ_P Z hT9 hW⟩, Z.2.2.2.2.F hT9⟩) Z.2.2.2.2.2.2 dX1_makeSums_58
            · skip
              refine lv_aload_n S.1 S.2.1 dX1_makeSums_33 rfl (lv_at hl 1 rfl) ?_
              refine lv_iload_n S.1 S.2.1 dX1_makeSums_34 rfl (lv_at hl 2 rfl) ?_
              refine lv_aload_n S.1 S.2.1 dX1_makeSums_35 rfl (lv_at hl 1 rfl) ?_
              refine lv_iconst (v := nI 2) S.1 S.2.1 dX1_makeSums_36 (by decide) ?_
              refine lv_iload_n S.1 S.2.1 dX1_makeSums_37 rfl (lv_at hl 2 rfl) ?_
              refine r_mulN S dX1_makeSums_38 ?_
              refine r_ialdC S Z (n := 32) (p67 hk) (by omega) (by decide) dX1_makeSums_39 ?_
              refine lv_aload_n S.1 S.2.1 dX1_makeSums_40 rfl (lv_at hl 1 rfl) ?_
              refine lv_iconst (v := nI 2) S.1 S.2.1 dX1_makeSums_41 (by decide) ?_
              refine lv_iload_n S.1 S.2.1 dX1_makeSums_42 rfl (lv_at hl 2 rfl) ?_
              refine r_mulN S dX1_makeSums_43 ?_
              refine lv_iconst (v := nI 1) S.1 S.2.1 dX1_makeSums_44 (by decide) ?_
              refine r_addN S dX1_makeSums_45 ?_
              refine r_ialdC S Z (n := 32) (p67 hk) (by omega) (by decide) dX1_makeSums_46 ?_
              refine lv_iadd S.1 S.2.1 dX1_makeSums_47 ?_
              refine lv_ldc (v := 65521) S.1 S.2.1 S.2.2.2.1 (S.2.2.2.2 _ m_X1_makeSums_k28) dX1_makeSums_48 ?_
              refine r_irem S (by decide) dX1_makeSums_50 ?_
              refine r_wC S Z (n := 32) (p67 hk) (by omega) (by decide) dX1_makeSums_51 (fun H locs Z => ?_)
              refine lv_iinc (v := nI ((15 - j) - 1)) (lv' := [(2, .int (nI ((15 - j) - 1))), (0, .ref (gA G (15 + 6 * t))), (1, .ref (gA G (k)))]) S.1 S.2.1 dX1_makeSums_52 hl (k := 2) rfl (nI_dec (by omega)) (by decide) rfl (fun ls hl => ?_)
              refine lv_goto (tgt := 28) S.1 S.2.1 dX1_makeSums_55 (by decide) ?_
              have q_3 : (nI (15 - (j + 1)) : Int32) = nI ((15 - j) - 1) := by first | (first | (simp [ms1, ms2, mkS, hi, c_1, hj, c_2]; done) | (simp [ms1, ms2, mkS, hi, c_1, hj, c_2]; omega) | (simp [ms1, ms2, mkS, ← Int32.not_le, hi, c_1, hj, c_2]; done)) | exact congrArg nI (by omega) | rfl
              have hl : lv_has ls 3 [(0, .ref (gA G (15 + 6 * t))), (1, .ref (gA G (k))), (2, .int (nI (15 - (j + 1))))] := by
                have hl := lv_sub hl [1, 2, 0] rfl
                rw [q_3]; exact hl
              have q9 : (ms2 σ t k (j + 1) : cS) = w1 (ms2 σ t k j) k (15 - j) ((jrem ((cI (ms2 σ t k j) k (2 * (15 - j)) + cI (ms2 σ t k j) k ((2 * (15 - j)) + 1))) ((65521 : Int32)))) := by first | (simp [ms1, ms2, mkS, hi, c_1, hj, c_2]; done) | (simp [ms1, ms2, mkS, hi, c_1, hj, c_2]; omega) | (simp [ms1, ms2, mkS, ← Int32.not_le, hi, c_1, hj, c_2]; done)
              rw [← q9] at Z
              exact ih_28 (j + 1) (by omega) (by omega) _ _ Z ls (hl)
        have q_4 : (nI (15 - 0) : Int32) = nI 15 := by first | rfl | (first | (simp [ms1, ms2, mkS, hi, c_1]; done) | (simp [ms1, ms2, mkS, hi, c_1]; omega) | (simp [ms1, ms2, mkS, ← Int32.not_le, hi, c_1]; done)) | exact congrArg nI (by omega)
        have hl : lv_has ls 3 [(0, .ref (gA G (15 + 6 * t))), (1, .ref (gA G (k))), (2, .int (nI (15 - 0)))] := by
          have hl := lv_sub hl [1, 2, 0] rfl
          rw [q_4]; exact hl
        have q9 : (ms2 σ t k 0 : cS) = ms1 σ t k 16 := by first | (simp [ms1, ms2, mkS, hi, c_1]; done) | (simp [ms1, ms2, mkS, hi, c_1]; omega) | (simp [ms1, ms2, mkS, ← Int32.not_le, hi, c_1]; done)
        rw [← q9] at Z
        exact L_28 (15 - 0 + 1) 0 (by omega) (by omega) _ _ Z ls (hl)
      · skip
        refine lv_aload_n S.1 S.2.1 dX1_makeSums_8 rfl (lv_at hl 1 rfl) ?_
        refine lv_bipush (v := nI 16) S.1 S.2.1 dX1_makeSums_9 (by decide) ?_
        refine lv_iload_n S.1 S.2.1 dX1_makeSums_11 rfl (lv_at hl 2 rfl) ?_
        refine r_addN S dX1_makeSums_12 ?_
        refine lv_aload_n S.1 S.2.1 dX1_makeSums_13 rfl (lv_at hl 0 rfl) ?_
        refine lv_iload_n S.1 S.2.1 dX1_makeSums_14 rfl (lv_at hl 2 rfl) ?_
        refine vp_callSi (va_runV (As := [.int (nI i)]) (rest := [.int (nI (16 + i)), .ref (gA G (k))]) S (k_X5_rowSum l G (ms1 σ t k i) μ o t i ht (by omega)) (cwV 1 S.2.2.2.2 gX1_makeSums_X5_rowSum rfl rfl rfl ⟨rfl, hy_X5_rowSum⟩ ⟨Nat.le_of_ble_eq_true rfl, Nat.le_of_ble_eq_true rfl⟩) (wPc_V (q := (RX5, TX5, 6)) Z (by omega) (eT ht) rfl) rfl rfl hl.1 rfl (lv_room (Nat.le_of_ble_eq_true rfl)) dX1_makeSums_15 ⟨Nat.le_of_ble_eq_true rfl, Nat.le_of_ble_eq_true rfl⟩).run (fun r_5 h_6 => ?_)
        subst h_6
        refine r_wC S Z (n := 32) (p67 hk) (by omega) (by decide) dX1_makeSums_18 (fun H locs Z => ?_)
        refine lv_iinc (v := nI (i + 1)) (lv' := [(2, .int (nI (i + 1))), (0, .ref (gA G (15 + 6 * t))), (1, .ref (gA G (k)))]) S.1 S.2.1 dX1_makeSums_19 hl (k := 2) rfl (nI_inc rfl) (by decide) rfl (fun ls hl => ?_)
        refine lv_goto (tgt := 2) S.1 S.2.1 dX1_makeSums_22 (by decide) ?_
        have q9 : (ms1 σ t k (i + 1) : cS) = w1 (ms1 σ t k i) k (16 + i) (rowS (ms1 σ t k i) t i) := by first | (simp [ms1, ms2, mkS, hi, c_1]; done) | (simp [ms1, ms2, mkS, hi, c_1]; omega) | (simp [ms1, ms2, mkS, ← Int32.not_le, hi, c_1]; done)
        rw [← q9] at Z
        exact ih_2 (i + 1) (by omega) (by omega) _ _ Z ls (lv_sub hl [1, 2, 0] rfl)
  have q9 : (ms1 σ t k 0 : cS) = σ := by first | (simp [ms1, ms2, mkS]; done) | (simp [ms1, ms2, mkS]; omega) | (simp [ms1, ms2, mkS, ← Int32.not_le]; done)
  rw [← q9] at Z
  exact L_2 (16 - 0 + 1) 0 (by omega) (by omega) _ _ Z ls (lv_sub hl [1, 2, 0] rfl)

theorem i_X1_nodeSum_X1 : ∀ w ∈ wsX10, w ∈ wsX1_nodeSum := by decide +kernel
theorem m_X1_nodeSum_f9 : Cond.fieldLink RX1 9 "WideCell$Comparison" "sums" "[I" ∈ wsX1_nodeSum := by decide +kernel
abbrev rm_k_X1_nodeSum : Room := { frames := 3, cells := 0, slots := 0, locals := 69 }
set_option maxHeartbeats 4000000 in
set_option maxRecDepth 100000 in
theorem k_X1_nodeSum (l : Launch) (G : wG) (σ : cS) (μ : mS) (o : Nat → Int64) (t : Nat) (nd : Nat) (ht : t < 4) (hnd : nd < 32) : Met l yX1_nodeSum wsX1_nodeSum rm_k_X1_nodeSum (wPc G σ μ o [.ref (gA G 5), .ref (gA G (15 + 6 * t)), .int (nI nd)]) (va_Qi (fun (rr : Int32) (u : cS × mS) => rr = cI (mkS σ t 6) 6 nd ∧ u = (mkS σ t 6, μ)) (fun u t => wI G u.1 u.2 o t) (gP G)) 0 0 (gP G) := by
  refine Met.ofW (cc := cX1_nodeSum) (maxL := 3) (ret := (some .int)) (by decide) rfl ?_
  intro p e s m args below meth c s₁ B hml hv
  obtain ⟨hargs, hI⟩ := hv
  have S : CallFix p m c cX1_nodeSum 3 s args wsX1_nodeSum RX1 := ⟨B.exec, B.bytes, hml, findClass_of_methodNamed B.named, atoms_spec (ws := wsX1_nodeSum) B.pre⟩
  have hret := B.returns
  have hlocks := B.notSynchronized
  have Z := wZ_0 hI
  clear hI
  obtain ⟨Q, hQ⟩ : ∃ Q, Q = MQ below (va_Qi (fun (rr : Int32) (u : cS × mS) => rr = cI (mkS σ t 6) 6 nd ∧ u = (mkS σ t 6, μ)) (fun u t => wI G u.1 u.2 o t) (gP G)) args s 0 0 (gP G) := ⟨_, rfl⟩
  rw [← hQ]
  have hl := lv_entry [.ref (gA G 5), .ref (gA G (15 + 6 * t)), .int (nI nd)] (n := 3) (Nat.le_of_ble_eq_true rfl)
  rw [show entryFrame m args 3 = entryFrame m ([.ref (gA G 5), .ref (gA G (15 + 6 * t)), .int (nI nd)] : List Value).toArray 3 from by rw [hargs], lg_entry_eq]
  generalize (lg_sl [.ref (gA G 5), .ref (gA G (15 + 6 * t)), .int (nI nd)] ++ List.replicate (3 - (lg_sl [.ref (gA G 5), .ref (gA G (15 + 6 * t)), .int (nI nd)]).length) Slot.unset).toArray = ls at hl ⊢
  have hl : lv_has ls 3 [(0, .ref (gA G 5)), (1, .ref (gA G (15 + 6 * t))), (2, .int (nI nd))] := hl
  refine lv_aload_n S.1 S.2.1 dX1_nodeSum_0 rfl (lv_at hl 1 rfl) ?_
  refine lv_aload_n S.1 S.2.1 dX1_nodeSum_1 rfl (lv_at hl 0 rfl) ?_
  refine r_get (C := RX1) (T := TX1) (N := 3) (ci := 1) S Z (by decide) rfl rfl i_X1_nodeSum_X1 0 (by decide) m_X1_nodeSum_f9 rfl (v := .ref (gA G 6)) rfl dX1_nodeSum_2 ?_
  refine va_callv (va_runS (As := [.ref (gA G (15 + 6 * t)), .ref (gA G 6)]) (rest := []) S (k_X1_makeSums l G σ μ o t 6 ht (by omega)) (va_cwS 2 S.2.2.2.2 gX1_nodeSum_X1_makeSums rfl rfl rfl hy_X1_makeSums ⟨Nat.le_of_ble_eq_true rfl, Nat.le_of_ble_eq_true rfl⟩) (wPc_S Z) rfl rfl hl.1 rfl (lv_room (Nat.le_of_ble_eq_true rfl)) dX1_nodeSum_5 ⟨Nat.le_of_ble_eq_true rfl, Nat.le_of_ble_eq_true rfl⟩) Z.2.2.2.2 (fun _ _ h => h) (fun _ h => h) (fun u_2 T9 H1 locs1 hT9 hvm hw hB hz hk9 hS => ?_)
  subst hw
  have Z : wZ G (mkS σ t 6) (μ) o s H1 locs1 := wZ_callP Z hB hT9 hS
  clear hB hT9 hS hk9 hz hvm T9
  revert Z; generalize H1 = H; generalize locs1 = locs; intro Z
  refine W.widen (k := 0) (n := 0) (by decide) (by decide) ?_
  refine lv_aload_n S.1 S.2.1 dX1_nodeSum_8 rfl (lv_at hl 0 rfl) ?_
  refine r_get (C := RX1) (T := TX1) (N := 3) (ci := 1) S Z (by decide) rfl rfl i_X1_nodeSum_X1 0 (by decide) m_X1_nodeSum_f9 rfl (v := .ref (gA G 6)) rfl dX1_nodeSum_9 ?_
  refine lv_iload_n S.1 S.2.1 dX1_nodeSum_12 rfl (lv_at hl 2 rfl) ?_
  refine r_ialdC S Z (n := 32) ⟨rfl, rfl⟩ (by omega) (by decide) dX1_nodeSum_13 ?_
  rw [hQ]
  exact W.iret (v := cI (mkS σ t 6) 6 nd) S.1 S.2.1 hret (fun _ hT9 hW => ⟨⟨_, (mkS σ t 6, μ), rfl, ⟨rfl, rfl⟩, wZ_P Z hT9 hW⟩, Z.2.2.2.2.F hT9⟩) Z.2.2.2.2.2.2 dX1_nodeSum_14

theorem i_X1_compareNodes_X1 : ∀ w ∈ wsX10, w ∈ wsX1_compareNodes := by decide +kernel
theorem m_X1_compareNodes_f9 : Cond.fieldLink RX1 9 "WideCell$Comparison" "sums" "[I" ∈ wsX1_compareNodes := by decide +kernel
theorem m_X1_compareNodes_f15 : Cond.fieldLink RX1 15 "WideCell$Comparison" "otherSums" "[I" ∈ wsX1_compareNodes := by decide +kernel
theorem m_X1_compareNodes_f18 : Cond.fieldLink RX1 18 "WideCell$Comparison" "differs" "[Z" ∈ wsX1_compareNodes := by decide +kernel
abbrev rm_k_X1_compareNodes : Room := { frames := 3, cells := 0, slots := 0, locals := 69 }
set_option maxHeartbeats 4000000 in
set_option maxRecDepth 100000 in
theorem k_X1_compareNodes (l : Launch) (G : wG) (σ : cS) (μ : mS) (o : Nat → Int64) (t : Nat) (t2 : Nat) (ht : t < 4) (ht2 : t2 < 4) : Met l yX1_compareNodes wsX1_compareNodes rm_k_X1_compareNodes (wPc G σ μ o [.ref (gA G 5), .ref (gA G (15 + 6 * t)), .ref (gA G (15 + 6 * t2))]) (va_Qi (fun (rr : Int32) (u : cS × mS) => rr = nI (cmN σ t t2 31) ∧ u = (cmp σ t t2, μ)) (fun u t => wI G u.1 u.2 o t) (gP G)) 0 0 (gP G) := by
  refine Met.ofW (cc := cX1_compareNodes) (maxL := 6) (ret := (some .int)) (by decide) rfl ?_
  intro p e s m args below meth c s₁ B hml hv
  obtain ⟨hargs, hI⟩ := hv
  have S : CallFix p m c cX1_compareNodes 6 s args wsX1_compareNodes RX1 := ⟨B.exec, B.bytes, hml, findClass_of_methodNamed B.named, atoms_spec (ws := wsX1_compareNodes) B.pre⟩
  have hret := B.returns
  have hlocks := B.notSynchronized
  have Z := wZ_0 hI
  clear hI
  obtain ⟨Q, hQ⟩ : ∃ Q, Q = MQ below (va_Qi (fun (rr : Int32) (u : cS × mS) => rr = nI (cmN σ t t2 31) ∧ u = (cmp σ t t2, μ)) (fun u t => wI G u.1 u.2 o t) (gP G)) args s 0 0 (gP G) := ⟨_, rfl⟩
  rw [← hQ]
  have hl := lv_entry [.ref (gA G 5), .ref (gA G (15 + 6 * t)), .ref (gA G (15 + 6 * t2))] (n := 6) (Nat.le_of_ble_eq_true rfl)
  rw [show entryFrame m args 6 = entryFrame m ([.ref (gA G 5), .ref (gA G (15 + 6 * t)), .ref (gA G (15 + 6 * t2))] : List Value).toArray 6 from by rw [hargs], lg_entry_eq]
  generalize (lg_sl [.ref (gA G 5), .ref (gA G (15 + 6 * t)), .ref (gA G (15 + 6 * t2))] ++ List.replicate (6 - (lg_sl [.ref (gA G 5), .ref (gA G (15 + 6 * t)), .ref (gA G (15 + 6 * t2))]).length) Slot.unset).toArray = ls at hl ⊢
  have hl : lv_has ls 6 [(0, .ref (gA G 5)), (1, .ref (gA G (15 + 6 * t))), (2, .ref (gA G (15 + 6 * t2)))] := hl
  refine lv_aload_n S.1 S.2.1 dX1_compareNodes_0 rfl (lv_at hl 1 rfl) ?_
  refine lv_aload_n S.1 S.2.1 dX1_compareNodes_1 rfl (lv_at hl 0 rfl) ?_
  refine r_get (C := RX1) (T := TX1) (N := 3) (ci := 1) S Z (by decide) rfl rfl i_X1_compareNodes_X1 0 (by decide) m_X1_compareNodes_f9 rfl (v := .ref (gA G 6)) rfl dX1_compareNodes_2 ?_
  refine va_callv (va_runS (As := [.ref (gA G (15 + 6 * t)), .ref (gA G 6)]) (rest := []) S (k_X1_makeSums l G σ μ o t 6 ht (by omega)) (va_cwS 2 S.2.2.2.2 gX1_compareNodes_X1_makeSums rfl rfl rfl hy_X1_makeSums ⟨Nat.le_of_ble_eq_true rfl, Nat.le_of_ble_eq_true rfl⟩) (wPc_S Z) rfl rfl hl.1 rfl (lv_room (Nat.le_of_ble_eq_true rfl)) dX1_compareNodes_5 ⟨Nat.le_of_ble_eq_true rfl, Nat.le_of_ble_eq_true rfl⟩) Z.2.2.2.2 (fun _ _ h => h) (fun _ h => h) (fun u_2 T9 H1 locs1 hT9 hvm hw hB hz hk9 hS => ?_)
  subst hw
  have Z : wZ G (mkS σ t 6) (μ) o s H1 locs1 := wZ_callP Z hB hT9 hS
  clear hB hT9 hS hk9 hz hvm T9
  revert Z; generalize H1 = H; generalize locs1 = locs; intro Z
  refine W.widen (k := 0) (n := 0) (by decide) (by decide) ?_
  refine lv_aload_n S.1 S.2.1 dX1_compareNodes_8 rfl (lv_at hl 2 rfl) ?_
  refine lv_aload_n S.1 S.2.1 dX1_compareNodes_9 rfl (lv_at hl 0 rfl) ?_
  refine r_get (C := RX1) (T := TX1) (N := 3) (ci := 1) S Z (by decide) rfl rfl i_X1_compareNodes_X1 1 (by decide) m_X1_compareNodes_f15 rfl (v := .ref (gA G 7)) rfl dX1_compareNodes_10 ?_
  refine va_callv (va_runS (As := [.ref (gA G (15 + 6 * t2)), .ref (gA G 7)]) (rest := []) S (k_X1_makeSums l G (mkS σ t 6) μ o t2 7 ht2 (by omega)) (va_cwS 2 S.2.2.2.2 gX1_compareNodes_X1_makeSums rfl rfl rfl hy_X1_makeSums ⟨Nat.le_of_ble_eq_true rfl, Nat.le_of_ble_eq_true rfl⟩) (wPc_S Z) rfl rfl hl.1 rfl (lv_room (Nat.le_of_ble_eq_true rfl)) dX1_compareNodes_13 ⟨Nat.le_of_ble_eq_true rfl, Nat.le_of_ble_eq_true rfl⟩) Z.2.2.2.2 (fun _ _ h => h) (fun _ h => h) (fun u_4 T9 H1 locs1 hT9 hvm hw hB hz hk9 hS => ?_)
  subst hw
  have Z : wZ G (mkS (mkS σ t 6) t2 7) (μ) o s H1 locs1 := wZ_callP Z hB hT9 hS
  clear hB hT9 hS hk9 hz hvm T9
  revert Z; generalize H1 = H; generalize locs1 = locs; intro Z
  refine W.widen (k := 0) (n := 0) (by decide) (by decide) ?_
  refine lv_iconst (v := nI 0) S.1 S.2.1 dX1_compareNodes_16 (by decide) ?_
  refine lv_istore_n (lv' := [(3, .int (nI 0)), (0, .ref (gA G 5)), (1, .ref (gA G (15 + 6 * t))), (2, .ref (gA G (15 + 6 * t2)))]) S.1 S.2.1 dX1_compareNodes_17 rfl hl (by decide) rfl (fun ls hl => ?_)
  refine lv_iconst (v := nI 1) S.1 S.2.1 dX1_compareNodes_18 (by decide) ?_
  refine lv_istore (lv' := [(4, .int (nI 1)), (3, .int (nI 0)), (0, .ref (gA G 5)), (1, .ref (gA G (15 + 6 * t))), (2, .ref (gA G (15 + 6 * t2)))]) S.1 S.2.1 dX1_compareNodes_19 hl (by decide) rfl (fun ls hl => ?_)
  have L_21 : ∀ (n : Nat) (i : Nat) (hi : i ≤ 31) (hn : 31 - i < n) (H : Heap) (locs : List Loc) (Z : wZ G (cmS σ t t2 i) (μ) o s H locs) (ls : Array Slot) (hl : lv_has ls 6 [(0, .ref (gA G 5)), (1, .ref (gA G (15 + 6 * t))), (2, .ref (gA G (15 + 6 * t2))), (3, .int (nI (cmN σ t t2 i))), (4, .int (nI (i + 1)))]), W p l e (headSpec wsX1_compareNodes rm_k_X1_compareNodes).room s m args below meth c H locs 0 0 Q (F0 m 21 ls []) := by
    intro n
    induction n with
    | zero => intro i hi hn; omega
    | succ n ih_21 =>
      intro i hi hn H locs Z ls hl
      refine lv_iload S.1 S.2.1 dX1_compareNodes_21 (lv_at hl 4 rfl) ?_
      refine lv_bipush (v := nI 32) S.1 S.2.1 dX1_compareNodes_23 (by decide) ?_
      refine r_icmpN_ge S (tgt := 101) (by omega) (by omega) dX1_compareNodes_25 (by decide) (fun c_5 => ?_) (fun c_5 => ?_)
      · skip
        refine lv_iload_n S.1 S.2.1 dX1_compareNodes_101 rfl (lv_at hl 3 rfl) ?_
        rw [hQ]
        have q9 : (cmp σ t t2 : cS) = cmS σ t t2 i := by rw [show i = 31 from by omega]; rfl
        rw [← q9] at Z
        exact W.iret (v := nI (cmN σ t t2 i)) S.1 S.2.1 hret (fun _ hT9 hW => ⟨⟨_, (cmp σ t t2, μ), rfl, ⟨(by rw [show (31 : Nat) = i from by omega]), rfl⟩, wZ_P Z hT9 hW⟩, Z.2.2.2.2.F hT9⟩) Z.2.2.2.2.2.2 dX1_compareNodes_102
      · skip
        refine lv_iload S.1 S.2.1 dX1_compareNodes_28 (lv_at hl 4 rfl) ?_
        refine lv_iconst (v := nI 1) S.1 S.2.1 dX1_compareNodes_30 (by decide) ?_
        refine r_icmpN_eq S (tgt := 46) (by omega) (by omega) dX1_compareNodes_31 (by decide) (fun c_6 => ?_) (fun c_6 => ?_)
        · skip
          refine lv_iconst (v := nI 1) S.1 S.2.1 dX1_compareNodes_46 (by decide) ?_
          refine lv_goto (tgt := 51) S.1 S.2.1 dX1_compareNodes_47 (by decide) ?_
          refine lv_istore (lv' := [(5, .int (nI 1)), (0, .ref (gA G 5)), (1, .ref (gA G (15 + 6 * t))), (2, .ref (gA G (15 + 6 * t2))), (3, .int (nI (cmN σ t t2 i))), (4, .int (nI (i + 1)))]) S.1 S.2.1 dX1_compareNodes_51 hl (by decide) rfl (fun ls hl => ?_)
          refine lv_aload_n S.1 S.2.1 dX1_compareNodes_53 rfl (lv_at hl 1 rfl) ?_
          refine r_get (C := RX1) (T := TX1) (N := 3) (ci := 1) S Z (by decide) rfl rfl i_X1_compareNodes_X1 2 (by decide) m_X1_compareNodes_f18 rfl (v := .ref (gA G 8)) rfl dX1_compareNodes_54 ?_
          refine lv_iload S.1 S.2.1 dX1_compareNodes_57 (lv_at hl 5 rfl) ?_
          refine lv_iload S.1 S.2.1 dX1_compareNodes_59 (lv_at hl 0 rfl) ?_
          refine r_if_eqN S (tgt := 85) (by decide) dX1_compareNodes_61 (by decide) (fun c_7 => absurd c_7 (by decide)) (fun c_7 => ?_)
          refine lv_aload_n S.1 S.2.1 dX1_compareNodes_64 rfl (lv_at hl 1 rfl) ?_
          refine r_get (C := RX1) (T := TX1) (N := 3) (ci := 1) S Z (by decide) rfl rfl i_X1_compareNodes_X1 0 (by decide) m_X1_compareNodes_f9 rfl (v := .ref (gA G 6)) rfl dX1_compareNodes_65 ?_
          refine lv_iload S.1 S.2.1 dX1_compareNodes_68 (lv_at hl 5 rfl) ?_
          refine r_ialdC S Z (n := 32) ⟨rfl, rfl⟩ (by omega) (by decide) dX1_compareNodes_70 ?_
          refine lv_aload_n S.1 S.2.1 dX1_compareNodes_71 rfl (lv_at hl 1 rfl) ?_
          refine r_get (C := RX1) (T := TX1) (N := 3) (ci := 1) S Z (by decide) rfl rfl i_X1_compareNodes_X1 1 (by decide) m_X1_compareNodes_f15 rfl (v := .ref (gA G 7)) rfl dX1_compareNodes_72 ?_
          refine lv_iload S.1 S.2.1 dX1_compareNodes_75 (lv_at hl 5 rfl) ?_
          refine r_ialdC S Z (n := 32) ⟨rfl, rfl⟩ (by omega) (by decide) dX1_compareNodes_77 ?_
          refine lv_icmp_eq (tgt := 85) S.1 S.2.1 dX1_compareNodes_78 (by decide) (fun c_8 => ?_) (fun c_8 => ?_)
          · skip
            refine lv_iconst (v := nI 0) S.1 S.2.1 dX1_compareNodes_85 (by decide) ?_
            refine W.eq (g2 := F0 m 86 ls (.int (bi false) :: .int (nI (i + 1)) :: .ref (gA G 8) :: [])) rfl ?_
            refine r_zast (σ' := cF' (cmS σ t t2 i) (i + 1) false) (μ' := μ) (k := 8) (n := 32) (f := fun j => bi (cF (cmS σ t t2 i) j)) S Z (by decide) rfl (upd_bi _ _ _) rfl (sF _ _) (by omega) (by decide) dX1_compareNodes_86 (fun H locs Z => ?_)
            refine lv_iload S.1 S.2.1 dX1_compareNodes_87 (lv_at hl 0 rfl) ?_
            refine r_if_eqN S (tgt := 95) (by decide) dX1_compareNodes_89 (by decide) (fun c_9 => absurd c_9 (by decide)) (fun c_9 => ?_)
            refine lv_iinc (v := nI (cmN σ t t2 i + 1)) (lv' := [(3, .int (nI (cmN σ t t2 i + 1))), (5, .int (nI 1)), (0, .ref (gA G 5)), (1, .ref (gA G (15 + 6 * t))), (2, .ref (gA G (15 + 6 * t2))), (4, .int (nI (i + 1)))]) S.1 S.2.1 dX1_compareNodes_92 hl (k := 4) rfl (nI_inc rfl) (by decide) rfl (fun ls hl => ?_)
            refine lv_iinc (v := nI (i + 1 + 1)) (lv' := [(4, .int (nI (i + 1 + 1))), (3, .int (nI (cmN σ t t2 i + 1))), (5, .int (nI 1)), (0, .ref (gA G 5)), (1, .ref (gA G (15 + 6 * t))), (2, .ref (gA G (15 + 6 * t2)))]) S.1 S.2.1 dX1_compareNodes_95 hl (k := 5) rfl (nI_inc rfl) (by decide) rfl (fun ls hl => ?_)
            refine lv_goto (tgt := 21) S.1 S.2.1 dX1_compareNodes_98 (by decide) ?_
            have q_10 : (nI (cmN σ t t2 (i + 1)) : Int32) = nI (cmN σ t t2 i + 1) := by (clear Z S hl ih_21 B hret hQ hargs hlocks; simp_all [cmS, cmN, cmr])
            have q_11 : (nI ((i + 1) + 1) : Int32) = nI (i + 1 + 1) := by first | (first | (simp [bi, cmN, cmS, cmr, hi, c_5, c_6, c_8]; done) | (simp [bi, cmN, cmS, cmr, hi, c_5, c_6, c_8]; omega) | (simp [bi, cmN, cmS, cmr, ← Int32.not_le, hi, c_5, c_6, c_8]; done) | (simp [bi, cmN, cmS, cmr, hi, c_5, eq_true c_6, eq_true c_8]; done)) | exact congrArg nI (by omega) | rfl
            have hl : lv_has ls 6 [(0, .ref (gA G 5)), (1, .ref (gA G (15 + 6 * t))), (2, .ref (gA G (15 + 6 * t2))), (3, .int (nI (cmN σ t t2 (i + 1)))), (4, .int (nI ((i + 1) + 1)))] := by
              have hl := lv_sub hl [3, 4, 5, 1, 0] rfl
              rw [q_10, q_11]; exact hl
            have q9 : (cmS σ t t2 (i + 1) : cS) = cF' (cmS σ t t2 i) (i + 1) false := by (clear Z S hl ih_21 B hret hQ hargs hlocks; simp_all [cmS, cmN, cmr])
            rw [← q9] at Z
            exact ih_21 (i + 1) (by omega) (by omega) _ _ Z ls (hl)
          · skip
            refine lv_iconst (v := nI 1) S.1 S.2.1 dX1_compareNodes_81 (by decide) ?_
            refine lv_goto (tgt := 86) S.1 S.2.1 dX1_compareNodes_82 (by decide) ?_
            refine W.eq (g2 := F0 m 86 ls (.int (bi true) :: .int (nI (i + 1)) :: .ref (gA G 8) :: [])) rfl ?_
            refine r_zast (σ' := cF' (cmS σ t t2 i) (i + 1) true) (μ' := μ) (k := 8) (n := 32) (f := fun j => bi (cF (cmS σ t t2 i) j)) S Z (by decide) rfl (upd_bi _ _ _) rfl (sF _ _) (by omega) (by decide) dX1_compareNodes_86 (fun H locs Z => ?_)
            refine lv_iload S.1 S.2.1 dX1_compareNodes_87 (lv_at hl 0 rfl) ?_
            refine r_if_eqN S (tgt := 95) (by decide) dX1_compareNodes_89 (by decide) (fun c_12 => absurd c_12 (by decide)) (fun c_12 => ?_)
            refine lv_iinc (v := nI (cmN σ t t2 i + 1)) (lv' := [(3, .int (nI (cmN σ t t2 i + 1))), (5, .int (nI 1)), (0, .ref (gA G 5)), (1, .ref (gA G (15 + 6 * t))), (2, .ref (gA G (15 + 6 * t2))), (4, .int (nI (i + 1)))]) S.1 S.2.1 dX1_compareNodes_92 hl (k := 4) rfl (nI_inc rfl) (by decide) rfl (fun ls hl => ?_)
            refine lv_iinc (v := nI (i + 1 + 1)) (lv' := [(4, .int (nI (i + 1 + 1))), (3, .int (nI (cmN σ t t2 i + 1))), (5, .int (nI 1)), (0, .ref (gA G 5)), (1, .ref (gA G (15 + 6 * t))), (2, .ref (gA G (15 + 6 * t2)))]) S.1 S.2.1 dX1_compareNodes_95 hl (k := 5) rfl (nI_inc rfl) (by decide) rfl (fun ls hl => ?_)
            refine lv_goto (tgt := 21) S.1 S.2.1 dX1_compareNodes_98 (by decide) ?_
            have q_13 : (nI (cmN σ t t2 (i + 1)) : Int32) = nI (cmN σ t t2 i + 1) := by (clear Z S hl ih_21 B hret hQ hargs hlocks; simp_all [cmS, cmN, cmr])
            have q_14 : (nI ((i + 1) + 1) : Int32) = nI (i + 1 + 1) := by first | (first | (simp [bi, cmN, cmS, cmr, hi, c_5, c_6, c_8]; done) | (simp [bi, cmN, cmS, cmr, hi, c_5, c_6, c_8]; omega) | (simp [bi, cmN, cmS, cmr, ← Int32.not_le, hi, c_5, c_6, c_8]; done) | (simp [bi, cmN, cmS, cmr, hi, c_5, eq_true c_6, c_8]; done)) | exact congrArg nI (by omega) | rfl
            have hl : lv_has ls 6 [(0, .ref (gA G 5)), (1, .ref (gA G (15 + 6 * t))), (2, .ref (gA G (15 + 6 * t2))), (3, .int (nI (cmN σ t t2 (i + 1)))), (4, .int (nI ((i + 1) + 1)))] := by
              have hl := lv_sub hl [3, 4, 5, 1, 0] rfl
              rw [q_13, q_14]; exact hl
            have q9 : (cmS σ t t2 (i + 1) : cS) = cF' (cmS σ t t2 i) (i + 1) true := by (clear Z S hl ih_21 B hret hQ hargs hlocks; simp_all [cmS, cmN, cmr])
            rw [← q9] at Z
            exact ih_21 (i + 1) (by omega) (by omega) _ _ Z ls (hl)
        · skip
          refine lv_aload_n S.1 S.2.1 dX1_compareNodes_34 rfl (lv_at hl 0 rfl) ?_
          refine r_get (C := RX1) (T := TX1) (N := 3) (ci := 1) S Z (by decide) rfl rfl i_X1_compareNodes_X1 2 (by decide) m_X1_compareNodes_f18 rfl (v := .ref (gA G 8)) rfl dX1_compareNodes_35 ?_
          refine lv_iload S.1 S.2.1 dX1_compareNodes_38 (lv_at hl 4 rfl) ?_
          refine lv_iconst (v := nI 2) S.1 S.2.1 dX1_compareNodes_40 (by decide) ?_
          refine r_divN S (by omega) (by decide) (by decide) dX1_compareNodes_41 ?_
          refine r_zald (k := 8) (n := 32) (f := fun j => bi (cF (cmS σ t t2 i) j)) S Z (by decide) rfl (by omega) (by decide) dX1_compareNodes_42 ?_
          refine r_if_eqB S (tgt := 50) dX1_compareNodes_43 (by decide) (fun c_15 => ?_) (fun c_15 => ?_)
          · skip
            refine lv_iconst (v := nI 0) S.1 S.2.1 dX1_compareNodes_50 (by decide) ?_
            refine lv_istore (lv' := [(5, .int (nI 0)), (0, .ref (gA G 5)), (1, .ref (gA G (15 + 6 * t))), (2, .ref (gA G (15 + 6 * t2))), (3, .int (nI (cmN σ t t2 i))), (4, .int (nI (i + 1)))]) S.1 S.2.1 dX1_compareNodes_51 hl (by decide) rfl (fun ls hl => ?_)
            refine lv_aload_n S.1 S.2.1 dX1_compareNodes_53 rfl (lv_at hl 1 rfl) ?_
            refine r_get (C := RX1) (T := TX1) (N := 3) (ci := 1) S Z (by decide) rfl rfl i_X1_compareNodes_X1 2 (by decide) m_X1_compareNodes_f18 rfl (v := .ref (gA G 8)) rfl dX1_compareNodes_54 ?_
            refine lv_iload S.1 S.2.1 dX1_compareNodes_57 (lv_at hl 5 rfl) ?_
            refine lv_iload S.1 S.2.1 dX1_compareNodes_59 (lv_at hl 0 rfl) ?_
            refine r_if_eqN S (tgt := 85) (by decide) dX1_compareNodes_61 (by decide) (fun c_16 => ?_) (fun c_16 => absurd c_16 (by decide))
            refine lv_iconst (v := nI 0) S.1 S.2.1 dX1_compareNodes_85 (by decide) ?_
            refine W.eq (g2 := F0 m 86 ls (.int (bi false) :: .int (nI (i + 1)) :: .ref (gA G 8) :: [])) rfl ?_
            refine r_zast (σ' := cF' (cmS σ t t2 i) (i + 1) false) (μ' := μ) (k := 8) (n := 32) (f := fun j => bi (cF (cmS σ t t2 i) j)) S Z (by decide) rfl (upd_bi _ _ _) rfl (sF _ _) (by omega) (by decide) dX1_compareNodes_86 (fun H locs Z => ?_)
            refine lv_iload S.1 S.2.1 dX1_compareNodes_87 (lv_at hl 0 rfl) ?_
            refine r_if_eqN S (tgt := 95) (by decide) dX1_compareNodes_89 (by decide) (fun c_17 => ?_) (fun c_17 => absurd c_17 (by decide))
            refine lv_iinc (v := nI (i + 1 + 1)) (lv' := [(4, .int (nI (i + 1 + 1))), (5, .int (nI 0)), (0, .ref (gA G 5)), (1, .ref (gA G (15 + 6 * t))), (2, .ref (gA G (15 + 6 * t2))), (3, .int (nI (cmN σ t t2 i)))]) S.1 S.2.1 dX1_compareNodes_95 hl (k := 5) rfl (nI_inc rfl) (by decide) rfl (fun ls hl => ?_)
            refine lv_goto (tgt := 21) S.1 S.2.1 dX1_compareNodes_98 (by decide) ?_
            have q_18 : (nI (cmN σ t t2 (i + 1)) : Int32) = nI (cmN σ t t2 i) := by (clear Z S hl ih_21 B hret hQ hargs hlocks; simp_all [cmS, cmN, cmr])
            have q_19 : (nI ((i + 1) + 1) : Int32) = nI (i + 1 + 1) := by first | (first | (simp [bi, cmN, cmS, cmr, hi, c_5, c_6, c_15]; done) | (simp [bi, cmN, cmS, cmr, hi, c_5, c_6, c_15]; omega) | (simp [bi, cmN, cmS, cmr, ← Int32.not_le, hi, c_5, c_6, c_15]; done) | (simp [bi, cmN, cmS, cmr, hi, c_5, c_6, eq_true c_15]; done)) | exact congrArg nI (by omega) | rfl
            have hl : lv_has ls 6 [(0, .ref (gA G 5)), (1, .ref (gA G (15 + 6 * t))), (2, .ref (gA G (15 + 6 * t2))), (3, .int (nI (cmN σ t t2 (i + 1)))), (4, .int (nI ((i + 1) + 1)))] := by
              have hl := lv_sub hl [2, 3, 4, 5, 0] rfl
              rw [q_18, q_19]; exact hl
            have q9 : (cmS σ t t2 (i + 1) : cS) = cF' (cmS σ t t2 i) (i + 1) false := by (clear Z S hl ih_21 B hret hQ hargs hlocks; simp_all [cmS, cmN, cmr])
            rw [← q9] at Z
            exact ih_21 (i + 1) (by omega) (by omega) _ _ Z ls (hl)
          · skip
            refine lv_iconst (v := nI 1) S.1 S.2.1 dX1_compareNodes_46 (by decide) ?_
            refine lv_goto (tgt := 51) S.1 S.2.1 dX1_compareNodes_47 (by decide) ?_
            refine lv_istore (lv' := [(5, .int (nI 1)), (0, .ref (gA G 5)), (1, .ref (gA G (15 + 6 * t))), (2, .ref (gA G (15 + 6 * t2))), (3, .int (nI (cmN σ t t2 i))), (4, .int (nI (i + 1)))]) S.1 S.2.1 dX1_compareNodes_51 hl (by decide) rfl (fun ls hl => ?_)
            refine lv_aload_n S.1 S.2.1 dX1_compareNodes_53 rfl (lv_at hl 1 rfl) ?_
            refine r_get (C := RX1) (T := TX1) (N := 3) (ci := 1) S Z (by decide) rfl rfl i_X1_compareNodes_X1 2 (by decide) m_X1_compareNodes_f18 rfl (v := .ref (gA G 8)) rfl dX1_compareNodes_54 ?_
            refine lv_iload S.1 S.2.1 dX1_compareNodes_57 (lv_at hl 5 rfl) ?_
            refine lv_iload S.1 S.2.1 dX1_compareNodes_59 (lv_at hl 0 rfl) ?_
            refine r_if_eqN S (tgt := 85) (by decide) dX1_compareNodes_61 (by decide) (fun c_20 => absurd c_20 (by decide)) (fun c_20 => ?_)
            refine lv_aload_n S.1 S.2.1 dX1_compareNodes_64 rfl (lv_at hl 1 rfl) ?_
            refine r_get (C := RX1) (T := TX1) (N := 3) (ci := 1) S Z (by decide) rfl rfl i_X1_compareNodes_X1 0 (by decide) m_X1_compareNodes_f9 rfl (v := .ref (gA G 6)) rfl dX1_compareNodes_65 ?_
            refine lv_iload S.1 S.2.1 dX1_compareNodes_68 (lv_at hl 5 rfl) ?_
            refine r_ialdC S Z (n := 32) ⟨rfl, rfl⟩ (by omega) (by decide) dX1_compareNodes_70 ?_
            refine lv_aload_n S.1 S.2.1 dX1_compareNodes_71 rfl (lv_at hl 1 rfl) ?_
            refine r_get (C := RX1) (T := TX1) (N := 3) (ci := 1) S Z (by decide) rfl rfl i_X1_compareNodes_X1 1 (by decide) m_X1_compareNodes_f15 rfl (v := .ref (gA G 7)) rfl dX1_compareNodes_72 ?_
            refine lv_iload S.1 S.2.1 dX1_compareNodes_75 (lv_at hl 5 rfl) ?_
            refine r_ialdC S Z (n := 32) ⟨rfl, rfl⟩ (by omega) (by decide) dX1_compareNodes_77 ?_
            refine lv_icmp_eq (tgt := 85) S.1 S.2.1 dX1_compareNodes_78 (by decide) (fun c_21 => ?_) (fun c_21 => ?_)
            · skip
              refine lv_iconst (v := nI 0) S.1 S.2.1 dX1_compareNodes_85 (by decide) ?_
              refine W.eq (g2 := F0 m 86 ls (.int (bi false) :: .int (nI (i + 1)) :: .ref (gA G 8) :: [])) rfl ?_
              refine r_zast (σ' := cF' (cmS σ t t2 i) (i + 1) false) (μ' := μ) (k := 8) (n := 32) (f := fun j => bi (cF (cmS σ t t2 i) j)) S Z (by decide) rfl (upd_bi _ _ _) rfl (sF _ _) (by omega) (by decide) dX1_compareNodes_86 (fun H locs Z => ?_)
              refine lv_iload S.1 S.2.1 dX1_compareNodes_87 (lv_at hl 0 rfl) ?_
              refine r_if_eqN S (tgt := 95) (by decide) dX1_compareNodes_89 (by decide) (fun c_22 => absurd c_22 (by decide)) (fun c_22 => ?_)
              refine lv_iinc (v := nI (cmN σ t t2 i + 1)) (lv' := [(3, .int (nI (cmN σ t t2 i + 1))), (5, .int (nI 1)), (0, .ref (gA G 5)), (1, .ref (gA G (15 + 6 * t))), (2, .ref (gA G (15 + 6 * t2))), (4, .int (nI (i + 1)))]) S.1 S.2.1 dX1_compareNodes_92 hl (k := 4) rfl (nI_inc rfl) (by decide) rfl (fun ls hl => ?_)
              refine lv_iinc (v := nI (i + 1 + 1)) (lv' := [(4, .int (nI (i + 1 + 1))), (3, .int (nI (cmN σ t t2 i + 1))), (5, .int (nI 1)), (0, .ref (gA G 5)), (1, .ref (gA G (15 + 6 * t))), (2, .ref (gA G (15 + 6 * t2)))]) S.1 S.2.1 dX1_compareNodes_95 hl (k := 5) rfl (nI_inc rfl) (by decide) rfl (fun ls hl => ?_)
              refine lv_goto (tgt := 21) S.1 S.2.1 dX1_compareNodes_98 (by decide) ?_
              have q_23 : (nI (cmN σ t t2 (i + 1)) : Int32) = nI (cmN σ t t2 i + 1) := by (clear Z S hl ih_21 B hret hQ hargs hlocks; simp_all [cmS, cmN, cmr])
              have q_24 : (nI ((i + 1) + 1) : Int32) = nI (i + 1 + 1) := by first | (first | (simp [bi, cmN, cmS, cmr, hi, c_5, c_6, c_15, c_21]; done) | (simp [bi, cmN, cmS, cmr, hi, c_5, c_6, c_15, c_21]; omega) | (simp [bi, cmN, cmS, cmr, ← Int32.not_le, hi, c_5, c_6, c_15, c_21]; done) | (simp [bi, cmN, cmS, cmr, hi, c_5, c_6, c_15, eq_true c_21]; done)) | exact congrArg nI (by omega) | rfl
              have hl : lv_has ls 6 [(0, .ref (gA G 5)), (1, .ref (gA G (15 + 6 * t))), (2, .ref (gA G (15 + 6 * t2))), (3, .int (nI (cmN σ t t2 (i + 1)))), (4, .int (nI ((i + 1) + 1)))] := by
                have hl := lv_sub hl [3, 4, 5, 1, 0] rfl
                rw [q_23, q_24]; exact hl
              have q9 : (cmS σ t t2 (i + 1) : cS) = cF' (cmS σ t t2 i) (i + 1) false := by (clear Z S hl ih_21 B hret hQ hargs hlocks; simp_all [cmS, cmN, cmr])
              rw [← q9] at Z
              exact ih_21 (i + 1) (by omega) (by omega) _ _ Z ls (hl)
            · skip
              refine lv_iconst (v := nI 1) S.1 S.2.1 dX1_compareNodes_81 (by decide) ?_
              refine lv_goto (tgt := 86) S.1 S.2.1 dX1_compareNodes_82 (by decide) ?_
              refine W.eq (g2 := F0 m 86 ls (.int (bi true) :: .int (nI (i + 1)) :: .ref (gA G 8) :: [])) rfl ?_
              refine r_zast (σ' := cF' (cmS σ t t2 i) (i + 1) true) (μ' := μ) (k := 8) (n := 32) (f := fun j => bi (cF (cmS σ t t2 i) j)) S Z (by decide) rfl (upd_bi _ _ _) rfl (sF _ _) (by omega) (by decide) dX1_compareNodes_86 (fun H locs Z => ?_)
              refine lv_iload S.1 S.2.1 dX1_compareNodes_87 (lv_at hl 0 rfl) ?_
              refine r_if_eqN S (tgt := 95) (by decide) dX1_compareNodes_89 (by decide) (fun c_25 => absurd c_25 (by decide)) (fun c_25 => ?_)
              refine lv_iinc (v := nI (cmN σ t t2 i + 1)) (lv' := [(3, .int (nI (cmN σ t t2 i + 1))), (5, .int (nI 1)), (0, .ref (gA G 5)), (1, .ref (gA G (15 + 6 * t))), (2, .ref (gA G (15 + 6 * t2))), (4, .int (nI (i + 1)))]) S.1 S.2.1 dX1_compareNodes_92 hl (k := 4) rfl (nI_inc rfl) (by decide) rfl (fun ls hl => ?_)
              refine lv_iinc (v := nI (i + 1 + 1)) (lv' := [(4, .int (nI (i + 1 + 1))), (3, .int (nI (cmN σ t t2 i + 1))), (5, .int (nI 1)), (0, .ref (gA G 5)), (1, .ref (gA G (15 + 6 * t))), (2, .ref (gA G (15 + 6 * t2)))]) S.1 S.2.1 dX1_compareNodes_95 hl (k := 5) rfl (nI_inc rfl) (by decide) rfl (fun ls hl => ?_)
              refine lv_goto (tgt := 21) S.1 S.2.1 dX1_compareNodes_98 (by decide) ?_
              have q_26 : (nI (cmN σ t t2 (i + 1)) : Int32) = nI (cmN σ t t2 i + 1) := by (clear Z S hl ih_21 B hret hQ hargs hlocks; simp_all [cmS, cmN, cmr])
              have q_27 : (nI ((i + 1) + 1) : Int32) = nI (i + 1 + 1) := by first | (first | (simp [bi, cmN, cmS, cmr, hi, c_5, c_6, c_15, c_21]; done) | (simp [bi, cmN, cmS, cmr, hi, c_5, c_6, c_15, c_21]; omega) | (simp [bi, cmN, cmS, cmr, ← Int32.not_le, hi, c_5, c_6, c_15, c_21]; done)) | exact congrArg nI (by omega) | rfl
              have hl : lv_has ls 6 [(0, .ref (gA G 5)), (1, .ref (gA G (15 + 6 * t))), (2, .ref (gA G (15 + 6 * t2))), (3, .int (nI (cmN σ t t2 (i + 1)))), (4, .int (nI ((i + 1) + 1)))] := by
                have hl := lv_sub hl [3, 4, 5, 1, 0] rfl
                rw [q_26, q_27]; exact hl
              have q9 : (cmS σ t t2 (i + 1) : cS) = cF' (cmS σ t t2 i) (i + 1) true := by (clear Z S hl ih_21 B hret hQ hargs hlocks; simp_all [cmS, cmN, cmr])
              rw [← q9] at Z
              exact ih_21 (i + 1) (by omega) (by omega) _ _ Z ls (hl)
  have q_28 : (nI (cmN σ t t2 0) : Int32) = nI 0 := by rfl
  have q_29 : (nI (0 + 1) : Int32) = nI 1 := by first | rfl | (first | (simp [bi, cmN, cmS, cmr]; done) | (simp [bi, cmN, cmS, cmr]; omega) | (simp [bi, cmN, cmS, cmr, ← Int32.not_le]; done)) | exact congrArg nI (by omega)
  have hl : lv_has ls 6 [(0, .ref (gA G 5)), (1, .ref (gA G (15 + 6 * t))), (2, .ref (gA G (15 + 6 * t2))), (3, .int (nI (cmN σ t t2 0))), (4, .int (nI (0 + 1)))] := by
    have hl := lv_sub hl [2, 3, 4, 1, 0] rfl
    rw [q_28, q_29]; exact hl
  have q9 : (cmS σ t t2 0 : cS) = mkS (mkS σ t 6) t2 7 := by rfl
  rw [← q9] at Z
  exact L_21 (31 - 0 + 1) 0 (by omega) (by omega) _ _ Z ls (hl)

theorem i_X1_unlikeRows_X1 : ∀ w ∈ wsX10, w ∈ wsX1_unlikeRows := by decide +kernel
theorem m_X1_unlikeRows_f18 : Cond.fieldLink RX1 18 "WideCell$Comparison" "differs" "[Z" ∈ wsX1_unlikeRows := by decide +kernel
abbrev rm_k_X1_unlikeRows : Room := { frames := 0, cells := 0, slots := 0, locals := 0 }
set_option maxHeartbeats 4000000 in
set_option maxRecDepth 100000 in
theorem k_X1_unlikeRows (l : Launch) (G : wG) (σ : cS) (μ : mS) (o : Nat → Int64)   : Met l yX1_unlikeRows wsX1_unlikeRows rm_k_X1_unlikeRows (wPc G σ μ o [.ref (gA G 5)]) (vp_Si (fun rr => rr = urn σ 16)) 0 0 (fun _ => False) := by
  refine Met.ofW (cc := cX1_unlikeRows) (maxL := 3) (ret := (some .int)) (by decide) rfl ?_
  intro p e s m args below meth c s₁ B hml hv
  obtain ⟨hargs, hI⟩ := hv
  have S : CallFix p m c cX1_unlikeRows 3 s args wsX1_unlikeRows RX1 := ⟨B.exec, B.bytes, hml, findClass_of_methodNamed B.named, atoms_spec (ws := wsX1_unlikeRows) B.pre⟩
  have hret := B.returns
  have hlocks := B.notSynchronized
  have Z := wZ_0 hI
  clear hI
  obtain ⟨Q, hQ⟩ : ∃ Q, Q = MQ below (vp_Si (fun rr => rr = urn σ 16)) args s 0 0 (fun _ => False) := ⟨_, rfl⟩
  rw [← hQ]
  have hl := lv_entry [.ref (gA G 5)] (n := 3) (Nat.le_of_ble_eq_true rfl)
  rw [show entryFrame m args 3 = entryFrame m ([.ref (gA G 5)] : List Value).toArray 3 from by rw [hargs], lg_entry_eq]
  generalize (lg_sl [.ref (gA G 5)] ++ List.replicate (3 - (lg_sl [.ref (gA G 5)]).length) Slot.unset).toArray = ls at hl ⊢
  have hl : lv_has ls 3 [(0, .ref (gA G 5))] := hl
  refine lv_iconst (v := nI 0) S.1 S.2.1 dX1_unlikeRows_0 (by decide) ?_
  refine lv_istore_n (lv' := [(1, .int (nI 0)), (0, .ref (gA G 5))]) S.1 S.2.1 dX1_unlikeRows_1 rfl hl (by decide) rfl (fun ls hl => ?_)
  refine lv_iconst (v := nI 0) S.1 S.2.1 dX1_unlikeRows_2 (by decide) ?_
  refine lv_istore_n (lv' := [(2, .int (nI 0)), (1, .int (nI 0)), (0, .ref (gA G 5))]) S.1 S.2.1 dX1_unlikeRows_3 rfl hl (by decide) rfl (fun ls hl => ?_)
  have L_4 : ∀ (n : Nat) (i : Nat) (hi : i ≤ 16) (hn : 16 - i < n) (ls : Array Slot) (hl : lv_has ls 3 [(0, .ref (gA G 5)), (1, .int (urn σ i)), (2, .int (nI i))]), W p l e (headSpec wsX1_unlikeRows rm_k_X1_unlikeRows).room s m args below meth c s.heap [] 0 0 Q (F0 m 4 ls []) := by
    intro n
    induction n with
    | zero => intro i hi hn; omega
    | succ n ih_4 =>
      intro i hi hn ls hl
      refine lv_iload_n S.1 S.2.1 dX1_unlikeRows_4 rfl (lv_at hl 2 rfl) ?_
      refine lv_bipush (v := nI 16) S.1 S.2.1 dX1_unlikeRows_5 (by decide) ?_
      refine r_icmpN_ge S (tgt := 34) (by omega) (by omega) dX1_unlikeRows_7 (by decide) (fun c_1 => ?_) (fun c_1 => ?_)
      · skip
        obtain rfl : i = 16 := by omega
        refine lv_iload_n S.1 S.2.1 dX1_unlikeRows_34 rfl (lv_at hl 1 rfl) ?_
        rw [hQ]
        exact W.iret (v := urn σ 16) S.1 S.2.1 hret (fun _ hT9 _ => ⟨_, rfl, rfl, hT9⟩) (fun _ h => nomatch h) dX1_unlikeRows_35
      · skip
        refine lv_aload_n S.1 S.2.1 dX1_unlikeRows_10 rfl (lv_at hl 0 rfl) ?_
        refine r_get (C := RX1) (T := TX1) (N := 3) (ci := 1) S Z (by decide) rfl rfl i_X1_unlikeRows_X1 2 (by decide) m_X1_unlikeRows_f18 rfl (v := .ref (gA G 8)) rfl dX1_unlikeRows_11 ?_
        refine lv_bipush (v := nI 16) S.1 S.2.1 dX1_unlikeRows_14 (by decide) ?_
        refine lv_iload_n S.1 S.2.1 dX1_unlikeRows_16 rfl (lv_at hl 2 rfl) ?_
        refine r_addN S dX1_unlikeRows_17 ?_
        refine r_zald (k := 8) (n := 32) (f := fun j => bi (cF σ j)) S Z (by decide) rfl (by omega) (by decide) dX1_unlikeRows_18 ?_
        refine r_if_eqB S (tgt := 28) dX1_unlikeRows_19 (by decide) (fun c_2 => ?_) (fun c_2 => ?_)
        · skip
          refine lv_iinc (v := nI (i + 1)) (lv' := [(2, .int (nI (i + 1))), (0, .ref (gA G 5)), (1, .int (urn σ i))]) S.1 S.2.1 dX1_unlikeRows_28 hl (k := 2) rfl (nI_inc rfl) (by decide) rfl (fun ls hl => ?_)
          refine lv_goto (tgt := 4) S.1 S.2.1 dX1_unlikeRows_31 (by decide) ?_
          have q_3 : (urn σ (i + 1) : Int32) = urn σ i := by first | (first | (simp [urn, hi, c_1, c_2]; done) | (simp [urn, hi, c_1, c_2]; omega) | (simp [urn, ← Int32.not_le, hi, c_1, c_2]; done) | (simp [urn, hi, c_1, eq_true c_2]; done)) | rfl
          have hl : lv_has ls 3 [(0, .ref (gA G 5)), (1, .int (urn σ (i + 1))), (2, .int (nI (i + 1)))] := by
            have hl := lv_sub hl [1, 2, 0] rfl
            rw [q_3]; exact hl
          exact ih_4 (i + 1) (by omega) (by omega) ls (hl)
        · skip
          refine lv_iload_n S.1 S.2.1 dX1_unlikeRows_22 rfl (lv_at hl 1 rfl) ?_
          refine lv_iconst (v := nI 1) S.1 S.2.1 dX1_unlikeRows_23 (by decide) ?_
          refine lv_iload_n S.1 S.2.1 dX1_unlikeRows_24 rfl (lv_at hl 2 rfl) ?_
          refine lv_ishl S.1 S.2.1 dX1_unlikeRows_25 ?_
          refine lv_ior S.1 S.2.1 dX1_unlikeRows_26 ?_
          refine lv_istore_n (lv' := [(1, .int ((urn σ i ||| (nI 1 <<< (nI i &&& 31))))), (0, .ref (gA G 5)), (2, .int (nI i))]) S.1 S.2.1 dX1_unlikeRows_27 rfl hl (by decide) rfl (fun ls hl => ?_)
          refine lv_iinc (v := nI (i + 1)) (lv' := [(2, .int (nI (i + 1))), (1, .int ((urn σ i ||| (nI 1 <<< (nI i &&& 31))))), (0, .ref (gA G 5))]) S.1 S.2.1 dX1_unlikeRows_28 hl (k := 2) rfl (nI_inc rfl) (by decide) rfl (fun ls hl => ?_)
          refine lv_goto (tgt := 4) S.1 S.2.1 dX1_unlikeRows_31 (by decide) ?_
          have q_4 : (urn σ (i + 1) : Int32) = (urn σ i ||| (nI 1 <<< (nI i &&& 31))) := by first | (first | (simp [urn, hi, c_1, c_2]; done) | (simp [urn, hi, c_1, c_2]; omega) | (simp [urn, ← Int32.not_le, hi, c_1, c_2]; done)) | rfl
          have hl : lv_has ls 3 [(0, .ref (gA G 5)), (1, .int (urn σ (i + 1))), (2, .int (nI (i + 1)))] := by
            have hl := lv_sub hl [2, 1, 0] rfl
            rw [q_4]; exact hl
          exact ih_4 (i + 1) (by omega) (by omega) ls (hl)
  have q_5 : (urn σ 0 : Int32) = nI 0 := by first | rfl | (first | (simp [urn]; done) | (simp [urn]; omega) | (simp [urn, ← Int32.not_le]; done))
  have hl : lv_has ls 3 [(0, .ref (gA G 5)), (1, .int (urn σ 0)), (2, .int (nI 0))] := by
    have hl := lv_sub hl [2, 1, 0] rfl
    rw [q_5]; exact hl
  exact L_4 (16 - 0 + 1) 0 (by omega) (by omega) ls (hl)
