abbrev rm_k_L_areCompared : Room := { frames := 5, cells := 0, slots := 0, locals := 116 }
set_option maxHeartbeats 4000000 in
set_option maxRecDepth 100000 in
theorem k_L_areCompared (l : Launch) (G : wG) (σ : cS) (μ : mS) (o : Nat → Int64) (i : Nat) (j : Nat) (hi : i < 3) (hj : j < 3) : Met l yL_areCompared wsL_areCompared rm_k_L_areCompared (wPc G σ μ o [.ref (gA G 0), .int (nI i), .int (nI j)]) (va_Qi (fun (rr : Int32) (u : cS × mS) => rr = nI (1) ∧ u.2 = μ ∧ (fun ns : cS => Sm σ ns) u.1) (fun u t => wI G u.1 u.2 o t) (gP G)) 0 0 (gP G) := by
  refine Met.ofW (cc := cL_areCompared) (maxL := 8) (ret := (some .boolean)) (by decide) rfl ?_
  intro p e s m9 args below meth c s₁ B hml hv
  obtain ⟨hargs, hI⟩ := hv
  have S : CallFix p m9 c cL_areCompared 8 s args wsL_areCompared RL := ⟨B.exec, B.bytes, hml, findClass_of_methodNamed B.named, atoms_spec (ws := wsL_areCompared) B.pre⟩
  have hret := B.returns
  have hlocks := B.notSynchronized
  have Z := wZ_0 hI
  clear hI
  obtain ⟨Q, hQ⟩ : ∃ Q, Q = MQ below (va_Qi (fun (rr : Int32) (u : cS × mS) => rr = nI (1) ∧ u.2 = μ ∧ (fun ns : cS => Sm σ ns) u.1) (fun u t => wI G u.1 u.2 o t) (gP G)) args s 0 0 (gP G) := ⟨_, rfl⟩
  rw [← hQ]
  have hl := lv_entry [.ref (gA G 0), .int (nI i), .int (nI j)] (n := 8) (Nat.le_of_ble_eq_true rfl)
  rw [show entryFrame m9 args 8 = entryFrame m9 ([.ref (gA G 0), .int (nI i), .int (nI j)] : List Value).toArray 8 from by rw [hargs], lg_entry_eq]
  generalize (lg_sl [.ref (gA G 0), .int (nI i), .int (nI j)] ++ List.replicate (8 - (lg_sl [.ref (gA G 0), .int (nI i), .int (nI j)]).length) Slot.unset).toArray = ls at hl ⊢
  have hl : lv_has ls 8 [(0, .ref (gA G 0)), (1, .int (nI i)), (2, .int (nI j))] := hl
  have hlc : lpC σ i j 5 ≤ 31 := lpC_31 5 (Nat.le_refl _)
  refine lv_iconst (v := nI 1) S.1 S.2.1 dL_areCompared_0 (by decide) ?_
  refine lv_istore_n (lv' := [(3, .int (nI 1)), (0, .ref (gA G 0)), (1, .int (nI i)), (2, .int (nI j))]) S.1 S.2.1 dL_areCompared_1 rfl hl (by decide) rfl (fun ls hl => ?_)
  refine lv_iconst (v := nI 0) S.1 S.2.1 dL_areCompared_2 (by decide) ?_
  refine lv_istore (lv' := [(4, .int (nI 0)), (3, .int (nI 1)), (0, .ref (gA G 0)), (1, .int (nI i)), (2, .int (nI j))]) S.1 S.2.1 dL_areCompared_3 hl (by decide) rfl (fun ls hl => ?_)
  refine lv_iconst (v := nI 0) S.1 S.2.1 dL_areCompared_5 (by decide) ?_
  refine lv_istore (lv' := [(5, .int (nI 0)), (4, .int (nI 0)), (3, .int (nI 1)), (0, .ref (gA G 0)), (1, .int (nI i)), (2, .int (nI j))]) S.1 S.2.1 dL_areCompared_6 hl (by decide) rfl (fun ls hl => ?_)
  have L_8 : ∀ (n : Nat) (τ : cS) (lv : Nat) (hs : Sm σ τ) (hlv : lv ≤ 5) (hn : 5 - lv < n) (H : Heap) (locs : List Loc) (Z : wZ G (τ) (μ) o s H locs) (ls : Array Slot) (hl : lv_has ls 8 [(0, .ref (gA G 0)), (1, .int (nI i)), (2, .int (nI j)), (3, .int (lpS σ i j lv)), (4, .int (nI (lpC σ i j lv))), (5, .int (nI lv))]), W p l e (headSpec wsL_areCompared rm_k_L_areCompared).room s m9 args below meth c H locs 0 0 Q (F0 m9 8 ls []) := by
    intro n
    induction n with
    | zero => intro τ lv hs hlv hn; omega
    | succ n ih_8 =>
      intro τ lv hs hlv hn H locs Z ls hl
      refine lv_iload S.1 S.2.1 dL_areCompared_8 (lv_at hl 5 rfl) ?_
      refine lv_iconst (v := nI 5) S.1 S.2.1 dL_areCompared_10 (by decide) ?_
      refine r_icmpN_ge S (tgt := 102) (by omega) (by omega) dL_areCompared_11 (by decide) (fun c_1 => ?_) (fun c_1 => ?_)
      · skip
        obtain rfl : lv = 5 := by omega
        refine lv_aload_n S.1 S.2.1 dL_areCompared_102 rfl (lv_at hl 0 rfl) ?_
        refine lv_iload_n S.1 S.2.1 dL_areCompared_103 rfl (lv_at hl 1 rfl) ?_
        refine lv_iload_n S.1 S.2.1 dL_areCompared_104 rfl (lv_at hl 2 rfl) ?_
        refine vp_callSi (va_runV (As := [.int (nI i), .int (nI j)]) (rest := []) S (kr_areAlike l G τ μ o σ i j hs (by omega) (by omega)) (cwV 2 S.2.2.2.2 gL_areCompared_X7_areAlike rfl rfl rfl ⟨rfl, hy_X7_areAlike⟩ ⟨Nat.le_of_ble_eq_true rfl, Nat.le_of_ble_eq_true rfl⟩) (wPc_V (q := (RX7, TX7, 7)) Z (by decide) rfl rfl) rfl rfl hl.1 rfl (lv_room (Nat.le_of_ble_eq_true rfl)) dL_areCompared_105 ⟨Nat.le_of_ble_eq_true rfl, Nat.le_of_ble_eq_true rfl⟩).run (fun r_2 h_3 => ?_)
        rw [h_3]; clear h_3 r_2
        refine lv_istore (lv' := [(5, .int (bi (alk σ i j))), (0, .ref (gA G 0)), (1, .int (nI i)), (2, .int (nI j)), (3, .int (lpS σ i j 5)), (4, .int (nI (lpC σ i j 5)))]) S.1 S.2.1 dL_areCompared_108 hl (by decide) rfl (fun ls hl => ?_)
        refine lv_aload_n S.1 S.2.1 dL_areCompared_110 rfl (lv_at hl 1 rfl) ?_
        refine lv_iload_n S.1 S.2.1 dL_areCompared_111 rfl (lv_at hl 2 rfl) ?_
        refine lv_iload_n S.1 S.2.1 dL_areCompared_112 rfl (lv_at hl 3 rfl) ?_
        refine va_calli (va_runV (As := [.int (nI i), .int (nI j)]) (rest := []) S (kr_compared l G τ μ o σ i j hs (by omega) (by omega)) (cwV 2 S.2.2.2.2 gL_areCompared_X7_compared rfl rfl rfl ⟨rfl, hy_X7_compared⟩ ⟨Nat.le_of_ble_eq_true rfl, Nat.le_of_ble_eq_true rfl⟩) (wPc_V (q := (RX7, TX7, 7)) Z (by decide) rfl rfl) rfl rfl hl.1 rfl (lv_room (Nat.le_of_ble_eq_true rfl)) dL_areCompared_113 ⟨Nat.le_of_ble_eq_true rfl, Nat.le_of_ble_eq_true rfl⟩) Z.2.2.2.2 (fun _ _ h => h) (fun _ h => h) (fun r_4 u_5 T9 H1 locs1 hT9 hvm hw hB hz hk9 hS => ?_)
        obtain ⟨τ_6, μ9⟩ := u_5
        obtain ⟨hr9, hm9, hp9⟩ := hw
        have hm9 : μ = μ9 := hm9.symm
        subst hm9
        have hp_7 : Sm σ τ_6 := hp9
        clear hp9
        rw [hr9]; clear hr9 r_4
        have Z : wZ G (τ_6) (μ) o s H1 locs1 := wZ_callP Z hB hT9 hS
        clear hB hT9 hS hk9 hz hvm T9
        revert Z; generalize H1 = H; generalize locs1 = locs; intro Z
        refine W.widen (k := 0) (n := 0) (by first | decide | omega) (by first | decide | omega) ?_
        refine lv_iload S.1 S.2.1 dL_areCompared_116 (lv_at hl 5 rfl) ?_
        refine r_icmpN_ne S (tgt := 181) (by omega) (by omega) dL_areCompared_118 (by decide) (fun c_8 => absurd c_8 (by omega)) (fun c_8 => ?_)
        refine lv_aload_n S.1 S.2.1 dL_areCompared_121 rfl (lv_at hl 1 rfl) ?_
        refine lv_iload_n S.1 S.2.1 dL_areCompared_122 rfl (lv_at hl 2 rfl) ?_
        refine lv_iload_n S.1 S.2.1 dL_areCompared_123 rfl (lv_at hl 3 rfl) ?_
        refine va_calli (va_runV (As := [.int (nI i), .int (nI j)]) (rest := []) S (kr_unlike l G τ_6 μ o σ i j hp_7 (by omega) (by omega)) (cwV 2 S.2.2.2.2 gL_areCompared_X7_unlike rfl rfl rfl ⟨rfl, hy_X7_unlike⟩ ⟨Nat.le_of_ble_eq_true rfl, Nat.le_of_ble_eq_true rfl⟩) (wPc_V (q := (RX7, TX7, 7)) Z (by decide) rfl rfl) rfl rfl hl.1 rfl (lv_room (Nat.le_of_ble_eq_true rfl)) dL_areCompared_124 ⟨Nat.le_of_ble_eq_true rfl, Nat.le_of_ble_eq_true rfl⟩) Z.2.2.2.2 (fun _ _ h => h) (fun _ h => h) (fun r_9 u_10 T9 H1 locs1 hT9 hvm hw hB hz hk9 hS => ?_)
        obtain ⟨τ_11, μ9⟩ := u_10
        obtain ⟨hr9, hm9, hp9⟩ := hw
        have hm9 : μ = μ9 := hm9.symm
        subst hm9
        have hp_12 : Sm σ τ_11 := hp9
        clear hp9
        rw [hr9]; clear hr9 r_9
        have Z : wZ G (τ_11) (μ) o s H1 locs1 := wZ_callP Z hB hT9 hS
        clear hB hT9 hS hk9 hz hvm T9
        revert Z; generalize H1 = H; generalize locs1 = locs; intro Z
        refine W.widen (k := 0) (n := 0) (by first | decide | omega) (by first | decide | omega) ?_
        refine lv_iload_n S.1 S.2.1 dL_areCompared_127 rfl (lv_at hl 4 rfl) ?_
        refine lv_icmp_ne (tgt := 181) S.1 S.2.1 dL_areCompared_128 (by decide) (fun c_13 => absurd c_13 (by exact not_not_intro rfl)) (fun c_13 => ?_)
        refine lv_aload_n S.1 S.2.1 dL_areCompared_131 rfl (lv_at hl 1 rfl) ?_
        refine lv_iload_n S.1 S.2.1 dL_areCompared_132 rfl (lv_at hl 3 rfl) ?_
        refine lv_iload_n S.1 S.2.1 dL_areCompared_133 rfl (lv_at hl 2 rfl) ?_
        refine va_calli (va_runV (As := [.int (nI j), .int (nI i)]) (rest := []) S (kr_unlike l G τ_11 μ o σ j i hp_12 (by omega) (by omega)) (cwV 2 S.2.2.2.2 gL_areCompared_X7_unlike rfl rfl rfl ⟨rfl, hy_X7_unlike⟩ ⟨Nat.le_of_ble_eq_true rfl, Nat.le_of_ble_eq_true rfl⟩) (wPc_V (q := (RX7, TX7, 7)) Z (by decide) rfl rfl) rfl rfl hl.1 rfl (lv_room (Nat.le_of_ble_eq_true rfl)) dL_areCompared_134 ⟨Nat.le_of_ble_eq_true rfl, Nat.le_of_ble_eq_true rfl⟩) Z.2.2.2.2 (fun _ _ h => h) (fun _ h => h) (fun r_14 u_15 T9 H1 locs1 hT9 hvm hw hB hz hk9 hS => ?_)
        obtain ⟨τ_16, μ9⟩ := u_15
        obtain ⟨hr9, hm9, hp9⟩ := hw
        have hm9 : μ = μ9 := hm9.symm
        subst hm9
        have hp_17 : Sm σ τ_16 := hp9
        clear hp9
        rw [hr9]; clear hr9 r_14
        have Z : wZ G (τ_16) (μ) o s H1 locs1 := wZ_callP Z hB hT9 hS
        clear hB hT9 hS hk9 hz hvm T9
        revert Z; generalize H1 = H; generalize locs1 = locs; intro Z
        refine W.widen (k := 0) (n := 0) (by first | decide | omega) (by first | decide | omega) ?_
        refine lv_iload_n S.1 S.2.1 dL_areCompared_137 rfl (lv_at hl 4 rfl) ?_
        refine lv_icmp_ne (tgt := 181) S.1 S.2.1 dL_areCompared_138 (by decide) (fun c_18 => absurd c_18 (by exact not_not_intro (lpS_comm σ i j 5))) (fun c_18 => ?_)
        refine lv_aload_n S.1 S.2.1 dL_areCompared_141 rfl (lv_at hl 1 rfl) ?_
        refine lv_iload_n S.1 S.2.1 dL_areCompared_142 rfl (lv_at hl 3 rfl) ?_
        refine lv_iload_n S.1 S.2.1 dL_areCompared_143 rfl (lv_at hl 2 rfl) ?_
        refine vp_callSi (va_runV (As := [.int (nI j), .int (nI i)]) (rest := []) S (kr_areAlike l G τ_16 μ o σ j i hp_17 (by omega) (by omega)) (cwV 2 S.2.2.2.2 gL_areCompared_X7_areAlike rfl rfl rfl ⟨rfl, hy_X7_areAlike⟩ ⟨Nat.le_of_ble_eq_true rfl, Nat.le_of_ble_eq_true rfl⟩) (wPc_V (q := (RX7, TX7, 7)) Z (by decide) rfl rfl) rfl rfl hl.1 rfl (lv_room (Nat.le_of_ble_eq_true rfl)) dL_areCompared_144 ⟨Nat.le_of_ble_eq_true rfl, Nat.le_of_ble_eq_true rfl⟩).run (fun r_19 h_20 => ?_)
        rw [h_20]; clear h_20 r_19
        refine lv_iload S.1 S.2.1 dL_areCompared_147 (lv_at hl 0 rfl) ?_
        refine lv_icmp_ne (tgt := 181) S.1 S.2.1 dL_areCompared_149 (by decide) (fun c_21 => absurd c_21 (by exact not_not_intro (by rw [alk_comm]))) (fun c_21 => ?_)
        refine lv_iload S.1 S.2.1 dL_areCompared_152 (lv_at hl 0 rfl) ?_
        refine r_if_eqB S (tgt := 167) dL_areCompared_154 (by decide) (fun c_22 => ?_) (fun c_22 => ?_)
        · skip
          refine lv_iload_n S.1 S.2.1 dL_areCompared_167 rfl (lv_at hl 2 rfl) ?_
          refine lv_iload_n S.1 S.2.1 dL_areCompared_168 rfl (lv_at hl 3 rfl) ?_
          refine r_icmpN_ne S (tgt := 177) (by omega) (by omega) dL_areCompared_169 (by decide) (fun c_23 => ?_) (fun c_23 => ?_)
          · skip
            refine lv_iconst (v := nI 1) S.1 S.2.1 dL_areCompared_177 (by decide) ?_
            refine lv_goto (tgt := 182) S.1 S.2.1 dL_areCompared_178 (by decide) ?_
            rw [hQ]
            exact W.zret (v := nI 1) S.1 S.2.1 hret rfl (fun _ hT9 hW => ⟨⟨_, (τ_16, μ), rfl, ⟨rfl, rfl, hp_17⟩, wZ_P Z hT9 hW⟩, Z.2.2.2.2.F hT9⟩) Z.2.2.2.2.2.2 dL_areCompared_182
          · skip
            refine lv_iload S.1 S.2.1 dL_areCompared_172 (lv_at hl 0 rfl) ?_
            refine r_if_eqB S (tgt := 181) dL_areCompared_174 (by decide) (fun c_24 => absurd c_24 (by rw [c_23, alk_self]; decide)) (fun c_24 => ?_)
            refine lv_iconst (v := nI 1) S.1 S.2.1 dL_areCompared_177 (by decide) ?_
            refine lv_goto (tgt := 182) S.1 S.2.1 dL_areCompared_178 (by decide) ?_
            rw [hQ]
            exact W.zret (v := nI 1) S.1 S.2.1 hret rfl (fun _ hT9 hW => ⟨⟨_, (τ_16, μ), rfl, ⟨rfl, rfl, hp_17⟩, wZ_P Z hT9 hW⟩, Z.2.2.2.2.F hT9⟩) Z.2.2.2.2.2.2 dL_areCompared_182
        · skip
          refine lv_iload_n S.1 S.2.1 dL_areCompared_157 rfl (lv_at hl 4 rfl) ?_
          refine lv_if_ne (tgt := 181) S.1 S.2.1 dL_areCompared_158 (by decide) (fun c_25 => absurd c_25 (by exact not_not_intro (by rw [(alk_lp c_22).1]; rfl))) (fun c_25 => ?_)
          refine lv_iload S.1 S.2.1 dL_areCompared_161 (lv_at hl 5 rfl) ?_
          refine lv_iconst (v := nI 1) S.1 S.2.1 dL_areCompared_163 (by decide) ?_
          refine r_icmpN_ne S (tgt := 181) (by omega) (by omega) dL_areCompared_164 (by decide) (fun c_26 => absurd c_26 (by have := (alk_lp c_22).2; omega)) (fun c_26 => ?_)
          refine lv_iload_n S.1 S.2.1 dL_areCompared_167 rfl (lv_at hl 2 rfl) ?_
          refine lv_iload_n S.1 S.2.1 dL_areCompared_168 rfl (lv_at hl 3 rfl) ?_
          refine r_icmpN_ne S (tgt := 177) (by omega) (by omega) dL_areCompared_169 (by decide) (fun c_27 => ?_) (fun c_27 => ?_)
          · skip
            refine lv_iconst (v := nI 1) S.1 S.2.1 dL_areCompared_177 (by decide) ?_
            refine lv_goto (tgt := 182) S.1 S.2.1 dL_areCompared_178 (by decide) ?_
            rw [hQ]
            exact W.zret (v := nI 1) S.1 S.2.1 hret rfl (fun _ hT9 hW => ⟨⟨_, (τ_16, μ), rfl, ⟨rfl, rfl, hp_17⟩, wZ_P Z hT9 hW⟩, Z.2.2.2.2.F hT9⟩) Z.2.2.2.2.2.2 dL_areCompared_182
          · skip
            refine lv_iload S.1 S.2.1 dL_areCompared_172 (lv_at hl 0 rfl) ?_
            refine r_if_eqB S (tgt := 181) dL_areCompared_174 (by decide) (fun c_28 => absurd c_28 (by rw [c_27, alk_self]; decide)) (fun c_28 => ?_)
            refine lv_iconst (v := nI 1) S.1 S.2.1 dL_areCompared_177 (by decide) ?_
            refine lv_goto (tgt := 182) S.1 S.2.1 dL_areCompared_178 (by decide) ?_
            rw [hQ]
            exact W.zret (v := nI 1) S.1 S.2.1 hret rfl (fun _ hT9 hW => ⟨⟨_, (τ_16, μ), rfl, ⟨rfl, rfl, hp_17⟩, wZ_P Z hT9 hW⟩, Z.2.2.2.2.F hT9⟩) Z.2.2.2.2.2.2 dL_areCompared_182
      · skip
        refine lv_iconst (v := nI 0) S.1 S.2.1 dL_areCompared_14 (by decide) ?_
        refine lv_istore (lv' := [(6, .int (nI 0)), (0, .ref (gA G 0)), (1, .int (nI i)), (2, .int (nI j)), (3, .int (lpS σ i j lv)), (4, .int (nI (lpC σ i j lv))), (5, .int (nI lv))]) S.1 S.2.1 dL_areCompared_15 hl (by decide) rfl (fun ls hl => ?_)
        refine lv_iconst (v := nI 0) S.1 S.2.1 dL_areCompared_17 (by decide) ?_
        refine lv_istore (lv' := [(7, .int (nI 0)), (6, .int (nI 0)), (0, .ref (gA G 0)), (1, .int (nI i)), (2, .int (nI j)), (3, .int (lpS σ i j lv)), (4, .int (nI (lpC σ i j lv))), (5, .int (nI lv))]) S.1 S.2.1 dL_areCompared_18 hl (by decide) rfl (fun ls hl => ?_)
        have L_20 : ∀ (n : Nat) (τ2 : cS) (nd : Nat) (hs2 : Sm σ τ2) (hnd : nd ≤ 2 ^ lv) (hn : 2 ^ lv - nd < n) (H : Heap) (locs : List Loc) (Z : wZ G (τ2) (μ) o s H locs) (ls : Array Slot) (hl : lv_has ls 8 [(0, .ref (gA G 0)), (1, .int (nI i)), (2, .int (nI j)), (3, .int (lpS σ i j lv)), (4, .int (nI (lpC σ i j lv + lpV (lpS σ i j lv) nd))), (5, .int (nI lv)), (6, .int (lpX σ i j lv (lpS σ i j lv) nd)), (7, .int (nI nd))]), W p l e (headSpec wsL_areCompared rm_k_L_areCompared).room s m9 args below meth c H locs 0 0 Q (F0 m9 20 ls []) := by
          intro n
          induction n with
          | zero => intro τ2 nd hs2 hnd hn; omega
          | succ n ih_20 =>
            intro τ2 nd hs2 hnd hn H locs Z ls hl
            have hp2 := p2 (l := lv) (by omega)
            refine lv_iload S.1 S.2.1 dL_areCompared_20 (lv_at hl 7 rfl) ?_
            refine lv_iconst (v := nI 1) S.1 S.2.1 dL_areCompared_22 (by decide) ?_
            refine lv_iload S.1 S.2.1 dL_areCompared_23 (lv_at hl 5 rfl) ?_
            refine r_shl1 S (by omega) dL_areCompared_25 ?_
            refine r_icmpN_ge S (tgt := 93) (by omega) (by omega) dL_areCompared_26 (by decide) (fun c_29 => ?_) (fun c_29 => ?_)
            · skip
              obtain rfl : nd = 2 ^ lv := by omega
              refine lv_iload S.1 S.2.1 dL_areCompared_93 (lv_at hl 6 rfl) ?_
              refine lv_istore_n (lv' := [(3, .int (lpX σ i j lv (lpS σ i j lv) (2 ^ lv))), (0, .ref (gA G 0)), (1, .int (nI i)), (2, .int (nI j)), (4, .int (nI (lpC σ i j lv + lpV (lpS σ i j lv) (2 ^ lv)))), (5, .int (nI lv)), (6, .int (lpX σ i j lv (lpS σ i j lv) (2 ^ lv))), (7, .int (nI (2 ^ lv)))]) S.1 S.2.1 dL_areCompared_95 rfl hl (by decide) rfl (fun ls hl => ?_)
              refine lv_iinc (v := nI (lv + 1)) (lv' := [(5, .int (nI (lv + 1))), (3, .int (lpX σ i j lv (lpS σ i j lv) (2 ^ lv))), (0, .ref (gA G 0)), (1, .int (nI i)), (2, .int (nI j)), (4, .int (nI (lpC σ i j lv + lpV (lpS σ i j lv) (2 ^ lv)))), (6, .int (lpX σ i j lv (lpS σ i j lv) (2 ^ lv))), (7, .int (nI (2 ^ lv)))]) S.1 S.2.1 dL_areCompared_96 hl (k := 5) rfl (nI_inc rfl) (by decide) rfl (fun ls hl => ?_)
              refine lv_goto (tgt := 8) S.1 S.2.1 dL_areCompared_99 (by decide) ?_
              have q_30 : (lpS σ i j (lv + 1) : Int32) = lpX σ i j lv (lpS σ i j lv) (2 ^ lv) := by rfl
              have q_31 : (nI (lpC σ i j (lv + 1)) : Int32) = nI (lpC σ i j lv + lpV (lpS σ i j lv) (2 ^ lv)) := by rfl
              have hl : lv_has ls 8 [(0, .ref (gA G 0)), (1, .int (nI i)), (2, .int (nI j)), (3, .int (lpS σ i j (lv + 1))), (4, .int (nI (lpC σ i j (lv + 1)))), (5, .int (nI (lv + 1)))] := by
                have hl := lv_sub hl [2, 3, 4, 1, 5, 0] rfl
                rw [q_30, q_31]; exact hl
              exact ih_8 τ2 (lv + 1) hs2 (by first | omega | exact Nat.zero_le _) (by omega) _ _ Z ls (hl)
            · skip
              refine lv_iload_n S.1 S.2.1 dL_areCompared_29 rfl (lv_at hl 3 rfl) ?_
              refine lv_iload S.1 S.2.1 dL_areCompared_30 (lv_at hl 7 rfl) ?_
              refine lv_ishr S.1 S.2.1 dL_areCompared_32 ?_
              refine lv_iconst (v := nI 1) S.1 S.2.1 dL_areCompared_33 (by decide) ?_
              refine lv_iand S.1 S.2.1 dL_areCompared_34 ?_
              rw [bitB_sh (x := lpS σ i j lv) (r := nd) (by omega)]
              refine lv_iconst (v := nI 1) S.1 S.2.1 dL_areCompared_35 (by decide) ?_
              refine r_b1_ne S (tgt := 87) dL_areCompared_36 (by decide) (fun c_32 => ?_) (fun c_32 => ?_)
              · skip
                refine lv_iinc (v := nI (nd + 1)) (lv' := [(7, .int (nI (nd + 1))), (0, .ref (gA G 0)), (1, .int (nI i)), (2, .int (nI j)), (3, .int (lpS σ i j lv)), (4, .int (nI (lpC σ i j lv + lpV (lpS σ i j lv) nd))), (5, .int (nI lv)), (6, .int (lpX σ i j lv (lpS σ i j lv) nd))]) S.1 S.2.1 dL_areCompared_87 hl (k := 7) rfl (nI_inc rfl) (by decide) rfl (fun ls hl => ?_)
                refine lv_goto (tgt := 20) S.1 S.2.1 dL_areCompared_90 (by decide) ?_
                have q_33 : (nI (lpC σ i j lv + lpV (lpS σ i j lv) (nd + 1)) : Int32) = nI (lpC σ i j lv + lpV (lpS σ i j lv) nd) := by exact congrArg nI (lpV_n c_32 _)
                have q_34 : (lpX σ i j lv (lpS σ i j lv) (nd + 1) : Int32) = lpX σ i j lv (lpS σ i j lv) nd := by exact lpX_no c_32
                have hl : lv_has ls 8 [(0, .ref (gA G 0)), (1, .int (nI i)), (2, .int (nI j)), (3, .int (lpS σ i j lv)), (4, .int (nI (lpC σ i j lv + lpV (lpS σ i j lv) (nd + 1)))), (5, .int (nI lv)), (6, .int (lpX σ i j lv (lpS σ i j lv) (nd + 1))), (7, .int (nI (nd + 1)))] := by
                  have hl := lv_sub hl [1, 2, 3, 4, 5, 6, 7, 0] rfl
                  rw [q_33, q_34]; exact hl
                exact ih_20 τ2 (nd + 1) hs2 (by first | omega | exact Nat.zero_le _) (by omega) _ _ Z ls (hl)
              · skip
                refine lv_iinc (v := nI (lpC σ i j lv + lpV (lpS σ i j lv) nd + 1)) (lv' := [(4, .int (nI (lpC σ i j lv + lpV (lpS σ i j lv) nd + 1))), (0, .ref (gA G 0)), (1, .int (nI i)), (2, .int (nI j)), (3, .int (lpS σ i j lv)), (5, .int (nI lv)), (6, .int (lpX σ i j lv (lpS σ i j lv) nd)), (7, .int (nI nd))]) S.1 S.2.1 dL_areCompared_39 hl (k := 4) rfl (nI_inc rfl) (by decide) rfl (fun ls hl => ?_)
                refine lv_aload_n S.1 S.2.1 dL_areCompared_42 rfl (lv_at hl 1 rfl) ?_
                refine lv_iload_n S.1 S.2.1 dL_areCompared_43 rfl (lv_at hl 2 rfl) ?_
                refine lv_iload S.1 S.2.1 dL_areCompared_44 (lv_at hl 5 rfl) ?_
                refine lv_iload S.1 S.2.1 dL_areCompared_46 (lv_at hl 7 rfl) ?_
                refine va_calli (va_runV (As := [.int (nI i), .int (nI lv), .int (nI nd)]) (rest := []) S (kr_sumOf l G τ2 μ o σ i lv nd hs2 (by omega) (by omega) (by omega)) (cwV 3 S.2.2.2.2 gL_areCompared_X7_sumOf rfl rfl rfl ⟨rfl, hy_X7_sumOf⟩ ⟨Nat.le_of_ble_eq_true rfl, Nat.le_of_ble_eq_true rfl⟩) (wPc_V (q := (RX7, TX7, 7)) Z (by decide) rfl rfl) rfl rfl hl.1 rfl (lv_room (Nat.le_of_ble_eq_true rfl)) dL_areCompared_48 ⟨Nat.le_of_ble_eq_true rfl, Nat.le_of_ble_eq_true rfl⟩) Z.2.2.2.2 (fun _ _ h => h) (fun _ h => h) (fun r_35 u_36 T9 H1 locs1 hT9 hvm hw hB hz hk9 hS => ?_)
                obtain ⟨τ_37, μ9⟩ := u_36
                obtain ⟨hr9, hm9, hp9⟩ := hw
                have hm9 : μ = μ9 := hm9.symm
                subst hm9
                have hp_38 : Sm σ τ_37 := hp9
                clear hp9
                rw [hr9]; clear hr9 r_35
                have Z : wZ G (τ_37) (μ) o s H1 locs1 := wZ_callP Z hB hT9 hS
                clear hB hT9 hS hk9 hz hvm T9
                revert Z; generalize H1 = H; generalize locs1 = locs; intro Z
                refine W.widen (k := 0) (n := 0) (by first | decide | omega) (by first | decide | omega) ?_
                refine lv_aload_n S.1 S.2.1 dL_areCompared_51 rfl (lv_at hl 1 rfl) ?_
                refine lv_iload_n S.1 S.2.1 dL_areCompared_52 rfl (lv_at hl 3 rfl) ?_
                refine lv_iload S.1 S.2.1 dL_areCompared_53 (lv_at hl 5 rfl) ?_
                refine lv_iload S.1 S.2.1 dL_areCompared_55 (lv_at hl 7 rfl) ?_
                refine va_calli (va_runV (As := [.int (nI j), .int (nI lv), .int (nI nd)]) (rest := [.int (NS σ i (2 ^ lv + nd))]) S (kr_sumOf l G τ_37 μ o σ j lv nd hp_38 (by omega) (by omega) (by omega)) (cwV 3 S.2.2.2.2 gL_areCompared_X7_sumOf rfl rfl rfl ⟨rfl, hy_X7_sumOf⟩ ⟨Nat.le_of_ble_eq_true rfl, Nat.le_of_ble_eq_true rfl⟩) (wPc_V (q := (RX7, TX7, 7)) Z (by decide) rfl rfl) rfl rfl hl.1 rfl (lv_room (Nat.le_of_ble_eq_true rfl)) dL_areCompared_57 ⟨Nat.le_of_ble_eq_true rfl, Nat.le_of_ble_eq_true rfl⟩) Z.2.2.2.2 (fun _ _ h => h) (fun _ h => h) (fun r_39 u_40 T9 H1 locs1 hT9 hvm hw hB hz hk9 hS => ?_)
                obtain ⟨τ_41, μ9⟩ := u_40
                obtain ⟨hr9, hm9, hp9⟩ := hw
                have hm9 : μ = μ9 := hm9.symm
                subst hm9
                have hp_42 : Sm σ τ_41 := hp9
                clear hp9
                rw [hr9]; clear hr9 r_39
                have Z : wZ G (τ_41) (μ) o s H1 locs1 := wZ_callP Z hB hT9 hS
                clear hB hT9 hS hk9 hz hvm T9
                revert Z; generalize H1 = H; generalize locs1 = locs; intro Z
                refine W.widen (k := 0) (n := 0) (by first | decide | omega) (by first | decide | omega) ?_
                refine lv_icmp_eq (tgt := 87) S.1 S.2.1 dL_areCompared_60 (by decide) (fun c_43 => ?_) (fun c_43 => ?_)
                · skip
                  refine lv_iinc (v := nI (nd + 1)) (lv' := [(7, .int (nI (nd + 1))), (4, .int (nI (lpC σ i j lv + lpV (lpS σ i j lv) nd + 1))), (0, .ref (gA G 0)), (1, .int (nI i)), (2, .int (nI j)), (3, .int (lpS σ i j lv)), (5, .int (nI lv)), (6, .int (lpX σ i j lv (lpS σ i j lv) nd))]) S.1 S.2.1 dL_areCompared_87 hl (k := 7) rfl (nI_inc rfl) (by decide) rfl (fun ls hl => ?_)
                  refine lv_goto (tgt := 20) S.1 S.2.1 dL_areCompared_90 (by decide) ?_
                  have q_44 : (nI (lpC σ i j lv + lpV (lpS σ i j lv) (nd + 1)) : Int32) = nI (lpC σ i j lv + lpV (lpS σ i j lv) nd + 1) := by exact congrArg nI (lpV_y c_32 _)
                  have q_45 : (lpX σ i j lv (lpS σ i j lv) (nd + 1) : Int32) = lpX σ i j lv (lpS σ i j lv) nd := by exact lpX_e c_32 c_43
                  have hl : lv_has ls 8 [(0, .ref (gA G 0)), (1, .int (nI i)), (2, .int (nI j)), (3, .int (lpS σ i j lv)), (4, .int (nI (lpC σ i j lv + lpV (lpS σ i j lv) (nd + 1)))), (5, .int (nI lv)), (6, .int (lpX σ i j lv (lpS σ i j lv) (nd + 1))), (7, .int (nI (nd + 1)))] := by
                    have hl := lv_sub hl [2, 3, 4, 5, 1, 6, 7, 0] rfl
                    rw [q_44, q_45]; exact hl
                  exact ih_20 τ_41 (nd + 1) hp_42 (by first | omega | exact Nat.zero_le _) (by omega) _ _ Z ls (hl)
                · skip
                  refine lv_iload S.1 S.2.1 dL_areCompared_63 (lv_at hl 6 rfl) ?_
                  refine lv_iload S.1 S.2.1 dL_areCompared_65 (lv_at hl 5 rfl) ?_
                  refine lv_iconst (v := nI 4) S.1 S.2.1 dL_areCompared_67 (by decide) ?_
                  refine r_icmpN_ne S (tgt := 78) (by omega) (by omega) dL_areCompared_68 (by decide) (fun c_46 => ?_) (fun c_46 => ?_)
                  · skip
                    refine lv_iconst (v := nI 3) S.1 S.2.1 dL_areCompared_78 (by decide) ?_
                    refine lv_iconst (v := nI 2) S.1 S.2.1 dL_areCompared_79 (by decide) ?_
                    refine lv_iload S.1 S.2.1 dL_areCompared_80 (lv_at hl 7 rfl) ?_
                    refine r_mulN S dL_areCompared_82 ?_
                    refine lv_ishl S.1 S.2.1 dL_areCompared_83 ?_
                    refine lv_ior S.1 S.2.1 dL_areCompared_84 ?_
                    refine lv_istore (lv' := [(6, .int ((lpX σ i j lv (lpS σ i j lv) nd ||| (nI 3 <<< (nI (2 * nd) &&& 31))))), (4, .int (nI (lpC σ i j lv + lpV (lpS σ i j lv) nd + 1))), (0, .ref (gA G 0)), (1, .int (nI i)), (2, .int (nI j)), (3, .int (lpS σ i j lv)), (5, .int (nI lv)), (7, .int (nI nd))]) S.1 S.2.1 dL_areCompared_85 hl (by decide) rfl (fun ls hl => ?_)
                    refine lv_iinc (v := nI (nd + 1)) (lv' := [(7, .int (nI (nd + 1))), (6, .int ((lpX σ i j lv (lpS σ i j lv) nd ||| (nI 3 <<< (nI (2 * nd) &&& 31))))), (4, .int (nI (lpC σ i j lv + lpV (lpS σ i j lv) nd + 1))), (0, .ref (gA G 0)), (1, .int (nI i)), (2, .int (nI j)), (3, .int (lpS σ i j lv)), (5, .int (nI lv))]) S.1 S.2.1 dL_areCompared_87 hl (k := 7) rfl (nI_inc rfl) (by decide) rfl (fun ls hl => ?_)
                    refine lv_goto (tgt := 20) S.1 S.2.1 dL_areCompared_90 (by decide) ?_
                    have q_47 : (nI (lpC σ i j lv + lpV (lpS σ i j lv) (nd + 1)) : Int32) = nI (lpC σ i j lv + lpV (lpS σ i j lv) nd + 1) := by exact congrArg nI (lpV_y c_32 _)
                    have q_48 : (lpX σ i j lv (lpS σ i j lv) (nd + 1) : Int32) = (lpX σ i j lv (lpS σ i j lv) nd ||| (nI 3 <<< (nI (2 * nd) &&& 31))) := by exact lpX_3 c_32 c_43 c_46
                    have hl : lv_has ls 8 [(0, .ref (gA G 0)), (1, .int (nI i)), (2, .int (nI j)), (3, .int (lpS σ i j lv)), (4, .int (nI (lpC σ i j lv + lpV (lpS σ i j lv) (nd + 1)))), (5, .int (nI lv)), (6, .int (lpX σ i j lv (lpS σ i j lv) (nd + 1))), (7, .int (nI (nd + 1)))] := by
                      have hl := lv_sub hl [3, 4, 5, 6, 2, 7, 1, 0] rfl
                      rw [q_47, q_48]; exact hl
                    exact ih_20 τ_41 (nd + 1) hp_42 (by first | omega | exact Nat.zero_le _) (by omega) _ _ Z ls (hl)
                  · skip
                    refine lv_iconst (v := nI 1) S.1 S.2.1 dL_areCompared_71 (by decide) ?_
                    refine lv_iload S.1 S.2.1 dL_areCompared_72 (lv_at hl 7 rfl) ?_
                    refine lv_ishl S.1 S.2.1 dL_areCompared_74 ?_
                    refine lv_goto (tgt := 84) S.1 S.2.1 dL_areCompared_75 (by decide) ?_
                    refine lv_ior S.1 S.2.1 dL_areCompared_84 ?_
                    refine lv_istore (lv' := [(6, .int ((lpX σ i j lv (lpS σ i j lv) nd ||| (nI 1 <<< (nI nd &&& 31))))), (4, .int (nI (lpC σ i j lv + lpV (lpS σ i j lv) nd + 1))), (0, .ref (gA G 0)), (1, .int (nI i)), (2, .int (nI j)), (3, .int (lpS σ i j lv)), (5, .int (nI lv)), (7, .int (nI nd))]) S.1 S.2.1 dL_areCompared_85 hl (by decide) rfl (fun ls hl => ?_)
                    refine lv_iinc (v := nI (nd + 1)) (lv' := [(7, .int (nI (nd + 1))), (6, .int ((lpX σ i j lv (lpS σ i j lv) nd ||| (nI 1 <<< (nI nd &&& 31))))), (4, .int (nI (lpC σ i j lv + lpV (lpS σ i j lv) nd + 1))), (0, .ref (gA G 0)), (1, .int (nI i)), (2, .int (nI j)), (3, .int (lpS σ i j lv)), (5, .int (nI lv))]) S.1 S.2.1 dL_areCompared_87 hl (k := 7) rfl (nI_inc rfl) (by decide) rfl (fun ls hl => ?_)
                    refine lv_goto (tgt := 20) S.1 S.2.1 dL_areCompared_90 (by decide) ?_
                    have q_49 : (nI (lpC σ i j lv + lpV (lpS σ i j lv) (nd + 1)) : Int32) = nI (lpC σ i j lv + lpV (lpS σ i j lv) nd + 1) := by exact congrArg nI (lpV_y c_32 _)
                    have q_50 : (lpX σ i j lv (lpS σ i j lv) (nd + 1) : Int32) = (lpX σ i j lv (lpS σ i j lv) nd ||| (nI 1 <<< (nI nd &&& 31))) := by exact lpX_d4 c_32 c_43 c_46
                    have hl : lv_has ls 8 [(0, .ref (gA G 0)), (1, .int (nI i)), (2, .int (nI j)), (3, .int (lpS σ i j lv)), (4, .int (nI (lpC σ i j lv + lpV (lpS σ i j lv) (nd + 1)))), (5, .int (nI lv)), (6, .int (lpX σ i j lv (lpS σ i j lv) (nd + 1))), (7, .int (nI (nd + 1)))] := by
                      have hl := lv_sub hl [3, 4, 5, 6, 2, 7, 1, 0] rfl
                      rw [q_49, q_50]; exact hl
                    exact ih_20 τ_41 (nd + 1) hp_42 (by first | omega | exact Nat.zero_le _) (by omega) _ _ Z ls (hl)
        have q_51 : (nI (lpC σ i j lv + lpV (lpS σ i j lv) 0) : Int32) = nI (lpC σ i j lv) := by rfl
        have q_52 : (lpX σ i j lv (lpS σ i j lv) 0 : Int32) = nI 0 := by rfl
        have hl : lv_has ls 8 [(0, .ref (gA G 0)), (1, .int (nI i)), (2, .int (nI j)), (3, .int (lpS σ i j lv)), (4, .int (nI (lpC σ i j lv + lpV (lpS σ i j lv) 0))), (5, .int (nI lv)), (6, .int (lpX σ i j lv (lpS σ i j lv) 0)), (7, .int (nI 0))] := by
          have hl := lv_sub hl [2, 3, 4, 5, 6, 7, 1, 0] rfl
          rw [q_51, q_52]; exact hl
        exact L_20 (2 ^ lv - 0 + 1) τ 0 hs (by first | omega | exact Nat.zero_le _) (Nat.lt_succ_self _) _ _ Z ls (hl)
  have q_53 : (lpS σ i j 0 : Int32) = nI 1 := by rfl
  have q_54 : (nI (lpC σ i j 0) : Int32) = nI 0 := by rfl
  have hl : lv_has ls 8 [(0, .ref (gA G 0)), (1, .int (nI i)), (2, .int (nI j)), (3, .int (lpS σ i j 0)), (4, .int (nI (lpC σ i j 0))), (5, .int (nI 0))] := by
    have hl := lv_sub hl [3, 4, 5, 2, 1, 0] rfl
    rw [q_53, q_54]; exact hl
  exact L_8 (5 - 0 + 1) σ 0 Sm_rf (by first | omega | exact Nat.zero_le _) (Nat.lt_succ_self _) _ _ Z ls (hl)

abbrev rm_k_L_isIdeal : Room := { frames := 6, cells := 0, slots := 0, locals := 142 }
set_option maxHeartbeats 4000000 in
set_option maxRecDepth 100000 in
theorem k_L_isIdeal (l : Launch) (G : wG) (σ : cS) (ca : Nat) (m : Nat → Nat) (w : va_W) (o : Nat → Int64)  (hLI : LI G σ m) (h71 : m 7 = 1) : Met l yL_isIdeal wsL_isIdeal rm_k_L_isIdeal (wPc G σ ((ca, cA G m) :: w) o [.ref (gA G 0), .ref (ca)]) (vp_Si (fun rr => rr = nI (1))) 0 0 (fun _ => False) := by
  refine Met.ofW (cc := cL_isIdeal) (maxL := 5) (ret := (some .boolean)) (by decide) rfl ?_
  intro p e s m9 args below meth c s₁ B hml hv
  obtain ⟨hargs, hI⟩ := hv
  have S : CallFix p m9 c cL_isIdeal 5 s args wsL_isIdeal RL := ⟨B.exec, B.bytes, hml, findClass_of_methodNamed B.named, atoms_spec (ws := wsL_isIdeal) B.pre⟩
  have hret := B.returns
  have hlocks := B.notSynchronized
  have Z := wZ_0 hI
  clear hI
  obtain ⟨Q, hQ⟩ : ∃ Q, Q = MQ below (vp_Si (fun rr => rr = nI (1))) args s 0 0 (fun _ => False) := ⟨_, rfl⟩
  rw [← hQ]
  have hl := lv_entry [.ref (gA G 0), .ref (ca)] (n := 5) (Nat.le_of_ble_eq_true rfl)
  rw [show entryFrame m9 args 5 = entryFrame m9 ([.ref (gA G 0), .ref (ca)] : List Value).toArray 5 from by rw [hargs], lg_entry_eq]
  generalize (lg_sl [.ref (gA G 0), .ref (ca)] ++ List.replicate (5 - (lg_sl [.ref (gA G 0), .ref (ca)]).length) Slot.unset).toArray = ls at hl ⊢
  have hl : lv_has ls 5 [(0, .ref (gA G 0)), (1, .ref (ca))] := hl
  obtain ⟨L, nn, hK, h0, h1, h1b, h2, h5, h5b, h7, h7b, h8, h8b⟩ := hLI
  have hJ := (h7b h71).2
  have g0 : m 2 = (L 0).length := h2 0 (by decide)
  have g1 : m 3 = (L 1).length := h2 1 (by decide)
  have g2 : m 4 = (L 2).length := h2 2 (by decide)
  have b0 : (L 0).length ≤ 10 := (hK.1.1 0 (by decide)).1
  have b1 : (L 1).length ≤ 10 := (hK.1.1 1 (by decide)).1
  have b2 : (L 2).length ≤ 10 := (hK.1.1 2 (by decide)).1
  refine lv_iconst (v := nI 1) S.1 S.2.1 dL_isIdeal_0 (by decide) ?_
  refine lv_istore_n (lv' := [(2, .int (nI 1)), (0, .ref (gA G 0)), (1, .ref (ca))]) S.1 S.2.1 dL_isIdeal_1 rfl hl (by decide) rfl (fun ls hl => ?_)
  refine lv_iconst (v := nI 0) S.1 S.2.1 dL_isIdeal_2 (by decide) ?_
  refine lv_istore_n (lv' := [(3, .int (nI 0)), (2, .int (nI 1)), (0, .ref (gA G 0)), (1, .ref (ca))]) S.1 S.2.1 dL_isIdeal_3 rfl hl (by decide) rfl (fun ls hl => ?_)
  have L_4 : ∀ (n : Nat) (i : Nat) (hi : i ≤ 3) (hn : 3 - i < n) (ls : Array Slot) (hl : lv_has ls 5 [(0, .ref (gA G 0)), (1, .ref (ca)), (2, .int (nI 1)), (3, .int (nI i))]), W p l e (headSpec wsL_isIdeal rm_k_L_isIdeal).room s m9 args below meth c s.heap [] 0 0 Q (F0 m9 4 ls []) := by
    intro n
    induction n with
    | zero => intro i hi hn; omega
    | succ n ih_4 =>
      intro i hi hn ls hl
      refine lv_iload_n S.1 S.2.1 dL_isIdeal_4 rfl (lv_at hl 3 rfl) ?_
      refine lv_iconst (v := nI 3) S.1 S.2.1 dL_isIdeal_5 (by decide) ?_
      refine r_icmpN_ge S (tgt := 81) (by omega) (by omega) dL_isIdeal_6 (by decide) (fun c_1 => ?_) (fun c_1 => ?_)
      · skip
        obtain rfl : i = 3 := by omega
        refine lv_iload_n S.1 S.2.1 dL_isIdeal_81 rfl (lv_at hl 2 rfl) ?_
        refine r_if_eqN S (tgt := 121) (by decide) dL_isIdeal_82 (by decide) (fun c_2 => absurd c_2 (by decide)) (fun c_2 => ?_)
        refine lv_aload_n S.1 S.2.1 dL_isIdeal_85 rfl (lv_at hl 1 rfl) ?_
        refine lv_iconst (v := nI 2) S.1 S.2.1 dL_isIdeal_86 (by decide) ?_
        refine r_ldc S Z (by omega) dL_isIdeal_87 ?_
        refine lv_aload_n S.1 S.2.1 dL_isIdeal_88 rfl (lv_at hl 1 rfl) ?_
        refine lv_iconst (v := nI 3) S.1 S.2.1 dL_isIdeal_89 (by decide) ?_
        refine r_ldc S Z (by omega) dL_isIdeal_90 ?_
        refine r_addN S dL_isIdeal_91 ?_
        refine lv_aload_n S.1 S.2.1 dL_isIdeal_92 rfl (lv_at hl 1 rfl) ?_
        refine lv_iconst (v := nI 4) S.1 S.2.1 dL_isIdeal_93 (by decide) ?_
        refine r_ldc S Z (by omega) dL_isIdeal_94 ?_
        refine r_addN S dL_isIdeal_95 ?_
        refine lv_if_gt (tgt := 117) S.1 S.2.1 dL_isIdeal_96 (by decide) (fun c_3 => ?_) (fun c_3 => ?_)
        · skip
          refine lv_iconst (v := nI 1) S.1 S.2.1 dL_isIdeal_117 (by decide) ?_
          refine lv_goto (tgt := 122) S.1 S.2.1 dL_isIdeal_118 (by decide) ?_
          rw [hQ]
          exact W.zret (v := nI 1) S.1 S.2.1 hret rfl (fun _ hT9 _ => ⟨_, rfl, rfl, hT9⟩) (fun _ h => nomatch h) dL_isIdeal_122
        · skip
          have e3 := nI_z (by omega) c_3
          refine lv_aload_n S.1 S.2.1 dL_isIdeal_99 rfl (lv_at hl 0 rfl) ?_
          refine lv_iconst (v := nI 0) S.1 S.2.1 dL_isIdeal_100 (by decide) ?_
          refine lv_iconst (v := nI 1) S.1 S.2.1 dL_isIdeal_101 (by decide) ?_
          refine vp_callSi (va_runV (As := [.int (nI 0), .int (nI 1)]) (rest := []) S (kr_areAlike l G σ ((ca, cA G m) :: w) o σ 0 1 Sm_rf (by omega) (by omega)) (cwV 2 S.2.2.2.2 gL_isIdeal_X7_areAlike rfl rfl rfl ⟨rfl, hy_X7_areAlike⟩ ⟨Nat.le_of_ble_eq_true rfl, Nat.le_of_ble_eq_true rfl⟩) (wPc_V (q := (RX7, TX7, 7)) Z (by decide) rfl rfl) rfl rfl hl.1 rfl (lv_room (Nat.le_of_ble_eq_true rfl)) dL_isIdeal_102 ⟨Nat.le_of_ble_eq_true rfl, Nat.le_of_ble_eq_true rfl⟩).run (fun r_4 h_5 => ?_)
          rw [h_5]; clear h_5 r_4
          refine r_if_eqB S (tgt := 121) dL_isIdeal_105 (by decide) (fun c_6 => absurd c_6 (by rw [Jp_alk hJ (by decide) (by decide) (by omega) (by omega)]; decide)) (fun c_6 => ?_)
          refine lv_aload_n S.1 S.2.1 dL_isIdeal_108 rfl (lv_at hl 0 rfl) ?_
          refine lv_iconst (v := nI 1) S.1 S.2.1 dL_isIdeal_109 (by decide) ?_
          refine lv_iconst (v := nI 2) S.1 S.2.1 dL_isIdeal_110 (by decide) ?_
          refine vp_callSi (va_runV (As := [.int (nI 1), .int (nI 2)]) (rest := []) S (kr_areAlike l G σ ((ca, cA G m) :: w) o σ 1 2 Sm_rf (by omega) (by omega)) (cwV 2 S.2.2.2.2 gL_isIdeal_X7_areAlike rfl rfl rfl ⟨rfl, hy_X7_areAlike⟩ ⟨Nat.le_of_ble_eq_true rfl, Nat.le_of_ble_eq_true rfl⟩) (wPc_V (q := (RX7, TX7, 7)) Z (by decide) rfl rfl) rfl rfl hl.1 rfl (lv_room (Nat.le_of_ble_eq_true rfl)) dL_isIdeal_111 ⟨Nat.le_of_ble_eq_true rfl, Nat.le_of_ble_eq_true rfl⟩).run (fun r_7 h_8 => ?_)
          rw [h_8]; clear h_8 r_7
          refine r_if_eqB S (tgt := 121) dL_isIdeal_114 (by decide) (fun c_9 => absurd c_9 (by rw [Jp_alk hJ (by decide) (by decide) (by omega) (by omega)]; decide)) (fun c_9 => ?_)
          refine lv_iconst (v := nI 1) S.1 S.2.1 dL_isIdeal_117 (by decide) ?_
          refine lv_goto (tgt := 122) S.1 S.2.1 dL_isIdeal_118 (by decide) ?_
          rw [hQ]
          exact W.zret (v := nI 1) S.1 S.2.1 hret rfl (fun _ hT9 _ => ⟨_, rfl, rfl, hT9⟩) (fun _ h => nomatch h) dL_isIdeal_122
      · skip
        refine lv_iload_n S.1 S.2.1 dL_isIdeal_9 rfl (lv_at hl 2 rfl) ?_
        refine r_if_eqN S (tgt := 81) (by decide) dL_isIdeal_10 (by decide) (fun c_10 => absurd c_10 (by decide)) (fun c_10 => ?_)
        refine lv_iconst (v := nI 0) S.1 S.2.1 dL_isIdeal_13 (by decide) ?_
        refine lv_istore (lv' := [(4, .int (nI 0)), (0, .ref (gA G 0)), (1, .ref (ca)), (2, .int (nI 1)), (3, .int (nI i))]) S.1 S.2.1 dL_isIdeal_14 hl (by decide) rfl (fun ls hl => ?_)
        have L_16 : ∀ (n : Nat) (k : Nat) (hk : k ≤ 64) (hn : 64 - k < n) (ls : Array Slot) (hl : lv_has ls 5 [(0, .ref (gA G 0)), (1, .ref (ca)), (2, .int (nI 1)), (3, .int (nI i)), (4, .int (nI k))]), W p l e (headSpec wsL_isIdeal rm_k_L_isIdeal).room s m9 args below meth c s.heap [] 0 0 Q (F0 m9 16 ls []) := by
          intro n
          induction n with
          | zero => intro k hk hn; omega
          | succ n ih_16 =>
            intro k hk hn ls hl
            refine lv_iload S.1 S.2.1 dL_isIdeal_16 (lv_at hl 4 rfl) ?_
            refine lv_bipush (v := nI 64) S.1 S.2.1 dL_isIdeal_18 (by decide) ?_
            refine r_icmpN_ge S (tgt := 75) (by omega) (by omega) dL_isIdeal_20 (by decide) (fun c_11 => ?_) (fun c_11 => ?_)
            · skip
              refine lv_iinc (v := nI (i + 1)) (lv' := [(3, .int (nI (i + 1))), (0, .ref (gA G 0)), (1, .ref (ca)), (2, .int (nI 1)), (4, .int (nI k))]) S.1 S.2.1 dL_isIdeal_75 hl (k := 3) rfl (nI_inc rfl) (by decide) rfl (fun ls hl => ?_)
              refine lv_goto (tgt := 4) S.1 S.2.1 dL_isIdeal_78 (by decide) ?_
              exact ih_4 (i + 1) (by first | omega | exact Nat.zero_le _) (by omega) ls (lv_sub hl [1, 2, 3, 0] rfl)
            · skip
              refine lv_iload_n S.1 S.2.1 dL_isIdeal_23 rfl (lv_at hl 2 rfl) ?_
              refine r_if_eqN S (tgt := 75) (by decide) dL_isIdeal_24 (by decide) (fun c_12 => absurd c_12 (by decide)) (fun c_12 => ?_)
              have hm2 : m (2 + i) ≤ 10 := by rw [h2 i (by omega)]; exact (hK.1.1 i (by omega)).1
              refine lv_aload_n S.1 S.2.1 dL_isIdeal_27 rfl (lv_at hl 1 rfl) ?_
              refine lv_iconst (v := nI 2) S.1 S.2.1 dL_isIdeal_28 (by decide) ?_
              refine lv_iload_n S.1 S.2.1 dL_isIdeal_29 rfl (lv_at hl 3 rfl) ?_
              refine r_addN S dL_isIdeal_30 ?_
              refine r_ldc S Z (by omega) dL_isIdeal_31 ?_
              refine r_if_neN S (tgt := 75) (by omega) dL_isIdeal_32 (by decide) (fun c_13 => ?_) (fun c_13 => ?_)
              · skip
                refine lv_iinc (v := nI (i + 1)) (lv' := [(3, .int (nI (i + 1))), (0, .ref (gA G 0)), (1, .ref (ca)), (2, .int (nI 1)), (4, .int (nI k))]) S.1 S.2.1 dL_isIdeal_75 hl (k := 3) rfl (nI_inc rfl) (by decide) rfl (fun ls hl => ?_)
                refine lv_goto (tgt := 4) S.1 S.2.1 dL_isIdeal_78 (by decide) ?_
                exact ih_4 (i + 1) (by first | omega | exact Nat.zero_le _) (by omega) ls (lv_sub hl [1, 2, 3, 0] rfl)
              · skip
                have kk4 : k / 4 * 4 + k % 4 = k := by omega
                refine lv_aload_n S.1 S.2.1 dL_isIdeal_35 rfl (lv_at hl 0 rfl) ?_
                refine lv_iload_n S.1 S.2.1 dL_isIdeal_36 rfl (lv_at hl 3 rfl) ?_
                refine lv_iload S.1 S.2.1 dL_isIdeal_37 (lv_at hl 4 rfl) ?_
                refine lv_iconst (v := nI 4) S.1 S.2.1 dL_isIdeal_39 (by decide) ?_
                refine r_divN S (by omega) (by decide) (by decide) dL_isIdeal_40 ?_
                refine lv_iload S.1 S.2.1 dL_isIdeal_41 (lv_at hl 4 rfl) ?_
                refine lv_iconst (v := nI 4) S.1 S.2.1 dL_isIdeal_43 (by decide) ?_
                refine r_remN S (by omega) (by decide) (by decide) dL_isIdeal_44 ?_
                refine vp_callSi (va_runV (As := [.int (nI i), .int (nI (k / 4)), .int (nI (k % 4))]) (rest := []) S (kr_valueAt l G σ ((ca, cA G m) :: w) o σ i (k / 4) (k % 4) Sm_rf (by omega) (by omega) (by omega)) (cwV 3 S.2.2.2.2 gL_isIdeal_X7_valueAt rfl rfl rfl ⟨rfl, hy_X7_valueAt⟩ ⟨Nat.le_of_ble_eq_true rfl, Nat.le_of_ble_eq_true rfl⟩) (wPc_V (q := (RX7, TX7, 7)) Z (by decide) rfl rfl) rfl rfl hl.1 rfl (lv_room (Nat.le_of_ble_eq_true rfl)) dL_isIdeal_45 ⟨Nat.le_of_ble_eq_true rfl, Nat.le_of_ble_eq_true rfl⟩).run (fun r_14 h_15 => ?_)
                rw [h_15]; clear h_15 r_14
                refine lv_aload_n S.1 S.2.1 dL_isIdeal_48 rfl (lv_at hl 0 rfl) ?_
                refine lv_iload S.1 S.2.1 dL_isIdeal_49 (lv_at hl 4 rfl) ?_
                refine lv_iconst (v := nI 4) S.1 S.2.1 dL_isIdeal_51 (by decide) ?_
                refine r_divN S (by omega) (by decide) (by decide) dL_isIdeal_52 ?_
                refine lv_iload S.1 S.2.1 dL_isIdeal_53 (lv_at hl 4 rfl) ?_
                refine lv_iconst (v := nI 4) S.1 S.2.1 dL_isIdeal_55 (by decide) ?_
                refine r_remN S (by omega) (by decide) (by decide) dL_isIdeal_56 ?_
                refine vp_callSi (va_runV (As := [.int (nI (k / 4)), .int (nI (k % 4))]) (rest := [.int (visV σ i (k / 4) (k % 4) (cV σ 4))]) S (kr_ideal l G σ ((ca, cA G m) :: w) o σ (k / 4) (k % 4) Sm_rf (by omega) (by omega)) (cwV 2 S.2.2.2.2 gL_isIdeal_X7_ideal rfl rfl rfl ⟨rfl, hy_X7_ideal⟩ ⟨Nat.le_of_ble_eq_true rfl, Nat.le_of_ble_eq_true rfl⟩) (wPc_V (q := (RX7, TX7, 7)) Z (by decide) rfl rfl) rfl rfl hl.1 rfl (lv_room (Nat.le_of_ble_eq_true rfl)) dL_isIdeal_57 ⟨Nat.le_of_ble_eq_true rfl, Nat.le_of_ble_eq_true rfl⟩).run (fun r_16 h_17 => ?_)
                rw [h_17]; clear h_17 r_16
                refine lv_icmp_ne (tgt := 67) S.1 S.2.1 dL_isIdeal_60 (by decide) (fun c_18 => absurd c_18 (by exact not_not_intro (Jp_vis hJ (by omega) (by rw [← h2 i (by omega)]; exact c_13) (by omega) (by omega)))) (fun c_18 => ?_)
                refine lv_iconst (v := nI 1) S.1 S.2.1 dL_isIdeal_63 (by decide) ?_
                refine lv_goto (tgt := 68) S.1 S.2.1 dL_isIdeal_64 (by decide) ?_
                refine lv_istore_n (lv' := [(2, .int (nI 1)), (0, .ref (gA G 0)), (1, .ref (ca)), (3, .int (nI i)), (4, .int (nI k))]) S.1 S.2.1 dL_isIdeal_68 rfl hl (by decide) rfl (fun ls hl => ?_)
                refine lv_iinc (v := nI (k + 1)) (lv' := [(4, .int (nI (k + 1))), (2, .int (nI 1)), (0, .ref (gA G 0)), (1, .ref (ca)), (3, .int (nI i))]) S.1 S.2.1 dL_isIdeal_69 hl (k := 4) rfl (nI_inc rfl) (by decide) rfl (fun ls hl => ?_)
                refine lv_goto (tgt := 16) S.1 S.2.1 dL_isIdeal_72 (by decide) ?_
                exact ih_16 (k + 1) (by first | omega | exact Nat.zero_le _) (by omega) ls (lv_sub hl [2, 3, 1, 4, 0] rfl)
        exact L_16 (64 - 0 + 1) 0 (by first | omega | exact Nat.zero_le _) (Nat.lt_succ_self _) ls (lv_sub hl [1, 2, 3, 4, 0] rfl)
  exact L_4 (3 - 0 + 1) 0 (by first | omega | exact Nat.zero_le _) (Nat.lt_succ_self _) ls (lv_sub hl [2, 3, 1, 0] rfl)

abbrev rm_k_L_hints : Room := { frames := 0, cells := 0, slots := 0, locals := 0 }
set_option maxHeartbeats 4000000 in
set_option maxRecDepth 100000 in
theorem k_L_hints (l : Launch) (G : wG) (σ : cS) (ca : Nat) (m : Nat → Nat) (w : va_W) (o : Nat → Int64) (cs : Nat) (hcs : cs < 8) (hlen : ∀ i, i < 3 → m (2 + i) ≤ 10) (h6 : m 6 ≤ 1000000) (h7 : m 7 ≤ 1) : Met l yL_hints wsL_hints rm_k_L_hints (wPc G σ ((ca, cA G m) :: w) o [.ref (ca), .int (nI cs)]) (va_Qv (fun u : cS × mS => u.1 = σ ∧ ∃ m1, u.2 = (ca, cA G m1) :: w ∧ HN m m1 cs 3) (fun u t => wI G u.1 u.2 o t) (gP G)) 0 0 (gP G) := by
  refine Met.ofW (cc := cL_hints) (maxL := 4) (ret := none) (by decide) rfl ?_
  intro p e s m9 args below meth c s₁ B hml hv
  obtain ⟨hargs, hI⟩ := hv
  have S : CallFix p m9 c cL_hints 4 s args wsL_hints RL := ⟨B.exec, B.bytes, hml, findClass_of_methodNamed B.named, atoms_spec (ws := wsL_hints) B.pre⟩
  have hret := B.returns
  have hlocks := B.notSynchronized
  have Z := wZ_0 hI
  clear hI
  obtain ⟨Q, hQ⟩ : ∃ Q, Q = MQ below (va_Qv (fun u : cS × mS => u.1 = σ ∧ ∃ m1, u.2 = (ca, cA G m1) :: w ∧ HN m m1 cs 3) (fun u t => wI G u.1 u.2 o t) (gP G)) args s 0 0 (gP G) := ⟨_, rfl⟩
  rw [← hQ]
  have hl := lv_entry [.ref (ca), .int (nI cs)] (n := 4) (Nat.le_of_ble_eq_true rfl)
  rw [show entryFrame m9 args 4 = entryFrame m9 ([.ref (ca), .int (nI cs)] : List Value).toArray 4 from by rw [hargs], lg_entry_eq]
  generalize (lg_sl [.ref (ca), .int (nI cs)] ++ List.replicate (4 - (lg_sl [.ref (ca), .int (nI cs)]).length) Slot.unset).toArray = ls at hl ⊢
  have hl : lv_has ls 4 [(0, .ref (ca)), (1, .int (nI cs))] := hl
  refine lv_iconst (v := nI 0) S.1 S.2.1 dL_hints_0 (by decide) ?_
  refine lv_istore_n (lv' := [(2, .int (nI 0)), (0, .ref (ca)), (1, .int (nI cs))]) S.1 S.2.1 dL_hints_1 rfl hl (by decide) rfl (fun ls hl => ?_)
  have L_2 : ∀ (n : Nat) (m1 : Nat → Nat) (i : Nat) (hN : HN m m1 cs i) (hi : i ≤ 3) (hn : 3 - i < n) (H : Heap) (locs : List Loc) (Z : wZ G (σ) ((ca, cA G m1) :: w) o s H locs) (ls : Array Slot) (hl : lv_has ls 4 [(0, .ref (ca)), (1, .int (nI cs)), (2, .int (nI i))]), W p l e (headSpec wsL_hints rm_k_L_hints).room s m9 args below meth c H locs 0 0 Q (F0 m9 2 ls []) := by
    intro n
    induction n with
    | zero => intro m1 i hN hi hn; omega
    | succ n ih_2 =>
      intro m1 i hN hi hn H locs Z ls hl
      refine lv_iload_n S.1 S.2.1 dL_hints_2 rfl (lv_at hl 2 rfl) ?_
      refine lv_iconst (v := nI 3) S.1 S.2.1 dL_hints_3 (by decide) ?_
      refine r_icmpN_ge S (tgt := 110) (by omega) (by omega) dL_hints_4 (by decide) (fun c_1 => ?_) (fun c_1 => ?_)
      · skip
        obtain rfl : i = 3 := by omega
        rw [hQ]
        exact W.vret S.1 S.2.1 hret (fun _ hT9 hW => ⟨⟨(σ, (ca, cA G m1) :: w), rfl, ⟨rfl, _, rfl, hN⟩, wZ_P Z hT9 hW⟩, Z.2.2.2.2.F hT9⟩) Z.2.2.2.2.2.2 dL_hints_110
      · skip
        have e2 : m1 (2 + i) = m (2 + i) := (hN.2.2.2.2.1 i (by omega)).2 (fun z => absurd z.1 (Nat.lt_irrefl _))
        have hl2 := hlen i (by omega)
        have h61 := hN.2.2.2.2.2.2.1
        have h71 := hN.2.2.2.2.2.2.2.2.1
        refine lv_iload_n S.1 S.2.1 dL_hints_7 rfl (lv_at hl 1 rfl) ?_
        refine lv_iload_n S.1 S.2.1 dL_hints_8 rfl (lv_at hl 2 rfl) ?_
        refine lv_ishr S.1 S.2.1 dL_hints_9 ?_
        refine lv_iconst (v := nI 1) S.1 S.2.1 dL_hints_10 (by decide) ?_
        refine lv_iand S.1 S.2.1 dL_hints_11 ?_
        rw [bitB_sh (x := nI cs) (r := i) (by omega)]
        refine lv_iconst (v := nI 1) S.1 S.2.1 dL_hints_12 (by decide) ?_
        refine r_b1_ne S (tgt := 30) dL_hints_13 (by decide) (fun c_2 => ?_) (fun c_2 => ?_)
        · skip
          refine lv_iconst (v := nI 0) S.1 S.2.1 dL_hints_30 (by decide) ?_
          refine lv_istore_n (lv' := [(3, .int (nI 0)), (0, .ref (ca)), (1, .int (nI cs)), (2, .int (nI i))]) S.1 S.2.1 dL_hints_31 rfl hl (by decide) rfl (fun ls hl => ?_)
          refine lv_aload_n S.1 S.2.1 dL_hints_32 rfl (lv_at hl 1 rfl) ?_
          refine lv_bipush (v := nI 6) S.1 S.2.1 dL_hints_33 (by decide) ?_
          refine lv_dup2_11 S.1 S.2.1 dL_hints_35 rfl rfl ?_
          refine r_ldc S Z (by omega) dL_hints_36 ?_
          refine lv_iload_n S.1 S.2.1 dL_hints_37 rfl (lv_at hl 0 rfl) ?_
          refine r_if_eqN S (tgt := 55) (by decide) dL_hints_38 (by decide) (fun c_3 => ?_) (fun c_3 => absurd c_3 (by decide))
          refine lv_iconst (v := nI 0) S.1 S.2.1 dL_hints_55 (by decide) ?_
          refine r_addN S dL_hints_56 ?_
          refine r_stc S Z (by omega) dL_hints_57 (fun H locs Z => ?_)
          refine lv_aload_n S.1 S.2.1 dL_hints_58 rfl (lv_at hl 1 rfl) ?_
          refine lv_bipush (v := nI 7) S.1 S.2.1 dL_hints_59 (by decide) ?_
          refine lv_aload_n S.1 S.2.1 dL_hints_61 rfl (lv_at hl 1 rfl) ?_
          refine lv_bipush (v := nI 6) S.1 S.2.1 dL_hints_62 (by decide) ?_
          refine r_ldc S Z (by omega) dL_hints_64 ?_
          refine lv_if_le (tgt := 72) S.1 S.2.1 dL_hints_65 (by decide) (fun c_4 => ?_) (fun c_4 => ?_)
          · skip
            refine lv_aload_n S.1 S.2.1 dL_hints_72 rfl (lv_at hl 1 rfl) ?_
            refine lv_bipush (v := nI 7) S.1 S.2.1 dL_hints_73 (by decide) ?_
            refine r_ldc S Z (by omega) dL_hints_75 ?_
            refine r_stc S Z (by omega) dL_hints_76 (fun H locs Z => ?_)
            refine lv_aload_n S.1 S.2.1 dL_hints_77 rfl (lv_at hl 1 rfl) ?_
            refine lv_iconst (v := nI 2) S.1 S.2.1 dL_hints_78 (by decide) ?_
            refine lv_iload_n S.1 S.2.1 dL_hints_79 rfl (lv_at hl 3 rfl) ?_
            refine r_addN S dL_hints_80 ?_
            refine lv_dup2_11 S.1 S.2.1 dL_hints_81 rfl rfl ?_
            refine r_ldc S Z (by omega) dL_hints_82 ?_
            rw [show va_up (va_up m1 6 ((m1 6) + 0)) 7 (va_up m1 6 ((m1 6) + 0) 7) (2 + i) = m (2 + i) from by rw [va_up_ne _ _ (by omega), va_up_ne _ _ (by omega)]; exact e2]
            refine lv_iload_n S.1 S.2.1 dL_hints_83 rfl (lv_at hl 0 rfl) ?_
            refine r_if_eqN S (tgt := 101) (by decide) dL_hints_84 (by decide) (fun c_5 => ?_) (fun c_5 => absurd c_5 (by decide))
            refine lv_iconst (v := nI 0) S.1 S.2.1 dL_hints_101 (by decide) ?_
            refine r_addN S dL_hints_102 ?_
            refine r_stc S Z (by omega) dL_hints_103 (fun H locs Z => ?_)
            refine lv_iinc (v := nI (i + 1)) (lv' := [(2, .int (nI (i + 1))), (3, .int (nI 0)), (0, .ref (ca)), (1, .int (nI cs))]) S.1 S.2.1 dL_hints_104 hl (k := 3) rfl (nI_inc rfl) (by decide) rfl (fun ls hl => ?_)
            refine lv_goto (tgt := 2) S.1 S.2.1 dL_hints_107 (by decide) ?_
            exact ih_2 (va_up (va_up (va_up m1 6 ((m1 6) + 0)) 7 (va_up m1 6 ((m1 6) + 0) 7)) (2 + i) ((m (2 + i)) + 0)) (i + 1) (HN_s hN (by omega) (hlen i (by omega)) (Or.inl ⟨rfl, (fun z => absurd (z.1.1.symm.trans c_2) (by decide))⟩) (Or.inr ⟨nI_z (by omega) (by rw [← i_le_lt]; exact c_4), va_up_ne _ _ (by decide)⟩) (Or.inr ⟨rfl, (fun z => absurd (z.1.1.symm.trans c_2) (by decide))⟩)) (by first | omega | exact Nat.zero_le _) (by omega) _ _ Z ls (lv_sub hl [2, 3, 0] rfl)
          · skip
            refine lv_iconst (v := nI 0) S.1 S.2.1 dL_hints_68 (by decide) ?_
            refine lv_goto (tgt := 76) S.1 S.2.1 dL_hints_69 (by decide) ?_
            refine r_stc S Z (by omega) dL_hints_76 (fun H locs Z => ?_)
            refine lv_aload_n S.1 S.2.1 dL_hints_77 rfl (lv_at hl 1 rfl) ?_
            refine lv_iconst (v := nI 2) S.1 S.2.1 dL_hints_78 (by decide) ?_
            refine lv_iload_n S.1 S.2.1 dL_hints_79 rfl (lv_at hl 3 rfl) ?_
            refine r_addN S dL_hints_80 ?_
            refine lv_dup2_11 S.1 S.2.1 dL_hints_81 rfl rfl ?_
            refine r_ldc S Z (by omega) dL_hints_82 ?_
            rw [show va_up (va_up m1 6 ((m1 6) + 0)) 7 0 (2 + i) = m (2 + i) from by rw [va_up_ne _ _ (by omega), va_up_ne _ _ (by omega)]; exact e2]
            refine lv_iload_n S.1 S.2.1 dL_hints_83 rfl (lv_at hl 0 rfl) ?_
            refine r_if_eqN S (tgt := 101) (by decide) dL_hints_84 (by decide) (fun c_6 => ?_) (fun c_6 => absurd c_6 (by decide))
            refine lv_iconst (v := nI 0) S.1 S.2.1 dL_hints_101 (by decide) ?_
            refine r_addN S dL_hints_102 ?_
            refine r_stc S Z (by omega) dL_hints_103 (fun H locs Z => ?_)
            refine lv_iinc (v := nI (i + 1)) (lv' := [(2, .int (nI (i + 1))), (3, .int (nI 0)), (0, .ref (ca)), (1, .int (nI cs))]) S.1 S.2.1 dL_hints_104 hl (k := 3) rfl (nI_inc rfl) (by decide) rfl (fun ls hl => ?_)
            refine lv_goto (tgt := 2) S.1 S.2.1 dL_hints_107 (by decide) ?_
            exact ih_2 (va_up (va_up (va_up m1 6 ((m1 6) + 0)) 7 0) (2 + i) ((m (2 + i)) + 0)) (i + 1) (HN_s hN (by omega) (hlen i (by omega)) (Or.inl ⟨rfl, (fun z => absurd (z.1.1.symm.trans c_2) (by decide))⟩) (Or.inl ⟨nI_p (by omega) (by rw [← Int32.not_le]; exact c_4), rfl⟩) (Or.inr ⟨rfl, (fun z => absurd (z.1.1.symm.trans c_2) (by decide))⟩)) (by first | omega | exact Nat.zero_le _) (by omega) _ _ Z ls (lv_sub hl [2, 3, 0] rfl)
        · skip
          refine lv_aload_n S.1 S.2.1 dL_hints_16 rfl (lv_at hl 0 rfl) ?_
          refine lv_iconst (v := nI 5) S.1 S.2.1 dL_hints_17 (by decide) ?_
          refine r_ldc S Z (by omega) dL_hints_18 ?_
          rw [hN.2.2.1]
          refine lv_iload_n S.1 S.2.1 dL_hints_19 rfl (lv_at hl 2 rfl) ?_
          refine lv_ishr S.1 S.2.1 dL_hints_20 ?_
          refine lv_iconst (v := nI 1) S.1 S.2.1 dL_hints_21 (by decide) ?_
          refine lv_iand S.1 S.2.1 dL_hints_22 ?_
          rw [bitB_sh (x := nI (m 5)) (r := i) (by omega)]
          refine r_if_neB S (tgt := 30) dL_hints_23 (by decide) (fun c_7 => ?_) (fun c_7 => ?_)
          · skip
            refine lv_iconst (v := nI 0) S.1 S.2.1 dL_hints_30 (by decide) ?_
            refine lv_istore_n (lv' := [(3, .int (nI 0)), (0, .ref (ca)), (1, .int (nI cs)), (2, .int (nI i))]) S.1 S.2.1 dL_hints_31 rfl hl (by decide) rfl (fun ls hl => ?_)
            refine lv_aload_n S.1 S.2.1 dL_hints_32 rfl (lv_at hl 1 rfl) ?_
            refine lv_bipush (v := nI 6) S.1 S.2.1 dL_hints_33 (by decide) ?_
            refine lv_dup2_11 S.1 S.2.1 dL_hints_35 rfl rfl ?_
            refine r_ldc S Z (by omega) dL_hints_36 ?_
            refine lv_iload_n S.1 S.2.1 dL_hints_37 rfl (lv_at hl 0 rfl) ?_
            refine r_if_eqN S (tgt := 55) (by decide) dL_hints_38 (by decide) (fun c_8 => ?_) (fun c_8 => absurd c_8 (by decide))
            refine lv_iconst (v := nI 0) S.1 S.2.1 dL_hints_55 (by decide) ?_
            refine r_addN S dL_hints_56 ?_
            refine r_stc S Z (by omega) dL_hints_57 (fun H locs Z => ?_)
            refine lv_aload_n S.1 S.2.1 dL_hints_58 rfl (lv_at hl 1 rfl) ?_
            refine lv_bipush (v := nI 7) S.1 S.2.1 dL_hints_59 (by decide) ?_
            refine lv_aload_n S.1 S.2.1 dL_hints_61 rfl (lv_at hl 1 rfl) ?_
            refine lv_bipush (v := nI 6) S.1 S.2.1 dL_hints_62 (by decide) ?_
            refine r_ldc S Z (by omega) dL_hints_64 ?_
            refine lv_if_le (tgt := 72) S.1 S.2.1 dL_hints_65 (by decide) (fun c_9 => ?_) (fun c_9 => ?_)
            · skip
              refine lv_aload_n S.1 S.2.1 dL_hints_72 rfl (lv_at hl 1 rfl) ?_
              refine lv_bipush (v := nI 7) S.1 S.2.1 dL_hints_73 (by decide) ?_
              refine r_ldc S Z (by omega) dL_hints_75 ?_
              refine r_stc S Z (by omega) dL_hints_76 (fun H locs Z => ?_)
              refine lv_aload_n S.1 S.2.1 dL_hints_77 rfl (lv_at hl 1 rfl) ?_
              refine lv_iconst (v := nI 2) S.1 S.2.1 dL_hints_78 (by decide) ?_
              refine lv_iload_n S.1 S.2.1 dL_hints_79 rfl (lv_at hl 3 rfl) ?_
              refine r_addN S dL_hints_80 ?_
              refine lv_dup2_11 S.1 S.2.1 dL_hints_81 rfl rfl ?_
              refine r_ldc S Z (by omega) dL_hints_82 ?_
              rw [show va_up (va_up m1 6 ((m1 6) + 0)) 7 (va_up m1 6 ((m1 6) + 0) 7) (2 + i) = m (2 + i) from by rw [va_up_ne _ _ (by omega), va_up_ne _ _ (by omega)]; exact e2]
              refine lv_iload_n S.1 S.2.1 dL_hints_83 rfl (lv_at hl 0 rfl) ?_
              refine r_if_eqN S (tgt := 101) (by decide) dL_hints_84 (by decide) (fun c_10 => ?_) (fun c_10 => absurd c_10 (by decide))
              refine lv_iconst (v := nI 0) S.1 S.2.1 dL_hints_101 (by decide) ?_
              refine r_addN S dL_hints_102 ?_
              refine r_stc S Z (by omega) dL_hints_103 (fun H locs Z => ?_)
              refine lv_iinc (v := nI (i + 1)) (lv' := [(2, .int (nI (i + 1))), (3, .int (nI 0)), (0, .ref (ca)), (1, .int (nI cs))]) S.1 S.2.1 dL_hints_104 hl (k := 3) rfl (nI_inc rfl) (by decide) rfl (fun ls hl => ?_)
              refine lv_goto (tgt := 2) S.1 S.2.1 dL_hints_107 (by decide) ?_
              exact ih_2 (va_up (va_up (va_up m1 6 ((m1 6) + 0)) 7 (va_up m1 6 ((m1 6) + 0) 7)) (2 + i) ((m (2 + i)) + 0)) (i + 1) (HN_s hN (by omega) (hlen i (by omega)) (Or.inl ⟨rfl, (fun z => absurd (z.1.2.symm.trans c_7) (by decide))⟩) (Or.inr ⟨nI_z (by omega) (by rw [← i_le_lt]; exact c_9), va_up_ne _ _ (by decide)⟩) (Or.inr ⟨rfl, (fun z => absurd (z.1.2.symm.trans c_7) (by decide))⟩)) (by first | omega | exact Nat.zero_le _) (by omega) _ _ Z ls (lv_sub hl [2, 3, 0] rfl)
            · skip
              refine lv_iconst (v := nI 0) S.1 S.2.1 dL_hints_68 (by decide) ?_
              refine lv_goto (tgt := 76) S.1 S.2.1 dL_hints_69 (by decide) ?_
              refine r_stc S Z (by omega) dL_hints_76 (fun H locs Z => ?_)
              refine lv_aload_n S.1 S.2.1 dL_hints_77 rfl (lv_at hl 1 rfl) ?_
              refine lv_iconst (v := nI 2) S.1 S.2.1 dL_hints_78 (by decide) ?_
              refine lv_iload_n S.1 S.2.1 dL_hints_79 rfl (lv_at hl 3 rfl) ?_
              refine r_addN S dL_hints_80 ?_
              refine lv_dup2_11 S.1 S.2.1 dL_hints_81 rfl rfl ?_
              refine r_ldc S Z (by omega) dL_hints_82 ?_
              rw [show va_up (va_up m1 6 ((m1 6) + 0)) 7 0 (2 + i) = m (2 + i) from by rw [va_up_ne _ _ (by omega), va_up_ne _ _ (by omega)]; exact e2]
              refine lv_iload_n S.1 S.2.1 dL_hints_83 rfl (lv_at hl 0 rfl) ?_
              refine r_if_eqN S (tgt := 101) (by decide) dL_hints_84 (by decide) (fun c_11 => ?_) (fun c_11 => absurd c_11 (by decide))
              refine lv_iconst (v := nI 0) S.1 S.2.1 dL_hints_101 (by decide) ?_
              refine r_addN S dL_hints_102 ?_
              refine r_stc S Z (by omega) dL_hints_103 (fun H locs Z => ?_)
              refine lv_iinc (v := nI (i + 1)) (lv' := [(2, .int (nI (i + 1))), (3, .int (nI 0)), (0, .ref (ca)), (1, .int (nI cs))]) S.1 S.2.1 dL_hints_104 hl (k := 3) rfl (nI_inc rfl) (by decide) rfl (fun ls hl => ?_)
              refine lv_goto (tgt := 2) S.1 S.2.1 dL_hints_107 (by decide) ?_
              exact ih_2 (va_up (va_up (va_up m1 6 ((m1 6) + 0)) 7 0) (2 + i) ((m (2 + i)) + 0)) (i + 1) (HN_s hN (by omega) (hlen i (by omega)) (Or.inl ⟨rfl, (fun z => absurd (z.1.2.symm.trans c_7) (by decide))⟩) (Or.inl ⟨nI_p (by omega) (by rw [← Int32.not_le]; exact c_9), rfl⟩) (Or.inr ⟨rfl, (fun z => absurd (z.1.2.symm.trans c_7) (by decide))⟩)) (by first | omega | exact Nat.zero_le _) (by omega) _ _ Z ls (lv_sub hl [2, 3, 0] rfl)
          · skip
            refine lv_iconst (v := nI 1) S.1 S.2.1 dL_hints_26 (by decide) ?_
            refine lv_goto (tgt := 31) S.1 S.2.1 dL_hints_27 (by decide) ?_
            refine lv_istore_n (lv' := [(3, .int (nI 1)), (0, .ref (ca)), (1, .int (nI cs)), (2, .int (nI i))]) S.1 S.2.1 dL_hints_31 rfl hl (by decide) rfl (fun ls hl => ?_)
            refine lv_aload_n S.1 S.2.1 dL_hints_32 rfl (lv_at hl 1 rfl) ?_
            refine lv_bipush (v := nI 6) S.1 S.2.1 dL_hints_33 (by decide) ?_
            refine lv_dup2_11 S.1 S.2.1 dL_hints_35 rfl rfl ?_
            refine r_ldc S Z (by omega) dL_hints_36 ?_
            refine lv_iload_n S.1 S.2.1 dL_hints_37 rfl (lv_at hl 0 rfl) ?_
            refine r_if_eqN S (tgt := 55) (by decide) dL_hints_38 (by decide) (fun c_12 => absurd c_12 (by decide)) (fun c_12 => ?_)
            refine lv_aload_n S.1 S.2.1 dL_hints_41 rfl (lv_at hl 1 rfl) ?_
            refine lv_iconst (v := nI 2) S.1 S.2.1 dL_hints_42 (by decide) ?_
            refine lv_iload_n S.1 S.2.1 dL_hints_43 rfl (lv_at hl 3 rfl) ?_
            refine r_addN S dL_hints_44 ?_
            refine r_ldc S Z (by omega) dL_hints_45 ?_
            rw [e2]
            refine lv_bipush (v := nI 10) S.1 S.2.1 dL_hints_46 (by decide) ?_
            refine r_icmpN_ne S (tgt := 55) (by omega) (by omega) dL_hints_48 (by decide) (fun c_13 => ?_) (fun c_13 => ?_)
            · skip
              refine lv_iconst (v := nI 0) S.1 S.2.1 dL_hints_55 (by decide) ?_
              refine r_addN S dL_hints_56 ?_
              refine r_stc S Z (by omega) dL_hints_57 (fun H locs Z => ?_)
              refine lv_aload_n S.1 S.2.1 dL_hints_58 rfl (lv_at hl 1 rfl) ?_
              refine lv_bipush (v := nI 7) S.1 S.2.1 dL_hints_59 (by decide) ?_
              refine lv_aload_n S.1 S.2.1 dL_hints_61 rfl (lv_at hl 1 rfl) ?_
              refine lv_bipush (v := nI 6) S.1 S.2.1 dL_hints_62 (by decide) ?_
              refine r_ldc S Z (by omega) dL_hints_64 ?_
              refine lv_if_le (tgt := 72) S.1 S.2.1 dL_hints_65 (by decide) (fun c_14 => ?_) (fun c_14 => ?_)
              · skip
                refine lv_aload_n S.1 S.2.1 dL_hints_72 rfl (lv_at hl 1 rfl) ?_
                refine lv_bipush (v := nI 7) S.1 S.2.1 dL_hints_73 (by decide) ?_
                refine r_ldc S Z (by omega) dL_hints_75 ?_
                refine r_stc S Z (by omega) dL_hints_76 (fun H locs Z => ?_)
                refine lv_aload_n S.1 S.2.1 dL_hints_77 rfl (lv_at hl 1 rfl) ?_
                refine lv_iconst (v := nI 2) S.1 S.2.1 dL_hints_78 (by decide) ?_
                refine lv_iload_n S.1 S.2.1 dL_hints_79 rfl (lv_at hl 3 rfl) ?_
                refine r_addN S dL_hints_80 ?_
                refine lv_dup2_11 S.1 S.2.1 dL_hints_81 rfl rfl ?_
                refine r_ldc S Z (by omega) dL_hints_82 ?_
                rw [show va_up (va_up m1 6 ((m1 6) + 0)) 7 (va_up m1 6 ((m1 6) + 0) 7) (2 + i) = m (2 + i) from by rw [va_up_ne _ _ (by omega), va_up_ne _ _ (by omega)]; exact e2]
                refine lv_iload_n S.1 S.2.1 dL_hints_83 rfl (lv_at hl 0 rfl) ?_
                refine r_if_eqN S (tgt := 101) (by decide) dL_hints_84 (by decide) (fun c_15 => absurd c_15 (by decide)) (fun c_15 => ?_)
                refine lv_aload_n S.1 S.2.1 dL_hints_87 rfl (lv_at hl 1 rfl) ?_
                refine lv_iconst (v := nI 2) S.1 S.2.1 dL_hints_88 (by decide) ?_
                refine lv_iload_n S.1 S.2.1 dL_hints_89 rfl (lv_at hl 3 rfl) ?_
                refine r_addN S dL_hints_90 ?_
                refine r_ldc S Z (by omega) dL_hints_91 ?_
                rw [show va_up (va_up m1 6 ((m1 6) + 0)) 7 (va_up m1 6 ((m1 6) + 0) 7) (2 + i) = m (2 + i) from by rw [va_up_ne _ _ (by omega), va_up_ne _ _ (by omega)]; exact e2]
                refine lv_bipush (v := nI 10) S.1 S.2.1 dL_hints_92 (by decide) ?_
                refine r_icmpN_ge S (tgt := 101) (by omega) (by omega) dL_hints_94 (by decide) (fun c_16 => ?_) (fun c_16 => ?_)
                · skip
                  refine lv_iconst (v := nI 0) S.1 S.2.1 dL_hints_101 (by decide) ?_
                  refine r_addN S dL_hints_102 ?_
                  refine r_stc S Z (by omega) dL_hints_103 (fun H locs Z => ?_)
                  refine lv_iinc (v := nI (i + 1)) (lv' := [(2, .int (nI (i + 1))), (3, .int (nI 1)), (0, .ref (ca)), (1, .int (nI cs))]) S.1 S.2.1 dL_hints_104 hl (k := 3) rfl (nI_inc rfl) (by decide) rfl (fun ls hl => ?_)
                  refine lv_goto (tgt := 2) S.1 S.2.1 dL_hints_107 (by decide) ?_
                  exact ih_2 (va_up (va_up (va_up m1 6 ((m1 6) + 0)) 7 (va_up m1 6 ((m1 6) + 0) 7)) (2 + i) ((m (2 + i)) + 0)) (i + 1) (HN_s hN (by omega) (hlen i (by omega)) (Or.inl ⟨rfl, fun z => c_13 z.2⟩) (Or.inr ⟨nI_z (by omega) (by rw [← i_le_lt]; exact c_14), va_up_ne _ _ (by decide)⟩) (False.elim (by omega))) (by first | omega | exact Nat.zero_le _) (by omega) _ _ Z ls (lv_sub hl [2, 3, 0] rfl)
                · skip
                  refine lv_iconst (v := nI 1) S.1 S.2.1 dL_hints_97 (by decide) ?_
                  refine lv_goto (tgt := 102) S.1 S.2.1 dL_hints_98 (by decide) ?_
                  refine r_addN S dL_hints_102 ?_
                  refine r_stc S Z (by omega) dL_hints_103 (fun H locs Z => ?_)
                  refine lv_iinc (v := nI (i + 1)) (lv' := [(2, .int (nI (i + 1))), (3, .int (nI 1)), (0, .ref (ca)), (1, .int (nI cs))]) S.1 S.2.1 dL_hints_104 hl (k := 3) rfl (nI_inc rfl) (by decide) rfl (fun ls hl => ?_)
                  refine lv_goto (tgt := 2) S.1 S.2.1 dL_hints_107 (by decide) ?_
                  exact ih_2 (va_up (va_up (va_up m1 6 ((m1 6) + 0)) 7 (va_up m1 6 ((m1 6) + 0) 7)) (2 + i) ((m (2 + i)) + 1)) (i + 1) (HN_s hN (by omega) (hlen i (by omega)) (Or.inl ⟨rfl, fun z => c_13 z.2⟩) (Or.inr ⟨nI_z (by omega) (by rw [← i_le_lt]; exact c_14), va_up_ne _ _ (by decide)⟩) (Or.inl ⟨rfl, ⟨c_2, c_7⟩, by omega⟩)) (by first | omega | exact Nat.zero_le _) (by omega) _ _ Z ls (lv_sub hl [2, 3, 0] rfl)
              · skip
                refine lv_iconst (v := nI 0) S.1 S.2.1 dL_hints_68 (by decide) ?_
                refine lv_goto (tgt := 76) S.1 S.2.1 dL_hints_69 (by decide) ?_
                refine r_stc S Z (by omega) dL_hints_76 (fun H locs Z => ?_)
                refine lv_aload_n S.1 S.2.1 dL_hints_77 rfl (lv_at hl 1 rfl) ?_
                refine lv_iconst (v := nI 2) S.1 S.2.1 dL_hints_78 (by decide) ?_
                refine lv_iload_n S.1 S.2.1 dL_hints_79 rfl (lv_at hl 3 rfl) ?_
                refine r_addN S dL_hints_80 ?_
                refine lv_dup2_11 S.1 S.2.1 dL_hints_81 rfl rfl ?_
                refine r_ldc S Z (by omega) dL_hints_82 ?_
                rw [show va_up (va_up m1 6 ((m1 6) + 0)) 7 0 (2 + i) = m (2 + i) from by rw [va_up_ne _ _ (by omega), va_up_ne _ _ (by omega)]; exact e2]
                refine lv_iload_n S.1 S.2.1 dL_hints_83 rfl (lv_at hl 0 rfl) ?_
                refine r_if_eqN S (tgt := 101) (by decide) dL_hints_84 (by decide) (fun c_17 => absurd c_17 (by decide)) (fun c_17 => ?_)
                refine lv_aload_n S.1 S.2.1 dL_hints_87 rfl (lv_at hl 1 rfl) ?_
                refine lv_iconst (v := nI 2) S.1 S.2.1 dL_hints_88 (by decide) ?_
                refine lv_iload_n S.1 S.2.1 dL_hints_89 rfl (lv_at hl 3 rfl) ?_
                refine r_addN S dL_hints_90 ?_
                refine r_ldc S Z (by omega) dL_hints_91 ?_
                rw [show va_up (va_up m1 6 ((m1 6) + 0)) 7 0 (2 + i) = m (2 + i) from by rw [va_up_ne _ _ (by omega), va_up_ne _ _ (by omega)]; exact e2]
                refine lv_bipush (v := nI 10) S.1 S.2.1 dL_hints_92 (by decide) ?_
                refine r_icmpN_ge S (tgt := 101) (by omega) (by omega) dL_hints_94 (by decide) (fun c_18 => ?_) (fun c_18 => ?_)
                · skip
                  refine lv_iconst (v := nI 0) S.1 S.2.1 dL_hints_101 (by decide) ?_
                  refine r_addN S dL_hints_102 ?_
                  refine r_stc S Z (by omega) dL_hints_103 (fun H locs Z => ?_)
                  refine lv_iinc (v := nI (i + 1)) (lv' := [(2, .int (nI (i + 1))), (3, .int (nI 1)), (0, .ref (ca)), (1, .int (nI cs))]) S.1 S.2.1 dL_hints_104 hl (k := 3) rfl (nI_inc rfl) (by decide) rfl (fun ls hl => ?_)
                  refine lv_goto (tgt := 2) S.1 S.2.1 dL_hints_107 (by decide) ?_
                  exact ih_2 (va_up (va_up (va_up m1 6 ((m1 6) + 0)) 7 0) (2 + i) ((m (2 + i)) + 0)) (i + 1) (HN_s hN (by omega) (hlen i (by omega)) (Or.inl ⟨rfl, fun z => c_13 z.2⟩) (Or.inl ⟨nI_p (by omega) (by rw [← Int32.not_le]; exact c_14), rfl⟩) (False.elim (by omega))) (by first | omega | exact Nat.zero_le _) (by omega) _ _ Z ls (lv_sub hl [2, 3, 0] rfl)
                · skip
                  refine lv_iconst (v := nI 1) S.1 S.2.1 dL_hints_97 (by decide) ?_
                  refine lv_goto (tgt := 102) S.1 S.2.1 dL_hints_98 (by decide) ?_
                  refine r_addN S dL_hints_102 ?_
                  refine r_stc S Z (by omega) dL_hints_103 (fun H locs Z => ?_)
                  refine lv_iinc (v := nI (i + 1)) (lv' := [(2, .int (nI (i + 1))), (3, .int (nI 1)), (0, .ref (ca)), (1, .int (nI cs))]) S.1 S.2.1 dL_hints_104 hl (k := 3) rfl (nI_inc rfl) (by decide) rfl (fun ls hl => ?_)
                  refine lv_goto (tgt := 2) S.1 S.2.1 dL_hints_107 (by decide) ?_
                  exact ih_2 (va_up (va_up (va_up m1 6 ((m1 6) + 0)) 7 0) (2 + i) ((m (2 + i)) + 1)) (i + 1) (HN_s hN (by omega) (hlen i (by omega)) (Or.inl ⟨rfl, fun z => c_13 z.2⟩) (Or.inl ⟨nI_p (by omega) (by rw [← Int32.not_le]; exact c_14), rfl⟩) (Or.inl ⟨rfl, ⟨c_2, c_7⟩, by omega⟩)) (by first | omega | exact Nat.zero_le _) (by omega) _ _ Z ls (lv_sub hl [2, 3, 0] rfl)
            · skip
              refine lv_iconst (v := nI 1) S.1 S.2.1 dL_hints_51 (by decide) ?_
              refine lv_goto (tgt := 56) S.1 S.2.1 dL_hints_52 (by decide) ?_
              refine r_addN S dL_hints_56 ?_
              refine r_stc S Z (by omega) dL_hints_57 (fun H locs Z => ?_)
              refine lv_aload_n S.1 S.2.1 dL_hints_58 rfl (lv_at hl 1 rfl) ?_
              refine lv_bipush (v := nI 7) S.1 S.2.1 dL_hints_59 (by decide) ?_
              refine lv_aload_n S.1 S.2.1 dL_hints_61 rfl (lv_at hl 1 rfl) ?_
              refine lv_bipush (v := nI 6) S.1 S.2.1 dL_hints_62 (by decide) ?_
              refine r_ldc S Z (by omega) dL_hints_64 ?_
              refine lv_if_le (tgt := 72) S.1 S.2.1 dL_hints_65 (by decide) (fun c_19 => ?_) (fun c_19 => ?_)
              · skip
                refine lv_aload_n S.1 S.2.1 dL_hints_72 rfl (lv_at hl 1 rfl) ?_
                refine lv_bipush (v := nI 7) S.1 S.2.1 dL_hints_73 (by decide) ?_
                refine r_ldc S Z (by omega) dL_hints_75 ?_
                refine r_stc S Z (by omega) dL_hints_76 (fun H locs Z => ?_)
                refine lv_aload_n S.1 S.2.1 dL_hints_77 rfl (lv_at hl 1 rfl) ?_
                refine lv_iconst (v := nI 2) S.1 S.2.1 dL_hints_78 (by decide) ?_
                refine lv_iload_n S.1 S.2.1 dL_hints_79 rfl (lv_at hl 3 rfl) ?_
                refine r_addN S dL_hints_80 ?_
                refine lv_dup2_11 S.1 S.2.1 dL_hints_81 rfl rfl ?_
                refine r_ldc S Z (by omega) dL_hints_82 ?_
                rw [show va_up (va_up m1 6 ((m1 6) + 1)) 7 (va_up m1 6 ((m1 6) + 1) 7) (2 + i) = m (2 + i) from by rw [va_up_ne _ _ (by omega), va_up_ne _ _ (by omega)]; exact e2]
                refine lv_iload_n S.1 S.2.1 dL_hints_83 rfl (lv_at hl 0 rfl) ?_
                refine r_if_eqN S (tgt := 101) (by decide) dL_hints_84 (by decide) (fun c_20 => absurd c_20 (by decide)) (fun c_20 => ?_)
                refine lv_aload_n S.1 S.2.1 dL_hints_87 rfl (lv_at hl 1 rfl) ?_
                refine lv_iconst (v := nI 2) S.1 S.2.1 dL_hints_88 (by decide) ?_
                refine lv_iload_n S.1 S.2.1 dL_hints_89 rfl (lv_at hl 3 rfl) ?_
                refine r_addN S dL_hints_90 ?_
                refine r_ldc S Z (by omega) dL_hints_91 ?_
                rw [show va_up (va_up m1 6 ((m1 6) + 1)) 7 (va_up m1 6 ((m1 6) + 1) 7) (2 + i) = m (2 + i) from by rw [va_up_ne _ _ (by omega), va_up_ne _ _ (by omega)]; exact e2]
                refine lv_bipush (v := nI 10) S.1 S.2.1 dL_hints_92 (by decide) ?_
                refine r_icmpN_ge S (tgt := 101) (by omega) (by omega) dL_hints_94 (by decide) (fun c_21 => ?_) (fun c_21 => ?_)
                · skip
                  refine lv_iconst (v := nI 0) S.1 S.2.1 dL_hints_101 (by decide) ?_
                  refine r_addN S dL_hints_102 ?_
                  refine r_stc S Z (by omega) dL_hints_103 (fun H locs Z => ?_)
                  refine lv_iinc (v := nI (i + 1)) (lv' := [(2, .int (nI (i + 1))), (3, .int (nI 1)), (0, .ref (ca)), (1, .int (nI cs))]) S.1 S.2.1 dL_hints_104 hl (k := 3) rfl (nI_inc rfl) (by decide) rfl (fun ls hl => ?_)
                  refine lv_goto (tgt := 2) S.1 S.2.1 dL_hints_107 (by decide) ?_
                  exact ih_2 (va_up (va_up (va_up m1 6 ((m1 6) + 1)) 7 (va_up m1 6 ((m1 6) + 1) 7)) (2 + i) ((m (2 + i)) + 0)) (i + 1) (HN_s hN (by omega) (hlen i (by omega)) (Or.inr ⟨rfl, ⟨c_2, c_7⟩, c_13⟩) (Or.inr ⟨nI_z (by omega) (by rw [← i_le_lt]; exact c_19), va_up_ne _ _ (by decide)⟩) (Or.inr ⟨rfl, fun z => by omega⟩)) (by first | omega | exact Nat.zero_le _) (by omega) _ _ Z ls (lv_sub hl [2, 3, 0] rfl)
                · skip
                  refine lv_iconst (v := nI 1) S.1 S.2.1 dL_hints_97 (by decide) ?_
                  refine lv_goto (tgt := 102) S.1 S.2.1 dL_hints_98 (by decide) ?_
                  refine r_addN S dL_hints_102 ?_
                  refine r_stc S Z (by omega) dL_hints_103 (fun H locs Z => ?_)
                  refine lv_iinc (v := nI (i + 1)) (lv' := [(2, .int (nI (i + 1))), (3, .int (nI 1)), (0, .ref (ca)), (1, .int (nI cs))]) S.1 S.2.1 dL_hints_104 hl (k := 3) rfl (nI_inc rfl) (by decide) rfl (fun ls hl => ?_)
                  refine lv_goto (tgt := 2) S.1 S.2.1 dL_hints_107 (by decide) ?_
                  exact ih_2 (va_up (va_up (va_up m1 6 ((m1 6) + 1)) 7 (va_up m1 6 ((m1 6) + 1) 7)) (2 + i) ((m (2 + i)) + 1)) (i + 1) (HN_s hN (by omega) (hlen i (by omega)) (Or.inr ⟨rfl, ⟨c_2, c_7⟩, c_13⟩) (Or.inr ⟨nI_z (by omega) (by rw [← i_le_lt]; exact c_19), va_up_ne _ _ (by decide)⟩) (False.elim (by omega))) (by first | omega | exact Nat.zero_le _) (by omega) _ _ Z ls (lv_sub hl [2, 3, 0] rfl)
              · skip
                refine lv_iconst (v := nI 0) S.1 S.2.1 dL_hints_68 (by decide) ?_
                refine lv_goto (tgt := 76) S.1 S.2.1 dL_hints_69 (by decide) ?_
                refine r_stc S Z (by omega) dL_hints_76 (fun H locs Z => ?_)
                refine lv_aload_n S.1 S.2.1 dL_hints_77 rfl (lv_at hl 1 rfl) ?_
                refine lv_iconst (v := nI 2) S.1 S.2.1 dL_hints_78 (by decide) ?_
                refine lv_iload_n S.1 S.2.1 dL_hints_79 rfl (lv_at hl 3 rfl) ?_
                refine r_addN S dL_hints_80 ?_
                refine lv_dup2_11 S.1 S.2.1 dL_hints_81 rfl rfl ?_
                refine r_ldc S Z (by omega) dL_hints_82 ?_
                rw [show va_up (va_up m1 6 ((m1 6) + 1)) 7 0 (2 + i) = m (2 + i) from by rw [va_up_ne _ _ (by omega), va_up_ne _ _ (by omega)]; exact e2]
                refine lv_iload_n S.1 S.2.1 dL_hints_83 rfl (lv_at hl 0 rfl) ?_
                refine r_if_eqN S (tgt := 101) (by decide) dL_hints_84 (by decide) (fun c_22 => absurd c_22 (by decide)) (fun c_22 => ?_)
                refine lv_aload_n S.1 S.2.1 dL_hints_87 rfl (lv_at hl 1 rfl) ?_
                refine lv_iconst (v := nI 2) S.1 S.2.1 dL_hints_88 (by decide) ?_
                refine lv_iload_n S.1 S.2.1 dL_hints_89 rfl (lv_at hl 3 rfl) ?_
                refine r_addN S dL_hints_90 ?_
                refine r_ldc S Z (by omega) dL_hints_91 ?_
                rw [show va_up (va_up m1 6 ((m1 6) + 1)) 7 0 (2 + i) = m (2 + i) from by rw [va_up_ne _ _ (by omega), va_up_ne _ _ (by omega)]; exact e2]
                refine lv_bipush (v := nI 10) S.1 S.2.1 dL_hints_92 (by decide) ?_
                refine r_icmpN_ge S (tgt := 101) (by omega) (by omega) dL_hints_94 (by decide) (fun c_23 => ?_) (fun c_23 => ?_)
                · skip
                  refine lv_iconst (v := nI 0) S.1 S.2.1 dL_hints_101 (by decide) ?_
                  refine r_addN S dL_hints_102 ?_
                  refine r_stc S Z (by omega) dL_hints_103 (fun H locs Z => ?_)
                  refine lv_iinc (v := nI (i + 1)) (lv' := [(2, .int (nI (i + 1))), (3, .int (nI 1)), (0, .ref (ca)), (1, .int (nI cs))]) S.1 S.2.1 dL_hints_104 hl (k := 3) rfl (nI_inc rfl) (by decide) rfl (fun ls hl => ?_)
                  refine lv_goto (tgt := 2) S.1 S.2.1 dL_hints_107 (by decide) ?_
                  exact ih_2 (va_up (va_up (va_up m1 6 ((m1 6) + 1)) 7 0) (2 + i) ((m (2 + i)) + 0)) (i + 1) (HN_s hN (by omega) (hlen i (by omega)) (Or.inr ⟨rfl, ⟨c_2, c_7⟩, c_13⟩) (Or.inl ⟨nI_p (by omega) (by rw [← Int32.not_le]; exact c_19), rfl⟩) (Or.inr ⟨rfl, fun z => by omega⟩)) (by first | omega | exact Nat.zero_le _) (by omega) _ _ Z ls (lv_sub hl [2, 3, 0] rfl)
                · skip
                  refine lv_iconst (v := nI 1) S.1 S.2.1 dL_hints_97 (by decide) ?_
                  refine lv_goto (tgt := 102) S.1 S.2.1 dL_hints_98 (by decide) ?_
                  refine r_addN S dL_hints_102 ?_
                  refine r_stc S Z (by omega) dL_hints_103 (fun H locs Z => ?_)
                  refine lv_iinc (v := nI (i + 1)) (lv' := [(2, .int (nI (i + 1))), (3, .int (nI 1)), (0, .ref (ca)), (1, .int (nI cs))]) S.1 S.2.1 dL_hints_104 hl (k := 3) rfl (nI_inc rfl) (by decide) rfl (fun ls hl => ?_)
                  refine lv_goto (tgt := 2) S.1 S.2.1 dL_hints_107 (by decide) ?_
                  exact ih_2 (va_up (va_up (va_up m1 6 ((m1 6) + 1)) 7 0) (2 + i) ((m (2 + i)) + 1)) (i + 1) (HN_s hN (by omega) (hlen i (by omega)) (Or.inr ⟨rfl, ⟨c_2, c_7⟩, c_13⟩) (Or.inl ⟨nI_p (by omega) (by rw [← Int32.not_le]; exact c_19), rfl⟩) (False.elim (by omega))) (by first | omega | exact Nat.zero_le _) (by omega) _ _ Z ls (lv_sub hl [2, 3, 0] rfl)
  exact L_2 (3 - 0 + 1) m 0 HN_0 (by first | omega | exact Nat.zero_le _) (Nat.lt_succ_self _) _ _ Z ls (lv_sub hl [1, 2, 0] rfl)
