theorem m_L_table_k128 : Cond.constant RL 128 (1073741824) ∈ wsL_table := by decide +kernel
abbrev rm_k_L_table : Room := { frames := 11, cells := 260, slots := 10130, locals := 300 }
set_option maxHeartbeats 4000000 in
set_option maxRecDepth 100000 in
theorem tb_loop {p : Program} {e : Env} {s : State} {m9 : MethodId} {args : Array Value} {below : List Frame} {meth : Method} {c : Code} {Q : State → Prop} (l : Launch) (hst : l.stackTraces = false) {G : wG} {b L at_ : Nat} {all : Bool} {xs : Nat → Int32} (hL : L ≤ 260) (hat : at_ ≤ 1000) (S : CallFix p m9 c cL_table 9 s args wsL_table RL) (hret : meth.sig.returnType = some .boolean) (hlocks : meth.locks = false) (hX : va_X b L xs s s.heap) (hbl : b < s.heap.size) (hbA : ¬ gP G b) (hQ : Q = MQ below (QT (gN G)) args s 260 10130 (gP G)) {ca : Nat} {m : Nat → Nat} {σ : cS} {o : Nat → Int64} (hLI : LI G σ m) (h0 : m 0 = 0) (h6 : m 6 = 0) {H : Heap} {locs : List Loc} (Z : wZ G σ ((ca, cA G m) :: []) o s H locs) {ls : Array Slot} (hl : lv_has ls 9 [(0, .ref (b)), (1, .int (nI at_)), (2, .int (bi all)), (3, .ref (gA G 0)), (4, .ref (ca)), (5, .int (nI 0))]) : W p l e (headSpec wsL_table rm_k_L_table).room s m9 args below meth c H locs 40 1682 Q (F0 m9 43 ls []) := by
  have hc40 : 40 + 5 * 0 = 40 := rfl
  have L_43 : ∀ (n : Nat) (τ : cS) (m2 : Nat → Nat) (k : Nat) (hq1 : LI G τ m2) (hk : k ≤ 44) (hm0 : m2 0 ≤ 100 * k) (hm6 : m2 6 ≤ 3 * k) (hn : 44 - k < n) (H : Heap) (locs : List Loc) (Z : wZ G (τ) ((ca, cA G m2) :: []) o s H locs) (ls : Array Slot) (hl : lv_has ls 9 [(0, .ref (b)), (1, .int (nI at_)), (2, .int (bi all)), (3, .ref (gA G 0)), (4, .ref (ca)), (5, .int (nI k))]), W p l e (headSpec wsL_table rm_k_L_table).room s m9 args below meth c H locs ((40 + 5 * k)) ((1682 + 192 * k)) Q (F0 m9 43 ls []) := by
    intro n
    induction n with
    | zero => intro τ m2 k hq1 hk hm0 hm6 hn; omega
    | succ n ih_43 =>
      intro τ m2 k hq1 hk hm0 hm6 hn H locs Z ls hl
      refine lv_iload S.1 S.2.1 dL_table_43 (lv_at hl 5 rfl) ?_
      refine lv_bipush (v := nI 44) S.1 S.2.1 dL_table_45 (by decide) ?_
      refine r_icmpN_ge S (tgt := 204) (by omega) (by omega) dL_table_47 (by decide) (fun c_1 => ?_) (fun c_1 => ?_)
      · skip
        refine lv_iconst (v := nI 1) S.1 S.2.1 dL_table_204 (by decide) ?_
        refine W.widen (k := 260) (n := 10130) (by omega) (by omega) ?_
        rw [hQ]
        exact W.zret (v := nI 1) S.1 S.2.1 hret rfl (fun _ hT9 hW => ⟨⟨_, (), rfl, rfl, trivial⟩, Z.2.2.2.2.F hT9⟩) Z.2.2.2.2.2.2 dL_table_205
      · skip
        refine lv_aload_n S.1 S.2.1 dL_table_50 rfl (lv_at hl 0 rfl) ?_
        refine lv_iload_n S.1 S.2.1 dL_table_51 rfl (lv_at hl 1 rfl) ?_
        refine lv_iconst (v := nI 3) S.1 S.2.1 dL_table_52 (by decide) ?_
        refine lv_iload S.1 S.2.1 dL_table_53 (lv_at hl 5 rfl) ?_
        refine r_mulN S dL_table_55 ?_
        refine r_addN S dL_table_56 ?_
        refine lv_iconst (v := nI 1) S.1 S.2.1 dL_table_57 (by decide) ?_
        refine r_addN S dL_table_58 ?_
        refine lv_ldc (v := 1073741824) S.1 S.2.1 S.2.2.2.1 (S.2.2.2.2 _ m_L_table_k128) dL_table_59 ?_
        rw [show (1073741824 : Int32) = nI 1073741824 from rfl]
        refine vp_callSi (va_runS (As := [.ref (b), .int (nI ((at_ + (3 * k)) + 1)), .int (nI 1073741824)]) (rest := []) S (k_L_draw l b L xs ((at_ + (3 * k)) + 1) 1073741824 hL (by omega) (by decide) (by decide)) (va_cwS 3 S.2.2.2.2 gL_table_L_draw rfl rfl rfl hy_L_draw ⟨Nat.le_of_ble_eq_true rfl, Nat.le_of_ble_eq_true rfl⟩) (dPc_S Z.2.2.2.2 hX hbl hbA) rfl rfl hl.1 rfl (lv_room (Nat.le_of_ble_eq_true rfl)) dL_table_61 ⟨by show (40 + 5 * k) + 0 ≤ 260; omega, by show (1682 + 192 * k) + 0 ≤ 10130; omega⟩).run (fun r_2 h_3 => ?_)
        obtain ⟨x, hx, h_3⟩ := h_3
        rw [h_3]; clear h_3 r_2
        refine lv_istore (lv' := [(6, .int (nI x)), (0, .ref (b)), (1, .int (nI at_)), (2, .int (bi all)), (3, .ref (gA G 0)), (4, .ref (ca)), (5, .int (nI k))]) S.1 S.2.1 dL_table_64 hl (by decide) rfl (fun ls hl => ?_)
        refine lv_aload_n S.1 S.2.1 dL_table_66 rfl (lv_at hl 1 rfl) ?_
        refine lv_iload_n S.1 S.2.1 dL_table_67 rfl (lv_at hl 2 rfl) ?_
        refine lv_iconst (v := nI 3) S.1 S.2.1 dL_table_68 (by decide) ?_
        refine lv_iload S.1 S.2.1 dL_table_69 (lv_at hl 6 rfl) ?_
        refine r_mulN S dL_table_71 ?_
        refine r_addN S dL_table_72 ?_
        refine lv_iconst (v := nI 2) S.1 S.2.1 dL_table_73 (by decide) ?_
        refine r_addN S dL_table_74 ?_
        refine lv_ldc (v := 1073741824) S.1 S.2.1 S.2.2.2.1 (S.2.2.2.2 _ m_L_table_k128) dL_table_75 ?_
        rw [show (1073741824 : Int32) = nI 1073741824 from rfl]
        refine vp_callSi (va_runS (As := [.ref (b), .int (nI ((at_ + (3 * k)) + 2)), .int (nI 1073741824)]) (rest := []) S (k_L_draw l b L xs ((at_ + (3 * k)) + 2) 1073741824 hL (by omega) (by decide) (by decide)) (va_cwS 3 S.2.2.2.2 gL_table_L_draw rfl rfl rfl hy_L_draw ⟨Nat.le_of_ble_eq_true rfl, Nat.le_of_ble_eq_true rfl⟩) (dPc_S Z.2.2.2.2 hX hbl hbA) rfl rfl hl.1 rfl (lv_room (Nat.le_of_ble_eq_true rfl)) dL_table_77 ⟨by show (40 + 5 * k) + 0 ≤ 260; omega, by show (1682 + 192 * k) + 0 ≤ 10130; omega⟩).run (fun r_4 h_5 => ?_)
        obtain ⟨y, hy, h_5⟩ := h_5
        rw [h_5]; clear h_5 r_4
        refine lv_istore (lv' := [(7, .int (nI y)), (6, .int (nI x)), (0, .ref (b)), (1, .int (nI at_)), (2, .int (bi all)), (3, .ref (gA G 0)), (4, .ref (ca)), (5, .int (nI k))]) S.1 S.2.1 dL_table_80 hl (by decide) rfl (fun ls hl => ?_)
        have L_114 : ∀ (what : Nat) (hwh : what < 16) (H : Heap) (locs : List Loc) (Z : wZ G (τ) ((ca, cA G m2) :: []) o s H locs) (ls : Array Slot) (hl : lv_has ls 9 [(0, .ref (b)), (1, .int (nI at_)), (2, .int (bi all)), (3, .ref (gA G 0)), (4, .ref (ca)), (5, .int (nI k)), (6, .int (nI x)), (7, .int (nI y))]), W p l e (headSpec wsL_table rm_k_L_table).room s m9 args below meth c H locs ((40 + 5 * k)) ((1682 + 192 * k)) Q (F0 m9 114 ls [.int (nI what)]) := by
          intro what hwh H locs Z ls hl
          refine lv_istore (lv' := [(8, .int (nI what)), (0, .ref (b)), (1, .int (nI at_)), (2, .int (bi all)), (3, .ref (gA G 0)), (4, .ref (ca)), (5, .int (nI k)), (6, .int (nI x)), (7, .int (nI y))]) S.1 S.2.1 dL_table_114 hl (by decide) rfl (fun ls hl => ?_)
          refine lv_aload_n S.1 S.2.1 dL_table_116 rfl (lv_at hl 4 rfl) ?_
          refine lv_iload S.1 S.2.1 dL_table_117 (lv_at hl 0 rfl) ?_
          refine lv_iload S.1 S.2.1 dL_table_119 (lv_at hl 7 rfl) ?_
          refine lv_iload S.1 S.2.1 dL_table_121 (lv_at hl 8 rfl) ?_
          refine lv_aload S.1 S.2.1 dL_table_123 (lv_at hl 5 rfl) ?_
          refine va_calli (va_runS (As := [.ref (gA G 0), .int (nI what), .int (nI x), .int (nI y), .ref (ca)]) (rest := []) S (k_L_step l hst G τ ca m2 o what x y (by omega) (by omega) (by omega) hq1 (by omega) (by omega)) (va_cwS 5 S.2.2.2.2 gL_table_L_step rfl rfl rfl hy_L_step ⟨Nat.le_of_ble_eq_true rfl, Nat.le_of_ble_eq_true rfl⟩) (wPc_S Z) rfl rfl hl.1 rfl (lv_room (Nat.le_of_ble_eq_true rfl)) dL_table_125 ⟨by show (40 + 5 * k) + 5 ≤ 260; omega, by show (1682 + 192 * k) + 192 ≤ 10130; omega⟩) Z.2.2.2.2 (fun _ _ h => h) (fun _ h => h) (fun r_6 u_7 T9 H1 locs1 hT9 hvm hw hB hz hk9 hS => ?_)
          obtain ⟨τ_8, μ9⟩ := u_7
          obtain ⟨hr9, ms_9, hm9, hq1, hq2, hq3⟩ := hw
          have hm9 : μ9 = (ca, cA G ms_9) :: [] := hm9
          subst hm9
          rw [hr9]; clear hr9 r_6
          have Z : wZ G (τ_8) ((ca, cA G ms_9) :: []) o s H1 locs1 := wZ_callP Z hB hT9 hS
          clear hB hT9 hS hk9 hz hvm T9
          revert Z; generalize H1 = H; generalize locs1 = locs; intro Z
          refine W.widen (k := ((40 + 5 * k) + 5)) (n := ((1682 + 192 * k) + 192)) (by first | decide | omega) (by first | decide | omega) ?_
          refine r_if_eqN S (tgt := 196) (by decide) dL_table_128 (by decide) (fun c_10 => absurd c_10 (by decide)) (fun c_10 => ?_)
          obtain ⟨L3, nn3, hK3, e30, -, -, -, -, -, e37, -⟩ := id hq1
          refine lv_aload_n S.1 S.2.1 dL_table_131 rfl (lv_at hl 4 rfl) ?_
          refine vp_callSi (va_runV (As := []) (rest := []) S (kr_time l G τ_8 ((ca, cA G ms_9) :: []) o τ_8 Sm_rf) (cwV 0 S.2.2.2.2 gL_table_X7_time rfl rfl rfl ⟨rfl, hy_X7_time⟩ ⟨Nat.le_of_ble_eq_true rfl, Nat.le_of_ble_eq_true rfl⟩) (wPc_V (q := (RX7, TX7, 7)) Z (by decide) rfl rfl) rfl rfl hl.1 rfl (lv_room (Nat.le_of_ble_eq_true rfl)) dL_table_132 ⟨by show ((40 + 5 * k) + 5) + 0 ≤ 260; omega, by show ((1682 + 192 * k) + 192) + 0 ≤ 10130; omega⟩).run (fun r_11 h_12 => ?_)
          rw [h_12]; clear h_12 r_11
          refine lv_aload S.1 S.2.1 dL_table_135 (lv_at hl 5 rfl) ?_
          refine lv_iconst (v := nI 0) S.1 S.2.1 dL_table_137 (by decide) ?_
          refine r_ldc S Z (by omega) dL_table_138 ?_
          refine lv_icmp_ne (tgt := 196) S.1 S.2.1 dL_table_139 (by decide) (fun c_13 => absurd c_13 (by exact not_not_intro e30)) (fun c_13 => ?_)
          refine lv_aload_n S.1 S.2.1 dL_table_142 rfl (lv_at hl 4 rfl) ?_
          refine lv_iload S.1 S.2.1 dL_table_143 (lv_at hl 7 rfl) ?_
          refine lv_iconst (v := nI 5) S.1 S.2.1 dL_table_145 (by decide) ?_
          refine r_divN S (by omega) (by decide) (by decide) dL_table_146 ?_
          refine lv_iconst (v := nI 3) S.1 S.2.1 dL_table_147 (by decide) ?_
          refine r_remN S (by omega) (by decide) (by decide) dL_table_148 ?_
          refine lv_aload S.1 S.2.1 dL_table_149 (lv_at hl 5 rfl) ?_
          refine va_calli (va_runS (As := [.ref (gA G 0), .int (nI ((x / 5) % 3)), .ref (ca)]) (rest := []) S (k_L_isCopy l G τ_8 ca ms_9 ([]) o (((x / 5) % 3)) (by omega) hq1) (va_cwS 3 S.2.2.2.2 gL_table_L_isCopy rfl rfl rfl hy_L_isCopy ⟨Nat.le_of_ble_eq_true rfl, Nat.le_of_ble_eq_true rfl⟩) (wPc_S Z) rfl rfl hl.1 rfl (lv_room (Nat.le_of_ble_eq_true rfl)) dL_table_151 ⟨by show ((40 + 5 * k) + 5) + 0 ≤ 260; omega, by show ((1682 + 192 * k) + 192) + 0 ≤ 10130; omega⟩) Z.2.2.2.2 (fun _ _ h => h) (fun _ h => h) (fun r_14 u_15 T9 H1 locs1 hT9 hvm hw hB hz hk9 hS => ?_)
          obtain ⟨τ_16, μ9⟩ := u_15
          obtain ⟨hr9, hm9, hp9⟩ := hw
          have hm9 : (ca, cA G ms_9) :: ([]) = μ9 := hm9.symm
          subst hm9
          have hp_17 : Sm τ_8 τ_16 := hp9
          clear hp9
          rw [hr9]; clear hr9 r_14
          have Z : wZ G (τ_16) ((ca, cA G ms_9) :: ([])) o s H1 locs1 := wZ_callP Z hB hT9 hS
          clear hB hT9 hS hk9 hz hvm T9
          revert Z; generalize H1 = H; generalize locs1 = locs; intro Z
          refine W.widen (k := (((40 + 5 * k) + 5) + 0)) (n := (((1682 + 192 * k) + 192) + 0)) (by first | decide | omega) (by first | decide | omega) ?_
          have hq1 := LI_Sm hp_17 hq1
          refine r_if_eqN S (tgt := 196) (by decide) dL_table_154 (by decide) (fun c_18 => absurd c_18 (by decide)) (fun c_18 => ?_)
          refine lv_aload_n S.1 S.2.1 dL_table_157 rfl (lv_at hl 4 rfl) ?_
          refine lv_iload S.1 S.2.1 dL_table_158 (lv_at hl 7 rfl) ?_
          refine lv_bipush (v := nI 9) S.1 S.2.1 dL_table_160 (by decide) ?_
          refine r_divN S (by omega) (by decide) (by decide) dL_table_162 ?_
          refine lv_iconst (v := nI 3) S.1 S.2.1 dL_table_163 (by decide) ?_
          refine r_remN S (by omega) (by decide) (by decide) dL_table_164 ?_
          refine lv_iload S.1 S.2.1 dL_table_165 (lv_at hl 8 rfl) ?_
          refine lv_bipush (v := nI 9) S.1 S.2.1 dL_table_167 (by decide) ?_
          refine r_divN S (by omega) (by decide) (by decide) dL_table_169 ?_
          refine lv_iconst (v := nI 3) S.1 S.2.1 dL_table_170 (by decide) ?_
          refine r_remN S (by omega) (by decide) (by decide) dL_table_171 ?_
          refine va_calli (va_runS (As := [.ref (gA G 0), .int (nI ((x / 9) % 3)), .int (nI ((y / 9) % 3))]) (rest := []) S (k_L_areCompared l G τ_16 ((ca, cA G ms_9) :: ([])) o (((x / 9) % 3)) (((y / 9) % 3)) (by omega) (by omega)) (va_cwS 3 S.2.2.2.2 gL_table_L_areCompared rfl rfl rfl hy_L_areCompared ⟨Nat.le_of_ble_eq_true rfl, Nat.le_of_ble_eq_true rfl⟩) (wPc_S Z) rfl rfl hl.1 rfl (lv_room (Nat.le_of_ble_eq_true rfl)) dL_table_172 ⟨by show (((40 + 5 * k) + 5) + 0) + 0 ≤ 260; omega, by show (((1682 + 192 * k) + 192) + 0) + 0 ≤ 10130; omega⟩) Z.2.2.2.2 (fun _ _ h => h) (fun _ h => h) (fun r_19 u_20 T9 H1 locs1 hT9 hvm hw hB hz hk9 hS => ?_)
          obtain ⟨τ_21, μ9⟩ := u_20
          obtain ⟨hr9, hm9, hp9⟩ := hw
          have hm9 : ((ca, cA G ms_9) :: ([])) = μ9 := hm9.symm
          subst hm9
          have hp_22 : Sm τ_16 τ_21 := hp9
          clear hp9
          rw [hr9]; clear hr9 r_19
          have Z : wZ G (τ_21) (((ca, cA G ms_9) :: ([]))) o s H1 locs1 := wZ_callP Z hB hT9 hS
          clear hB hT9 hS hk9 hz hvm T9
          revert Z; generalize H1 = H; generalize locs1 = locs; intro Z
          refine W.widen (k := ((((40 + 5 * k) + 5) + 0) + 0)) (n := ((((1682 + 192 * k) + 192) + 0) + 0)) (by first | decide | omega) (by first | decide | omega) ?_
          have hq1 := LI_Sm hp_22 hq1
          refine r_if_eqN S (tgt := 196) (by decide) dL_table_175 (by decide) (fun c_23 => absurd c_23 (by decide)) (fun c_23 => ?_)
          refine lv_aload S.1 S.2.1 dL_table_178 (lv_at hl 5 rfl) ?_
          refine lv_bipush (v := nI 7) S.1 S.2.1 dL_table_180 (by decide) ?_
          refine r_ldc S Z (by omega) dL_table_182 ?_
          refine lv_iconst (v := nI 1) S.1 S.2.1 dL_table_183 (by decide) ?_
          refine r_icmpN_ne S (tgt := 198) (by omega) (by omega) dL_table_184 (by decide) (fun c_24 => ?_) (fun c_24 => ?_)
          · skip
            refine W.widen (k := 40 + 5 * (k + 1)) (n := 1682 + 192 * (k + 1)) (by omega) (by omega) ?_
            refine lv_iinc (v := nI (k + 1)) (lv' := [(5, .int (nI (k + 1))), (8, .int (nI what)), (0, .ref (b)), (1, .int (nI at_)), (2, .int (bi all)), (3, .ref (gA G 0)), (4, .ref (ca)), (6, .int (nI x)), (7, .int (nI y))]) S.1 S.2.1 dL_table_198 hl (k := 6) rfl (nI_inc rfl) (by decide) rfl (fun ls hl => ?_)
            refine lv_goto (tgt := 43) S.1 S.2.1 dL_table_201 (by decide) ?_
            exact ih_43 τ_21 ms_9 (k + 1) hq1 (by first | omega | exact Nat.zero_le _) (by omega) (by omega) (by omega) _ _ Z ls (lv_sub hl [2, 3, 4, 5, 6, 0] rfl)
          · skip
            refine lv_aload_n S.1 S.2.1 dL_table_187 rfl (lv_at hl 4 rfl) ?_
            refine lv_aload S.1 S.2.1 dL_table_188 (lv_at hl 5 rfl) ?_
            refine vp_callSi (va_runS (As := [.ref (gA G 0), .ref (ca)]) (rest := []) S (k_L_isIdeal l G τ_21 ca ms_9 ([]) o  hq1 c_24) (va_cwS 2 S.2.2.2.2 gL_table_L_isIdeal rfl rfl rfl hy_L_isIdeal ⟨Nat.le_of_ble_eq_true rfl, Nat.le_of_ble_eq_true rfl⟩) (wPc_S Z) rfl rfl hl.1 rfl (lv_room (Nat.le_of_ble_eq_true rfl)) dL_table_190 ⟨by show ((((40 + 5 * k) + 5) + 0) + 0) + 0 ≤ 260; omega, by show ((((1682 + 192 * k) + 192) + 0) + 0) + 0 ≤ 10130; omega⟩).run (fun r_25 h_26 => ?_)
            rw [h_26]; clear h_26 r_25
            refine r_if_neN S (tgt := 198) (by decide) dL_table_193 (by decide) (fun c_27 => ?_) (fun c_27 => absurd c_27 (by decide))
            refine W.widen (k := 40 + 5 * (k + 1)) (n := 1682 + 192 * (k + 1)) (by omega) (by omega) ?_
            refine lv_iinc (v := nI (k + 1)) (lv' := [(5, .int (nI (k + 1))), (8, .int (nI what)), (0, .ref (b)), (1, .int (nI at_)), (2, .int (bi all)), (3, .ref (gA G 0)), (4, .ref (ca)), (6, .int (nI x)), (7, .int (nI y))]) S.1 S.2.1 dL_table_198 hl (k := 6) rfl (nI_inc rfl) (by decide) rfl (fun ls hl => ?_)
            refine lv_goto (tgt := 43) S.1 S.2.1 dL_table_201 (by decide) ?_
            exact ih_43 τ_21 ms_9 (k + 1) hq1 (by first | omega | exact Nat.zero_le _) (by omega) (by omega) (by omega) _ _ Z ls (lv_sub hl [2, 3, 4, 5, 6, 0] rfl)
        refine lv_iload S.1 S.2.1 dL_table_82 (lv_at hl 7 rfl) ?_
        refine lv_bipush (v := nI 8) S.1 S.2.1 dL_table_84 (by decide) ?_
        refine r_icmpN_ge S (tgt := 93) (by omega) (by omega) dL_table_86 (by decide) (fun c_28 => ?_) (fun c_28 => ?_)
        · skip
          refine lv_aload_n S.1 S.2.1 dL_table_93 rfl (lv_at hl 2 rfl) ?_
          refine lv_iload_n S.1 S.2.1 dL_table_94 rfl (lv_at hl 3 rfl) ?_
          refine lv_iconst (v := nI 3) S.1 S.2.1 dL_table_95 (by decide) ?_
          refine lv_iload S.1 S.2.1 dL_table_96 (lv_at hl 7 rfl) ?_
          refine r_mulN S dL_table_98 ?_
          refine r_addN S dL_table_99 ?_
          refine lv_iload_n S.1 S.2.1 dL_table_100 rfl (lv_at hl 4 rfl) ?_
          refine r_if_eqB S (tgt := 109) dL_table_101 (by decide) (fun c_29 => ?_) (fun c_29 => ?_)
          · skip
            refine lv_bipush (v := nI 16) S.1 S.2.1 dL_table_109 (by decide) ?_
            refine vp_callSi (va_runS (As := [.ref (b), .int (nI (at_ + (3 * k))), .int (nI 16)]) (rest := []) S (k_L_draw l b L xs (at_ + (3 * k)) 16 hL (by omega) (by decide) (by decide)) (va_cwS 3 S.2.2.2.2 gL_table_L_draw rfl rfl rfl hy_L_draw ⟨Nat.le_of_ble_eq_true rfl, Nat.le_of_ble_eq_true rfl⟩) (dPc_S Z.2.2.2.2 hX hbl hbA) rfl rfl hl.1 rfl (lv_room (Nat.le_of_ble_eq_true rfl)) dL_table_111 ⟨by show (40 + 5 * k) + 0 ≤ 260; omega, by show (1682 + 192 * k) + 0 ≤ 10130; omega⟩).run (fun r_30 h_31 => ?_)
            obtain ⟨t9, ht9, h_31⟩ := h_31
            rw [h_31]; clear h_31 r_30
            exact L_114 t9 (by omega) _ _ Z ls (lv_sub hl [2, 3, 4, 5, 6, 7, 1, 0] rfl)
          · skip
            refine lv_bipush (v := nI 14) S.1 S.2.1 dL_table_104 (by decide) ?_
            refine lv_goto (tgt := 111) S.1 S.2.1 dL_table_106 (by decide) ?_
            refine vp_callSi (va_runS (As := [.ref (b), .int (nI (at_ + (3 * k))), .int (nI 14)]) (rest := []) S (k_L_draw l b L xs (at_ + (3 * k)) 14 hL (by omega) (by decide) (by decide)) (va_cwS 3 S.2.2.2.2 gL_table_L_draw rfl rfl rfl hy_L_draw ⟨Nat.le_of_ble_eq_true rfl, Nat.le_of_ble_eq_true rfl⟩) (dPc_S Z.2.2.2.2 hX hbl hbA) rfl rfl hl.1 rfl (lv_room (Nat.le_of_ble_eq_true rfl)) dL_table_111 ⟨by show (40 + 5 * k) + 0 ≤ 260; omega, by show (1682 + 192 * k) + 0 ≤ 10130; omega⟩).run (fun r_32 h_33 => ?_)
            obtain ⟨t9, ht9, h_33⟩ := h_33
            rw [h_33]; clear h_33 r_32
            exact L_114 t9 (by omega) _ _ Z ls (lv_sub hl [2, 3, 4, 5, 6, 7, 1, 0] rfl)
        · skip
          refine lv_iconst (v := nI 0) S.1 S.2.1 dL_table_89 (by decide) ?_
          refine lv_goto (tgt := 114) S.1 S.2.1 dL_table_90 (by decide) ?_
          exact L_114 0 (by omega) _ _ Z ls (lv_sub hl [2, 3, 4, 5, 6, 7, 1, 0] rfl)
  refine W.widen (k := (40 + 5 * 0)) (n := (1682 + 192 * 0)) (by first | decide | omega) (by first | decide | omega) ?_
  exact L_43 (44 - 0 + 1) σ m 0 hLI (by first | omega | exact Nat.zero_le _) (by omega) (by omega) (Nat.lt_succ_self _) _ _ Z ls (lv_sub hl [0, 1, 2, 3, 4, 5] rfl)
