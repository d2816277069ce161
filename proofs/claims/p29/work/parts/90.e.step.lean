abbrev rm_k_L_step : Room := { frames := 10, cells := 5, slots := 192, locals := 239 }
set_option maxHeartbeats 4000000 in
set_option maxRecDepth 100000 in
theorem k_L_step (l : Launch) (hst : l.stackTraces = false) (G : wG) (σ : cS) (ca : Nat) (m : Nat → Nat) (o : Nat → Int64) (what : Nat) (x : Nat) (y : Nat) (hwh : what < 16) (hx : x < 2 ^ 30) (hy : y < 2 ^ 30) (hLI : LI G σ m) (hm0 : m 0 ≤ 9900) (hm6 : m 6 ≤ 1000000) : Met l yL_step wsL_step rm_k_L_step (wPc G σ ((ca, cA G m) :: []) o [.ref (gA G 0), .int (nI what), .int (nI x), .int (nI y), .ref (ca)]) (va_Qi (fun (rr : Int32) (u : cS × mS) => rr = nI 1 ∧ SQ G ca m u) (fun u t => wI G u.1 u.2 o t) (gP G)) 5 192 (gP G) := by
  refine Met.ofW (cc := cL_step) (maxL := 8) (ret := (some .boolean)) (by decide) rfl ?_
  intro p e s m9 args below meth c s₁ B hml hv
  obtain ⟨hargs, hI⟩ := hv
  have S : CallFix p m9 c cL_step 8 s args wsL_step RL := ⟨B.exec, B.bytes, hml, findClass_of_methodNamed B.named, atoms_spec (ws := wsL_step) B.pre⟩
  have hret := B.returns
  have hlocks := B.notSynchronized
  have Z := wZ_0 hI
  clear hI
  obtain ⟨Q, hQ⟩ : ∃ Q, Q = MQ below (va_Qi (fun (rr : Int32) (u : cS × mS) => rr = nI 1 ∧ SQ G ca m u) (fun u t => wI G u.1 u.2 o t) (gP G)) args s 5 192 (gP G) := ⟨_, rfl⟩
  rw [← hQ]
  have hl := lv_entry [.ref (gA G 0), .int (nI what), .int (nI x), .int (nI y), .ref (ca)] (n := 8) (Nat.le_of_ble_eq_true rfl)
  rw [show entryFrame m9 args 8 = entryFrame m9 ([.ref (gA G 0), .int (nI what), .int (nI x), .int (nI y), .ref (ca)] : List Value).toArray 8 from by rw [hargs], lg_entry_eq]
  generalize (lg_sl [.ref (gA G 0), .int (nI what), .int (nI x), .int (nI y), .ref (ca)] ++ List.replicate (8 - (lg_sl [.ref (gA G 0), .int (nI what), .int (nI x), .int (nI y), .ref (ca)]).length) Slot.unset).toArray = ls at hl ⊢
  have hl : lv_has ls 8 [(0, .ref (gA G 0)), (1, .int (nI what)), (2, .int (nI x)), (3, .int (nI y)), (4, .ref (ca))] := hl
  have hLI0 := hLI
  obtain ⟨L, nn, hK, h0, h1, h1b, h2, h5, h5b, h7, h7b, h8, h8b⟩ := hLI
  have hlx := (hK.1.1 (x % 3) (by omega)).1
  have hmx := h2 (x % 3) (by omega)
  refine lv_iload_n S.1 S.2.1 dL_step_0 rfl (lv_at hl 1 rfl) ?_
  refine lv_bipush (v := nI 6) S.1 S.2.1 dL_step_1 (by decide) ?_
  refine r_icmpN_ge S (tgt := 15) (by omega) (by omega) dL_step_3 (by decide) (fun c_1 => ?_) (fun c_1 => ?_)
  · skip
    refine lv_iload_n S.1 S.2.1 dL_step_15 rfl (lv_at hl 1 rfl) ?_
    refine lv_bipush (v := nI 10) S.1 S.2.1 dL_step_16 (by decide) ?_
    refine r_icmpN_ge S (tgt := 34) (by omega) (by omega) dL_step_18 (by decide) (fun c_2 => ?_) (fun c_2 => ?_)
    · skip
      refine lv_iload_n S.1 S.2.1 dL_step_34 rfl (lv_at hl 1 rfl) ?_
      refine lv_bipush (v := nI 10) S.1 S.2.1 dL_step_35 (by decide) ?_
      refine r_icmpN_ne S (tgt := 139) (by omega) (by omega) dL_step_37 (by decide) (fun c_3 => ?_) (fun c_3 => ?_)
      · skip
        refine lv_iload_n S.1 S.2.1 dL_step_139 rfl (lv_at hl 1 rfl) ?_
        refine lv_bipush (v := nI 11) S.1 S.2.1 dL_step_140 (by decide) ?_
        refine r_icmpN_ne S (tgt := 192) (by omega) (by omega) dL_step_142 (by decide) (fun c_4 => ?_) (fun c_4 => ?_)
        · skip
          refine lv_iload_n S.1 S.2.1 dL_step_192 rfl (lv_at hl 1 rfl) ?_
          refine lv_bipush (v := nI 14) S.1 S.2.1 dL_step_193 (by decide) ?_
          refine r_icmpN_ge S (tgt := 207) (by omega) (by omega) dL_step_195 (by decide) (fun c_5 => ?_) (fun c_5 => ?_)
          · skip
            refine lv_iload_n S.1 S.2.1 dL_step_207 rfl (lv_at hl 1 rfl) ?_
            refine lv_bipush (v := nI 14) S.1 S.2.1 dL_step_208 (by decide) ?_
            refine r_icmpN_ne S (tgt := 237) (by omega) (by omega) dL_step_210 (by decide) (fun c_6 => ?_) (fun c_6 => ?_)
            · skip
              refine lv_aload S.1 S.2.1 dL_step_237 (lv_at hl 4 rfl) ?_
              refine lv_iconst (v := nI 1) S.1 S.2.1 dL_step_239 (by decide) ?_
              refine r_ldc S Z (by omega) dL_step_240 ?_
              refine lv_istore (lv' := [(5, .int (nI (m 1))), (0, .ref (gA G 0)), (1, .int (nI what)), (2, .int (nI x)), (3, .int (nI y)), (4, .ref (ca))]) S.1 S.2.1 dL_step_241 hl (by decide) rfl (fun ls hl => ?_)
              refine lv_aload S.1 S.2.1 dL_step_243 (lv_at hl 5 rfl) ?_
              refine lv_iconst (v := nI 1) S.1 S.2.1 dL_step_245 (by decide) ?_
              refine lv_iload_n S.1 S.2.1 dL_step_246 rfl (lv_at hl 4 rfl) ?_
              refine lv_bipush (v := nI 25) S.1 S.2.1 dL_step_247 (by decide) ?_
              refine r_remN S (by omega) (by decide) (by decide) dL_step_249 ?_
              refine r_stc S Z (by omega) dL_step_250 (fun H locs Z => ?_)
              refine lv_aload_n S.1 S.2.1 dL_step_251 rfl (lv_at hl 1 rfl) ?_
              refine lv_aload S.1 S.2.1 dL_step_252 (lv_at hl 5 rfl) ?_
              refine lv_iconst (v := nI 1) S.1 S.2.1 dL_step_254 (by decide) ?_
              refine r_ldc S Z (by omega) dL_step_255 ?_
              rw [va_up_self]
              refine va_calli (va_runV (As := [.int (nI (y % 25))]) (rest := []) S (k_X7_setGrace l G σ ((ca, cA G (va_up m 1 (y % 25))) :: []) o (y % 25) (by omega)) (cwV 1 S.2.2.2.2 gL_step_X7_setGrace rfl rfl rfl ⟨rfl, hy_X7_setGrace⟩ ⟨Nat.le_of_ble_eq_true rfl, Nat.le_of_ble_eq_true rfl⟩) (wPc_V (q := (RX7, TX7, 7)) Z (by decide) rfl rfl) rfl rfl hl.1 rfl (lv_room (Nat.le_of_ble_eq_true rfl)) dL_step_256 ⟨Nat.le_of_ble_eq_true rfl, Nat.le_of_ble_eq_true rfl⟩) Z.2.2.2.2 (fun _ _ h => h) (fun _ h => h) (fun r_7 u_8 T9 H1 locs1 hT9 hvm hw hB hz hk9 hS => ?_)
              obtain ⟨hr9, rfl⟩ := hw
              rw [hr9]; clear hr9 r_7
              have Z : wZ G (cV' σ 5 (nI (y % 25))) (((ca, cA G (va_up m 1 (y % 25))) :: [])) o s H1 locs1 := wZ_callP Z hB hT9 hS
              clear hB hT9 hS hk9 hz hvm T9
              revert Z; generalize H1 = H; generalize locs1 = locs; intro Z
              refine W.widen (k := 0) (n := 0) (by decide) (by decide) ?_
              refine lv_iload S.1 S.2.1 dL_step_259 (lv_at hl 0 rfl) ?_
              refine lv_icmp_ne (tgt := 268) S.1 S.2.1 dL_step_261 (by decide) (fun c_9 => absurd c_9 (by exact not_not_intro h1)) (fun c_9 => ?_)
              refine lv_iconst (v := nI 1) S.1 S.2.1 dL_step_264 (by decide) ?_
              refine lv_goto (tgt := 269) S.1 S.2.1 dL_step_265 (by decide) ?_
              refine W.widen (k := 5) (n := 192) (by first | decide | omega) (by first | decide | omega) ?_
              rw [hQ]
              exact W.zret (v := nI 1) S.1 S.2.1 hret rfl (fun _ hT9 hW => ⟨⟨_, (cV' σ 5 (nI (y % 25)), ((ca, cA G (va_up m 1 (y % 25))) :: [])), rfl, ⟨rfl, va_up m 1 (y % 25), rfl, LI_grace (by omega) hK h0 h2 h5 h5b h7 h7b h8 h8b, by rw [va_up_ne _ _ (by decide)]; omega, by rw [va_up_ne _ _ (by decide)]; omega⟩, wZ_P Z hT9 hW⟩, Z.2.2.2.2.F hT9⟩) Z.2.2.2.2.2.2 dL_step_269
            · skip
              refine lv_iload_n S.1 S.2.1 dL_step_213 rfl (lv_at hl 3 rfl) ?_
              refine lv_iconst (v := nI 3) S.1 S.2.1 dL_step_214 (by decide) ?_
              refine r_remN S (by omega) (by decide) (by decide) dL_step_215 ?_
              refine lv_if_gt (tgt := 231) S.1 S.2.1 dL_step_216 (by decide) (fun c_10 => ?_) (fun c_10 => ?_)
              · skip
                refine lv_iconst (v := nI 1) S.1 S.2.1 dL_step_231 (by decide) ?_
                refine lv_goto (tgt := 236) S.1 S.2.1 dL_step_232 (by decide) ?_
                refine W.widen (k := 5) (n := 192) (by first | decide | omega) (by first | decide | omega) ?_
                rw [hQ]
                exact W.zret (v := nI 1) S.1 S.2.1 hret rfl (fun _ hT9 hW => ⟨⟨_, (σ, (ca, cA G m) :: []), rfl, ⟨rfl, m, rfl, hLI0, by omega, by omega⟩, wZ_P Z hT9 hW⟩, Z.2.2.2.2.F hT9⟩) Z.2.2.2.2.2.2 dL_step_236
              · skip
                refine lv_aload_n S.1 S.2.1 dL_step_219 rfl (lv_at hl 0 rfl) ?_
                refine lv_iload_n S.1 S.2.1 dL_step_220 rfl (lv_at hl 2 rfl) ?_
                refine lv_iconst (v := nI 3) S.1 S.2.1 dL_step_221 (by decide) ?_
                refine r_remN S (by omega) (by decide) (by decide) dL_step_222 ?_
                refine lv_aload S.1 S.2.1 dL_step_223 (lv_at hl 4 rfl) ?_
                refine va_calli (va_runS (As := [.ref (gA G 0), .int (nI (x % 3)), .ref (ca)]) (rest := []) S (k_L_cleans l G σ ca m o ((x % 3)) (by omega) hLI0 (by omega) (by omega)) (va_cwS 3 S.2.2.2.2 gL_step_L_cleans rfl rfl rfl hy_L_cleans ⟨Nat.le_of_ble_eq_true rfl, Nat.le_of_ble_eq_true rfl⟩) (wPc_S Z) rfl rfl hl.1 rfl (lv_room (Nat.le_of_ble_eq_true rfl)) dL_step_225 ⟨Nat.le_of_ble_eq_true rfl, Nat.le_of_ble_eq_true rfl⟩) Z.2.2.2.2 (fun _ _ h => h) (fun _ h => h) (fun r_11 u_12 T9 H1 locs1 hT9 hvm hw hB hz hk9 hS => ?_)
                obtain ⟨τ_13, μ9⟩ := u_12
                obtain ⟨hr9, ms_14, hm9, hq1, hq2, hq3⟩ := hw
                have hm9 : μ9 = (ca, cA G ms_14) :: [] := hm9
                subst hm9
                rw [hr9]; clear hr9 r_11
                have Z : wZ G (τ_13) ((ca, cA G ms_14) :: []) o s H1 locs1 := wZ_callP Z hB hT9 hS
                clear hB hT9 hS hk9 hz hvm T9
                revert Z; generalize H1 = H; generalize locs1 = locs; intro Z
                refine W.widen (k := 3) (n := 192) (by first | decide | omega) (by first | decide | omega) ?_
                refine r_if_eqN S (tgt := 235) (by decide) dL_step_228 (by decide) (fun c_15 => absurd c_15 (by decide)) (fun c_15 => ?_)
                refine lv_iconst (v := nI 1) S.1 S.2.1 dL_step_231 (by decide) ?_
                refine lv_goto (tgt := 236) S.1 S.2.1 dL_step_232 (by decide) ?_
                refine W.widen (k := 5) (n := 192) (by first | decide | omega) (by first | decide | omega) ?_
                rw [hQ]
                exact W.zret (v := nI 1) S.1 S.2.1 hret rfl (fun _ hT9 hW => ⟨⟨_, (τ_13, (ca, cA G ms_14) :: []), rfl, ⟨rfl, ms_14, rfl, hq1, hq2, hq3⟩, wZ_P Z hT9 hW⟩, Z.2.2.2.2.F hT9⟩) Z.2.2.2.2.2.2 dL_step_236
          · skip
            refine lv_aload_n S.1 S.2.1 dL_step_198 rfl (lv_at hl 0 rfl) ?_
            refine lv_iload_n S.1 S.2.1 dL_step_199 rfl (lv_at hl 2 rfl) ?_
            refine lv_iload_n S.1 S.2.1 dL_step_200 rfl (lv_at hl 3 rfl) ?_
            refine lv_aload S.1 S.2.1 dL_step_201 (lv_at hl 4 rfl) ?_
            refine va_calli (va_runS (As := [.ref (gA G 0), .int (nI x), .int (nI y), .ref (ca)]) (rest := []) S (k_L_reads l G σ ca m o x y (by omega) (by omega) hLI0 (by omega) (by omega)) (va_cwS 4 S.2.2.2.2 gL_step_L_reads rfl rfl rfl hy_L_reads ⟨Nat.le_of_ble_eq_true rfl, Nat.le_of_ble_eq_true rfl⟩) (wPc_S Z) rfl rfl hl.1 rfl (lv_room (Nat.le_of_ble_eq_true rfl)) dL_step_203 ⟨Nat.le_of_ble_eq_true rfl, Nat.le_of_ble_eq_true rfl⟩) Z.2.2.2.2 (fun _ _ h => h) (fun _ h => h) (fun r_16 u_17 T9 H1 locs1 hT9 hvm hw hB hz hk9 hS => ?_)
            obtain ⟨τ_18, μ9⟩ := u_17
            obtain ⟨hr9, ms_19, hm9, hq1, hq2, hq3⟩ := hw
            have hm9 : μ9 = (ca, cA G ms_19) :: [] := hm9
            subst hm9
            rw [hr9]; clear hr9 r_16
            have Z : wZ G (τ_18) ((ca, cA G ms_19) :: []) o s H1 locs1 := wZ_callP Z hB hT9 hS
            clear hB hT9 hS hk9 hz hvm T9
            revert Z; generalize H1 = H; generalize locs1 = locs; intro Z
            refine W.widen (k := 0) (n := 0) (by first | decide | omega) (by first | decide | omega) ?_
            refine W.widen (k := 5) (n := 192) (by first | decide | omega) (by first | decide | omega) ?_
            rw [hQ]
            exact W.zret (v := nI 1) S.1 S.2.1 hret rfl (fun _ hT9 hW => ⟨⟨_, (τ_18, (ca, cA G ms_19) :: []), rfl, ⟨rfl, ms_19, rfl, hq1, hq2, hq3⟩, wZ_P Z hT9 hW⟩, Z.2.2.2.2.F hT9⟩) Z.2.2.2.2.2.2 dL_step_206
        · skip
          refine lv_iconst (v := nI 1) S.1 S.2.1 dL_step_145 (by decide) ?_
          refine lv_iload_n S.1 S.2.1 dL_step_146 rfl (lv_at hl 2 rfl) ?_
          refine lv_iload_n S.1 S.2.1 dL_step_147 rfl (lv_at hl 3 rfl) ?_
          refine lv_iconst (v := nI 3) S.1 S.2.1 dL_step_148 (by decide) ?_
          refine r_remN S (by omega) (by decide) (by decide) dL_step_149 ?_
          refine r_if_neN S (tgt := 158) (by omega) dL_step_150 (by decide) (fun c_20 => ?_) (fun c_20 => ?_)
          · skip
            refine lv_bipush (v := nI 6) S.1 S.2.1 dL_step_158 (by decide) ?_
            refine r_remN S (by omega) (by decide) (by decide) dL_step_160 ?_
            refine r_addN S dL_step_161 ?_
            refine lv_istore (lv' := [(5, .int (nI (1 + (x % 6)))), (0, .ref (gA G 0)), (1, .int (nI what)), (2, .int (nI x)), (3, .int (nI y)), (4, .ref (ca))]) S.1 S.2.1 dL_step_162 hl (by decide) rfl (fun ls hl => ?_)
            refine lv_aload S.1 S.2.1 dL_step_164 (lv_at hl 5 rfl) ?_
            refine lv_iconst (v := nI 0) S.1 S.2.1 dL_step_166 (by decide) ?_
            refine lv_dup2_11 S.1 S.2.1 dL_step_167 rfl rfl ?_
            refine r_ldc S Z (by omega) dL_step_168 ?_
            refine lv_iload S.1 S.2.1 dL_step_169 (lv_at hl 0 rfl) ?_
            refine r_addN S dL_step_171 ?_
            refine r_stc S Z (by omega) dL_step_172 (fun H locs Z => ?_)
            refine lv_aload_n S.1 S.2.1 dL_step_173 rfl (lv_at hl 1 rfl) ?_
            refine lv_iload S.1 S.2.1 dL_step_174 (lv_at hl 0 rfl) ?_
            refine va_calli (va_runV (As := [.int (nI (1 + (x % 6)))]) (rest := []) S (k_X7_pass l G σ ((ca, cA G (va_up m 0 ((m 0) + (1 + (x % 6))))) :: []) o (1 + (x % 6)) (by omega) (by omega) (by rw [h0, nI_add, nI_ltI (by decide) (by omega)]; omega)) (cwV 1 S.2.2.2.2 gL_step_X7_pass rfl rfl rfl ⟨rfl, hy_X7_pass⟩ ⟨Nat.le_of_ble_eq_true rfl, Nat.le_of_ble_eq_true rfl⟩) (wPc_V (q := (RX7, TX7, 7)) Z (by decide) rfl rfl) rfl rfl hl.1 rfl (lv_room (Nat.le_of_ble_eq_true rfl)) dL_step_176 ⟨Nat.le_of_ble_eq_true rfl, Nat.le_of_ble_eq_true rfl⟩) Z.2.2.2.2 (fun _ _ h => h) (fun _ h => h) (fun r_21 u_22 T9 H1 locs1 hT9 hvm hw hB hz hk9 hS => ?_)
            obtain ⟨hr9, rfl⟩ := hw
            rw [hr9]; clear hr9 r_21
            have Z : wZ G (cV' σ 4 (cV σ 4 + nI (1 + (x % 6)))) (((ca, cA G (va_up m 0 ((m 0) + (1 + (x % 6))))) :: [])) o s H1 locs1 := wZ_callP Z hB hT9 hS
            clear hB hT9 hS hk9 hz hvm T9
            revert Z; generalize H1 = H; generalize locs1 = locs; intro Z
            refine W.widen (k := 0) (n := 0) (by decide) (by decide) ?_
            refine lv_aload S.1 S.2.1 dL_step_179 (lv_at hl 5 rfl) ?_
            refine lv_iconst (v := nI 0) S.1 S.2.1 dL_step_181 (by decide) ?_
            refine r_ldc S Z (by omega) dL_step_182 ?_
            refine lv_icmp_ne (tgt := 190) S.1 S.2.1 dL_step_183 (by decide) (fun c_23 => absurd c_23 (by exact not_not_intro (by rw [h0, va_up_self, nI_add]))) (fun c_23 => ?_)
            refine lv_iconst (v := nI 1) S.1 S.2.1 dL_step_186 (by decide) ?_
            refine lv_goto (tgt := 191) S.1 S.2.1 dL_step_187 (by decide) ?_
            refine W.widen (k := 5) (n := 192) (by first | decide | omega) (by first | decide | omega) ?_
            rw [hQ]
            exact W.zret (v := nI 1) S.1 S.2.1 hret rfl (fun _ hT9 hW => ⟨⟨_, (cV' σ 4 (cV σ 4 + nI (1 + (x % 6))), ((ca, cA G (va_up m 0 ((m 0) + (1 + (x % 6))))) :: [])), rfl, ⟨rfl, va_up m 0 ((m 0) + (1 + (x % 6))), rfl, LI_pass hK h0 h1 h1b h2 h5 h5b h7 h7b h8 h8b, by rw [va_up_self]; omega, by rw [va_up_ne _ _ (by decide)]; omega⟩, wZ_P Z hT9 hW⟩, Z.2.2.2.2.F hT9⟩) Z.2.2.2.2.2.2 dL_step_191
          · skip
            refine lv_bipush (v := nI 100) S.1 S.2.1 dL_step_153 (by decide) ?_
            refine lv_goto (tgt := 160) S.1 S.2.1 dL_step_155 (by decide) ?_
            refine r_remN S (by omega) (by decide) (by decide) dL_step_160 ?_
            refine r_addN S dL_step_161 ?_
            refine lv_istore (lv' := [(5, .int (nI (1 + (x % 100)))), (0, .ref (gA G 0)), (1, .int (nI what)), (2, .int (nI x)), (3, .int (nI y)), (4, .ref (ca))]) S.1 S.2.1 dL_step_162 hl (by decide) rfl (fun ls hl => ?_)
            refine lv_aload S.1 S.2.1 dL_step_164 (lv_at hl 5 rfl) ?_
            refine lv_iconst (v := nI 0) S.1 S.2.1 dL_step_166 (by decide) ?_
            refine lv_dup2_11 S.1 S.2.1 dL_step_167 rfl rfl ?_
            refine r_ldc S Z (by omega) dL_step_168 ?_
            refine lv_iload S.1 S.2.1 dL_step_169 (lv_at hl 0 rfl) ?_
            refine r_addN S dL_step_171 ?_
            refine r_stc S Z (by omega) dL_step_172 (fun H locs Z => ?_)
            refine lv_aload_n S.1 S.2.1 dL_step_173 rfl (lv_at hl 1 rfl) ?_
            refine lv_iload S.1 S.2.1 dL_step_174 (lv_at hl 0 rfl) ?_
            refine va_calli (va_runV (As := [.int (nI (1 + (x % 100)))]) (rest := []) S (k_X7_pass l G σ ((ca, cA G (va_up m 0 ((m 0) + (1 + (x % 100))))) :: []) o (1 + (x % 100)) (by omega) (by omega) (by rw [h0, nI_add, nI_ltI (by decide) (by omega)]; omega)) (cwV 1 S.2.2.2.2 gL_step_X7_pass rfl rfl rfl ⟨rfl, hy_X7_pass⟩ ⟨Nat.le_of_ble_eq_true rfl, Nat.le_of_ble_eq_true rfl⟩) (wPc_V (q := (RX7, TX7, 7)) Z (by decide) rfl rfl) rfl rfl hl.1 rfl (lv_room (Nat.le_of_ble_eq_true rfl)) dL_step_176 ⟨Nat.le_of_ble_eq_true rfl, Nat.le_of_ble_eq_true rfl⟩) Z.2.2.2.2 (fun _ _ h => h) (fun _ h => h) (fun r_24 u_25 T9 H1 locs1 hT9 hvm hw hB hz hk9 hS => ?_)
            obtain ⟨hr9, rfl⟩ := hw
            rw [hr9]; clear hr9 r_24
            have Z : wZ G (cV' σ 4 (cV σ 4 + nI (1 + (x % 100)))) (((ca, cA G (va_up m 0 ((m 0) + (1 + (x % 100))))) :: [])) o s H1 locs1 := wZ_callP Z hB hT9 hS
            clear hB hT9 hS hk9 hz hvm T9
            revert Z; generalize H1 = H; generalize locs1 = locs; intro Z
            refine W.widen (k := 0) (n := 0) (by decide) (by decide) ?_
            refine lv_aload S.1 S.2.1 dL_step_179 (lv_at hl 5 rfl) ?_
            refine lv_iconst (v := nI 0) S.1 S.2.1 dL_step_181 (by decide) ?_
            refine r_ldc S Z (by omega) dL_step_182 ?_
            refine lv_icmp_ne (tgt := 190) S.1 S.2.1 dL_step_183 (by decide) (fun c_26 => absurd c_26 (by exact not_not_intro (by rw [h0, va_up_self, nI_add]))) (fun c_26 => ?_)
            refine lv_iconst (v := nI 1) S.1 S.2.1 dL_step_186 (by decide) ?_
            refine lv_goto (tgt := 191) S.1 S.2.1 dL_step_187 (by decide) ?_
            refine W.widen (k := 5) (n := 192) (by first | decide | omega) (by first | decide | omega) ?_
            rw [hQ]
            exact W.zret (v := nI 1) S.1 S.2.1 hret rfl (fun _ hT9 hW => ⟨⟨_, (cV' σ 4 (cV σ 4 + nI (1 + (x % 100))), ((ca, cA G (va_up m 0 ((m 0) + (1 + (x % 100))))) :: [])), rfl, ⟨rfl, va_up m 0 ((m 0) + (1 + (x % 100))), rfl, LI_pass hK h0 h1 h1b h2 h5 h5b h7 h7b h8 h8b, by rw [va_up_self]; omega, by rw [va_up_ne _ _ (by decide)]; omega⟩, wZ_P Z hT9 hW⟩, Z.2.2.2.2.F hT9⟩) Z.2.2.2.2.2.2 dL_step_191
      · skip
        refine lv_iload_n S.1 S.2.1 dL_step_40 rfl (lv_at hl 2 rfl) ?_
        refine lv_iconst (v := nI 3) S.1 S.2.1 dL_step_41 (by decide) ?_
        refine r_remN S (by omega) (by decide) (by decide) dL_step_42 ?_
        refine lv_istore (lv' := [(5, .int (nI (x % 3))), (0, .ref (gA G 0)), (1, .int (nI what)), (2, .int (nI x)), (3, .int (nI y)), (4, .ref (ca))]) S.1 S.2.1 dL_step_43 hl (by decide) rfl (fun ls hl => ?_)
        refine lv_iload_n S.1 S.2.1 dL_step_45 rfl (lv_at hl 4 rfl) ?_
        refine lv_iconst (v := nI 3) S.1 S.2.1 dL_step_46 (by decide) ?_
        refine r_remN S (by omega) (by decide) (by decide) dL_step_47 ?_
        refine lv_if_le (tgt := 55) S.1 S.2.1 dL_step_48 (by decide) (fun c_27 => ?_) (fun c_27 => ?_)
        · skip
          refine lv_iconst (v := nI 0) S.1 S.2.1 dL_step_55 (by decide) ?_
          refine lv_istore (lv' := [(6, .int (nI 0)), (5, .int (nI (x % 3))), (0, .ref (gA G 0)), (1, .int (nI what)), (2, .int (nI x)), (3, .int (nI y)), (4, .ref (ca))]) S.1 S.2.1 dL_step_56 hl (by decide) rfl (fun ls hl => ?_)
          refine lv_iload S.1 S.2.1 dL_step_58 (lv_at hl 0 rfl) ?_
          refine r_if_eqN S (tgt := 73) (by decide) dL_step_60 (by decide) (fun c_28 => ?_) (fun c_28 => absurd c_28 (by decide))
          refine lv_iconst (v := nI 0) S.1 S.2.1 dL_step_73 (by decide) ?_
          refine lv_istore (lv' := [(7, .int (nI 0)), (6, .int (nI 0)), (5, .int (nI (x % 3))), (0, .ref (gA G 0)), (1, .int (nI what)), (2, .int (nI x)), (3, .int (nI y)), (4, .ref (ca))]) S.1 S.2.1 dL_step_74 hl (by decide) rfl (fun ls hl => ?_)
          refine lv_aload S.1 S.2.1 dL_step_76 (lv_at hl 7 rfl) ?_
          refine lv_iconst (v := nI 2) S.1 S.2.1 dL_step_78 (by decide) ?_
          refine lv_iload S.1 S.2.1 dL_step_79 (lv_at hl 2 rfl) ?_
          refine r_addN S dL_step_81 ?_
          refine lv_dup2_11 S.1 S.2.1 dL_step_82 rfl rfl ?_
          refine r_ldc S Z (by omega) dL_step_83 ?_
          refine lv_iload S.1 S.2.1 dL_step_84 (lv_at hl 0 rfl) ?_
          refine r_subN S (by omega) dL_step_86 ?_
          refine r_stc S Z (by omega) dL_step_87 (fun H locs Z => ?_)
          refine lv_aload S.1 S.2.1 dL_step_88 (lv_at hl 7 rfl) ?_
          refine lv_iconst (v := nI 5) S.1 S.2.1 dL_step_90 (by decide) ?_
          refine lv_iload S.1 S.2.1 dL_step_91 (lv_at hl 1 rfl) ?_
          refine r_if_eqN S (tgt := 108) (by decide) dL_step_93 (by decide) (fun c_29 => ?_) (fun c_29 => absurd c_29 (by decide))
          refine lv_aload S.1 S.2.1 dL_step_108 (lv_at hl 7 rfl) ?_
          refine lv_iconst (v := nI 5) S.1 S.2.1 dL_step_110 (by decide) ?_
          refine r_ldc S Z (by omega) dL_step_111 ?_
          rw [show va_up m (2 + (x % 3)) ((m (2 + (x % 3))) - 0) 5 = m 5 from va_up_ne _ _ (by omega)]
          refine lv_iconst (v := nI 1) S.1 S.2.1 dL_step_112 (by decide) ?_
          refine lv_iload S.1 S.2.1 dL_step_113 (lv_at hl 2 rfl) ?_
          refine r_shl1 S (by omega) dL_step_115 ?_
          refine lv_iconst (v := -1) S.1 S.2.1 dL_step_116 (by decide) ?_
          refine lv_ixor S.1 S.2.1 dL_step_117 ?_
          refine lv_iand S.1 S.2.1 dL_step_118 ?_
          rw [clr_eq (m 5) h5 (x % 3) (by omega)]
          refine r_stc S Z (by omega) dL_step_119 (fun H locs Z => ?_)
          refine lv_aload_n S.1 S.2.1 dL_step_120 rfl (lv_at hl 3 rfl) ?_
          refine lv_iload S.1 S.2.1 dL_step_121 (lv_at hl 2 rfl) ?_
          refine lv_iload S.1 S.2.1 dL_step_123 (lv_at hl 1 rfl) ?_
          refine va_calli (va_runV (As := [.int (nI (x % 3)), .int (bi false)]) (rest := []) S (k_X7_setUp_f l G σ ((ca, cA G (va_up (va_up m (2 + (x % 3)) ((m (2 + (x % 3))) - 0)) 5 (clr (m 5) (x % 3)))) :: []) o (x % 3) (by omega)) (cwV 2 S.2.2.2.2 gL_step_X7_setUp rfl rfl rfl ⟨rfl, hy_X7_setUp⟩ ⟨Nat.le_of_ble_eq_true rfl, Nat.le_of_ble_eq_true rfl⟩) (wPc_V (q := (RX7, TX7, 7)) Z (by decide) rfl rfl) rfl rfl hl.1 rfl (lv_room (Nat.le_of_ble_eq_true rfl)) dL_step_125 ⟨Nat.le_of_ble_eq_true rfl, Nat.le_of_ble_eq_true rfl⟩) Z.2.2.2.2 (fun _ _ h => h) (fun _ h => h) (fun r_30 u_31 T9 H1 locs1 hT9 hvm hw hB hz hk9 hS => ?_)
          obtain ⟨hr9, rfl⟩ := hw
          rw [hr9]; clear hr9 r_30
          have Z : wZ G (cU' σ (x % 3) false) (((ca, cA G (va_up (va_up m (2 + (x % 3)) ((m (2 + (x % 3))) - 0)) 5 (clr (m 5) (x % 3)))) :: [])) o s H1 locs1 := wZ_callP Z hB hT9 hS
          clear hB hT9 hS hk9 hz hvm T9
          revert Z; generalize H1 = H; generalize locs1 = locs; intro Z
          refine W.widen (k := 0) (n := 0) (by first | decide | omega) (by first | decide | omega) ?_
          refine lv_iload S.1 S.2.1 dL_step_128 (lv_at hl 0 rfl) ?_
          refine r_icmpN_ne S (tgt := 137) (by omega) (by omega) dL_step_130 (by decide) (fun c_32 => absurd c_32 (by first | omega | exact not_not_intro (h2 _ (by omega)).symm)) (fun c_32 => ?_)
          refine lv_iconst (v := nI 1) S.1 S.2.1 dL_step_133 (by decide) ?_
          refine lv_goto (tgt := 138) S.1 S.2.1 dL_step_134 (by decide) ?_
          refine W.widen (k := 5) (n := 192) (by first | decide | omega) (by first | decide | omega) ?_
          rw [hQ]
          exact W.zret (v := nI 1) S.1 S.2.1 hret rfl (fun _ hT9 hW => ⟨⟨_, (cU' σ (x % 3) false, ((ca, cA G (va_up (va_up m (2 + (x % 3)) ((m (2 + (x % 3))) - 0)) 5 (clr (m 5) (x % 3)))) :: [])), rfl, ⟨rfl, va_up (va_up m (2 + (x % 3)) ((m (2 + (x % 3))) - 0)) 5 (clr (m 5) (x % 3)), rfl, LI_down (by omega) (by omega) hK h0 h1 h1b h2 h5 h5b h7 h7b h8 h8b, by rw [va_up_ne _ _ (by omega), va_up_ne _ _ (by omega)]; omega, by rw [va_up_ne _ _ (by omega), va_up_ne _ _ (by omega)]; omega⟩, wZ_P Z hT9 hW⟩, Z.2.2.2.2.F hT9⟩) Z.2.2.2.2.2.2 dL_step_138
        · skip
          refine lv_iconst (v := nI 1) S.1 S.2.1 dL_step_51 (by decide) ?_
          refine lv_goto (tgt := 56) S.1 S.2.1 dL_step_52 (by decide) ?_
          refine lv_istore (lv' := [(6, .int (nI 1)), (5, .int (nI (x % 3))), (0, .ref (gA G 0)), (1, .int (nI what)), (2, .int (nI x)), (3, .int (nI y)), (4, .ref (ca))]) S.1 S.2.1 dL_step_56 hl (by decide) rfl (fun ls hl => ?_)
          refine lv_iload S.1 S.2.1 dL_step_58 (lv_at hl 0 rfl) ?_
          refine r_if_eqN S (tgt := 73) (by decide) dL_step_60 (by decide) (fun c_33 => absurd c_33 (by decide)) (fun c_33 => ?_)
          refine lv_aload S.1 S.2.1 dL_step_63 (lv_at hl 6 rfl) ?_
          refine lv_iconst (v := nI 2) S.1 S.2.1 dL_step_65 (by decide) ?_
          refine lv_iload S.1 S.2.1 dL_step_66 (lv_at hl 1 rfl) ?_
          refine r_addN S dL_step_68 ?_
          refine r_ldc S Z (by omega) dL_step_69 ?_
          refine lv_goto (tgt := 74) S.1 S.2.1 dL_step_70 (by decide) ?_
          refine lv_istore (lv' := [(7, .int (nI (m (2 + (x % 3))))), (6, .int (nI 1)), (5, .int (nI (x % 3))), (0, .ref (gA G 0)), (1, .int (nI what)), (2, .int (nI x)), (3, .int (nI y)), (4, .ref (ca))]) S.1 S.2.1 dL_step_74 hl (by decide) rfl (fun ls hl => ?_)
          refine lv_aload S.1 S.2.1 dL_step_76 (lv_at hl 7 rfl) ?_
          refine lv_iconst (v := nI 2) S.1 S.2.1 dL_step_78 (by decide) ?_
          refine lv_iload S.1 S.2.1 dL_step_79 (lv_at hl 2 rfl) ?_
          refine r_addN S dL_step_81 ?_
          refine lv_dup2_11 S.1 S.2.1 dL_step_82 rfl rfl ?_
          refine r_ldc S Z (by omega) dL_step_83 ?_
          refine lv_iload S.1 S.2.1 dL_step_84 (lv_at hl 0 rfl) ?_
          refine r_subN S (by omega) dL_step_86 ?_
          refine r_stc S Z (by omega) dL_step_87 (fun H locs Z => ?_)
          refine lv_aload S.1 S.2.1 dL_step_88 (lv_at hl 7 rfl) ?_
          refine lv_iconst (v := nI 5) S.1 S.2.1 dL_step_90 (by decide) ?_
          refine lv_iload S.1 S.2.1 dL_step_91 (lv_at hl 1 rfl) ?_
          refine r_if_eqN S (tgt := 108) (by decide) dL_step_93 (by decide) (fun c_34 => absurd c_34 (by decide)) (fun c_34 => ?_)
          refine lv_aload S.1 S.2.1 dL_step_96 (lv_at hl 7 rfl) ?_
          refine lv_iconst (v := nI 5) S.1 S.2.1 dL_step_98 (by decide) ?_
          refine r_ldc S Z (by omega) dL_step_99 ?_
          rw [show va_up m (2 + (x % 3)) ((m (2 + (x % 3))) - (m (2 + (x % 3)))) 5 = m 5 from va_up_ne _ _ (by omega)]
          refine lv_iconst (v := nI 1) S.1 S.2.1 dL_step_100 (by decide) ?_
          refine lv_iload S.1 S.2.1 dL_step_101 (lv_at hl 2 rfl) ?_
          refine r_shl1 S (by omega) dL_step_103 ?_
          refine r_orN S dL_step_104 ?_
          refine lv_goto (tgt := 119) S.1 S.2.1 dL_step_105 (by decide) ?_
          refine r_stc S Z (by omega) dL_step_119 (fun H locs Z => ?_)
          refine lv_aload_n S.1 S.2.1 dL_step_120 rfl (lv_at hl 3 rfl) ?_
          refine lv_iload S.1 S.2.1 dL_step_121 (lv_at hl 2 rfl) ?_
          refine lv_iload S.1 S.2.1 dL_step_123 (lv_at hl 1 rfl) ?_
          refine va_calli (va_runV (As := [.int (nI (x % 3)), .int (bi true)]) (rest := []) S (k_X7_setUp_t l G σ ((ca, cA G (va_up (va_up m (2 + (x % 3)) ((m (2 + (x % 3))) - (m (2 + (x % 3))))) 5 (m 5 ||| 2 ^ (x % 3)))) :: []) o (x % 3) L (by omega) hK.1 (fun cc hcc => (hK.2.2.2.2 (x % 3) (by omega) cc hcc).1)) (cwV 2 S.2.2.2.2 gL_step_X7_setUp rfl rfl rfl ⟨rfl, hy_X7_setUp⟩ ⟨Nat.le_of_ble_eq_true rfl, Nat.le_of_ble_eq_true rfl⟩) (wPc_V (q := (RX7, TX7, 7)) Z (by decide) rfl rfl) rfl rfl hl.1 rfl (lv_room (Nat.le_of_ble_eq_true rfl)) dL_step_125 ⟨Nat.le_of_ble_eq_true rfl, Nat.le_of_ble_eq_true rfl⟩) Z.2.2.2.2 (fun _ _ h => h) (fun _ h => h) (fun r_35 u_36 T9 H1 locs1 hT9 hvm hw hB hz hk9 hS => ?_)
          obtain ⟨τ_37, μ9⟩ := u_36
          obtain ⟨hr9, hm9, hp9⟩ := hw
          have hm9 : ((ca, cA G (va_up (va_up m (2 + (x % 3)) ((m (2 + (x % 3))) - (m (2 + (x % 3))))) 5 (m 5 ||| 2 ^ (x % 3)))) :: []) = μ9 := hm9.symm
          subst hm9
          have hp_38 : sc τ_37 (cuS σ (x % 3) (L (x % 3))) ∧ HI G τ_37 (va_up L (x % 3) []) := hp9
          clear hp9
          rw [hr9]; clear hr9 r_35
          have Z : wZ G (τ_37) (((ca, cA G (va_up (va_up m (2 + (x % 3)) ((m (2 + (x % 3))) - (m (2 + (x % 3))))) 5 (m 5 ||| 2 ^ (x % 3)))) :: [])) o s H1 locs1 := wZ_callP Z hB hT9 hS
          clear hB hT9 hS hk9 hz hvm T9
          revert Z; generalize H1 = H; generalize locs1 = locs; intro Z
          refine W.widen (k := 0) (n := 0) (by first | decide | omega) (by first | decide | omega) ?_
          refine lv_iload S.1 S.2.1 dL_step_128 (lv_at hl 0 rfl) ?_
          refine r_icmpN_ne S (tgt := 137) (by omega) (by omega) dL_step_130 (by decide) (fun c_39 => absurd c_39 (by first | omega | exact not_not_intro (h2 _ (by omega)).symm)) (fun c_39 => ?_)
          refine lv_iconst (v := nI 1) S.1 S.2.1 dL_step_133 (by decide) ?_
          refine lv_goto (tgt := 138) S.1 S.2.1 dL_step_134 (by decide) ?_
          refine W.widen (k := 5) (n := 192) (by first | decide | omega) (by first | decide | omega) ?_
          rw [hQ]
          exact W.zret (v := nI 1) S.1 S.2.1 hret rfl (fun _ hT9 hW => ⟨⟨_, (τ_37, ((ca, cA G (va_up (va_up m (2 + (x % 3)) ((m (2 + (x % 3))) - (m (2 + (x % 3))))) 5 (m 5 ||| 2 ^ (x % 3)))) :: [])), rfl, ⟨rfl, va_up (va_up m (2 + (x % 3)) ((m (2 + (x % 3))) - (m (2 + (x % 3))))) 5 (m 5 ||| 2 ^ (x % 3)), rfl, LI_up (by omega) (by omega) hK hp_38.1 hp_38.2 h0 h1 h1b h2 h5 h5b h7 h7b h8 h8b, by rw [va_up_ne _ _ (by omega), va_up_ne _ _ (by omega)]; omega, by rw [va_up_ne _ _ (by omega), va_up_ne _ _ (by omega)]; omega⟩, wZ_P Z hT9 hW⟩, Z.2.2.2.2.F hT9⟩) Z.2.2.2.2.2.2 dL_step_138
    · skip
      refine lv_aload_n S.1 S.2.1 dL_step_21 rfl (lv_at hl 0 rfl) ?_
      refine lv_iload_n S.1 S.2.1 dL_step_22 rfl (lv_at hl 1 rfl) ?_
      refine lv_bipush (v := nI 6) S.1 S.2.1 dL_step_23 (by decide) ?_
      refine r_subN S (by omega) dL_step_25 ?_
      refine lv_iload_n S.1 S.2.1 dL_step_26 rfl (lv_at hl 2 rfl) ?_
      refine lv_iload_n S.1 S.2.1 dL_step_27 rfl (lv_at hl 3 rfl) ?_
      refine lv_aload S.1 S.2.1 dL_step_28 (lv_at hl 4 rfl) ?_
      refine va_calli (va_runS (As := [.ref (gA G 0), .int (nI (what - 6)), .int (nI x), .int (nI y), .ref (ca)]) (rest := []) S (k_L_buries l hst G σ ca m o ((what - 6)) x y (by omega) (by omega) (by omega) hLI0 (by omega) (by omega)) (va_cwS 5 S.2.2.2.2 gL_step_L_buries rfl rfl rfl hy_L_buries ⟨Nat.le_of_ble_eq_true rfl, Nat.le_of_ble_eq_true rfl⟩) (wPc_S Z) rfl rfl hl.1 rfl (lv_room (Nat.le_of_ble_eq_true rfl)) dL_step_30 ⟨Nat.le_of_ble_eq_true rfl, Nat.le_of_ble_eq_true rfl⟩) Z.2.2.2.2 (fun _ _ h => h) (fun _ h => h) (fun r_40 u_41 T9 H1 locs1 hT9 hvm hw hB hz hk9 hS => ?_)
      obtain ⟨τ_42, μ9⟩ := u_41
      obtain ⟨hr9, ms_43, hm9, hq1, hq2, hq3⟩ := hw
      have hm9 : μ9 = (ca, cA G ms_43) :: [] := hm9
      subst hm9
      rw [hr9]; clear hr9 r_40
      have Z : wZ G (τ_42) ((ca, cA G ms_43) :: []) o s H1 locs1 := wZ_callP Z hB hT9 hS
      clear hB hT9 hS hk9 hz hvm T9
      revert Z; generalize H1 = H; generalize locs1 = locs; intro Z
      refine W.widen (k := 5) (n := 36) (by first | decide | omega) (by first | decide | omega) ?_
      refine W.widen (k := 5) (n := 192) (by first | decide | omega) (by first | decide | omega) ?_
      rw [hQ]
      exact W.zret (v := nI 1) S.1 S.2.1 hret rfl (fun _ hT9 hW => ⟨⟨_, (τ_42, (ca, cA G ms_43) :: []), rfl, ⟨rfl, ms_43, rfl, hq1, hq2, hq3⟩, wZ_P Z hT9 hW⟩, Z.2.2.2.2.F hT9⟩) Z.2.2.2.2.2.2 dL_step_33
  · skip
    refine lv_aload_n S.1 S.2.1 dL_step_6 rfl (lv_at hl 0 rfl) ?_
    refine lv_iload_n S.1 S.2.1 dL_step_7 rfl (lv_at hl 2 rfl) ?_
    refine lv_iload_n S.1 S.2.1 dL_step_8 rfl (lv_at hl 3 rfl) ?_
    refine lv_aload S.1 S.2.1 dL_step_9 (lv_at hl 4 rfl) ?_
    refine va_calli (va_runS (As := [.ref (gA G 0), .int (nI x), .int (nI y), .ref (ca)]) (rest := []) S (k_L_writes l G σ ca m o x y (by omega) (by omega) hLI0 (by omega) (by omega)) (va_cwS 4 S.2.2.2.2 gL_step_L_writes rfl rfl rfl hy_L_writes ⟨Nat.le_of_ble_eq_true rfl, Nat.le_of_ble_eq_true rfl⟩) (wPc_S Z) rfl rfl hl.1 rfl (lv_room (Nat.le_of_ble_eq_true rfl)) dL_step_11 ⟨Nat.le_of_ble_eq_true rfl, Nat.le_of_ble_eq_true rfl⟩) Z.2.2.2.2 (fun _ _ h => h) (fun _ h => h) (fun r_44 u_45 T9 H1 locs1 hT9 hvm hw hB hz hk9 hS => ?_)
    obtain ⟨τ_46, μ9⟩ := u_45
    obtain ⟨hr9, ms_47, hm9, hq1, hq2, hq3⟩ := hw
    have hm9 : μ9 = (ca, cA G ms_47) :: [] := hm9
    subst hm9
    rw [hr9]; clear hr9 r_44
    have Z : wZ G (τ_46) ((ca, cA G ms_47) :: []) o s H1 locs1 := wZ_callP Z hB hT9 hS
    clear hB hT9 hS hk9 hz hvm T9
    revert Z; generalize H1 = H; generalize locs1 = locs; intro Z
    refine W.widen (k := 5) (n := 37) (by first | decide | omega) (by first | decide | omega) ?_
    refine W.widen (k := 5) (n := 192) (by first | decide | omega) (by first | decide | omega) ?_
    rw [hQ]
    exact W.zret (v := nI 1) S.1 S.2.1 hret rfl (fun _ hT9 hW => ⟨⟨_, (τ_46, (ca, cA G ms_47) :: []), rfl, ⟨rfl, ms_47, rfl, hq1, hq2, hq3⟩, wZ_P Z hT9 hW⟩, Z.2.2.2.2.F hT9⟩) Z.2.2.2.2.2.2 dL_step_14
