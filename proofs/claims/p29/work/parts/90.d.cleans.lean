theorem m_L_cleans_arint : Cond.arrayClass .int ∈ wsL_cleans := by decide +kernel
abbrev rm_k_L_cleans : Room := { frames := 6, cells := 3, slots := 192, locals := 142 }
set_option maxHeartbeats 4000000 in
set_option maxRecDepth 100000 in
theorem k_L_cleans (l : Launch) (G : wG) (σ : cS) (ca : Nat) (m : Nat → Nat) (o : Nat → Int64) (i : Nat) (hi : i < 3) (hLI : LI G σ m) (hm0 : m 0 ≤ 10000) (hm6 : m 6 ≤ 1000000) : Met l yL_cleans wsL_cleans rm_k_L_cleans (wPc G σ ((ca, cA G m) :: []) o [.ref (gA G 0), .int (nI i), .ref (ca)]) (va_Qi (fun (rr : Int32) (u : cS × mS) => rr = nI 1 ∧ SQ G ca m u) (fun u t => wI G u.1 u.2 o t) (gP G)) 3 192 (gP G) := by
  refine Met.ofW (cc := cL_cleans) (maxL := 12) (ret := (some .boolean)) (by decide) rfl ?_
  intro p e s m9 args below meth c s₁ B hml hv
  obtain ⟨hargs, hI⟩ := hv
  have S : CallFix p m9 c cL_cleans 12 s args wsL_cleans RL := ⟨B.exec, B.bytes, hml, findClass_of_methodNamed B.named, atoms_spec (ws := wsL_cleans) B.pre⟩
  have hret := B.returns
  have hlocks := B.notSynchronized
  have Z := wZ_0 hI
  clear hI
  obtain ⟨Q, hQ⟩ : ∃ Q, Q = MQ below (va_Qi (fun (rr : Int32) (u : cS × mS) => rr = nI 1 ∧ SQ G ca m u) (fun u t => wI G u.1 u.2 o t) (gP G)) args s 3 192 (gP G) := ⟨_, rfl⟩
  rw [← hQ]
  have hl := lv_entry [.ref (gA G 0), .int (nI i), .ref (ca)] (n := 12) (Nat.le_of_ble_eq_true rfl)
  rw [show entryFrame m9 args 12 = entryFrame m9 ([.ref (gA G 0), .int (nI i), .ref (ca)] : List Value).toArray 12 from by rw [hargs], lg_entry_eq]
  generalize (lg_sl [.ref (gA G 0), .int (nI i), .ref (ca)] ++ List.replicate (12 - (lg_sl [.ref (gA G 0), .int (nI i), .ref (ca)]).length) Slot.unset).toArray = ls at hl ⊢
  have hl : lv_has ls 12 [(0, .ref (gA G 0)), (1, .int (nI i)), (2, .ref (ca))] := hl
  have hLI0 := hLI
  obtain ⟨L, nn, hK, h0, h1, h1b, h2, h5, h5b, h7, h7b, h8, h8b⟩ := hLI
  have hce : cntE σ i 64 ≤ 64 := cntE_le 64
  have hts := tsum_le (σ := σ) (i := i)
  refine lv_aload_n S.1 S.2.1 dL_cleans_0 rfl (lv_at hl 2 rfl) ?_
  refine lv_iconst (v := nI 5) S.1 S.2.1 dL_cleans_1 (by decide) ?_
  refine r_ldc S Z (by omega) dL_cleans_2 ?_
  refine lv_iload_n S.1 S.2.1 dL_cleans_3 rfl (lv_at hl 1 rfl) ?_
  refine lv_ishr S.1 S.2.1 dL_cleans_4 ?_
  refine lv_iconst (v := nI 1) S.1 S.2.1 dL_cleans_5 (by decide) ?_
  refine lv_iand S.1 S.2.1 dL_cleans_6 ?_
  rw [bitB_sh (x := nI (m 5)) (r := i) (by omega)]
  refine r_if_neB S (tgt := 12) dL_cleans_7 (by decide) (fun c_1 => ?_) (fun c_1 => ?_)
  · skip
    have hu : cU σ i = true := by rw [← h5b i hi, ← tb_bitB (by omega)]; exact c_1
    refine lv_aload_n S.1 S.2.1 dL_cleans_12 rfl (lv_at hl 0 rfl) ?_
    refine lv_iload_n S.1 S.2.1 dL_cleans_13 rfl (lv_at hl 1 rfl) ?_
    refine vp_callSi (va_runV (As := [.int (nI i)]) (rest := []) S (kr_entries l G σ ((ca, cA G m) :: []) o σ i Sm_rf (by omega)) (cwV 1 S.2.2.2.2 gL_cleans_X7_entries rfl rfl rfl ⟨rfl, hy_X7_entries⟩ ⟨Nat.le_of_ble_eq_true rfl, Nat.le_of_ble_eq_true rfl⟩) (wPc_V (q := (RX7, TX7, 7)) Z (by decide) rfl rfl) rfl rfl hl.1 rfl (lv_room (Nat.le_of_ble_eq_true rfl)) dL_cleans_14 ⟨Nat.le_of_ble_eq_true rfl, Nat.le_of_ble_eq_true rfl⟩).run (fun r_2 h_3 => ?_)
    rw [h_3]; clear h_3 r_2
    refine lv_istore_n (lv' := [(3, .int (nI (cntE σ i 64))), (0, .ref (gA G 0)), (1, .int (nI i)), (2, .ref (ca))]) S.1 S.2.1 dL_cleans_17 rfl hl (by decide) rfl (fun ls hl => ?_)
    refine lv_bipush (v := nI 64) S.1 S.2.1 dL_cleans_18 (by decide) ?_
    refine r_newA (n := 64) S Z (by decide) m_L_cleans_arint (by decide) (by decide) dL_cleans_20 (fun q1 H Z => ?_)
    have Z : wZ G (σ) ((ca, cA G m) :: [(q1, iA G 64 (fun _ => 0))]) o s H [] := Z
    refine lv_astore (lv' := [(4, .ref (q1)), (3, .int (nI (cntE σ i 64))), (0, .ref (gA G 0)), (1, .int (nI i)), (2, .ref (ca))]) S.1 S.2.1 dL_cleans_22 hl (by decide) rfl (fun ls hl => ?_)
    refine lv_bipush (v := nI 64) S.1 S.2.1 dL_cleans_24 (by decide) ?_
    refine r_newA (n := 64) S Z (by decide) m_L_cleans_arint (by decide) (by decide) dL_cleans_26 (fun q2 H Z => ?_)
    have Z : wZ G (σ) ((ca, cA G m) :: [(q1, iA G 64 (fun _ => 0)), (q2, iA G 64 (fun _ => 0))]) o s H [] := Z
    refine lv_astore (lv' := [(5, .ref (q2)), (4, .ref (q1)), (3, .int (nI (cntE σ i 64))), (0, .ref (gA G 0)), (1, .int (nI i)), (2, .ref (ca))]) S.1 S.2.1 dL_cleans_28 hl (by decide) rfl (fun ls hl => ?_)
    refine lv_bipush (v := nI 64) S.1 S.2.1 dL_cleans_30 (by decide) ?_
    refine r_newA (n := 64) S Z (by decide) m_L_cleans_arint (by decide) (by decide) dL_cleans_32 (fun q3 H Z => ?_)
    have Z : wZ G (σ) ((ca, cA G m) :: [(q1, iA G 64 (fun _ => 0)), (q2, iA G 64 (fun _ => 0)), (q3, iA G 64 (fun _ => 0))]) o s H [] := Z
    refine lv_astore (lv' := [(6, .ref (q3)), (5, .ref (q2)), (4, .ref (q1)), (3, .int (nI (cntE σ i 64))), (0, .ref (gA G 0)), (1, .int (nI i)), (2, .ref (ca))]) S.1 S.2.1 dL_cleans_34 hl (by decide) rfl (fun ls hl => ?_)
    refine lv_iconst (v := nI 0) S.1 S.2.1 dL_cleans_36 (by decide) ?_
    refine lv_istore (lv' := [(7, .int (nI 0)), (6, .ref (q3)), (5, .ref (q2)), (4, .ref (q1)), (3, .int (nI (cntE σ i 64))), (0, .ref (gA G 0)), (1, .int (nI i)), (2, .ref (ca))]) S.1 S.2.1 dL_cleans_37 hl (by decide) rfl (fun ls hl => ?_)
    have L_39 : ∀ (n : Nat) (k1 : Nat) (hk : k1 ≤ 64) (hn : 64 - k1 < n) (H : Heap) (locs : List Loc) (Z : wZ G (σ) ((ca, cA G m) :: [(q1, iA G 64 (fa_fill (fun j => (sE σ i j).1) (fun _ => 0) k1)), (q2, iA G 64 (fa_fill (fun j => visV σ i (j / 4) (j % 4) (cV σ 4)) (fun _ => 0) k1)), (q3, iA G 64 (fa_fill (fun j => gB σ i (j / 4) (j % 4)) (fun _ => 0) k1))]) o s H locs) (ls : Array Slot) (hl : lv_has ls 12 [(0, .ref (gA G 0)), (1, .int (nI i)), (2, .ref (ca)), (3, .int (nI (cntE σ i 64))), (4, .ref (q1)), (5, .ref (q2)), (6, .ref (q3)), (7, .int (nI k1))]), W p l e (headSpec wsL_cleans rm_k_L_cleans).room s m9 args below meth c H locs 3 192 Q (F0 m9 39 ls []) := by
      intro n
      induction n with
      | zero => intro k1 hk hn; omega
      | succ n ih_39 =>
        intro k1 hk hn H locs Z ls hl
        refine lv_iload S.1 S.2.1 dL_cleans_39 (lv_at hl 7 rfl) ?_
        refine lv_bipush (v := nI 64) S.1 S.2.1 dL_cleans_41 (by decide) ?_
        refine r_icmpN_ge S (tgt := 106) (by omega) (by omega) dL_cleans_43 (by decide) (fun c_4 => ?_) (fun c_4 => ?_)
        · skip
          obtain rfl : k1 = 64 := by omega
          refine lv_iconst (v := nI 0) S.1 S.2.1 dL_cleans_106 (by decide) ?_
          refine lv_istore (lv' := [(7, .int (nI 0)), (0, .ref (gA G 0)), (1, .int (nI i)), (2, .ref (ca)), (3, .int (nI (cntE σ i 64))), (4, .ref (q1)), (5, .ref (q2)), (6, .ref (q3))]) S.1 S.2.1 dL_cleans_107 hl (by decide) rfl (fun ls hl => ?_)
          have L_109 : ∀ (n : Nat) (r : Nat) (hr4 : r ≤ 4) (hn : 4 - r < n) (H : Heap) (locs : List Loc) (Z : wZ G (σ) ((ca, cA G m) :: [(q1, iA G 64 (fa_fill (fun j => (sE σ i j).1) (fun _ => 0) 64)), (q2, iA G 64 (fa_fill (fun j => visV σ i (j / 4) (j % 4) (cV σ 4)) (fun _ => 0) 64)), (q3, iA G 64 (fa_fill (fun j => gB σ i (j / 4) (j % 4)) (fun _ => 0) 64))]) o s H locs) (ls : Array Slot) (hl : lv_has ls 12 [(0, .ref (gA G 0)), (1, .int (nI i)), (2, .ref (ca)), (3, .int (nI (cntE σ i 64 + tsum σ i r))), (4, .ref (q1)), (5, .ref (q2)), (6, .ref (q3)), (7, .int (nI r))]), W p l e (headSpec wsL_cleans rm_k_L_cleans).room s m9 args below meth c H locs 3 192 Q (F0 m9 109 ls []) := by
            intro n
            induction n with
            | zero => intro r hr4 hn; omega
            | succ n ih_109 =>
              intro r hr4 hn H locs Z ls hl
              refine lv_iload S.1 S.2.1 dL_cleans_109 (lv_at hl 7 rfl) ?_
              refine lv_iconst (v := nI 4) S.1 S.2.1 dL_cleans_111 (by decide) ?_
              refine r_icmpN_ge S (tgt := 131) (by omega) (by omega) dL_cleans_112 (by decide) (fun c_5 => ?_) (fun c_5 => ?_)
              · skip
                obtain rfl : r = 4 := by omega
                refine lv_aload_n S.1 S.2.1 dL_cleans_131 rfl (lv_at hl 0 rfl) ?_
                refine lv_iload_n S.1 S.2.1 dL_cleans_132 rfl (lv_at hl 1 rfl) ?_
                refine va_calli (va_runV (As := [.int (nI i)]) (rest := []) S (kr_clean l G σ ((ca, cA G m) :: [(q1, iA G 64 (fa_fill (fun j => (sE σ i j).1) (fun _ => 0) 64)), (q2, iA G 64 (fa_fill (fun j => visV σ i (j / 4) (j % 4) (cV σ 4)) (fun _ => 0) 64)), (q3, iA G 64 (fa_fill (fun j => gB σ i (j / 4) (j % 4)) (fun _ => 0) 64))]) o i (m 0) (m 1) (by omega) hu h0 h1) (cwV 1 S.2.2.2.2 gL_cleans_X7_clean rfl rfl rfl ⟨rfl, hy_X7_clean⟩ ⟨Nat.le_of_ble_eq_true rfl, Nat.le_of_ble_eq_true rfl⟩) (wPc_V (q := (RX7, TX7, 7)) Z (by decide) rfl rfl) rfl rfl hl.1 rfl (lv_room (Nat.le_of_ble_eq_true rfl)) dL_cleans_133 ⟨Nat.le_of_ble_eq_true rfl, Nat.le_of_ble_eq_true rfl⟩) Z.2.2.2.2 (fun _ _ h => h) (fun _ h => h) (fun r_6 u_7 T9 H1 locs1 hT9 hvm hw hB hz hk9 hS => ?_)
                obtain ⟨τ_8, μ9⟩ := u_7
                obtain ⟨hr9, hm9, hp9⟩ := hw
                have hm9 : ((ca, cA G m) :: [(q1, iA G 64 (fa_fill (fun j => (sE σ i j).1) (fun _ => 0) 64)), (q2, iA G 64 (fa_fill (fun j => visV σ i (j / 4) (j % 4) (cV σ 4)) (fun _ => 0) 64)), (q3, iA G 64 (fa_fill (fun j => gB σ i (j / 4) (j % 4)) (fun _ => 0) 64))]) = μ9 := hm9.symm
                subst hm9
                have hp_9 : τ_8 = clS σ i (nI (m 0) - nI (m 1)) := hp9
                clear hp9
                rw [hr9]; clear hr9 r_6
                have Z : wZ G (τ_8) (((ca, cA G m) :: [(q1, iA G 64 (fa_fill (fun j => (sE σ i j).1) (fun _ => 0) 64)), (q2, iA G 64 (fa_fill (fun j => visV σ i (j / 4) (j % 4) (cV σ 4)) (fun _ => 0) 64)), (q3, iA G 64 (fa_fill (fun j => gB σ i (j / 4) (j % 4)) (fun _ => 0) 64))])) o s H1 locs1 := wZ_callP Z hB hT9 hS
                clear hB hT9 hS hk9 hz hvm T9
                revert Z; generalize H1 = H; generalize locs1 = locs; intro Z
                refine W.widen (k := 3) (n := 192) (by first | decide | omega) (by first | decide | omega) ?_
                have hns := hp_9
                have hct : cntE τ_8 i 64 + tsum τ_8 i 4 + clN σ i (nI (m 0) - nI (m 1)) = cntE σ i 64 + tsum σ i 4 := by
                  rw [cntE_ct, cntE_ct, tsum_4, tsum_4, hns]; exact cl_cnt
                have h4n : cV τ_8 4 = nI (m 0) := by rw [hns, (c_of cl_r).1]; exact h0
                refine lv_istore (lv' := [(7, .int (nI (clN σ i (nI (m 0) - nI (m 1))))), (0, .ref (gA G 0)), (1, .int (nI i)), (2, .ref (ca)), (3, .int (nI (cntE σ i 64 + tsum σ i 4))), (4, .ref (q1)), (5, .ref (q2)), (6, .ref (q3))]) S.1 S.2.1 dL_cleans_136 hl (by decide) rfl (fun ls hl => ?_)
                refine lv_aload_n S.1 S.2.1 dL_cleans_138 rfl (lv_at hl 1 rfl) ?_
                refine lv_iload_n S.1 S.2.1 dL_cleans_139 rfl (lv_at hl 2 rfl) ?_
                refine vp_callSi (va_runV (As := [.int (nI i)]) (rest := []) S (kr_entries l G τ_8 (((ca, cA G m) :: [(q1, iA G 64 (fa_fill (fun j => (sE σ i j).1) (fun _ => 0) 64)), (q2, iA G 64 (fa_fill (fun j => visV σ i (j / 4) (j % 4) (cV σ 4)) (fun _ => 0) 64)), (q3, iA G 64 (fa_fill (fun j => gB σ i (j / 4) (j % 4)) (fun _ => 0) 64))])) o τ_8 i Sm_rf (by omega)) (cwV 1 S.2.2.2.2 gL_cleans_X7_entries rfl rfl rfl ⟨rfl, hy_X7_entries⟩ ⟨Nat.le_of_ble_eq_true rfl, Nat.le_of_ble_eq_true rfl⟩) (wPc_V (q := (RX7, TX7, 7)) Z (by decide) rfl rfl) rfl rfl hl.1 rfl (lv_room (Nat.le_of_ble_eq_true rfl)) dL_cleans_140 ⟨Nat.le_of_ble_eq_true rfl, Nat.le_of_ble_eq_true rfl⟩).run (fun r_10 h_11 => ?_)
                rw [h_11]; clear h_11 r_10
                refine lv_istore (lv' := [(8, .int (nI (cntE τ_8 i 64))), (7, .int (nI (clN σ i (nI (m 0) - nI (m 1))))), (0, .ref (gA G 0)), (1, .int (nI i)), (2, .ref (ca)), (3, .int (nI (cntE σ i 64 + tsum σ i 4))), (4, .ref (q1)), (5, .ref (q2)), (6, .ref (q3))]) S.1 S.2.1 dL_cleans_143 hl (by decide) rfl (fun ls hl => ?_)
                refine lv_iconst (v := nI 0) S.1 S.2.1 dL_cleans_145 (by decide) ?_
                refine lv_istore (lv' := [(9, .int (nI 0)), (8, .int (nI (cntE τ_8 i 64))), (7, .int (nI (clN σ i (nI (m 0) - nI (m 1))))), (0, .ref (gA G 0)), (1, .int (nI i)), (2, .ref (ca)), (3, .int (nI (cntE σ i 64 + tsum σ i 4))), (4, .ref (q1)), (5, .ref (q2)), (6, .ref (q3))]) S.1 S.2.1 dL_cleans_146 hl (by decide) rfl (fun ls hl => ?_)
                have L_148 : ∀ (n : Nat) (r2 : Nat) (hr2 : r2 ≤ 4) (hn : 4 - r2 < n) (H : Heap) (locs : List Loc) (Z : wZ G (τ_8) (((ca, cA G m) :: [(q1, iA G 64 (fa_fill (fun j => (sE σ i j).1) (fun _ => 0) 64)), (q2, iA G 64 (fa_fill (fun j => visV σ i (j / 4) (j % 4) (cV σ 4)) (fun _ => 0) 64)), (q3, iA G 64 (fa_fill (fun j => gB σ i (j / 4) (j % 4)) (fun _ => 0) 64))])) o s H locs) (ls : Array Slot) (hl : lv_has ls 12 [(0, .ref (gA G 0)), (1, .int (nI i)), (2, .ref (ca)), (3, .int (nI (cntE σ i 64 + tsum σ i 4))), (4, .ref (q1)), (5, .ref (q2)), (6, .ref (q3)), (7, .int (nI (clN σ i (nI (m 0) - nI (m 1))))), (8, .int (nI (cntE τ_8 i 64 + tsum τ_8 i r2))), (9, .int (nI r2))]), W p l e (headSpec wsL_cleans rm_k_L_cleans).room s m9 args below meth c H locs 3 192 Q (F0 m9 148 ls []) := by
                  intro n
                  induction n with
                  | zero => intro r2 hr2 hn; omega
                  | succ n ih_148 =>
                    intro r2 hr2 hn H locs Z ls hl
                    refine lv_iload S.1 S.2.1 dL_cleans_148 (lv_at hl 9 rfl) ?_
                    refine lv_iconst (v := nI 4) S.1 S.2.1 dL_cleans_150 (by decide) ?_
                    refine r_icmpN_ge S (tgt := 172) (by omega) (by omega) dL_cleans_151 (by decide) (fun c_12 => ?_) (fun c_12 => ?_)
                    · skip
                      obtain rfl : r2 = 4 := by omega
                      refine lv_iload S.1 S.2.1 dL_cleans_172 (lv_at hl 7 rfl) ?_
                      refine lv_iload_n S.1 S.2.1 dL_cleans_174 rfl (lv_at hl 3 rfl) ?_
                      refine lv_iload S.1 S.2.1 dL_cleans_175 (lv_at hl 8 rfl) ?_
                      refine r_subN S (by omega) dL_cleans_177 ?_
                      refine r_icmpN_ne S (tgt := 190) (by omega) (by omega) dL_cleans_178 (by decide) (fun c_13 => absurd c_13 (by omega)) (fun c_13 => ?_)
                      refine lv_iload S.1 S.2.1 dL_cleans_181 (lv_at hl 7 rfl) ?_
                      refine lv_if_lt (tgt := 190) S.1 S.2.1 dL_cleans_183 (by decide) (fun c_14 => absurd c_14 (by exact nI_pos (by omega))) (fun c_14 => ?_)
                      refine lv_iconst (v := nI 1) S.1 S.2.1 dL_cleans_186 (by decide) ?_
                      refine lv_goto (tgt := 191) S.1 S.2.1 dL_cleans_187 (by decide) ?_
                      refine lv_istore (lv' := [(9, .int (nI 1)), (0, .ref (gA G 0)), (1, .int (nI i)), (2, .ref (ca)), (3, .int (nI (cntE σ i 64 + tsum σ i 4))), (4, .ref (q1)), (5, .ref (q2)), (6, .ref (q3)), (7, .int (nI (clN σ i (nI (m 0) - nI (m 1))))), (8, .int (nI (cntE τ_8 i 64 + tsum τ_8 i 4)))]) S.1 S.2.1 dL_cleans_191 hl (by decide) rfl (fun ls hl => ?_)
                      refine lv_iconst (v := nI 0) S.1 S.2.1 dL_cleans_193 (by decide) ?_
                      refine lv_istore (lv' := [(10, .int (nI 0)), (9, .int (nI 1)), (0, .ref (gA G 0)), (1, .int (nI i)), (2, .ref (ca)), (3, .int (nI (cntE σ i 64 + tsum σ i 4))), (4, .ref (q1)), (5, .ref (q2)), (6, .ref (q3)), (7, .int (nI (clN σ i (nI (m 0) - nI (m 1))))), (8, .int (nI (cntE τ_8 i 64 + tsum τ_8 i 4)))]) S.1 S.2.1 dL_cleans_194 hl (by decide) rfl (fun ls hl => ?_)
                      have L_196 : ∀ (n : Nat) (k : Nat) (hk : k ≤ 64) (hn : 64 - k < n) (H : Heap) (locs : List Loc) (Z : wZ G (τ_8) (((ca, cA G m) :: [(q1, iA G 64 (fa_fill (fun j => (sE σ i j).1) (fun _ => 0) 64)), (q2, iA G 64 (fa_fill (fun j => visV σ i (j / 4) (j % 4) (cV σ 4)) (fun _ => 0) 64)), (q3, iA G 64 (fa_fill (fun j => gB σ i (j / 4) (j % 4)) (fun _ => 0) 64))])) o s H locs) (ls : Array Slot) (hl : lv_has ls 12 [(0, .ref (gA G 0)), (1, .int (nI i)), (2, .ref (ca)), (3, .int (nI (cntE σ i 64 + tsum σ i 4))), (4, .ref (q1)), (5, .ref (q2)), (6, .ref (q3)), (7, .int (nI (clN σ i (nI (m 0) - nI (m 1))))), (8, .int (nI (cntE τ_8 i 64 + tsum τ_8 i 4))), (9, .int (nI 1)), (10, .int (nI k))]), W p l e (headSpec wsL_cleans rm_k_L_cleans).room s m9 args below meth c H locs 3 192 Q (F0 m9 196 ls []) := by
                        intro n
                        induction n with
                        | zero => intro k hk hn; omega
                        | succ n ih_196 =>
                          intro k hk hn H locs Z ls hl
                          refine lv_iload S.1 S.2.1 dL_cleans_196 (lv_at hl 10 rfl) ?_
                          refine lv_bipush (v := nI 64) S.1 S.2.1 dL_cleans_198 (by decide) ?_
                          refine r_icmpN_ge S (tgt := 322) (by omega) (by omega) dL_cleans_200 (by decide) (fun c_15 => ?_) (fun c_15 => ?_)
                          · skip
                            obtain rfl : k = 64 := by omega
                            refine lv_aload_n S.1 S.2.1 dL_cleans_322 rfl (lv_at hl 2 rfl) ?_
                            refine lv_bipush (v := nI 7) S.1 S.2.1 dL_cleans_323 (by decide) ?_
                            refine lv_iconst (v := nI 0) S.1 S.2.1 dL_cleans_325 (by decide) ?_
                            refine r_stc S Z (by omega) dL_cleans_326 (fun H locs Z => ?_)
                            refine lv_iload S.1 S.2.1 dL_cleans_327 (lv_at hl 9 rfl) ?_
                            have Z := wZ_drop (μ' := (ca, cA G (va_up m 7 0)) :: []) Z (List.Sublist.cons_cons _ (List.nil_sublist _))
                            rw [hQ]
                            exact W.zret (v := nI 1) S.1 S.2.1 hret rfl (fun _ hT9 hW => ⟨⟨_, (τ_8, (ca, cA G (va_up m 7 0)) :: []), rfl, ⟨rfl, va_up m 7 0, rfl, LI_cleanE hns hi hK h0 h1 h1b h2 h5 h5b h8 h8b, by rw [va_up_ne _ _ (by decide)]; omega, by rw [va_up_ne _ _ (by decide)]; omega⟩, wZ_P Z hT9 hW⟩, Z.2.2.2.2.F hT9⟩) Z.2.2.2.2.2.2 dL_cleans_329
                          · skip
                            refine lv_iload S.1 S.2.1 dL_cleans_203 (lv_at hl 9 rfl) ?_
                            refine r_if_eqN S (tgt := 322) (by decide) dL_cleans_205 (by decide) (fun c_16 => absurd c_16 (by decide)) (fun c_16 => ?_)
                            have kk4 : k / 4 * 4 + k % 4 = k := by omega
                            have hcl := cl_cell hK.2.1 (t := i) (k := k) (a := m 0) (g := m 1) (by omega) (by omega) hm0 h1b
                            have hbn := cl_gB (σ := σ) (t := i) (row := k / 4) (col := k % 4) (la := (nI (m 0) - nI (m 1)))
                            rw [← hns] at hcl hbn
                            refine lv_aload_n S.1 S.2.1 dL_cleans_208 rfl (lv_at hl 0 rfl) ?_
                            refine lv_iload_n S.1 S.2.1 dL_cleans_209 rfl (lv_at hl 1 rfl) ?_
                            refine lv_iload S.1 S.2.1 dL_cleans_210 (lv_at hl 10 rfl) ?_
                            refine lv_iconst (v := nI 4) S.1 S.2.1 dL_cleans_212 (by decide) ?_
                            refine r_divN S (by omega) (by decide) (by decide) dL_cleans_213 ?_
                            refine lv_iload S.1 S.2.1 dL_cleans_214 (lv_at hl 10 rfl) ?_
                            refine lv_iconst (v := nI 4) S.1 S.2.1 dL_cleans_216 (by decide) ?_
                            refine r_remN S (by omega) (by decide) (by decide) dL_cleans_217 ?_
                            refine vp_callSi (va_runV (As := [.int (nI i), .int (nI (k / 4)), .int (nI (k % 4))]) (rest := []) S (kr_stampAt l G τ_8 (((ca, cA G m) :: [(q1, iA G 64 (fa_fill (fun j => (sE σ i j).1) (fun _ => 0) 64)), (q2, iA G 64 (fa_fill (fun j => visV σ i (j / 4) (j % 4) (cV σ 4)) (fun _ => 0) 64)), (q3, iA G 64 (fa_fill (fun j => gB σ i (j / 4) (j % 4)) (fun _ => 0) 64))])) o τ_8 i (k / 4) (k % 4) Sm_rf (by omega) (by omega) (by omega)) (cwV 3 S.2.2.2.2 gL_cleans_X7_stampAt rfl rfl rfl ⟨rfl, hy_X7_stampAt⟩ ⟨Nat.le_of_ble_eq_true rfl, Nat.le_of_ble_eq_true rfl⟩) (wPc_V (q := (RX7, TX7, 7)) Z (by decide) rfl rfl) rfl rfl hl.1 rfl (lv_room (Nat.le_of_ble_eq_true rfl)) dL_cleans_218 ⟨Nat.le_of_ble_eq_true rfl, Nat.le_of_ble_eq_true rfl⟩).run (fun r_17 h_18 => ?_)
                            rw [h_18]; clear h_18 r_17
                            rw [kk4]
                            refine lv_istore (lv' := [(11, .int ((sE τ_8 i k).1)), (0, .ref (gA G 0)), (1, .int (nI i)), (2, .ref (ca)), (3, .int (nI (cntE σ i 64 + tsum σ i 4))), (4, .ref (q1)), (5, .ref (q2)), (6, .ref (q3)), (7, .int (nI (clN σ i (nI (m 0) - nI (m 1))))), (8, .int (nI (cntE τ_8 i 64 + tsum τ_8 i 4))), (9, .int (nI 1)), (10, .int (nI k))]) S.1 S.2.1 dL_cleans_221 hl (by decide) rfl (fun ls hl => ?_)
                            refine lv_aload_n S.1 S.2.1 dL_cleans_223 rfl (lv_at hl 1 rfl) ?_
                            refine lv_iload_n S.1 S.2.1 dL_cleans_224 rfl (lv_at hl 2 rfl) ?_
                            refine lv_iload S.1 S.2.1 dL_cleans_225 (lv_at hl 11 rfl) ?_
                            refine lv_iconst (v := nI 4) S.1 S.2.1 dL_cleans_227 (by decide) ?_
                            refine r_divN S (by omega) (by decide) (by decide) dL_cleans_228 ?_
                            refine lv_iload S.1 S.2.1 dL_cleans_229 (lv_at hl 11 rfl) ?_
                            refine lv_iconst (v := nI 4) S.1 S.2.1 dL_cleans_231 (by decide) ?_
                            refine r_remN S (by omega) (by decide) (by decide) dL_cleans_232 ?_
                            refine vp_callSi (va_runV (As := [.int (nI i), .int (nI (k / 4)), .int (nI (k % 4))]) (rest := []) S (kr_valueAt l G τ_8 (((ca, cA G m) :: [(q1, iA G 64 (fa_fill (fun j => (sE σ i j).1) (fun _ => 0) 64)), (q2, iA G 64 (fa_fill (fun j => visV σ i (j / 4) (j % 4) (cV σ 4)) (fun _ => 0) 64)), (q3, iA G 64 (fa_fill (fun j => gB σ i (j / 4) (j % 4)) (fun _ => 0) 64))])) o τ_8 i (k / 4) (k % 4) Sm_rf (by omega) (by omega) (by omega)) (cwV 3 S.2.2.2.2 gL_cleans_X7_valueAt rfl rfl rfl ⟨rfl, hy_X7_valueAt⟩ ⟨Nat.le_of_ble_eq_true rfl, Nat.le_of_ble_eq_true rfl⟩) (wPc_V (q := (RX7, TX7, 7)) Z (by decide) rfl rfl) rfl rfl hl.1 rfl (lv_room (Nat.le_of_ble_eq_true rfl)) dL_cleans_233 ⟨Nat.le_of_ble_eq_true rfl, Nat.le_of_ble_eq_true rfl⟩).run (fun r_19 h_20 => ?_)
                            rw [h_20]; clear h_20 r_19
                            refine lv_aload S.1 S.2.1 dL_cleans_236 (lv_at hl 6 rfl) ?_
                            refine lv_iload S.1 S.2.1 dL_cleans_238 (lv_at hl 11 rfl) ?_
                            refine r_ldA (q := 1) (n := 64) S Z rfl (by omega) (by decide) dL_cleans_240 ?_
                            rw [fa_fill_in (by omega)]
                            refine lv_icmp_ne (tgt := 313) S.1 S.2.1 dL_cleans_241 (by decide) (fun c_21 => absurd c_21 (by exact not_not_intro (by rw [h4n, h0]; exact hcl.1))) (fun c_21 => ?_)
                            refine lv_aload_n S.1 S.2.1 dL_cleans_244 rfl (lv_at hl 1 rfl) ?_
                            refine lv_iload_n S.1 S.2.1 dL_cleans_245 rfl (lv_at hl 2 rfl) ?_
                            refine lv_iload S.1 S.2.1 dL_cleans_246 (lv_at hl 11 rfl) ?_
                            refine lv_iconst (v := nI 4) S.1 S.2.1 dL_cleans_248 (by decide) ?_
                            refine r_divN S (by omega) (by decide) (by decide) dL_cleans_249 ?_
                            refine lv_iload S.1 S.2.1 dL_cleans_250 (lv_at hl 11 rfl) ?_
                            refine lv_iconst (v := nI 4) S.1 S.2.1 dL_cleans_252 (by decide) ?_
                            refine r_remN S (by omega) (by decide) (by decide) dL_cleans_253 ?_
                            refine vp_callSi (va_runV (As := [.int (nI i), .int (nI (k / 4)), .int (nI (k % 4))]) (rest := []) S (kr_buriedBy l G τ_8 (((ca, cA G m) :: [(q1, iA G 64 (fa_fill (fun j => (sE σ i j).1) (fun _ => 0) 64)), (q2, iA G 64 (fa_fill (fun j => visV σ i (j / 4) (j % 4) (cV σ 4)) (fun _ => 0) 64)), (q3, iA G 64 (fa_fill (fun j => gB σ i (j / 4) (j % 4)) (fun _ => 0) 64))])) o τ_8 i (k / 4) (k % 4) Sm_rf (by omega) (by omega) (by omega)) (cwV 3 S.2.2.2.2 gL_cleans_X7_buriedBy rfl rfl rfl ⟨rfl, hy_X7_buriedBy⟩ ⟨Nat.le_of_ble_eq_true rfl, Nat.le_of_ble_eq_true rfl⟩) (wPc_V (q := (RX7, TX7, 7)) Z (by decide) rfl rfl) rfl rfl hl.1 rfl (lv_room (Nat.le_of_ble_eq_true rfl)) dL_cleans_254 ⟨Nat.le_of_ble_eq_true rfl, Nat.le_of_ble_eq_true rfl⟩).run (fun r_22 h_23 => ?_)
                            rw [h_23]; clear h_23 r_22
                            refine lv_aload S.1 S.2.1 dL_cleans_257 (lv_at hl 7 rfl) ?_
                            refine lv_iload S.1 S.2.1 dL_cleans_259 (lv_at hl 11 rfl) ?_
                            refine r_ldA (q := 2) (n := 64) S Z rfl (by omega) (by decide) dL_cleans_261 ?_
                            rw [fa_fill_in (by omega)]
                            refine lv_icmp_gt (tgt := 313) S.1 S.2.1 dL_cleans_262 (by decide) (fun c_24 => absurd c_24 (by exact i_le_lt.mp hbn)) (fun c_24 => ?_)
                            refine lv_iload S.1 S.2.1 dL_cleans_265 (lv_at hl 0 rfl) ?_
                            refine lv_iconst (v := -1) S.1 S.2.1 dL_cleans_267 (by decide) ?_
                            refine lv_icmp_eq (tgt := 291) S.1 S.2.1 dL_cleans_268 (by decide) (fun c_25 => ?_) (fun c_25 => ?_)
                            · skip
                              refine lv_aload S.1 S.2.1 dL_cleans_291 (lv_at hl 6 rfl) ?_
                              refine lv_iload S.1 S.2.1 dL_cleans_293 (lv_at hl 11 rfl) ?_
                              refine r_ldA (q := 1) (n := 64) S Z rfl (by omega) (by decide) dL_cleans_295 ?_
                              rw [fa_fill_in (by omega)]
                              refine lv_if_lt (tgt := 309) S.1 S.2.1 dL_cleans_296 (by decide) (fun c_26 => ?_) (fun c_26 => ?_)
                              · skip
                                refine lv_iconst (v := nI 1) S.1 S.2.1 dL_cleans_309 (by decide) ?_
                                refine lv_goto (tgt := 314) S.1 S.2.1 dL_cleans_310 (by decide) ?_
                                refine lv_istore (lv' := [(9, .int (nI 1)), (11, .int ((sE τ_8 i k).1)), (0, .ref (gA G 0)), (1, .int (nI i)), (2, .ref (ca)), (3, .int (nI (cntE σ i 64 + tsum σ i 4))), (4, .ref (q1)), (5, .ref (q2)), (6, .ref (q3)), (7, .int (nI (clN σ i (nI (m 0) - nI (m 1))))), (8, .int (nI (cntE τ_8 i 64 + tsum τ_8 i 4))), (10, .int (nI k))]) S.1 S.2.1 dL_cleans_314 hl (by decide) rfl (fun ls hl => ?_)
                                refine lv_iinc (v := nI (k + 1)) (lv' := [(10, .int (nI (k + 1))), (9, .int (nI 1)), (11, .int ((sE τ_8 i k).1)), (0, .ref (gA G 0)), (1, .int (nI i)), (2, .ref (ca)), (3, .int (nI (cntE σ i 64 + tsum σ i 4))), (4, .ref (q1)), (5, .ref (q2)), (6, .ref (q3)), (7, .int (nI (clN σ i (nI (m 0) - nI (m 1))))), (8, .int (nI (cntE τ_8 i 64 + tsum τ_8 i 4)))]) S.1 S.2.1 dL_cleans_316 hl (k := 11) rfl (nI_inc rfl) (by decide) rfl (fun ls hl => ?_)
                                refine lv_goto (tgt := 196) S.1 S.2.1 dL_cleans_319 (by decide) ?_
                                exact ih_196 (k + 1) (by first | omega | exact Nat.zero_le _) (by omega) _ _ Z ls (lv_sub hl [3, 4, 5, 6, 7, 8, 9, 10, 11, 1, 0] rfl)
                              · skip
                                refine lv_iload S.1 S.2.1 dL_cleans_299 (lv_at hl 0 rfl) ?_
                                refine lv_aload S.1 S.2.1 dL_cleans_301 (lv_at hl 5 rfl) ?_
                                refine lv_iload S.1 S.2.1 dL_cleans_303 (lv_at hl 11 rfl) ?_
                                refine r_ldA (q := 0) (n := 64) S Z rfl (by omega) (by decide) dL_cleans_305 ?_
                                rw [fa_fill_in (by omega)]
                                refine lv_icmp_ne (tgt := 313) S.1 S.2.1 dL_cleans_306 (by decide) (fun c_27 => absurd c_27 (by exact not_not_intro (hcl.2.2.resolve_left (fun z => c_26 (by rw [h0, z]; decide))))) (fun c_27 => ?_)
                                refine lv_iconst (v := nI 1) S.1 S.2.1 dL_cleans_309 (by decide) ?_
                                refine lv_goto (tgt := 314) S.1 S.2.1 dL_cleans_310 (by decide) ?_
                                refine lv_istore (lv' := [(9, .int (nI 1)), (11, .int ((sE τ_8 i k).1)), (0, .ref (gA G 0)), (1, .int (nI i)), (2, .ref (ca)), (3, .int (nI (cntE σ i 64 + tsum σ i 4))), (4, .ref (q1)), (5, .ref (q2)), (6, .ref (q3)), (7, .int (nI (clN σ i (nI (m 0) - nI (m 1))))), (8, .int (nI (cntE τ_8 i 64 + tsum τ_8 i 4))), (10, .int (nI k))]) S.1 S.2.1 dL_cleans_314 hl (by decide) rfl (fun ls hl => ?_)
                                refine lv_iinc (v := nI (k + 1)) (lv' := [(10, .int (nI (k + 1))), (9, .int (nI 1)), (11, .int ((sE τ_8 i k).1)), (0, .ref (gA G 0)), (1, .int (nI i)), (2, .ref (ca)), (3, .int (nI (cntE σ i 64 + tsum σ i 4))), (4, .ref (q1)), (5, .ref (q2)), (6, .ref (q3)), (7, .int (nI (clN σ i (nI (m 0) - nI (m 1))))), (8, .int (nI (cntE τ_8 i 64 + tsum τ_8 i 4)))]) S.1 S.2.1 dL_cleans_316 hl (k := 11) rfl (nI_inc rfl) (by decide) rfl (fun ls hl => ?_)
                                refine lv_goto (tgt := 196) S.1 S.2.1 dL_cleans_319 (by decide) ?_
                                exact ih_196 (k + 1) (by first | omega | exact Nat.zero_le _) (by omega) _ _ Z ls (lv_sub hl [3, 4, 5, 6, 7, 8, 9, 10, 11, 1, 0] rfl)
                            · skip
                              refine lv_iload S.1 S.2.1 dL_cleans_271 (lv_at hl 0 rfl) ?_
                              refine lv_aload S.1 S.2.1 dL_cleans_273 (lv_at hl 5 rfl) ?_
                              refine lv_iload S.1 S.2.1 dL_cleans_275 (lv_at hl 11 rfl) ?_
                              refine r_ldA (q := 0) (n := 64) S Z rfl (by omega) (by decide) dL_cleans_277 ?_
                              rw [fa_fill_in (by omega)]
                              refine lv_icmp_ne (tgt := 313) S.1 S.2.1 dL_cleans_278 (by decide) (fun c_28 => absurd c_28 (by exact not_not_intro (hcl.2.1.resolve_left c_25).1)) (fun c_28 => ?_)
                              refine lv_iload S.1 S.2.1 dL_cleans_281 (lv_at hl 0 rfl) ?_
                              refine lv_aload S.1 S.2.1 dL_cleans_283 (lv_at hl 7 rfl) ?_
                              refine lv_iload S.1 S.2.1 dL_cleans_285 (lv_at hl 11 rfl) ?_
                              refine r_ldA (q := 2) (n := 64) S Z rfl (by omega) (by decide) dL_cleans_287 ?_
                              rw [fa_fill_in (by omega)]
                              refine lv_icmp_le (tgt := 313) S.1 S.2.1 dL_cleans_288 (by decide) (fun c_29 => absurd c_29 (by exact (fa_of_lt (hcl.2.1.resolve_left c_25).2).2.1)) (fun c_29 => ?_)
                              refine lv_aload S.1 S.2.1 dL_cleans_291 (lv_at hl 6 rfl) ?_
                              refine lv_iload S.1 S.2.1 dL_cleans_293 (lv_at hl 11 rfl) ?_
                              refine r_ldA (q := 1) (n := 64) S Z rfl (by omega) (by decide) dL_cleans_295 ?_
                              rw [fa_fill_in (by omega)]
                              refine lv_if_lt (tgt := 309) S.1 S.2.1 dL_cleans_296 (by decide) (fun c_30 => ?_) (fun c_30 => ?_)
                              · skip
                                refine lv_iconst (v := nI 1) S.1 S.2.1 dL_cleans_309 (by decide) ?_
                                refine lv_goto (tgt := 314) S.1 S.2.1 dL_cleans_310 (by decide) ?_
                                refine lv_istore (lv' := [(9, .int (nI 1)), (11, .int ((sE τ_8 i k).1)), (0, .ref (gA G 0)), (1, .int (nI i)), (2, .ref (ca)), (3, .int (nI (cntE σ i 64 + tsum σ i 4))), (4, .ref (q1)), (5, .ref (q2)), (6, .ref (q3)), (7, .int (nI (clN σ i (nI (m 0) - nI (m 1))))), (8, .int (nI (cntE τ_8 i 64 + tsum τ_8 i 4))), (10, .int (nI k))]) S.1 S.2.1 dL_cleans_314 hl (by decide) rfl (fun ls hl => ?_)
                                refine lv_iinc (v := nI (k + 1)) (lv' := [(10, .int (nI (k + 1))), (9, .int (nI 1)), (11, .int ((sE τ_8 i k).1)), (0, .ref (gA G 0)), (1, .int (nI i)), (2, .ref (ca)), (3, .int (nI (cntE σ i 64 + tsum σ i 4))), (4, .ref (q1)), (5, .ref (q2)), (6, .ref (q3)), (7, .int (nI (clN σ i (nI (m 0) - nI (m 1))))), (8, .int (nI (cntE τ_8 i 64 + tsum τ_8 i 4)))]) S.1 S.2.1 dL_cleans_316 hl (k := 11) rfl (nI_inc rfl) (by decide) rfl (fun ls hl => ?_)
                                refine lv_goto (tgt := 196) S.1 S.2.1 dL_cleans_319 (by decide) ?_
                                exact ih_196 (k + 1) (by first | omega | exact Nat.zero_le _) (by omega) _ _ Z ls (lv_sub hl [3, 4, 5, 6, 7, 8, 9, 10, 11, 1, 0] rfl)
                              · skip
                                refine lv_iload S.1 S.2.1 dL_cleans_299 (lv_at hl 0 rfl) ?_
                                refine lv_aload S.1 S.2.1 dL_cleans_301 (lv_at hl 5 rfl) ?_
                                refine lv_iload S.1 S.2.1 dL_cleans_303 (lv_at hl 11 rfl) ?_
                                refine r_ldA (q := 0) (n := 64) S Z rfl (by omega) (by decide) dL_cleans_305 ?_
                                rw [fa_fill_in (by omega)]
                                refine lv_icmp_ne (tgt := 313) S.1 S.2.1 dL_cleans_306 (by decide) (fun c_31 => absurd c_31 (by exact not_not_intro (hcl.2.2.resolve_left (fun z => c_30 (by rw [h0, z]; decide))))) (fun c_31 => ?_)
                                refine lv_iconst (v := nI 1) S.1 S.2.1 dL_cleans_309 (by decide) ?_
                                refine lv_goto (tgt := 314) S.1 S.2.1 dL_cleans_310 (by decide) ?_
                                refine lv_istore (lv' := [(9, .int (nI 1)), (11, .int ((sE τ_8 i k).1)), (0, .ref (gA G 0)), (1, .int (nI i)), (2, .ref (ca)), (3, .int (nI (cntE σ i 64 + tsum σ i 4))), (4, .ref (q1)), (5, .ref (q2)), (6, .ref (q3)), (7, .int (nI (clN σ i (nI (m 0) - nI (m 1))))), (8, .int (nI (cntE τ_8 i 64 + tsum τ_8 i 4))), (10, .int (nI k))]) S.1 S.2.1 dL_cleans_314 hl (by decide) rfl (fun ls hl => ?_)
                                refine lv_iinc (v := nI (k + 1)) (lv' := [(10, .int (nI (k + 1))), (9, .int (nI 1)), (11, .int ((sE τ_8 i k).1)), (0, .ref (gA G 0)), (1, .int (nI i)), (2, .ref (ca)), (3, .int (nI (cntE σ i 64 + tsum σ i 4))), (4, .ref (q1)), (5, .ref (q2)), (6, .ref (q3)), (7, .int (nI (clN σ i (nI (m 0) - nI (m 1))))), (8, .int (nI (cntE τ_8 i 64 + tsum τ_8 i 4)))]) S.1 S.2.1 dL_cleans_316 hl (k := 11) rfl (nI_inc rfl) (by decide) rfl (fun ls hl => ?_)
                                refine lv_goto (tgt := 196) S.1 S.2.1 dL_cleans_319 (by decide) ?_
                                exact ih_196 (k + 1) (by first | omega | exact Nat.zero_le _) (by omega) _ _ Z ls (lv_sub hl [3, 4, 5, 6, 7, 8, 9, 10, 11, 1, 0] rfl)
                      exact L_196 (64 - 0 + 1) 0 (by first | omega | exact Nat.zero_le _) (Nat.lt_succ_self _) _ _ Z ls (lv_sub hl [2, 3, 4, 5, 6, 7, 8, 9, 10, 1, 0] rfl)
                    · skip
                      refine lv_iload S.1 S.2.1 dL_cleans_154 (lv_at hl 8 rfl) ?_
                      refine lv_aload_n S.1 S.2.1 dL_cleans_156 rfl (lv_at hl 0 rfl) ?_
                      refine lv_iload_n S.1 S.2.1 dL_cleans_157 rfl (lv_at hl 1 rfl) ?_
                      refine lv_iload S.1 S.2.1 dL_cleans_158 (lv_at hl 9 rfl) ?_
                      refine vp_callSi (va_runV (As := [.int (nI i), .int (nI r2)]) (rest := [.int (nI (cntE τ_8 i 64 + tsum τ_8 i r2))]) S (kr_tombstones l G τ_8 (((ca, cA G m) :: [(q1, iA G 64 (fa_fill (fun j => (sE σ i j).1) (fun _ => 0) 64)), (q2, iA G 64 (fa_fill (fun j => visV σ i (j / 4) (j % 4) (cV σ 4)) (fun _ => 0) 64)), (q3, iA G 64 (fa_fill (fun j => gB σ i (j / 4) (j % 4)) (fun _ => 0) 64))])) o τ_8 i r2 Sm_rf (by omega) (by omega)) (cwV 2 S.2.2.2.2 gL_cleans_X7_tombstones rfl rfl rfl ⟨rfl, hy_X7_tombstones⟩ ⟨Nat.le_of_ble_eq_true rfl, Nat.le_of_ble_eq_true rfl⟩) (wPc_V (q := (RX7, TX7, 7)) Z (by decide) rfl rfl) rfl rfl hl.1 rfl (lv_room (Nat.le_of_ble_eq_true rfl)) dL_cleans_160 ⟨Nat.le_of_ble_eq_true rfl, Nat.le_of_ble_eq_true rfl⟩).run (fun r_32 h_33 => ?_)
                      rw [h_33]; clear h_33 r_32
                      refine r_addN S dL_cleans_163 ?_
                      refine lv_istore (lv' := [(8, .int (nI ((cntE τ_8 i 64 + tsum τ_8 i r2) + (tmb τ_8 i r2)))), (0, .ref (gA G 0)), (1, .int (nI i)), (2, .ref (ca)), (3, .int (nI (cntE σ i 64 + tsum σ i 4))), (4, .ref (q1)), (5, .ref (q2)), (6, .ref (q3)), (7, .int (nI (clN σ i (nI (m 0) - nI (m 1))))), (9, .int (nI r2))]) S.1 S.2.1 dL_cleans_164 hl (by decide) rfl (fun ls hl => ?_)
                      refine lv_iinc (v := nI (r2 + 1)) (lv' := [(9, .int (nI (r2 + 1))), (8, .int (nI ((cntE τ_8 i 64 + tsum τ_8 i r2) + (tmb τ_8 i r2)))), (0, .ref (gA G 0)), (1, .int (nI i)), (2, .ref (ca)), (3, .int (nI (cntE σ i 64 + tsum σ i 4))), (4, .ref (q1)), (5, .ref (q2)), (6, .ref (q3)), (7, .int (nI (clN σ i (nI (m 0) - nI (m 1)))))]) S.1 S.2.1 dL_cleans_166 hl (k := 9) rfl (nI_inc rfl) (by decide) rfl (fun ls hl => ?_)
                      refine lv_goto (tgt := 148) S.1 S.2.1 dL_cleans_169 (by decide) ?_
                      have q_34 : (nI (cntE τ_8 i 64 + tsum τ_8 i (r2 + 1)) : Int32) = nI ((cntE τ_8 i 64 + tsum τ_8 i r2) + (tmb τ_8 i r2)) := by show nI (cntE τ_8 i 64 + (tsum τ_8 i r2 + tmb τ_8 i r2)) = _; rw [Nat.add_assoc]
                      have hl : lv_has ls 12 [(0, .ref (gA G 0)), (1, .int (nI i)), (2, .ref (ca)), (3, .int (nI (cntE σ i 64 + tsum σ i 4))), (4, .ref (q1)), (5, .ref (q2)), (6, .ref (q3)), (7, .int (nI (clN σ i (nI (m 0) - nI (m 1))))), (8, .int (nI (cntE τ_8 i 64 + tsum τ_8 i (r2 + 1)))), (9, .int (nI (r2 + 1)))] := by
                        have hl := lv_sub hl [2, 3, 4, 5, 6, 7, 8, 9, 1, 0] rfl
                        rw [q_34]; exact hl
                      exact ih_148 (r2 + 1) (by first | omega | exact Nat.zero_le _) (by omega) _ _ Z ls (hl)
                have q_35 : (nI (cntE τ_8 i 64 + tsum τ_8 i 0) : Int32) = nI (cntE τ_8 i 64) := by rfl
                have hl : lv_has ls 12 [(0, .ref (gA G 0)), (1, .int (nI i)), (2, .ref (ca)), (3, .int (nI (cntE σ i 64 + tsum σ i 4))), (4, .ref (q1)), (5, .ref (q2)), (6, .ref (q3)), (7, .int (nI (clN σ i (nI (m 0) - nI (m 1))))), (8, .int (nI (cntE τ_8 i 64 + tsum τ_8 i 0))), (9, .int (nI 0))] := by
                  have hl := lv_sub hl [3, 4, 5, 6, 7, 8, 9, 2, 1, 0] rfl
                  rw [q_35]; exact hl
                exact L_148 (4 - 0 + 1) 0 (by first | omega | exact Nat.zero_le _) (Nat.lt_succ_self _) _ _ Z ls (hl)
              · skip
                refine lv_iload_n S.1 S.2.1 dL_cleans_115 rfl (lv_at hl 3 rfl) ?_
                refine lv_aload_n S.1 S.2.1 dL_cleans_116 rfl (lv_at hl 0 rfl) ?_
                refine lv_iload_n S.1 S.2.1 dL_cleans_117 rfl (lv_at hl 1 rfl) ?_
                refine lv_iload S.1 S.2.1 dL_cleans_118 (lv_at hl 7 rfl) ?_
                refine vp_callSi (va_runV (As := [.int (nI i), .int (nI r)]) (rest := [.int (nI (cntE σ i 64 + tsum σ i r))]) S (kr_tombstones l G σ ((ca, cA G m) :: [(q1, iA G 64 (fa_fill (fun j => (sE σ i j).1) (fun _ => 0) 64)), (q2, iA G 64 (fa_fill (fun j => visV σ i (j / 4) (j % 4) (cV σ 4)) (fun _ => 0) 64)), (q3, iA G 64 (fa_fill (fun j => gB σ i (j / 4) (j % 4)) (fun _ => 0) 64))]) o σ i r Sm_rf (by omega) (by omega)) (cwV 2 S.2.2.2.2 gL_cleans_X7_tombstones rfl rfl rfl ⟨rfl, hy_X7_tombstones⟩ ⟨Nat.le_of_ble_eq_true rfl, Nat.le_of_ble_eq_true rfl⟩) (wPc_V (q := (RX7, TX7, 7)) Z (by decide) rfl rfl) rfl rfl hl.1 rfl (lv_room (Nat.le_of_ble_eq_true rfl)) dL_cleans_120 ⟨Nat.le_of_ble_eq_true rfl, Nat.le_of_ble_eq_true rfl⟩).run (fun r_36 h_37 => ?_)
                rw [h_37]; clear h_37 r_36
                refine r_addN S dL_cleans_123 ?_
                refine lv_istore_n (lv' := [(3, .int (nI ((cntE σ i 64 + tsum σ i r) + (tmb σ i r)))), (0, .ref (gA G 0)), (1, .int (nI i)), (2, .ref (ca)), (4, .ref (q1)), (5, .ref (q2)), (6, .ref (q3)), (7, .int (nI r))]) S.1 S.2.1 dL_cleans_124 rfl hl (by decide) rfl (fun ls hl => ?_)
                refine lv_iinc (v := nI (r + 1)) (lv' := [(7, .int (nI (r + 1))), (3, .int (nI ((cntE σ i 64 + tsum σ i r) + (tmb σ i r)))), (0, .ref (gA G 0)), (1, .int (nI i)), (2, .ref (ca)), (4, .ref (q1)), (5, .ref (q2)), (6, .ref (q3))]) S.1 S.2.1 dL_cleans_125 hl (k := 7) rfl (nI_inc rfl) (by decide) rfl (fun ls hl => ?_)
                refine lv_goto (tgt := 109) S.1 S.2.1 dL_cleans_128 (by decide) ?_
                have q_38 : (nI (cntE σ i 64 + tsum σ i (r + 1)) : Int32) = nI ((cntE σ i 64 + tsum σ i r) + (tmb σ i r)) := by show nI (cntE σ i 64 + (tsum σ i r + tmb σ i r)) = _; rw [Nat.add_assoc]
                have hl : lv_has ls 12 [(0, .ref (gA G 0)), (1, .int (nI i)), (2, .ref (ca)), (3, .int (nI (cntE σ i 64 + tsum σ i (r + 1)))), (4, .ref (q1)), (5, .ref (q2)), (6, .ref (q3)), (7, .int (nI (r + 1)))] := by
                  have hl := lv_sub hl [2, 3, 4, 1, 5, 6, 7, 0] rfl
                  rw [q_38]; exact hl
                exact ih_109 (r + 1) (by first | omega | exact Nat.zero_le _) (by omega) _ _ Z ls (hl)
          have q_39 : (nI (cntE σ i 64 + tsum σ i 0) : Int32) = nI (cntE σ i 64) := by rfl
          have hl : lv_has ls 12 [(0, .ref (gA G 0)), (1, .int (nI i)), (2, .ref (ca)), (3, .int (nI (cntE σ i 64 + tsum σ i 0))), (4, .ref (q1)), (5, .ref (q2)), (6, .ref (q3)), (7, .int (nI 0))] := by
            have hl := lv_sub hl [1, 2, 3, 4, 5, 6, 7, 0] rfl
            rw [q_39]; exact hl
          exact L_109 (4 - 0 + 1) 0 (by first | omega | exact Nat.zero_le _) (Nat.lt_succ_self _) _ _ Z ls (hl)
        · skip
          have kk4 : k1 / 4 * 4 + k1 % 4 = k1 := by omega
          refine lv_aload S.1 S.2.1 dL_cleans_46 (lv_at hl 4 rfl) ?_
          refine lv_iload S.1 S.2.1 dL_cleans_48 (lv_at hl 7 rfl) ?_
          refine lv_aload_n S.1 S.2.1 dL_cleans_50 rfl (lv_at hl 0 rfl) ?_
          refine lv_iload_n S.1 S.2.1 dL_cleans_51 rfl (lv_at hl 1 rfl) ?_
          refine lv_iload S.1 S.2.1 dL_cleans_52 (lv_at hl 7 rfl) ?_
          refine lv_iconst (v := nI 4) S.1 S.2.1 dL_cleans_54 (by decide) ?_
          refine r_divN S (by omega) (by decide) (by decide) dL_cleans_55 ?_
          refine lv_iload S.1 S.2.1 dL_cleans_56 (lv_at hl 7 rfl) ?_
          refine lv_iconst (v := nI 4) S.1 S.2.1 dL_cleans_58 (by decide) ?_
          refine r_remN S (by omega) (by decide) (by decide) dL_cleans_59 ?_
          refine vp_callSi (va_runV (As := [.int (nI i), .int (nI (k1 / 4)), .int (nI (k1 % 4))]) (rest := [.int (nI k1), .ref (q1)]) S (kr_stampAt l G σ ((ca, cA G m) :: [(q1, iA G 64 (fa_fill (fun j => (sE σ i j).1) (fun _ => 0) k1)), (q2, iA G 64 (fa_fill (fun j => visV σ i (j / 4) (j % 4) (cV σ 4)) (fun _ => 0) k1)), (q3, iA G 64 (fa_fill (fun j => gB σ i (j / 4) (j % 4)) (fun _ => 0) k1))]) o σ i (k1 / 4) (k1 % 4) Sm_rf (by omega) (by omega) (by omega)) (cwV 3 S.2.2.2.2 gL_cleans_X7_stampAt rfl rfl rfl ⟨rfl, hy_X7_stampAt⟩ ⟨Nat.le_of_ble_eq_true rfl, Nat.le_of_ble_eq_true rfl⟩) (wPc_V (q := (RX7, TX7, 7)) Z (by decide) rfl rfl) rfl rfl hl.1 rfl (lv_room (Nat.le_of_ble_eq_true rfl)) dL_cleans_60 ⟨Nat.le_of_ble_eq_true rfl, Nat.le_of_ble_eq_true rfl⟩).run (fun r_40 h_41 => ?_)
          rw [h_41]; clear h_41 r_40
          rw [kk4]
          refine r_stA (q := 0) (n := 64) S Z rfl (by omega) (by decide) dL_cleans_63 (fun H locs Z => ?_)
          have Z : wZ G (σ) ((ca, cA G m) :: [(q1, iA G 64 (fa_fill (fun j => (sE σ i j).1) (fun _ => 0) (k1 + 1))), (q2, iA G 64 (fa_fill (fun j => visV σ i (j / 4) (j % 4) (cV σ 4)) (fun _ => 0) k1)), (q3, iA G 64 (fa_fill (fun j => gB σ i (j / 4) (j % 4)) (fun _ => 0) k1))]) o s H locs := by
            rw [← fa_fill_succ (fun j => (sE σ i j).1) (fun _ => 0) k1]
            exact Z
          refine lv_aload S.1 S.2.1 dL_cleans_64 (lv_at hl 5 rfl) ?_
          refine lv_iload S.1 S.2.1 dL_cleans_66 (lv_at hl 7 rfl) ?_
          refine lv_aload_n S.1 S.2.1 dL_cleans_68 rfl (lv_at hl 0 rfl) ?_
          refine lv_iload_n S.1 S.2.1 dL_cleans_69 rfl (lv_at hl 1 rfl) ?_
          refine lv_iload S.1 S.2.1 dL_cleans_70 (lv_at hl 7 rfl) ?_
          refine lv_iconst (v := nI 4) S.1 S.2.1 dL_cleans_72 (by decide) ?_
          refine r_divN S (by omega) (by decide) (by decide) dL_cleans_73 ?_
          refine lv_iload S.1 S.2.1 dL_cleans_74 (lv_at hl 7 rfl) ?_
          refine lv_iconst (v := nI 4) S.1 S.2.1 dL_cleans_76 (by decide) ?_
          refine r_remN S (by omega) (by decide) (by decide) dL_cleans_77 ?_
          refine vp_callSi (va_runV (As := [.int (nI i), .int (nI (k1 / 4)), .int (nI (k1 % 4))]) (rest := [.int (nI k1), .ref (q2)]) S (kr_valueAt l G σ ((ca, cA G m) :: [(q1, iA G 64 (fa_fill (fun j => (sE σ i j).1) (fun _ => 0) (k1 + 1))), (q2, iA G 64 (fa_fill (fun j => visV σ i (j / 4) (j % 4) (cV σ 4)) (fun _ => 0) k1)), (q3, iA G 64 (fa_fill (fun j => gB σ i (j / 4) (j % 4)) (fun _ => 0) k1))]) o σ i (k1 / 4) (k1 % 4) Sm_rf (by omega) (by omega) (by omega)) (cwV 3 S.2.2.2.2 gL_cleans_X7_valueAt rfl rfl rfl ⟨rfl, hy_X7_valueAt⟩ ⟨Nat.le_of_ble_eq_true rfl, Nat.le_of_ble_eq_true rfl⟩) (wPc_V (q := (RX7, TX7, 7)) Z (by decide) rfl rfl) rfl rfl hl.1 rfl (lv_room (Nat.le_of_ble_eq_true rfl)) dL_cleans_78 ⟨Nat.le_of_ble_eq_true rfl, Nat.le_of_ble_eq_true rfl⟩).run (fun r_42 h_43 => ?_)
          rw [h_43]; clear h_43 r_42
          refine r_stA (q := 1) (n := 64) S Z rfl (by omega) (by decide) dL_cleans_81 (fun H locs Z => ?_)
          have Z : wZ G (σ) ((ca, cA G m) :: [(q1, iA G 64 (fa_fill (fun j => (sE σ i j).1) (fun _ => 0) (k1 + 1))), (q2, iA G 64 (fa_fill (fun j => visV σ i (j / 4) (j % 4) (cV σ 4)) (fun _ => 0) (k1 + 1))), (q3, iA G 64 (fa_fill (fun j => gB σ i (j / 4) (j % 4)) (fun _ => 0) k1))]) o s H locs := by
            rw [← fa_fill_succ (fun j => visV σ i (j / 4) (j % 4) (cV σ 4)) (fun _ => 0) k1]
            exact Z
          refine lv_aload S.1 S.2.1 dL_cleans_82 (lv_at hl 6 rfl) ?_
          refine lv_iload S.1 S.2.1 dL_cleans_84 (lv_at hl 7 rfl) ?_
          refine lv_aload_n S.1 S.2.1 dL_cleans_86 rfl (lv_at hl 0 rfl) ?_
          refine lv_iload_n S.1 S.2.1 dL_cleans_87 rfl (lv_at hl 1 rfl) ?_
          refine lv_iload S.1 S.2.1 dL_cleans_88 (lv_at hl 7 rfl) ?_
          refine lv_iconst (v := nI 4) S.1 S.2.1 dL_cleans_90 (by decide) ?_
          refine r_divN S (by omega) (by decide) (by decide) dL_cleans_91 ?_
          refine lv_iload S.1 S.2.1 dL_cleans_92 (lv_at hl 7 rfl) ?_
          refine lv_iconst (v := nI 4) S.1 S.2.1 dL_cleans_94 (by decide) ?_
          refine r_remN S (by omega) (by decide) (by decide) dL_cleans_95 ?_
          refine vp_callSi (va_runV (As := [.int (nI i), .int (nI (k1 / 4)), .int (nI (k1 % 4))]) (rest := [.int (nI k1), .ref (q3)]) S (kr_buriedBy l G σ ((ca, cA G m) :: [(q1, iA G 64 (fa_fill (fun j => (sE σ i j).1) (fun _ => 0) (k1 + 1))), (q2, iA G 64 (fa_fill (fun j => visV σ i (j / 4) (j % 4) (cV σ 4)) (fun _ => 0) (k1 + 1))), (q3, iA G 64 (fa_fill (fun j => gB σ i (j / 4) (j % 4)) (fun _ => 0) k1))]) o σ i (k1 / 4) (k1 % 4) Sm_rf (by omega) (by omega) (by omega)) (cwV 3 S.2.2.2.2 gL_cleans_X7_buriedBy rfl rfl rfl ⟨rfl, hy_X7_buriedBy⟩ ⟨Nat.le_of_ble_eq_true rfl, Nat.le_of_ble_eq_true rfl⟩) (wPc_V (q := (RX7, TX7, 7)) Z (by decide) rfl rfl) rfl rfl hl.1 rfl (lv_room (Nat.le_of_ble_eq_true rfl)) dL_cleans_96 ⟨Nat.le_of_ble_eq_true rfl, Nat.le_of_ble_eq_true rfl⟩).run (fun r_44 h_45 => ?_)
          rw [h_45]; clear h_45 r_44
          refine r_stA (q := 2) (n := 64) S Z rfl (by omega) (by decide) dL_cleans_99 (fun H locs Z => ?_)
          have Z : wZ G (σ) ((ca, cA G m) :: [(q1, iA G 64 (fa_fill (fun j => (sE σ i j).1) (fun _ => 0) (k1 + 1))), (q2, iA G 64 (fa_fill (fun j => visV σ i (j / 4) (j % 4) (cV σ 4)) (fun _ => 0) (k1 + 1))), (q3, iA G 64 (fa_fill (fun j => gB σ i (j / 4) (j % 4)) (fun _ => 0) (k1 + 1)))]) o s H locs := by
            rw [← fa_fill_succ (fun j => gB σ i (j / 4) (j % 4)) (fun _ => 0) k1]
            exact Z
          refine lv_iinc (v := nI (k1 + 1)) (lv' := [(7, .int (nI (k1 + 1))), (0, .ref (gA G 0)), (1, .int (nI i)), (2, .ref (ca)), (3, .int (nI (cntE σ i 64))), (4, .ref (q1)), (5, .ref (q2)), (6, .ref (q3))]) S.1 S.2.1 dL_cleans_100 hl (k := 7) rfl (nI_inc rfl) (by decide) rfl (fun ls hl => ?_)
          refine lv_goto (tgt := 39) S.1 S.2.1 dL_cleans_103 (by decide) ?_
          exact ih_39 (k1 + 1) (by first | omega | exact Nat.zero_le _) (by omega) _ _ Z ls (lv_sub hl [1, 2, 3, 4, 5, 6, 7, 0] rfl)
    have q8 : ((ca, cA G m) :: [(q1, iA G 64 (fa_fill (fun j => (sE σ i j).1) (fun _ => 0) 0)), (q2, iA G 64 (fa_fill (fun j => visV σ i (j / 4) (j % 4) (cV σ 4)) (fun _ => 0) 0)), (q3, iA G 64 (fa_fill (fun j => gB σ i (j / 4) (j % 4)) (fun _ => 0) 0))] : mS) = (ca, cA G m) :: [(q1, iA G 64 (fun _ => 0)), (q2, iA G 64 (fun _ => 0)), (q3, iA G 64 (fun _ => 0))] := by rw [fa_fill_0, fa_fill_0, fa_fill_0]
    rw [← q8] at Z
    exact L_39 (64 - 0 + 1) 0 (by first | omega | exact Nat.zero_le _) (Nat.lt_succ_self _) _ _ Z ls (lv_sub hl [5, 6, 7, 4, 3, 2, 1, 0] rfl)
  · skip
    refine lv_iconst (v := nI 1) S.1 S.2.1 dL_cleans_10 (by decide) ?_
    refine W.widen (k := 3) (n := 192) (by first | decide | omega) (by first | decide | omega) ?_
    rw [hQ]
    exact W.zret (v := nI 1) S.1 S.2.1 hret rfl (fun _ hT9 hW => ⟨⟨_, (σ, (ca, cA G m) :: []), rfl, ⟨rfl, m, rfl, hLI0, by omega, by omega⟩, wZ_P Z hT9 hW⟩, Z.2.2.2.2.F hT9⟩) Z.2.2.2.2.2.2 dL_cleans_11
