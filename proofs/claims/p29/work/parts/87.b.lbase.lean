abbrev rm_k_L_many : Room := { frames := 0, cells := 0, slots := 0, locals := 0 }
set_option maxHeartbeats 4000000 in
set_option maxRecDepth 100000 in
theorem k_L_many (l : Launch) (G : wG) (σ : cS) (μ : mS) (o : Nat → Int64) (a : Nat) (ha : a < 8) : Met l yL_many wsL_many rm_k_L_many (wPc G σ μ o [.int (nI a)]) (vp_Si (fun rr => rr = nI (mny a))) 0 0 (fun _ => False) := by
  refine Met.ofW (cc := cL_many) (maxL := 1) (ret := (some .int)) (by decide) rfl ?_
  intro p e s m9 args below meth c s₁ B hml hv
  obtain ⟨hargs, hI⟩ := hv
  have S : CallFix p m9 c cL_many 1 s args wsL_many RL := ⟨B.exec, B.bytes, hml, findClass_of_methodNamed B.named, atoms_spec (ws := wsL_many) B.pre⟩
  have hret := B.returns
  have hlocks := B.notSynchronized
  have Z := wZ_0 hI
  clear hI
  obtain ⟨Q, hQ⟩ : ∃ Q, Q = MQ below (vp_Si (fun rr => rr = nI (mny a))) args s 0 0 (fun _ => False) := ⟨_, rfl⟩
  rw [← hQ]
  have hl := lv_entry [.int (nI a)] (n := 1) (Nat.le_of_ble_eq_true rfl)
  rw [show entryFrame m9 args 1 = entryFrame m9 ([.int (nI a)] : List Value).toArray 1 from by rw [hargs], lg_entry_eq]
  generalize (lg_sl [.int (nI a)] ++ List.replicate (1 - (lg_sl [.int (nI a)]).length) Slot.unset).toArray = ls at hl ⊢
  have hl : lv_has ls 1 [(0, .int (nI a))] := hl
  refine lv_iload_n S.1 S.2.1 dL_many_0 rfl (lv_at hl 0 rfl) ?_
  refine lv_iconst (v := nI 1) S.1 S.2.1 dL_many_1 (by decide) ?_
  refine lv_iand S.1 S.2.1 dL_many_2 ?_
  refine lv_iload_n S.1 S.2.1 dL_many_3 rfl (lv_at hl 0 rfl) ?_
  refine lv_iconst (v := nI 1) S.1 S.2.1 dL_many_4 (by decide) ?_
  refine lv_ishr S.1 S.2.1 dL_many_5 ?_
  refine lv_iconst (v := nI 1) S.1 S.2.1 dL_many_6 (by decide) ?_
  refine lv_iand S.1 S.2.1 dL_many_7 ?_
  refine lv_iadd S.1 S.2.1 dL_many_8 ?_
  refine lv_iload_n S.1 S.2.1 dL_many_9 rfl (lv_at hl 0 rfl) ?_
  refine lv_iconst (v := nI 2) S.1 S.2.1 dL_many_10 (by decide) ?_
  refine lv_ishr S.1 S.2.1 dL_many_11 ?_
  refine lv_iconst (v := nI 1) S.1 S.2.1 dL_many_12 (by decide) ?_
  refine lv_iand S.1 S.2.1 dL_many_13 ?_
  refine lv_iadd S.1 S.2.1 dL_many_14 ?_
  rw [hQ]
  exact W.iret (v := (((nI a &&& nI 1) + ((nI a >>> (nI 1 &&& 31)) &&& nI 1)) + ((nI a >>> (nI 2 &&& 31)) &&& nI 1))) S.1 S.2.1 hret (fun _ hT9 _ => ⟨_, rfl, (mny_eq a ha), hT9⟩) (fun _ h => nomatch h) dL_many_15

abbrev rm_k_L_copies : Room := { frames := 0, cells := 0, slots := 0, locals := 0 }
set_option maxHeartbeats 4000000 in
set_option maxRecDepth 100000 in
theorem k_L_copies (l : Launch) (G : wG) (σ : cS) (ca : Nat) (m : Nat → Nat) (w : va_W) (o : Nat → Int64) (y : Nat) (h7 : m 7 ≤ 1) (hy : y < 2 ^ 31) : Met l yL_copies wsL_copies rm_k_L_copies (wPc G σ ((ca, cA G m) :: w) o [.ref (ca), .int (nI y)]) (vp_Si (fun rr => rr = nI (cpy m y))) 0 0 (fun _ => False) := by
  refine Met.ofW (cc := cL_copies) (maxL := 2) (ret := (some .int)) (by decide) rfl ?_
  intro p e s m9 args below meth c s₁ B hml hv
  obtain ⟨hargs, hI⟩ := hv
  have S : CallFix p m9 c cL_copies 2 s args wsL_copies RL := ⟨B.exec, B.bytes, hml, findClass_of_methodNamed B.named, atoms_spec (ws := wsL_copies) B.pre⟩
  have hret := B.returns
  have hlocks := B.notSynchronized
  have Z := wZ_0 hI
  clear hI
  obtain ⟨Q, hQ⟩ : ∃ Q, Q = MQ below (vp_Si (fun rr => rr = nI (cpy m y))) args s 0 0 (fun _ => False) := ⟨_, rfl⟩
  rw [← hQ]
  have hl := lv_entry [.ref (ca), .int (nI y)] (n := 2) (Nat.le_of_ble_eq_true rfl)
  rw [show entryFrame m9 args 2 = entryFrame m9 ([.ref (ca), .int (nI y)] : List Value).toArray 2 from by rw [hargs], lg_entry_eq]
  generalize (lg_sl [.ref (ca), .int (nI y)] ++ List.replicate (2 - (lg_sl [.ref (ca), .int (nI y)]).length) Slot.unset).toArray = ls at hl ⊢
  have hl : lv_has ls 2 [(0, .ref (ca)), (1, .int (nI y))] := hl
  refine lv_aload_n S.1 S.2.1 dL_copies_0 rfl (lv_at hl 0 rfl) ?_
  refine lv_bipush (v := nI 7) S.1 S.2.1 dL_copies_1 (by decide) ?_
  refine r_ldc S Z (by omega) dL_copies_3 ?_
  refine lv_iconst (v := nI 1) S.1 S.2.1 dL_copies_4 (by decide) ?_
  refine r_icmpN_ne S (tgt := 13) (by omega) (by omega) dL_copies_5 (by decide) (fun c_1 => ?_) (fun c_1 => ?_)
  · skip
    refine lv_iload_n S.1 S.2.1 dL_copies_13 rfl (lv_at hl 1 rfl) ?_
    refine lv_bipush (v := nI 8) S.1 S.2.1 dL_copies_14 (by decide) ?_
    refine r_remN S (by omega) (by decide) (by decide) dL_copies_16 ?_
    rw [hQ]
    exact W.iret (v := nI (y % 8)) S.1 S.2.1 hret (fun _ hT9 _ => ⟨_, rfl, (by unfold cpy; first | rw [if_pos (by assumption)] | rw [if_neg (by assumption)]), hT9⟩) (fun _ h => nomatch h) dL_copies_17
  · skip
    refine lv_bipush (v := nI 7) S.1 S.2.1 dL_copies_8 (by decide) ?_
    refine lv_goto (tgt := 17) S.1 S.2.1 dL_copies_10 (by decide) ?_
    rw [hQ]
    exact W.iret (v := nI 7) S.1 S.2.1 hret (fun _ hT9 _ => ⟨_, rfl, (by unfold cpy; first | rw [if_pos (by assumption)] | rw [if_neg (by assumption)]), hT9⟩) (fun _ h => nomatch h) dL_copies_17

theorem m_L_isCopy_k48 : Cond.constant RL 48 (65521) ∈ wsL_isCopy := by decide +kernel
abbrev rm_k_L_isCopy : Room := { frames := 6, cells := 0, slots := 0, locals := 142 }
set_option maxHeartbeats 4000000 in
set_option maxRecDepth 100000 in
theorem k_L_isCopy (l : Launch) (G : wG) (σ : cS) (ca : Nat) (m : Nat → Nat) (w : va_W) (o : Nat → Int64) (i : Nat) (hi : i < 3) (hLI : LI G σ m) : Met l yL_isCopy wsL_isCopy rm_k_L_isCopy (wPc G σ ((ca, cA G m) :: w) o [.ref (gA G 0), .int (nI i), .ref (ca)]) (va_Qi (fun (rr : Int32) (u : cS × mS) => rr = nI (1) ∧ u.2 = (ca, cA G m) :: w ∧ (fun ns : cS => Sm σ ns) u.1) (fun u t => wI G u.1 u.2 o t) (gP G)) 0 0 (gP G) := by
  refine Met.ofW (cc := cL_isCopy) (maxL := 9) (ret := (some .boolean)) (by decide) rfl ?_
  intro p e s m9 args below meth c s₁ B hml hv
  obtain ⟨hargs, hI⟩ := hv
  have S : CallFix p m9 c cL_isCopy 9 s args wsL_isCopy RL := ⟨B.exec, B.bytes, hml, findClass_of_methodNamed B.named, atoms_spec (ws := wsL_isCopy) B.pre⟩
  have hret := B.returns
  have hlocks := B.notSynchronized
  have Z := wZ_0 hI
  clear hI
  obtain ⟨Q, hQ⟩ : ∃ Q, Q = MQ below (va_Qi (fun (rr : Int32) (u : cS × mS) => rr = nI (1) ∧ u.2 = (ca, cA G m) :: w ∧ (fun ns : cS => Sm σ ns) u.1) (fun u t => wI G u.1 u.2 o t) (gP G)) args s 0 0 (gP G) := ⟨_, rfl⟩
  rw [← hQ]
  have hl := lv_entry [.ref (gA G 0), .int (nI i), .ref (ca)] (n := 9) (Nat.le_of_ble_eq_true rfl)
  rw [show entryFrame m9 args 9 = entryFrame m9 ([.ref (gA G 0), .int (nI i), .ref (ca)] : List Value).toArray 9 from by rw [hargs], lg_entry_eq]
  generalize (lg_sl [.ref (gA G 0), .int (nI i), .ref (ca)] ++ List.replicate (9 - (lg_sl [.ref (gA G 0), .int (nI i), .ref (ca)]).length) Slot.unset).toArray = ls at hl ⊢
  have hl : lv_has ls 9 [(0, .ref (gA G 0)), (1, .int (nI i)), (2, .ref (ca))] := hl
  obtain ⟨L, nn, hK, h0, h1, h1b, h2, h5, h5b, h7, h7b, h8, h8b⟩ := hLI
  have hb5 : bitB (nI (m 5)) i = cU σ i := by rw [tb_bitB (by omega)]; exact h5b i hi
  have hcl : cL σ i = m (2 + i) := ((hK.1.1 i hi).2.1).trans (h2 i hi).symm
  have hm2 : m (2 + i) ≤ 10 := by rw [h2 i hi]; exact (hK.1.1 i hi).1
  have hce : cntE σ i 64 ≤ 64 := cntE_le 64
  have hts := tsum_le (σ := σ) (i := i)
  have ht1 : tmb σ i 1 ≤ 4 := tmb_le (σ := σ) (t := i) (r := 1) (by decide)
  have hn8 : nn ≤ 8 := Nat.le_trans h8 h8b
  have ht3 : tmb σ i 3 ≤ nn := tmb_3 hK.2.2.1 hn8 (by omega)
  have L_49 : ∀ (n : Nat) (k : Nat) (hk : k ≤ 64) (hn : 64 - k < n) (H : Heap) (locs : List Loc) (Z : wZ G (σ) ((ca, cA G m) :: w) o s H locs) (ls : Array Slot) (hl : lv_has ls 9 [(0, .ref (gA G 0)), (1, .int (nI i)), (2, .ref (ca)), (3, .int (nI (cntE σ i k))), (4, .int (nI 1)), (5, .int (nI k))]), W p l e (headSpec wsL_isCopy rm_k_L_isCopy).room s m9 args below meth c H locs 0 0 Q (F0 m9 49 ls []) := by
    intro n
    induction n with
    | zero => intro k hk hn; omega
    | succ n ih_49 =>
      intro k hk hn H locs Z ls hl
      refine lv_iload S.1 S.2.1 dL_isCopy_49 (lv_at hl 5 rfl) ?_
      refine lv_bipush (v := nI 64) S.1 S.2.1 dL_isCopy_51 (by decide) ?_
      refine r_icmpN_ge S (tgt := 186) (by omega) (by omega) dL_isCopy_53 (by decide) (fun c_1 => ?_) (fun c_1 => ?_)
      · skip
        obtain rfl : k = 64 := by omega
        refine lv_iconst (v := nI 0) S.1 S.2.1 dL_isCopy_186 (by decide) ?_
        refine lv_istore (lv' := [(5, .int (nI 0)), (0, .ref (gA G 0)), (1, .int (nI i)), (2, .ref (ca)), (3, .int (nI (cntE σ i 64))), (4, .int (nI 1))]) S.1 S.2.1 dL_isCopy_187 hl (by decide) rfl (fun ls hl => ?_)
        have L_189 : ∀ (n : Nat) (τ : cS) (lv : Nat) (hs : Sm σ τ) (hlv : lv ≤ 4) (hn : 4 - lv < n) (H : Heap) (locs : List Loc) (Z : wZ G (τ) ((ca, cA G m) :: w) o s H locs) (ls : Array Slot) (hl : lv_has ls 9 [(0, .ref (gA G 0)), (1, .int (nI i)), (2, .ref (ca)), (3, .int (nI (cntE σ i 64))), (4, .int (nI 1)), (5, .int (nI lv))]), W p l e (headSpec wsL_isCopy rm_k_L_isCopy).room s m9 args below meth c H locs 0 0 Q (F0 m9 189 ls []) := by
          intro n
          induction n with
          | zero => intro τ lv hs hlv hn; omega
          | succ n ih_189 =>
            intro τ lv hs hlv hn H locs Z ls hl
            refine lv_iload S.1 S.2.1 dL_isCopy_189 (lv_at hl 5 rfl) ?_
            refine lv_iconst (v := nI 4) S.1 S.2.1 dL_isCopy_191 (by decide) ?_
            refine r_icmpN_ge S (tgt := 280) (by omega) (by omega) dL_isCopy_192 (by decide) (fun c_2 => ?_) (fun c_2 => ?_)
            · skip
              obtain rfl : lv = 4 := by omega
              refine lv_iconst (v := nI 0) S.1 S.2.1 dL_isCopy_280 (by decide) ?_
              refine lv_istore (lv' := [(5, .int (nI 0)), (0, .ref (gA G 0)), (1, .int (nI i)), (2, .ref (ca)), (3, .int (nI (cntE σ i 64))), (4, .int (nI 1))]) S.1 S.2.1 dL_isCopy_281 hl (by decide) rfl (fun ls hl => ?_)
              refine lv_iconst (v := nI 0) S.1 S.2.1 dL_isCopy_283 (by decide) ?_
              refine lv_istore (lv' := [(6, .int (nI 0)), (5, .int (nI 0)), (0, .ref (gA G 0)), (1, .int (nI i)), (2, .ref (ca)), (3, .int (nI (cntE σ i 64))), (4, .int (nI 1))]) S.1 S.2.1 dL_isCopy_284 hl (by decide) rfl (fun ls hl => ?_)
              have L_286 : ∀ (n : Nat) (r : Nat) (hr4 : r ≤ 4) (hn : 4 - r < n) (H : Heap) (locs : List Loc) (Z : wZ G (τ) ((ca, cA G m) :: w) o s H locs) (ls : Array Slot) (hl : lv_has ls 9 [(0, .ref (gA G 0)), (1, .int (nI i)), (2, .ref (ca)), (3, .int (nI (cntE σ i 64))), (4, .int (nI 1)), (5, .int (nI (tsum σ i r))), (6, .int (nI r))]), W p l e (headSpec wsL_isCopy rm_k_L_isCopy).room s m9 args below meth c H locs 0 0 Q (F0 m9 286 ls []) := by
                intro n
                induction n with
                | zero => intro r hr4 hn; omega
                | succ n ih_286 =>
                  intro r hr4 hn H locs Z ls hl
                  refine lv_iload S.1 S.2.1 dL_isCopy_286 (lv_at hl 6 rfl) ?_
                  refine lv_iconst (v := nI 4) S.1 S.2.1 dL_isCopy_288 (by decide) ?_
                  refine r_icmpN_ge S (tgt := 310) (by omega) (by omega) dL_isCopy_289 (by decide) (fun c_3 => ?_) (fun c_3 => ?_)
                  · skip
                    obtain rfl : r = 4 := by omega
                    refine lv_iload S.1 S.2.1 dL_isCopy_310 (lv_at hl 4 rfl) ?_
                    refine r_if_eqN S (tgt := 363) (by decide) dL_isCopy_312 (by decide) (fun c_4 => absurd c_4 (by decide)) (fun c_4 => ?_)
                    refine lv_aload_n S.1 S.2.1 dL_isCopy_315 rfl (lv_at hl 0 rfl) ?_
                    refine lv_iload_n S.1 S.2.1 dL_isCopy_316 rfl (lv_at hl 1 rfl) ?_
                    refine vp_callSi (va_runV (As := [.int (nI i)]) (rest := []) S (kr_entries l G τ ((ca, cA G m) :: w) o σ i hs (by omega)) (cwV 1 S.2.2.2.2 gL_isCopy_X7_entries rfl rfl rfl ⟨rfl, hy_X7_entries⟩ ⟨Nat.le_of_ble_eq_true rfl, Nat.le_of_ble_eq_true rfl⟩) (wPc_V (q := (RX7, TX7, 7)) Z (by decide) rfl rfl) rfl rfl hl.1 rfl (lv_room (Nat.le_of_ble_eq_true rfl)) dL_isCopy_317 ⟨Nat.le_of_ble_eq_true rfl, Nat.le_of_ble_eq_true rfl⟩).run (fun r_5 h_6 => ?_)
                    rw [h_6]; clear h_6 r_5
                    refine lv_iload_n S.1 S.2.1 dL_isCopy_320 rfl (lv_at hl 3 rfl) ?_
                    refine r_icmpN_ne S (tgt := 363) (by omega) (by omega) dL_isCopy_321 (by decide) (fun c_7 => absurd c_7 (by omega)) (fun c_7 => ?_)
                    refine lv_iload S.1 S.2.1 dL_isCopy_324 (lv_at hl 5 rfl) ?_
                    refine lv_if_lt (tgt := 363) S.1 S.2.1 dL_isCopy_326 (by decide) (fun c_8 => absurd c_8 (by exact nI_pos (by omega))) (fun c_8 => ?_)
                    refine lv_iload S.1 S.2.1 dL_isCopy_329 (lv_at hl 5 rfl) ?_
                    refine lv_bipush (v := nI 92) S.1 S.2.1 dL_isCopy_331 (by decide) ?_
                    refine r_icmpN_gt S (tgt := 363) (by omega) (by omega) dL_isCopy_333 (by decide) (fun c_9 => absurd c_9 (by omega)) (fun c_9 => ?_)
                    refine lv_aload_n S.1 S.2.1 dL_isCopy_336 rfl (lv_at hl 0 rfl) ?_
                    refine lv_iload_n S.1 S.2.1 dL_isCopy_337 rfl (lv_at hl 1 rfl) ?_
                    refine lv_iconst (v := nI 1) S.1 S.2.1 dL_isCopy_338 (by decide) ?_
                    refine vp_callSi (va_runV (As := [.int (nI i), .int (nI 1)]) (rest := []) S (kr_tombstones l G τ ((ca, cA G m) :: w) o σ i 1 hs (by omega) (by omega)) (cwV 2 S.2.2.2.2 gL_isCopy_X7_tombstones rfl rfl rfl ⟨rfl, hy_X7_tombstones⟩ ⟨Nat.le_of_ble_eq_true rfl, Nat.le_of_ble_eq_true rfl⟩) (wPc_V (q := (RX7, TX7, 7)) Z (by decide) rfl rfl) rfl rfl hl.1 rfl (lv_room (Nat.le_of_ble_eq_true rfl)) dL_isCopy_339 ⟨Nat.le_of_ble_eq_true rfl, Nat.le_of_ble_eq_true rfl⟩).run (fun r_10 h_11 => ?_)
                    rw [h_11]; clear h_11 r_10
                    refine lv_iconst (v := nI 4) S.1 S.2.1 dL_isCopy_342 (by decide) ?_
                    refine r_icmpN_gt S (tgt := 363) (by omega) (by omega) dL_isCopy_343 (by decide) (fun c_12 => absurd c_12 (by omega)) (fun c_12 => ?_)
                    refine lv_aload_n S.1 S.2.1 dL_isCopy_346 rfl (lv_at hl 0 rfl) ?_
                    refine lv_iload_n S.1 S.2.1 dL_isCopy_347 rfl (lv_at hl 1 rfl) ?_
                    refine lv_iconst (v := nI 3) S.1 S.2.1 dL_isCopy_348 (by decide) ?_
                    refine vp_callSi (va_runV (As := [.int (nI i), .int (nI 3)]) (rest := []) S (kr_tombstones l G τ ((ca, cA G m) :: w) o σ i 3 hs (by omega) (by omega)) (cwV 2 S.2.2.2.2 gL_isCopy_X7_tombstones rfl rfl rfl ⟨rfl, hy_X7_tombstones⟩ ⟨Nat.le_of_ble_eq_true rfl, Nat.le_of_ble_eq_true rfl⟩) (wPc_V (q := (RX7, TX7, 7)) Z (by decide) rfl rfl) rfl rfl hl.1 rfl (lv_room (Nat.le_of_ble_eq_true rfl)) dL_isCopy_349 ⟨Nat.le_of_ble_eq_true rfl, Nat.le_of_ble_eq_true rfl⟩).run (fun r_13 h_14 => ?_)
                    rw [h_14]; clear h_14 r_13
                    refine lv_aload_n S.1 S.2.1 dL_isCopy_352 rfl (lv_at hl 2 rfl) ?_
                    refine lv_bipush (v := nI 8) S.1 S.2.1 dL_isCopy_353 (by decide) ?_
                    refine r_ldc S Z (by omega) dL_isCopy_355 ?_
                    refine r_icmpN_gt S (tgt := 363) (by omega) (by omega) dL_isCopy_356 (by decide) (fun c_15 => absurd c_15 (by omega)) (fun c_15 => ?_)
                    refine lv_iconst (v := nI 1) S.1 S.2.1 dL_isCopy_359 (by decide) ?_
                    refine lv_goto (tgt := 364) S.1 S.2.1 dL_isCopy_360 (by decide) ?_
                    rw [hQ]
                    exact W.zret (v := nI 1) S.1 S.2.1 hret rfl (fun _ hT9 hW => ⟨⟨_, (τ, (ca, cA G m) :: w), rfl, ⟨rfl, rfl, hs⟩, wZ_P Z hT9 hW⟩, Z.2.2.2.2.F hT9⟩) Z.2.2.2.2.2.2 dL_isCopy_364
                  · skip
                    refine lv_iload S.1 S.2.1 dL_isCopy_292 (lv_at hl 5 rfl) ?_
                    refine lv_aload_n S.1 S.2.1 dL_isCopy_294 rfl (lv_at hl 0 rfl) ?_
                    refine lv_iload_n S.1 S.2.1 dL_isCopy_295 rfl (lv_at hl 1 rfl) ?_
                    refine lv_iload S.1 S.2.1 dL_isCopy_296 (lv_at hl 6 rfl) ?_
                    refine vp_callSi (va_runV (As := [.int (nI i), .int (nI r)]) (rest := [.int (nI (tsum σ i r))]) S (kr_tombstones l G τ ((ca, cA G m) :: w) o σ i r hs (by omega) (by omega)) (cwV 2 S.2.2.2.2 gL_isCopy_X7_tombstones rfl rfl rfl ⟨rfl, hy_X7_tombstones⟩ ⟨Nat.le_of_ble_eq_true rfl, Nat.le_of_ble_eq_true rfl⟩) (wPc_V (q := (RX7, TX7, 7)) Z (by decide) rfl rfl) rfl rfl hl.1 rfl (lv_room (Nat.le_of_ble_eq_true rfl)) dL_isCopy_298 ⟨Nat.le_of_ble_eq_true rfl, Nat.le_of_ble_eq_true rfl⟩).run (fun r_16 h_17 => ?_)
                    rw [h_17]; clear h_17 r_16
                    refine r_addN S dL_isCopy_301 ?_
                    refine lv_istore (lv' := [(5, .int (nI ((tsum σ i r) + (tmb σ i r)))), (0, .ref (gA G 0)), (1, .int (nI i)), (2, .ref (ca)), (3, .int (nI (cntE σ i 64))), (4, .int (nI 1)), (6, .int (nI r))]) S.1 S.2.1 dL_isCopy_302 hl (by decide) rfl (fun ls hl => ?_)
                    refine lv_iinc (v := nI (r + 1)) (lv' := [(6, .int (nI (r + 1))), (5, .int (nI ((tsum σ i r) + (tmb σ i r)))), (0, .ref (gA G 0)), (1, .int (nI i)), (2, .ref (ca)), (3, .int (nI (cntE σ i 64))), (4, .int (nI 1))]) S.1 S.2.1 dL_isCopy_304 hl (k := 6) rfl (nI_inc rfl) (by decide) rfl (fun ls hl => ?_)
                    refine lv_goto (tgt := 286) S.1 S.2.1 dL_isCopy_307 (by decide) ?_
                    have q_18 : (nI (tsum σ i (r + 1)) : Int32) = nI ((tsum σ i r) + (tmb σ i r)) := by rfl
                    have hl : lv_has ls 9 [(0, .ref (gA G 0)), (1, .int (nI i)), (2, .ref (ca)), (3, .int (nI (cntE σ i 64))), (4, .int (nI 1)), (5, .int (nI (tsum σ i (r + 1)))), (6, .int (nI (r + 1)))] := by
                      have hl := lv_sub hl [2, 3, 4, 5, 6, 1, 0] rfl
                      rw [q_18]; exact hl
                    exact ih_286 (r + 1) (by first | omega | exact Nat.zero_le _) (by omega) _ _ Z ls (hl)
              have q_19 : (nI (tsum σ i 0) : Int32) = nI 0 := by rfl
              have hl : lv_has ls 9 [(0, .ref (gA G 0)), (1, .int (nI i)), (2, .ref (ca)), (3, .int (nI (cntE σ i 64))), (4, .int (nI 1)), (5, .int (nI (tsum σ i 0))), (6, .int (nI 0))] := by
                have hl := lv_sub hl [2, 3, 4, 5, 6, 1, 0] rfl
                rw [q_19]; exact hl
              exact L_286 (4 - 0 + 1) 0 (by first | omega | exact Nat.zero_le _) (Nat.lt_succ_self _) _ _ Z ls (hl)
            · skip
              refine lv_iload S.1 S.2.1 dL_isCopy_195 (lv_at hl 4 rfl) ?_
              refine r_if_eqN S (tgt := 280) (by decide) dL_isCopy_197 (by decide) (fun c_20 => absurd c_20 (by decide)) (fun c_20 => ?_)
              refine lv_iconst (v := nI 0) S.1 S.2.1 dL_isCopy_200 (by decide) ?_
              refine lv_istore (lv' := [(6, .int (nI 0)), (0, .ref (gA G 0)), (1, .int (nI i)), (2, .ref (ca)), (3, .int (nI (cntE σ i 64))), (4, .int (nI 1)), (5, .int (nI lv))]) S.1 S.2.1 dL_isCopy_201 hl (by decide) rfl (fun ls hl => ?_)
              have L_203 : ∀ (n : Nat) (τ2 : cS) (nd : Nat) (hs2 : Sm σ τ2) (hnd : nd ≤ 2 ^ lv) (hn : 2 ^ lv - nd < n) (H : Heap) (locs : List Loc) (Z : wZ G (τ2) ((ca, cA G m) :: w) o s H locs) (ls : Array Slot) (hl : lv_has ls 9 [(0, .ref (gA G 0)), (1, .int (nI i)), (2, .ref (ca)), (3, .int (nI (cntE σ i 64))), (4, .int (nI 1)), (5, .int (nI lv)), (6, .int (nI nd))]), W p l e (headSpec wsL_isCopy rm_k_L_isCopy).room s m9 args below meth c H locs 0 0 Q (F0 m9 203 ls []) := by
                intro n
                induction n with
                | zero => intro τ2 nd hs2 hnd hn; omega
                | succ n ih_203 =>
                  intro τ2 nd hs2 hnd hn H locs Z ls hl
                  have hp2 := p2 (l := lv) (by omega)
                  refine lv_iload S.1 S.2.1 dL_isCopy_203 (lv_at hl 6 rfl) ?_
                  refine lv_iconst (v := nI 1) S.1 S.2.1 dL_isCopy_205 (by decide) ?_
                  refine lv_iload S.1 S.2.1 dL_isCopy_206 (lv_at hl 5 rfl) ?_
                  refine r_shl1 S (by omega) dL_isCopy_208 ?_
                  refine r_icmpN_ge S (tgt := 274) (by omega) (by omega) dL_isCopy_209 (by decide) (fun c_21 => ?_) (fun c_21 => ?_)
                  · skip
                    refine lv_iinc (v := nI (lv + 1)) (lv' := [(5, .int (nI (lv + 1))), (0, .ref (gA G 0)), (1, .int (nI i)), (2, .ref (ca)), (3, .int (nI (cntE σ i 64))), (4, .int (nI 1)), (6, .int (nI nd))]) S.1 S.2.1 dL_isCopy_274 hl (k := 5) rfl (nI_inc rfl) (by decide) rfl (fun ls hl => ?_)
                    refine lv_goto (tgt := 189) S.1 S.2.1 dL_isCopy_277 (by decide) ?_
                    exact ih_189 τ2 (lv + 1) hs2 (by first | omega | exact Nat.zero_le _) (by omega) _ _ Z ls (lv_sub hl [1, 2, 3, 4, 5, 0] rfl)
                  · skip
                    refine lv_iload S.1 S.2.1 dL_isCopy_212 (lv_at hl 4 rfl) ?_
                    refine r_if_eqN S (tgt := 274) (by decide) dL_isCopy_214 (by decide) (fun c_22 => absurd c_22 (by decide)) (fun c_22 => ?_)
                    refine lv_aload_n S.1 S.2.1 dL_isCopy_217 rfl (lv_at hl 0 rfl) ?_
                    refine lv_iload_n S.1 S.2.1 dL_isCopy_218 rfl (lv_at hl 1 rfl) ?_
                    refine lv_iload S.1 S.2.1 dL_isCopy_219 (lv_at hl 5 rfl) ?_
                    refine lv_iload S.1 S.2.1 dL_isCopy_221 (lv_at hl 6 rfl) ?_
                    refine va_calli (va_runV (As := [.int (nI i), .int (nI lv), .int (nI nd)]) (rest := []) S (kr_sumOf l G τ2 ((ca, cA G m) :: w) o σ i lv nd hs2 (by omega) (by omega) (by omega)) (cwV 3 S.2.2.2.2 gL_isCopy_X7_sumOf rfl rfl rfl ⟨rfl, hy_X7_sumOf⟩ ⟨Nat.le_of_ble_eq_true rfl, Nat.le_of_ble_eq_true rfl⟩) (wPc_V (q := (RX7, TX7, 7)) Z (by decide) rfl rfl) rfl rfl hl.1 rfl (lv_room (Nat.le_of_ble_eq_true rfl)) dL_isCopy_223 ⟨Nat.le_of_ble_eq_true rfl, Nat.le_of_ble_eq_true rfl⟩) Z.2.2.2.2 (fun _ _ h => h) (fun _ h => h) (fun r_23 u_24 T9 H1 locs1 hT9 hvm hw hB hz hk9 hS => ?_)
                    obtain ⟨τ_25, μ9⟩ := u_24
                    obtain ⟨hr9, hm9, hp9⟩ := hw
                    have hm9 : ((ca, cA G m) :: w) = μ9 := hm9.symm
                    subst hm9
                    have hp_26 : Sm σ τ_25 := hp9
                    clear hp9
                    rw [hr9]; clear hr9 r_23
                    have Z : wZ G (τ_25) (((ca, cA G m) :: w)) o s H1 locs1 := wZ_callP Z hB hT9 hS
                    clear hB hT9 hS hk9 hz hvm T9
                    revert Z; generalize H1 = H; generalize locs1 = locs; intro Z
                    refine W.widen (k := 0) (n := 0) (by first | decide | omega) (by first | decide | omega) ?_
                    refine lv_aload_n S.1 S.2.1 dL_isCopy_226 rfl (lv_at hl 0 rfl) ?_
                    refine lv_iload_n S.1 S.2.1 dL_isCopy_227 rfl (lv_at hl 1 rfl) ?_
                    refine lv_iload S.1 S.2.1 dL_isCopy_228 (lv_at hl 5 rfl) ?_
                    refine lv_iconst (v := nI 1) S.1 S.2.1 dL_isCopy_230 (by decide) ?_
                    refine r_addN S dL_isCopy_231 ?_
                    refine lv_iconst (v := nI 2) S.1 S.2.1 dL_isCopy_232 (by decide) ?_
                    refine lv_iload S.1 S.2.1 dL_isCopy_233 (lv_at hl 6 rfl) ?_
                    refine r_mulN S dL_isCopy_235 ?_
                    refine va_calli (va_runV (As := [.int (nI i), .int (nI (lv + 1)), .int (nI (2 * nd))]) (rest := [.int (NS σ i (2 ^ lv + nd))]) S (kr_sumOf l G τ_25 (((ca, cA G m) :: w)) o σ i (lv + 1) (2 * nd) hp_26 (by omega) (by omega) (pow_in (by omega))) (cwV 3 S.2.2.2.2 gL_isCopy_X7_sumOf rfl rfl rfl ⟨rfl, hy_X7_sumOf⟩ ⟨Nat.le_of_ble_eq_true rfl, Nat.le_of_ble_eq_true rfl⟩) (wPc_V (q := (RX7, TX7, 7)) Z (by decide) rfl rfl) rfl rfl hl.1 rfl (lv_room (Nat.le_of_ble_eq_true rfl)) dL_isCopy_236 ⟨Nat.le_of_ble_eq_true rfl, Nat.le_of_ble_eq_true rfl⟩) Z.2.2.2.2 (fun _ _ h => h) (fun _ h => h) (fun r_27 u_28 T9 H1 locs1 hT9 hvm hw hB hz hk9 hS => ?_)
                    obtain ⟨τ_29, μ9⟩ := u_28
                    obtain ⟨hr9, hm9, hp9⟩ := hw
                    have hm9 : (((ca, cA G m) :: w)) = μ9 := hm9.symm
                    subst hm9
                    have hp_30 : Sm σ τ_29 := hp9
                    clear hp9
                    rw [hr9]; clear hr9 r_27
                    have Z : wZ G (τ_29) ((((ca, cA G m) :: w))) o s H1 locs1 := wZ_callP Z hB hT9 hS
                    clear hB hT9 hS hk9 hz hvm T9
                    revert Z; generalize H1 = H; generalize locs1 = locs; intro Z
                    refine W.widen (k := 0) (n := 0) (by first | decide | omega) (by first | decide | omega) ?_
                    refine lv_aload_n S.1 S.2.1 dL_isCopy_239 rfl (lv_at hl 0 rfl) ?_
                    refine lv_iload_n S.1 S.2.1 dL_isCopy_240 rfl (lv_at hl 1 rfl) ?_
                    refine lv_iload S.1 S.2.1 dL_isCopy_241 (lv_at hl 5 rfl) ?_
                    refine lv_iconst (v := nI 1) S.1 S.2.1 dL_isCopy_243 (by decide) ?_
                    refine r_addN S dL_isCopy_244 ?_
                    refine lv_iconst (v := nI 2) S.1 S.2.1 dL_isCopy_245 (by decide) ?_
                    refine lv_iload S.1 S.2.1 dL_isCopy_246 (lv_at hl 6 rfl) ?_
                    refine r_mulN S dL_isCopy_248 ?_
                    refine lv_iconst (v := nI 1) S.1 S.2.1 dL_isCopy_249 (by decide) ?_
                    refine r_addN S dL_isCopy_250 ?_
                    refine va_calli (va_runV (As := [.int (nI i), .int (nI (lv + 1)), .int (nI ((2 * nd) + 1))]) (rest := [.int (NS σ i (2 ^ (lv + 1) + (2 * nd))), .int (NS σ i (2 ^ lv + nd))]) S (kr_sumOf l G τ_29 ((((ca, cA G m) :: w))) o σ i (lv + 1) ((2 * nd) + 1) hp_30 (by omega) (by omega) (pow_in1 (by omega))) (cwV 3 S.2.2.2.2 gL_isCopy_X7_sumOf rfl rfl rfl ⟨rfl, hy_X7_sumOf⟩ ⟨Nat.le_of_ble_eq_true rfl, Nat.le_of_ble_eq_true rfl⟩) (wPc_V (q := (RX7, TX7, 7)) Z (by decide) rfl rfl) rfl rfl hl.1 rfl (lv_room (Nat.le_of_ble_eq_true rfl)) dL_isCopy_251 ⟨Nat.le_of_ble_eq_true rfl, Nat.le_of_ble_eq_true rfl⟩) Z.2.2.2.2 (fun _ _ h => h) (fun _ h => h) (fun r_31 u_32 T9 H1 locs1 hT9 hvm hw hB hz hk9 hS => ?_)
                    obtain ⟨τ_33, μ9⟩ := u_32
                    obtain ⟨hr9, hm9, hp9⟩ := hw
                    have hm9 : ((((ca, cA G m) :: w))) = μ9 := hm9.symm
                    subst hm9
                    have hp_34 : Sm σ τ_33 := hp9
                    clear hp9
                    rw [hr9]; clear hr9 r_31
                    have Z : wZ G (τ_33) (((((ca, cA G m) :: w)))) o s H1 locs1 := wZ_callP Z hB hT9 hS
                    clear hB hT9 hS hk9 hz hvm T9
                    revert Z; generalize H1 = H; generalize locs1 = locs; intro Z
                    refine W.widen (k := 0) (n := 0) (by first | decide | omega) (by first | decide | omega) ?_
                    refine lv_iadd S.1 S.2.1 dL_isCopy_254 ?_
                    refine lv_ldc (v := 65521) S.1 S.2.1 S.2.2.2.1 (S.2.2.2.2 _ m_L_isCopy_k48) dL_isCopy_255 ?_
                    refine r_irem S (by decide) dL_isCopy_257 ?_
                    refine lv_icmp_ne (tgt := 265) S.1 S.2.1 dL_isCopy_258 (by decide) (fun c_35 => absurd c_35 (by exact not_not_intro (NS_lv (by omega) (by omega)))) (fun c_35 => ?_)
                    refine lv_iconst (v := nI 1) S.1 S.2.1 dL_isCopy_261 (by decide) ?_
                    refine lv_goto (tgt := 266) S.1 S.2.1 dL_isCopy_262 (by decide) ?_
                    refine lv_istore (lv' := [(4, .int (nI 1)), (0, .ref (gA G 0)), (1, .int (nI i)), (2, .ref (ca)), (3, .int (nI (cntE σ i 64))), (5, .int (nI lv)), (6, .int (nI nd))]) S.1 S.2.1 dL_isCopy_266 hl (by decide) rfl (fun ls hl => ?_)
                    refine lv_iinc (v := nI (nd + 1)) (lv' := [(6, .int (nI (nd + 1))), (4, .int (nI 1)), (0, .ref (gA G 0)), (1, .int (nI i)), (2, .ref (ca)), (3, .int (nI (cntE σ i 64))), (5, .int (nI lv))]) S.1 S.2.1 dL_isCopy_268 hl (k := 6) rfl (nI_inc rfl) (by decide) rfl (fun ls hl => ?_)
                    refine lv_goto (tgt := 203) S.1 S.2.1 dL_isCopy_271 (by decide) ?_
                    have q8 : ((ca, cA G m) :: w : mS) = ((((ca, cA G m) :: w))) := by first | (simp [hk, c_1, hs, hlv, c_2, hs2, hnd, c_21, c_35, Nat.not_lt.mpr c_1]; done) | (simp [hk, c_1, hs, hlv, c_2, hs2, hnd, c_21, c_35, Nat.not_lt.mpr c_1]; omega) | (simp [← Int32.not_le, hk, c_1, hs, hlv, c_2, hs2, hnd, c_21, c_35, Nat.not_lt.mpr c_1]; done) | (simp [hk, c_1, hs, hlv, c_2, hs2, hnd, c_21, eq_true c_35, Nat.not_lt.mpr c_1]; done)
                    rw [← q8] at Z
                    exact ih_203 τ_33 (nd + 1) hp_34 (by first | omega | exact Nat.zero_le _) (by omega) _ _ Z ls (lv_sub hl [2, 3, 4, 5, 1, 6, 0] rfl)
              exact L_203 (2 ^ lv - 0 + 1) τ 0 hs (by first | omega | exact Nat.zero_le _) (Nat.lt_succ_self _) _ _ Z ls (lv_sub hl [1, 2, 3, 4, 5, 6, 0] rfl)
        exact L_189 (4 - 0 + 1) σ 0 Sm_rf (by first | omega | exact Nat.zero_le _) (Nat.lt_succ_self _) _ _ Z ls (lv_sub hl [1, 2, 3, 4, 5, 0] rfl)
      · skip
        refine lv_iload S.1 S.2.1 dL_isCopy_56 (lv_at hl 4 rfl) ?_
        refine r_if_eqN S (tgt := 186) (by decide) dL_isCopy_58 (by decide) (fun c_36 => absurd c_36 (by decide)) (fun c_36 => ?_)
        have kk4 : k / 4 * 4 + k % 4 = k := by omega
        refine lv_aload_n S.1 S.2.1 dL_isCopy_61 rfl (lv_at hl 0 rfl) ?_
        refine lv_iload_n S.1 S.2.1 dL_isCopy_62 rfl (lv_at hl 1 rfl) ?_
        refine lv_iload S.1 S.2.1 dL_isCopy_63 (lv_at hl 5 rfl) ?_
        refine lv_iconst (v := nI 4) S.1 S.2.1 dL_isCopy_65 (by decide) ?_
        refine r_divN S (by omega) (by decide) (by decide) dL_isCopy_66 ?_
        refine lv_iload S.1 S.2.1 dL_isCopy_67 (lv_at hl 5 rfl) ?_
        refine lv_iconst (v := nI 4) S.1 S.2.1 dL_isCopy_69 (by decide) ?_
        refine r_remN S (by omega) (by decide) (by decide) dL_isCopy_70 ?_
        refine vp_callSi (va_runV (As := [.int (nI i), .int (nI (k / 4)), .int (nI (k % 4))]) (rest := []) S (kr_stampAt l G σ ((ca, cA G m) :: w) o σ i (k / 4) (k % 4) Sm_rf (by omega) (by omega) (by omega)) (cwV 3 S.2.2.2.2 gL_isCopy_X7_stampAt rfl rfl rfl ⟨rfl, hy_X7_stampAt⟩ ⟨Nat.le_of_ble_eq_true rfl, Nat.le_of_ble_eq_true rfl⟩) (wPc_V (q := (RX7, TX7, 7)) Z (by decide) rfl rfl) rfl rfl hl.1 rfl (lv_room (Nat.le_of_ble_eq_true rfl)) dL_isCopy_71 ⟨Nat.le_of_ble_eq_true rfl, Nat.le_of_ble_eq_true rfl⟩).run (fun r_37 h_38 => ?_)
        rw [h_38]; clear h_38 r_37
        rw [kk4]
        refine lv_istore (lv' := [(6, .int ((sE σ i k).1)), (0, .ref (gA G 0)), (1, .int (nI i)), (2, .ref (ca)), (3, .int (nI (cntE σ i k))), (4, .int (nI 1)), (5, .int (nI k))]) S.1 S.2.1 dL_isCopy_74 hl (by decide) rfl (fun ls hl => ?_)
        refine lv_aload_n S.1 S.2.1 dL_isCopy_76 rfl (lv_at hl 1 rfl) ?_
        refine lv_iload_n S.1 S.2.1 dL_isCopy_77 rfl (lv_at hl 2 rfl) ?_
        refine lv_iload S.1 S.2.1 dL_isCopy_78 (lv_at hl 6 rfl) ?_
        refine lv_iconst (v := nI 4) S.1 S.2.1 dL_isCopy_80 (by decide) ?_
        refine r_divN S (by omega) (by decide) (by decide) dL_isCopy_81 ?_
        refine lv_iload S.1 S.2.1 dL_isCopy_82 (lv_at hl 6 rfl) ?_
        refine lv_iconst (v := nI 4) S.1 S.2.1 dL_isCopy_84 (by decide) ?_
        refine r_remN S (by omega) (by decide) (by decide) dL_isCopy_85 ?_
        refine vp_callSi (va_runV (As := [.int (nI i), .int (nI (k / 4)), .int (nI (k % 4))]) (rest := []) S (kr_valueAt l G σ ((ca, cA G m) :: w) o σ i (k / 4) (k % 4) Sm_rf (by omega) (by omega) (by omega)) (cwV 3 S.2.2.2.2 gL_isCopy_X7_valueAt rfl rfl rfl ⟨rfl, hy_X7_valueAt⟩ ⟨Nat.le_of_ble_eq_true rfl, Nat.le_of_ble_eq_true rfl⟩) (wPc_V (q := (RX7, TX7, 7)) Z (by decide) rfl rfl) rfl rfl hl.1 rfl (lv_room (Nat.le_of_ble_eq_true rfl)) dL_isCopy_86 ⟨Nat.le_of_ble_eq_true rfl, Nat.le_of_ble_eq_true rfl⟩).run (fun r_39 h_40 => ?_)
        rw [h_40]; clear h_40 r_39
        refine lv_istore (lv' := [(7, .int (visV σ i (k / 4) (k % 4) (cV σ 4))), (6, .int ((sE σ i k).1)), (0, .ref (gA G 0)), (1, .int (nI i)), (2, .ref (ca)), (3, .int (nI (cntE σ i k))), (4, .int (nI 1)), (5, .int (nI k))]) S.1 S.2.1 dL_isCopy_89 hl (by decide) rfl (fun ls hl => ?_)
        refine lv_aload_n S.1 S.2.1 dL_isCopy_91 rfl (lv_at hl 2 rfl) ?_
        refine lv_iload_n S.1 S.2.1 dL_isCopy_92 rfl (lv_at hl 3 rfl) ?_
        refine lv_iload S.1 S.2.1 dL_isCopy_93 (lv_at hl 7 rfl) ?_
        refine lv_iconst (v := nI 4) S.1 S.2.1 dL_isCopy_95 (by decide) ?_
        refine r_divN S (by omega) (by decide) (by decide) dL_isCopy_96 ?_
        refine lv_iload S.1 S.2.1 dL_isCopy_97 (lv_at hl 7 rfl) ?_
        refine lv_iconst (v := nI 4) S.1 S.2.1 dL_isCopy_99 (by decide) ?_
        refine r_remN S (by omega) (by decide) (by decide) dL_isCopy_100 ?_
        refine vp_callSi (va_runV (As := [.int (nI i), .int (nI (k / 4)), .int (nI (k % 4))]) (rest := []) S (kr_buriedBy l G σ ((ca, cA G m) :: w) o σ i (k / 4) (k % 4) Sm_rf (by omega) (by omega) (by omega)) (cwV 3 S.2.2.2.2 gL_isCopy_X7_buriedBy rfl rfl rfl ⟨rfl, hy_X7_buriedBy⟩ ⟨Nat.le_of_ble_eq_true rfl, Nat.le_of_ble_eq_true rfl⟩) (wPc_V (q := (RX7, TX7, 7)) Z (by decide) rfl rfl) rfl rfl hl.1 rfl (lv_room (Nat.le_of_ble_eq_true rfl)) dL_isCopy_101 ⟨Nat.le_of_ble_eq_true rfl, Nat.le_of_ble_eq_true rfl⟩).run (fun r_41 h_42 => ?_)
        rw [h_42]; clear h_42 r_41
        refine lv_istore (lv' := [(8, .int (gB σ i (k / 4) (k % 4))), (7, .int (visV σ i (k / 4) (k % 4) (cV σ 4))), (6, .int ((sE σ i k).1)), (0, .ref (gA G 0)), (1, .int (nI i)), (2, .ref (ca)), (3, .int (nI (cntE σ i k))), (4, .int (nI 1)), (5, .int (nI k))]) S.1 S.2.1 dL_isCopy_104 hl (by decide) rfl (fun ls hl => ?_)
        have es : stP (sE σ i k).1 := okF_1 (hK.2.1 i k (by omega) (by omega))
        have eb : stP (gB σ i (k / 4) (k % 4)) := gB_stP hK.2.2.1 (by omega) (by omega) (by omega)
        have ev := vis_or hK.2.1 (t := i) (row := k / 4) (col := k % 4) (by omega) (by omega) (by omega) (cV σ 4)
        rw [kk4] at ev
        refine lv_iload_n S.1 S.2.1 dL_isCopy_106 rfl (lv_at hl 6 rfl) ?_
        refine lv_iload S.1 S.2.1 dL_isCopy_107 (lv_at hl 2 rfl) ?_
        refine lv_if_ge (tgt := 116) S.1 S.2.1 dL_isCopy_109 (by decide) (fun c_43 => ?_) (fun c_43 => ?_)
        · skip
          refine lv_iconst (v := nI 1) S.1 S.2.1 dL_isCopy_116 (by decide) ?_
          refine r_addN S dL_isCopy_117 ?_
          refine lv_istore_n (lv' := [(3, .int (nI ((cntE σ i k) + 1))), (8, .int (gB σ i (k / 4) (k % 4))), (7, .int (visV σ i (k / 4) (k % 4) (cV σ 4))), (6, .int ((sE σ i k).1)), (0, .ref (gA G 0)), (1, .int (nI i)), (2, .ref (ca)), (4, .int (nI 1)), (5, .int (nI k))]) S.1 S.2.1 dL_isCopy_118 rfl hl (by decide) rfl (fun ls hl => ?_)
          refine lv_iload S.1 S.2.1 dL_isCopy_119 (lv_at hl 3 rfl) ?_
          refine lv_iconst (v := -1) S.1 S.2.1 dL_isCopy_121 (by decide) ?_
          refine lv_icmp_lt (tgt := 177) S.1 S.2.1 dL_isCopy_122 (by decide) (fun c_44 => absurd c_44 (by exact i_nlt.mpr (stP_ge es))) (fun c_44 => ?_)
          refine lv_iload S.1 S.2.1 dL_isCopy_125 (lv_at hl 3 rfl) ?_
          refine lv_sipush (v := nI 999) S.1 S.2.1 dL_isCopy_127 (by decide) ?_
          refine lv_icmp_gt (tgt := 177) S.1 S.2.1 dL_isCopy_130 (by decide) (fun c_45 => absurd c_45 (by exact i_nlt.mpr (stP_le es))) (fun c_45 => ?_)
          refine lv_iload S.1 S.2.1 dL_isCopy_133 (lv_at hl 1 rfl) ?_
          refine lv_iconst (v := -1) S.1 S.2.1 dL_isCopy_135 (by decide) ?_
          refine lv_icmp_lt (tgt := 177) S.1 S.2.1 dL_isCopy_136 (by decide) (fun c_46 => absurd c_46 (by exact i_nlt.mpr (stP_ge eb))) (fun c_46 => ?_)
          refine lv_iload S.1 S.2.1 dL_isCopy_139 (lv_at hl 1 rfl) ?_
          refine lv_sipush (v := nI 999) S.1 S.2.1 dL_isCopy_141 (by decide) ?_
          refine lv_icmp_gt (tgt := 177) S.1 S.2.1 dL_isCopy_144 (by decide) (fun c_47 => absurd c_47 (by exact i_nlt.mpr (stP_le eb))) (fun c_47 => ?_)
          refine lv_iload S.1 S.2.1 dL_isCopy_147 (lv_at hl 2 rfl) ?_
          refine lv_iconst (v := -1) S.1 S.2.1 dL_isCopy_149 (by decide) ?_
          refine lv_icmp_lt (tgt := 177) S.1 S.2.1 dL_isCopy_150 (by decide) (fun c_48 => absurd c_48 (by exact i_nlt.mpr (vis_lo ev))) (fun c_48 => ?_)
          refine lv_iload S.1 S.2.1 dL_isCopy_153 (lv_at hl 2 rfl) ?_
          refine lv_sipush (v := nI 999) S.1 S.2.1 dL_isCopy_155 (by decide) ?_
          refine lv_icmp_gt (tgt := 177) S.1 S.2.1 dL_isCopy_158 (by decide) (fun c_49 => absurd c_49 (by exact i_nlt.mpr (vis_hi ev))) (fun c_49 => ?_)
          refine lv_iload S.1 S.2.1 dL_isCopy_161 (lv_at hl 2 rfl) ?_
          refine lv_if_lt (tgt := 173) S.1 S.2.1 dL_isCopy_163 (by decide) (fun c_50 => ?_) (fun c_50 => ?_)
          · skip
            refine lv_iconst (v := nI 1) S.1 S.2.1 dL_isCopy_173 (by decide) ?_
            refine lv_goto (tgt := 178) S.1 S.2.1 dL_isCopy_174 (by decide) ?_
            refine lv_istore (lv' := [(4, .int (nI 1)), (3, .int (nI ((cntE σ i k) + 1))), (8, .int (gB σ i (k / 4) (k % 4))), (7, .int (visV σ i (k / 4) (k % 4) (cV σ 4))), (6, .int ((sE σ i k).1)), (0, .ref (gA G 0)), (1, .int (nI i)), (2, .ref (ca)), (5, .int (nI k))]) S.1 S.2.1 dL_isCopy_178 hl (by decide) rfl (fun ls hl => ?_)
            refine lv_iinc (v := nI (k + 1)) (lv' := [(5, .int (nI (k + 1))), (4, .int (nI 1)), (3, .int (nI ((cntE σ i k) + 1))), (8, .int (gB σ i (k / 4) (k % 4))), (7, .int (visV σ i (k / 4) (k % 4) (cV σ 4))), (6, .int ((sE σ i k).1)), (0, .ref (gA G 0)), (1, .int (nI i)), (2, .ref (ca))]) S.1 S.2.1 dL_isCopy_180 hl (k := 8) rfl (nI_inc rfl) (by decide) rfl (fun ls hl => ?_)
            refine lv_goto (tgt := 49) S.1 S.2.1 dL_isCopy_183 (by decide) ?_
            have q_51 : (nI (cntE σ i (k + 1)) : Int32) = nI ((cntE σ i k) + 1) := by exact congrArg nI (cntE_y c_43)
            have hl : lv_has ls 9 [(0, .ref (gA G 0)), (1, .int (nI i)), (2, .ref (ca)), (3, .int (nI (cntE σ i (k + 1)))), (4, .int (nI 1)), (5, .int (nI (k + 1)))] := by
              have hl := lv_sub hl [6, 7, 8, 2, 1, 0] rfl
              rw [q_51]; exact hl
            exact ih_49 (k + 1) (by first | omega | exact Nat.zero_le _) (by omega) _ _ Z ls (hl)
          · skip
            refine lv_iload S.1 S.2.1 dL_isCopy_166 (lv_at hl 3 rfl) ?_
            refine lv_iload S.1 S.2.1 dL_isCopy_168 (lv_at hl 1 rfl) ?_
            refine lv_icmp_le (tgt := 177) S.1 S.2.1 dL_isCopy_170 (by decide) (fun c_52 => absurd c_52 (by exact vis_gt ev c_50)) (fun c_52 => ?_)
            refine lv_iconst (v := nI 1) S.1 S.2.1 dL_isCopy_173 (by decide) ?_
            refine lv_goto (tgt := 178) S.1 S.2.1 dL_isCopy_174 (by decide) ?_
            refine lv_istore (lv' := [(4, .int (nI 1)), (3, .int (nI ((cntE σ i k) + 1))), (8, .int (gB σ i (k / 4) (k % 4))), (7, .int (visV σ i (k / 4) (k % 4) (cV σ 4))), (6, .int ((sE σ i k).1)), (0, .ref (gA G 0)), (1, .int (nI i)), (2, .ref (ca)), (5, .int (nI k))]) S.1 S.2.1 dL_isCopy_178 hl (by decide) rfl (fun ls hl => ?_)
            refine lv_iinc (v := nI (k + 1)) (lv' := [(5, .int (nI (k + 1))), (4, .int (nI 1)), (3, .int (nI ((cntE σ i k) + 1))), (8, .int (gB σ i (k / 4) (k % 4))), (7, .int (visV σ i (k / 4) (k % 4) (cV σ 4))), (6, .int ((sE σ i k).1)), (0, .ref (gA G 0)), (1, .int (nI i)), (2, .ref (ca))]) S.1 S.2.1 dL_isCopy_180 hl (k := 8) rfl (nI_inc rfl) (by decide) rfl (fun ls hl => ?_)
            refine lv_goto (tgt := 49) S.1 S.2.1 dL_isCopy_183 (by decide) ?_
            have q_53 : (nI (cntE σ i (k + 1)) : Int32) = nI ((cntE σ i k) + 1) := by exact congrArg nI (cntE_y c_43)
            have hl : lv_has ls 9 [(0, .ref (gA G 0)), (1, .int (nI i)), (2, .ref (ca)), (3, .int (nI (cntE σ i (k + 1)))), (4, .int (nI 1)), (5, .int (nI (k + 1)))] := by
              have hl := lv_sub hl [6, 7, 8, 2, 1, 0] rfl
              rw [q_53]; exact hl
            exact ih_49 (k + 1) (by first | omega | exact Nat.zero_le _) (by omega) _ _ Z ls (hl)
        · skip
          refine lv_iconst (v := nI 0) S.1 S.2.1 dL_isCopy_112 (by decide) ?_
          refine lv_goto (tgt := 117) S.1 S.2.1 dL_isCopy_113 (by decide) ?_
          refine r_addN S dL_isCopy_117 ?_
          refine lv_istore_n (lv' := [(3, .int (nI ((cntE σ i k) + 0))), (8, .int (gB σ i (k / 4) (k % 4))), (7, .int (visV σ i (k / 4) (k % 4) (cV σ 4))), (6, .int ((sE σ i k).1)), (0, .ref (gA G 0)), (1, .int (nI i)), (2, .ref (ca)), (4, .int (nI 1)), (5, .int (nI k))]) S.1 S.2.1 dL_isCopy_118 rfl hl (by decide) rfl (fun ls hl => ?_)
          refine lv_iload S.1 S.2.1 dL_isCopy_119 (lv_at hl 3 rfl) ?_
          refine lv_iconst (v := -1) S.1 S.2.1 dL_isCopy_121 (by decide) ?_
          refine lv_icmp_lt (tgt := 177) S.1 S.2.1 dL_isCopy_122 (by decide) (fun c_54 => absurd c_54 (by exact i_nlt.mpr (stP_ge es))) (fun c_54 => ?_)
          refine lv_iload S.1 S.2.1 dL_isCopy_125 (lv_at hl 3 rfl) ?_
          refine lv_sipush (v := nI 999) S.1 S.2.1 dL_isCopy_127 (by decide) ?_
          refine lv_icmp_gt (tgt := 177) S.1 S.2.1 dL_isCopy_130 (by decide) (fun c_55 => absurd c_55 (by exact i_nlt.mpr (stP_le es))) (fun c_55 => ?_)
          refine lv_iload S.1 S.2.1 dL_isCopy_133 (lv_at hl 1 rfl) ?_
          refine lv_iconst (v := -1) S.1 S.2.1 dL_isCopy_135 (by decide) ?_
          refine lv_icmp_lt (tgt := 177) S.1 S.2.1 dL_isCopy_136 (by decide) (fun c_56 => absurd c_56 (by exact i_nlt.mpr (stP_ge eb))) (fun c_56 => ?_)
          refine lv_iload S.1 S.2.1 dL_isCopy_139 (lv_at hl 1 rfl) ?_
          refine lv_sipush (v := nI 999) S.1 S.2.1 dL_isCopy_141 (by decide) ?_
          refine lv_icmp_gt (tgt := 177) S.1 S.2.1 dL_isCopy_144 (by decide) (fun c_57 => absurd c_57 (by exact i_nlt.mpr (stP_le eb))) (fun c_57 => ?_)
          refine lv_iload S.1 S.2.1 dL_isCopy_147 (lv_at hl 2 rfl) ?_
          refine lv_iconst (v := -1) S.1 S.2.1 dL_isCopy_149 (by decide) ?_
          refine lv_icmp_lt (tgt := 177) S.1 S.2.1 dL_isCopy_150 (by decide) (fun c_58 => absurd c_58 (by exact i_nlt.mpr (vis_lo ev))) (fun c_58 => ?_)
          refine lv_iload S.1 S.2.1 dL_isCopy_153 (lv_at hl 2 rfl) ?_
          refine lv_sipush (v := nI 999) S.1 S.2.1 dL_isCopy_155 (by decide) ?_
          refine lv_icmp_gt (tgt := 177) S.1 S.2.1 dL_isCopy_158 (by decide) (fun c_59 => absurd c_59 (by exact i_nlt.mpr (vis_hi ev))) (fun c_59 => ?_)
          refine lv_iload S.1 S.2.1 dL_isCopy_161 (lv_at hl 2 rfl) ?_
          refine lv_if_lt (tgt := 173) S.1 S.2.1 dL_isCopy_163 (by decide) (fun c_60 => ?_) (fun c_60 => ?_)
          · skip
            refine lv_iconst (v := nI 1) S.1 S.2.1 dL_isCopy_173 (by decide) ?_
            refine lv_goto (tgt := 178) S.1 S.2.1 dL_isCopy_174 (by decide) ?_
            refine lv_istore (lv' := [(4, .int (nI 1)), (3, .int (nI ((cntE σ i k) + 0))), (8, .int (gB σ i (k / 4) (k % 4))), (7, .int (visV σ i (k / 4) (k % 4) (cV σ 4))), (6, .int ((sE σ i k).1)), (0, .ref (gA G 0)), (1, .int (nI i)), (2, .ref (ca)), (5, .int (nI k))]) S.1 S.2.1 dL_isCopy_178 hl (by decide) rfl (fun ls hl => ?_)
            refine lv_iinc (v := nI (k + 1)) (lv' := [(5, .int (nI (k + 1))), (4, .int (nI 1)), (3, .int (nI ((cntE σ i k) + 0))), (8, .int (gB σ i (k / 4) (k % 4))), (7, .int (visV σ i (k / 4) (k % 4) (cV σ 4))), (6, .int ((sE σ i k).1)), (0, .ref (gA G 0)), (1, .int (nI i)), (2, .ref (ca))]) S.1 S.2.1 dL_isCopy_180 hl (k := 8) rfl (nI_inc rfl) (by decide) rfl (fun ls hl => ?_)
            refine lv_goto (tgt := 49) S.1 S.2.1 dL_isCopy_183 (by decide) ?_
            have q_61 : (nI (cntE σ i (k + 1)) : Int32) = nI ((cntE σ i k) + 0) := by exact congrArg nI (cntE_n es c_43)
            have hl : lv_has ls 9 [(0, .ref (gA G 0)), (1, .int (nI i)), (2, .ref (ca)), (3, .int (nI (cntE σ i (k + 1)))), (4, .int (nI 1)), (5, .int (nI (k + 1)))] := by
              have hl := lv_sub hl [6, 7, 8, 2, 1, 0] rfl
              rw [q_61]; exact hl
            exact ih_49 (k + 1) (by first | omega | exact Nat.zero_le _) (by omega) _ _ Z ls (hl)
          · skip
            refine lv_iload S.1 S.2.1 dL_isCopy_166 (lv_at hl 3 rfl) ?_
            refine lv_iload S.1 S.2.1 dL_isCopy_168 (lv_at hl 1 rfl) ?_
            refine lv_icmp_le (tgt := 177) S.1 S.2.1 dL_isCopy_170 (by decide) (fun c_62 => absurd c_62 (by exact vis_gt ev c_60)) (fun c_62 => ?_)
            refine lv_iconst (v := nI 1) S.1 S.2.1 dL_isCopy_173 (by decide) ?_
            refine lv_goto (tgt := 178) S.1 S.2.1 dL_isCopy_174 (by decide) ?_
            refine lv_istore (lv' := [(4, .int (nI 1)), (3, .int (nI ((cntE σ i k) + 0))), (8, .int (gB σ i (k / 4) (k % 4))), (7, .int (visV σ i (k / 4) (k % 4) (cV σ 4))), (6, .int ((sE σ i k).1)), (0, .ref (gA G 0)), (1, .int (nI i)), (2, .ref (ca)), (5, .int (nI k))]) S.1 S.2.1 dL_isCopy_178 hl (by decide) rfl (fun ls hl => ?_)
            refine lv_iinc (v := nI (k + 1)) (lv' := [(5, .int (nI (k + 1))), (4, .int (nI 1)), (3, .int (nI ((cntE σ i k) + 0))), (8, .int (gB σ i (k / 4) (k % 4))), (7, .int (visV σ i (k / 4) (k % 4) (cV σ 4))), (6, .int ((sE σ i k).1)), (0, .ref (gA G 0)), (1, .int (nI i)), (2, .ref (ca))]) S.1 S.2.1 dL_isCopy_180 hl (k := 8) rfl (nI_inc rfl) (by decide) rfl (fun ls hl => ?_)
            refine lv_goto (tgt := 49) S.1 S.2.1 dL_isCopy_183 (by decide) ?_
            have q_63 : (nI (cntE σ i (k + 1)) : Int32) = nI ((cntE σ i k) + 0) := by exact congrArg nI (cntE_n es c_43)
            have hl : lv_has ls 9 [(0, .ref (gA G 0)), (1, .int (nI i)), (2, .ref (ca)), (3, .int (nI (cntE σ i (k + 1)))), (4, .int (nI 1)), (5, .int (nI (k + 1)))] := by
              have hl := lv_sub hl [6, 7, 8, 2, 1, 0] rfl
              rw [q_63]; exact hl
            exact ih_49 (k + 1) (by first | omega | exact Nat.zero_le _) (by omega) _ _ Z ls (hl)
  refine lv_iconst (v := nI 0) S.1 S.2.1 dL_isCopy_0 (by decide) ?_
  refine lv_istore_n (lv' := [(3, .int (nI 0)), (0, .ref (gA G 0)), (1, .int (nI i)), (2, .ref (ca))]) S.1 S.2.1 dL_isCopy_1 rfl hl (by decide) rfl (fun ls hl => ?_)
  refine lv_aload_n S.1 S.2.1 dL_isCopy_2 rfl (lv_at hl 1 rfl) ?_
  refine lv_iload_n S.1 S.2.1 dL_isCopy_3 rfl (lv_at hl 2 rfl) ?_
  refine vp_callSi (va_runV (As := [.int (nI i)]) (rest := []) S (kr_isUp l G σ ((ca, cA G m) :: w) o σ i Sm_rf (by omega)) (cwV 1 S.2.2.2.2 gL_isCopy_X7_isUp rfl rfl rfl ⟨rfl, hy_X7_isUp⟩ ⟨Nat.le_of_ble_eq_true rfl, Nat.le_of_ble_eq_true rfl⟩) (wPc_V (q := (RX7, TX7, 7)) Z (by decide) rfl rfl) rfl rfl hl.1 rfl (lv_room (Nat.le_of_ble_eq_true rfl)) dL_isCopy_4 ⟨Nat.le_of_ble_eq_true rfl, Nat.le_of_ble_eq_true rfl⟩).run (fun r_64 h_65 => ?_)
  rw [h_65]; clear h_65 r_64
  refine lv_aload_n S.1 S.2.1 dL_isCopy_7 rfl (lv_at hl 3 rfl) ?_
  refine lv_iconst (v := nI 5) S.1 S.2.1 dL_isCopy_8 (by decide) ?_
  refine r_ldc S Z (by omega) dL_isCopy_9 ?_
  refine lv_iload_n S.1 S.2.1 dL_isCopy_10 rfl (lv_at hl 2 rfl) ?_
  refine lv_ishr S.1 S.2.1 dL_isCopy_11 ?_
  refine lv_iconst (v := nI 1) S.1 S.2.1 dL_isCopy_12 (by decide) ?_
  refine lv_iand S.1 S.2.1 dL_isCopy_13 ?_
  rw [bitB_sh (x := nI (m 5)) (r := i) (by omega)]
  refine lv_iconst (v := nI 1) S.1 S.2.1 dL_isCopy_14 (by decide) ?_
  refine r_b1_ne S (tgt := 22) dL_isCopy_15 (by decide) (fun c_66 => ?_) (fun c_66 => ?_)
  · skip
    refine lv_iconst (v := nI 0) S.1 S.2.1 dL_isCopy_22 (by decide) ?_
    refine lv_icmp_ne (tgt := 43) S.1 S.2.1 dL_isCopy_23 (by decide) (fun c_67 => absurd c_67 (by exact not_not_intro (by rw [← hb5, c_66]; rfl))) (fun c_67 => ?_)
    refine lv_aload_n S.1 S.2.1 dL_isCopy_26 rfl (lv_at hl 1 rfl) ?_
    refine lv_iload_n S.1 S.2.1 dL_isCopy_27 rfl (lv_at hl 2 rfl) ?_
    refine vp_callSi (va_runV (As := [.int (nI i)]) (rest := []) S (kr_hints l G σ ((ca, cA G m) :: w) o σ i Sm_rf (by omega)) (cwV 1 S.2.2.2.2 gL_isCopy_X7_hints rfl rfl rfl ⟨rfl, hy_X7_hints⟩ ⟨Nat.le_of_ble_eq_true rfl, Nat.le_of_ble_eq_true rfl⟩) (wPc_V (q := (RX7, TX7, 7)) Z (by decide) rfl rfl) rfl rfl hl.1 rfl (lv_room (Nat.le_of_ble_eq_true rfl)) dL_isCopy_28 ⟨Nat.le_of_ble_eq_true rfl, Nat.le_of_ble_eq_true rfl⟩).run (fun r_68 h_69 => ?_)
    rw [h_69]; clear h_69 r_68
    refine lv_aload_n S.1 S.2.1 dL_isCopy_31 rfl (lv_at hl 3 rfl) ?_
    refine lv_iconst (v := nI 2) S.1 S.2.1 dL_isCopy_32 (by decide) ?_
    refine lv_iload_n S.1 S.2.1 dL_isCopy_33 rfl (lv_at hl 2 rfl) ?_
    refine r_addN S dL_isCopy_34 ?_
    refine r_ldc S Z (by omega) dL_isCopy_35 ?_
    refine r_icmpN_ne S (tgt := 43) (by omega) (by omega) dL_isCopy_36 (by decide) (fun c_70 => absurd c_70 (by omega)) (fun c_70 => ?_)
    refine lv_iconst (v := nI 1) S.1 S.2.1 dL_isCopy_39 (by decide) ?_
    refine lv_goto (tgt := 44) S.1 S.2.1 dL_isCopy_40 (by decide) ?_
    refine lv_istore (lv' := [(4, .int (nI 1)), (3, .int (nI 0)), (0, .ref (gA G 0)), (1, .int (nI i)), (2, .ref (ca))]) S.1 S.2.1 dL_isCopy_44 hl (by decide) rfl (fun ls hl => ?_)
    refine lv_iconst (v := nI 0) S.1 S.2.1 dL_isCopy_46 (by decide) ?_
    refine lv_istore (lv' := [(5, .int (nI 0)), (4, .int (nI 1)), (3, .int (nI 0)), (0, .ref (gA G 0)), (1, .int (nI i)), (2, .ref (ca))]) S.1 S.2.1 dL_isCopy_47 hl (by decide) rfl (fun ls hl => ?_)
    have q_71 : (nI (cntE σ i 0) : Int32) = nI 0 := by rfl
    have hl : lv_has ls 9 [(0, .ref (gA G 0)), (1, .int (nI i)), (2, .ref (ca)), (3, .int (nI (cntE σ i 0))), (4, .int (nI 1)), (5, .int (nI 0))] := by
      have hl := lv_sub hl [3, 4, 5, 2, 1, 0] rfl
      rw [q_71]; exact hl
    exact L_49 (64 - 0 + 1) 0 (by first | omega | exact Nat.zero_le _) (Nat.lt_succ_self _) _ _ Z ls (hl)
  · skip
    refine lv_iconst (v := nI 1) S.1 S.2.1 dL_isCopy_18 (by decide) ?_
    refine lv_goto (tgt := 23) S.1 S.2.1 dL_isCopy_19 (by decide) ?_
    refine r_b1_ne S (tgt := 43) dL_isCopy_23 (by decide) (fun c_72 => absurd c_72 (by rw [← hb5, c_66]; decide)) (fun c_72 => ?_)
    refine lv_aload_n S.1 S.2.1 dL_isCopy_26 rfl (lv_at hl 1 rfl) ?_
    refine lv_iload_n S.1 S.2.1 dL_isCopy_27 rfl (lv_at hl 2 rfl) ?_
    refine vp_callSi (va_runV (As := [.int (nI i)]) (rest := []) S (kr_hints l G σ ((ca, cA G m) :: w) o σ i Sm_rf (by omega)) (cwV 1 S.2.2.2.2 gL_isCopy_X7_hints rfl rfl rfl ⟨rfl, hy_X7_hints⟩ ⟨Nat.le_of_ble_eq_true rfl, Nat.le_of_ble_eq_true rfl⟩) (wPc_V (q := (RX7, TX7, 7)) Z (by decide) rfl rfl) rfl rfl hl.1 rfl (lv_room (Nat.le_of_ble_eq_true rfl)) dL_isCopy_28 ⟨Nat.le_of_ble_eq_true rfl, Nat.le_of_ble_eq_true rfl⟩).run (fun r_73 h_74 => ?_)
    rw [h_74]; clear h_74 r_73
    refine lv_aload_n S.1 S.2.1 dL_isCopy_31 rfl (lv_at hl 3 rfl) ?_
    refine lv_iconst (v := nI 2) S.1 S.2.1 dL_isCopy_32 (by decide) ?_
    refine lv_iload_n S.1 S.2.1 dL_isCopy_33 rfl (lv_at hl 2 rfl) ?_
    refine r_addN S dL_isCopy_34 ?_
    refine r_ldc S Z (by omega) dL_isCopy_35 ?_
    refine r_icmpN_ne S (tgt := 43) (by omega) (by omega) dL_isCopy_36 (by decide) (fun c_75 => absurd c_75 (by omega)) (fun c_75 => ?_)
    refine lv_iconst (v := nI 1) S.1 S.2.1 dL_isCopy_39 (by decide) ?_
    refine lv_goto (tgt := 44) S.1 S.2.1 dL_isCopy_40 (by decide) ?_
    refine lv_istore (lv' := [(4, .int (nI 1)), (3, .int (nI 0)), (0, .ref (gA G 0)), (1, .int (nI i)), (2, .ref (ca))]) S.1 S.2.1 dL_isCopy_44 hl (by decide) rfl (fun ls hl => ?_)
    refine lv_iconst (v := nI 0) S.1 S.2.1 dL_isCopy_46 (by decide) ?_
    refine lv_istore (lv' := [(5, .int (nI 0)), (4, .int (nI 1)), (3, .int (nI 0)), (0, .ref (gA G 0)), (1, .int (nI i)), (2, .ref (ca))]) S.1 S.2.1 dL_isCopy_47 hl (by decide) rfl (fun ls hl => ?_)
    have q_76 : (nI (cntE σ i 0) : Int32) = nI 0 := by rfl
    have hl : lv_has ls 9 [(0, .ref (gA G 0)), (1, .int (nI i)), (2, .ref (ca)), (3, .int (nI (cntE σ i 0))), (4, .int (nI 1)), (5, .int (nI 0))] := by
      have hl := lv_sub hl [3, 4, 5, 2, 1, 0] rfl
      rw [q_76]; exact hl
    exact L_49 (64 - 0 + 1) 0 (by first | omega | exact Nat.zero_le _) (Nat.lt_succ_self _) _ _ Z ls (hl)
