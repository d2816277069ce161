abbrev rm_k_L_reads : Room := { frames := 6, cells := 0, slots := 0, locals := 144 }
set_option maxHeartbeats 4000000 in
set_option maxRecDepth 100000 in
theorem k_L_reads (l : Launch) (G : wG) (σ : cS) (ca : Nat) (m : Nat → Nat) (o : Nat → Int64) (x : Nat) (y : Nat) (hx : x < 2 ^ 30) (hy : y < 2 ^ 30) (hLI : LI G σ m) (hm0 : m 0 ≤ 10000) (hm6 : m 6 ≤ 1000000) : Met l yL_reads wsL_reads rm_k_L_reads (wPc G σ ((ca, cA G m) :: []) o [.ref (gA G 0), .int (nI x), .int (nI y), .ref (ca)]) (va_Qi (fun (rr : Int32) (u : cS × mS) => rr = nI 1 ∧ SQ G ca m u) (fun u t => wI G u.1 u.2 o t) (gP G)) 0 0 (gP G) := by
  refine Met.ofW (cc := cL_reads) (maxL := 15) (ret := (some .boolean)) (by decide) rfl ?_
  intro p e s m9 args below meth c s₁ B hml hv
  obtain ⟨hargs, hI⟩ := hv
  have S : CallFix p m9 c cL_reads 15 s args wsL_reads RL := ⟨B.exec, B.bytes, hml, findClass_of_methodNamed B.named, atoms_spec (ws := wsL_reads) B.pre⟩
  have hret := B.returns
  have hlocks := B.notSynchronized
  have Z := wZ_0 hI
  clear hI
  obtain ⟨Q, hQ⟩ : ∃ Q, Q = MQ below (va_Qi (fun (rr : Int32) (u : cS × mS) => rr = nI 1 ∧ SQ G ca m u) (fun u t => wI G u.1 u.2 o t) (gP G)) args s 0 0 (gP G) := ⟨_, rfl⟩
  rw [← hQ]
  have hl := lv_entry [.ref (gA G 0), .int (nI x), .int (nI y), .ref (ca)] (n := 15) (Nat.le_of_ble_eq_true rfl)
  rw [show entryFrame m9 args 15 = entryFrame m9 ([.ref (gA G 0), .int (nI x), .int (nI y), .ref (ca)] : List Value).toArray 15 from by rw [hargs], lg_entry_eq]
  generalize (lg_sl [.ref (gA G 0), .int (nI x), .int (nI y), .ref (ca)] ++ List.replicate (15 - (lg_sl [.ref (gA G 0), .int (nI x), .int (nI y), .ref (ca)]).length) Slot.unset).toArray = ls at hl ⊢
  have hl : lv_has ls 15 [(0, .ref (gA G 0)), (1, .int (nI x)), (2, .int (nI y)), (3, .ref (ca))] := hl
  have hLI0 := hLI
  obtain ⟨L, nn, hK, h0, h1, h1b, h2, h5, h5b, h7, h7b, h8, h8b⟩ := hLI
  refine lv_iload_n S.1 S.2.1 dL_reads_0 rfl (lv_at hl 1 rfl) ?_
  refine lv_iconst (v := nI 3) S.1 S.2.1 dL_reads_1 (by decide) ?_
  refine r_remN S (by omega) (by decide) (by decide) dL_reads_2 ?_
  refine lv_istore (lv' := [(4, .int (nI (x % 3))), (0, .ref (gA G 0)), (1, .int (nI x)), (2, .int (nI y)), (3, .ref (ca))]) S.1 S.2.1 dL_reads_3 hl (by decide) rfl (fun ls hl => ?_)
  refine lv_iload S.1 S.2.1 dL_reads_5 (lv_at hl 0 rfl) ?_
  refine lv_iconst (v := nI 1) S.1 S.2.1 dL_reads_7 (by decide) ?_
  refine r_addN S dL_reads_8 ?_
  refine lv_iload_n S.1 S.2.1 dL_reads_9 rfl (lv_at hl 3 rfl) ?_
  refine lv_iconst (v := nI 2) S.1 S.2.1 dL_reads_10 (by decide) ?_
  refine r_remN S (by omega) (by decide) (by decide) dL_reads_11 ?_
  refine r_addN S dL_reads_12 ?_
  refine lv_iconst (v := nI 3) S.1 S.2.1 dL_reads_13 (by decide) ?_
  refine r_remN S (by omega) (by decide) (by decide) dL_reads_14 ?_
  refine lv_istore (lv' := [(5, .int (nI ((((x % 3) + 1) + (y % 2)) % 3))), (4, .int (nI (x % 3))), (0, .ref (gA G 0)), (1, .int (nI x)), (2, .int (nI y)), (3, .ref (ca))]) S.1 S.2.1 dL_reads_15 hl (by decide) rfl (fun ls hl => ?_)
  have L_17 : ∀ (i : Nat) (j : Nat) (hi : i < 3) (hj : j < 3) (hij : i ≠ j) (H : Heap) (locs : List Loc) (Z : wZ G (σ) ((ca, cA G m) :: []) o s H locs) (ls : Array Slot) (hl : lv_has ls 15 [(0, .ref (gA G 0)), (1, .int (nI x)), (2, .int (nI y)), (3, .ref (ca)), (4, .int (nI i)), (5, .int (nI j))]), W p l e (headSpec wsL_reads rm_k_L_reads).room s m9 args below meth c H locs 0 0 Q (F0 m9 17 ls []) := by
    intro i j hi hj hij H locs Z ls hl
    refine lv_aload_n S.1 S.2.1 dL_reads_17 rfl (lv_at hl 3 rfl) ?_
    refine lv_iconst (v := nI 5) S.1 S.2.1 dL_reads_18 (by decide) ?_
    refine r_ldc S Z (by omega) dL_reads_19 ?_
    refine lv_iload S.1 S.2.1 dL_reads_20 (lv_at hl 4 rfl) ?_
    refine lv_ishr S.1 S.2.1 dL_reads_22 ?_
    refine lv_iconst (v := nI 1) S.1 S.2.1 dL_reads_23 (by decide) ?_
    refine lv_iand S.1 S.2.1 dL_reads_24 ?_
    rw [bitB_sh (x := nI (m 5)) (r := i) (by omega)]
    refine lv_aload_n S.1 S.2.1 dL_reads_25 rfl (lv_at hl 3 rfl) ?_
    refine lv_iconst (v := nI 5) S.1 S.2.1 dL_reads_26 (by decide) ?_
    refine r_ldc S Z (by omega) dL_reads_27 ?_
    refine lv_iload S.1 S.2.1 dL_reads_28 (lv_at hl 5 rfl) ?_
    refine lv_ishr S.1 S.2.1 dL_reads_30 ?_
    refine lv_iconst (v := nI 1) S.1 S.2.1 dL_reads_31 (by decide) ?_
    refine lv_iand S.1 S.2.1 dL_reads_32 ?_
    rw [bitB_sh (x := nI (m 5)) (r := j) (by omega)]
    refine lv_iadd S.1 S.2.1 dL_reads_33 ?_
    refine lv_iconst (v := nI 2) S.1 S.2.1 dL_reads_34 (by decide) ?_
    refine lv_icmp_ge (tgt := 40) S.1 S.2.1 dL_reads_35 (by decide) (fun c_1 => ?_) (fun c_1 => ?_)
    · skip
      have hub := (bi2 (a := bitB (nI (m 5)) i) (b := bitB (nI (m 5)) j)).resolve_left (by first | exact c_1 | exact i_nlt.mpr c_1)
      have hui : cU σ i = true := by rw [← h5b i hi, ← tb_bitB (by omega)]; exact hub.1
      have huj : cU σ j = true := by rw [← h5b j hj, ← tb_bitB (by omega)]; exact hub.2
      refine lv_iload_n S.1 S.2.1 dL_reads_40 rfl (lv_at hl 1 rfl) ?_
      refine lv_iconst (v := nI 3) S.1 S.2.1 dL_reads_41 (by decide) ?_
      refine r_divN S (by omega) (by decide) (by decide) dL_reads_42 ?_
      refine lv_iconst (v := nI 3) S.1 S.2.1 dL_reads_43 (by decide) ?_
      refine r_remN S (by omega) (by decide) (by decide) dL_reads_44 ?_
      refine r_if_neN S (tgt := 315) (by omega) dL_reads_45 (by decide) (fun c_2 => ?_) (fun c_2 => ?_)
      · skip
        have L_315 : ∀   (H : Heap) (locs : List Loc) (Z : wZ G (σ) ((ca, cA G m) :: []) o s H locs) (ls : Array Slot) (hl : lv_has ls 15 [(0, .ref (gA G 0)), (1, .int (nI x)), (2, .int (nI y)), (3, .ref (ca)), (4, .int (nI i)), (5, .int (nI j))]), W p l e (headSpec wsL_reads rm_k_L_reads).room s m9 args below meth c H locs 0 0 Q (F0 m9 315 ls []) := by
          intro   H locs Z ls hl
          refine lv_iload_n S.1 S.2.1 dL_reads_315 rfl (lv_at hl 2 rfl) ?_
          refine lv_iconst (v := nI 2) S.1 S.2.1 dL_reads_316 (by decide) ?_
          refine r_divN S (by omega) (by decide) (by decide) dL_reads_317 ?_
          refine lv_bipush (v := nI 16) S.1 S.2.1 dL_reads_318 (by decide) ?_
          refine r_remN S (by omega) (by decide) (by decide) dL_reads_320 ?_
          refine lv_istore (lv' := [(6, .int (nI ((y / 2) % 16))), (0, .ref (gA G 0)), (1, .int (nI x)), (2, .int (nI y)), (3, .ref (ca)), (4, .int (nI i)), (5, .int (nI j))]) S.1 S.2.1 dL_reads_321 hl (by decide) rfl (fun ls hl => ?_)
          refine lv_iload_n S.1 S.2.1 dL_reads_323 rfl (lv_at hl 3 rfl) ?_
          refine lv_bipush (v := nI 32) S.1 S.2.1 dL_reads_324 (by decide) ?_
          refine r_divN S (by omega) (by decide) (by decide) dL_reads_326 ?_
          refine lv_iconst (v := nI 4) S.1 S.2.1 dL_reads_327 (by decide) ?_
          refine r_remN S (by omega) (by decide) (by decide) dL_reads_328 ?_
          refine lv_istore (lv' := [(7, .int (nI ((y / 32) % 4))), (6, .int (nI ((y / 2) % 16))), (0, .ref (gA G 0)), (1, .int (nI x)), (2, .int (nI y)), (3, .ref (ca)), (4, .int (nI i)), (5, .int (nI j))]) S.1 S.2.1 dL_reads_329 hl (by decide) rfl (fun ls hl => ?_)
          have L_331 : ∀ (row : Nat) (col : Nat) (hrow : row < 16) (hcol : col < 4) (H : Heap) (locs : List Loc) (Z : wZ G (σ) ((ca, cA G m) :: []) o s H locs) (ls : Array Slot) (hl : lv_has ls 15 [(0, .ref (gA G 0)), (1, .int (nI x)), (2, .int (nI y)), (3, .ref (ca)), (4, .int (nI i)), (5, .int (nI j)), (6, .int (nI row)), (7, .int (nI col))]), W p l e (headSpec wsL_reads rm_k_L_reads).room s m9 args below meth c H locs 0 0 Q (F0 m9 331 ls []) := by
            intro row col hrow hcol H locs Z ls hl
            refine lv_aload_n S.1 S.2.1 dL_reads_331 rfl (lv_at hl 0 rfl) ?_
            refine lv_iload S.1 S.2.1 dL_reads_332 (lv_at hl 4 rfl) ?_
            refine lv_iload S.1 S.2.1 dL_reads_334 (lv_at hl 6 rfl) ?_
            refine lv_iload S.1 S.2.1 dL_reads_336 (lv_at hl 7 rfl) ?_
            refine vp_callSi (va_runV (As := [.int (nI i), .int (nI row), .int (nI col)]) (rest := []) S (kr_stampAt l G σ ((ca, cA G m) :: []) o σ i row col Sm_rf (by omega) (by omega) (by omega)) (cwV 3 S.2.2.2.2 gL_reads_X7_stampAt rfl rfl rfl ⟨rfl, hy_X7_stampAt⟩ ⟨Nat.le_of_ble_eq_true rfl, Nat.le_of_ble_eq_true rfl⟩) (wPc_V (q := (RX7, TX7, 7)) Z (by decide) rfl rfl) rfl rfl hl.1 rfl (lv_room (Nat.le_of_ble_eq_true rfl)) dL_reads_338 ⟨Nat.le_of_ble_eq_true rfl, Nat.le_of_ble_eq_true rfl⟩).run (fun r_3 h_4 => ?_)
            rw [h_4]; clear h_4 r_3
            refine lv_aload_n S.1 S.2.1 dL_reads_341 rfl (lv_at hl 0 rfl) ?_
            refine lv_iload S.1 S.2.1 dL_reads_342 (lv_at hl 5 rfl) ?_
            refine lv_iload S.1 S.2.1 dL_reads_344 (lv_at hl 6 rfl) ?_
            refine lv_iload S.1 S.2.1 dL_reads_346 (lv_at hl 7 rfl) ?_
            refine vp_callSi (va_runV (As := [.int (nI j), .int (nI row), .int (nI col)]) (rest := [.int ((sE σ i (row * 4 + col)).1)]) S (kr_stampAt l G σ ((ca, cA G m) :: []) o σ j row col Sm_rf (by omega) (by omega) (by omega)) (cwV 3 S.2.2.2.2 gL_reads_X7_stampAt rfl rfl rfl ⟨rfl, hy_X7_stampAt⟩ ⟨Nat.le_of_ble_eq_true rfl, Nat.le_of_ble_eq_true rfl⟩) (wPc_V (q := (RX7, TX7, 7)) Z (by decide) rfl rfl) rfl rfl hl.1 rfl (lv_room (Nat.le_of_ble_eq_true rfl)) dL_reads_348 ⟨Nat.le_of_ble_eq_true rfl, Nat.le_of_ble_eq_true rfl⟩).run (fun r_5 h_6 => ?_)
            rw [h_6]; clear h_6 r_5
            have L_377 : ∀ (sv : Int32) (hsv : sv = mx (sE σ i (row * 4 + col)).1 (sE σ j (row * 4 + col)).1) (H : Heap) (locs : List Loc) (Z : wZ G (σ) ((ca, cA G m) :: []) o s H locs) (ls : Array Slot) (hl : lv_has ls 15 [(0, .ref (gA G 0)), (1, .int (nI x)), (2, .int (nI y)), (3, .ref (ca)), (4, .int (nI i)), (5, .int (nI j)), (6, .int (nI row)), (7, .int (nI col))]), W p l e (headSpec wsL_reads rm_k_L_reads).room s m9 args below meth c H locs 0 0 Q (F0 m9 377 ls [.int (sv)]) := by
              intro sv hsv H locs Z ls hl
              refine lv_istore (lv' := [(8, .int (sv)), (0, .ref (gA G 0)), (1, .int (nI x)), (2, .int (nI y)), (3, .ref (ca)), (4, .int (nI i)), (5, .int (nI j)), (6, .int (nI row)), (7, .int (nI col))]) S.1 S.2.1 dL_reads_377 hl (by decide) rfl (fun ls hl => ?_)
              refine lv_aload_n S.1 S.2.1 dL_reads_379 rfl (lv_at hl 1 rfl) ?_
              refine lv_iload S.1 S.2.1 dL_reads_380 (lv_at hl 5 rfl) ?_
              refine lv_iload S.1 S.2.1 dL_reads_382 (lv_at hl 7 rfl) ?_
              refine lv_iload S.1 S.2.1 dL_reads_384 (lv_at hl 8 rfl) ?_
              refine vp_callSi (va_runV (As := [.int (nI i), .int (nI row), .int (nI col)]) (rest := []) S (kr_buriedBy l G σ ((ca, cA G m) :: []) o σ i row col Sm_rf (by omega) (by omega) (by omega)) (cwV 3 S.2.2.2.2 gL_reads_X7_buriedBy rfl rfl rfl ⟨rfl, hy_X7_buriedBy⟩ ⟨Nat.le_of_ble_eq_true rfl, Nat.le_of_ble_eq_true rfl⟩) (wPc_V (q := (RX7, TX7, 7)) Z (by decide) rfl rfl) rfl rfl hl.1 rfl (lv_room (Nat.le_of_ble_eq_true rfl)) dL_reads_386 ⟨Nat.le_of_ble_eq_true rfl, Nat.le_of_ble_eq_true rfl⟩).run (fun r_7 h_8 => ?_)
              rw [h_8]; clear h_8 r_7
              refine lv_aload_n S.1 S.2.1 dL_reads_389 rfl (lv_at hl 1 rfl) ?_
              refine lv_iload S.1 S.2.1 dL_reads_390 (lv_at hl 6 rfl) ?_
              refine lv_iload S.1 S.2.1 dL_reads_392 (lv_at hl 7 rfl) ?_
              refine lv_iload S.1 S.2.1 dL_reads_394 (lv_at hl 8 rfl) ?_
              refine vp_callSi (va_runV (As := [.int (nI j), .int (nI row), .int (nI col)]) (rest := [.int (gB σ i row col)]) S (kr_buriedBy l G σ ((ca, cA G m) :: []) o σ j row col Sm_rf (by omega) (by omega) (by omega)) (cwV 3 S.2.2.2.2 gL_reads_X7_buriedBy rfl rfl rfl ⟨rfl, hy_X7_buriedBy⟩ ⟨Nat.le_of_ble_eq_true rfl, Nat.le_of_ble_eq_true rfl⟩) (wPc_V (q := (RX7, TX7, 7)) Z (by decide) rfl rfl) rfl rfl hl.1 rfl (lv_room (Nat.le_of_ble_eq_true rfl)) dL_reads_396 ⟨Nat.le_of_ble_eq_true rfl, Nat.le_of_ble_eq_true rfl⟩).run (fun r_9 h_10 => ?_)
              rw [h_10]; clear h_10 r_9
              have L_425 : ∀ (bv : Int32) (hbv : bv = mx (gB σ i row col) (gB σ j row col)) (H : Heap) (locs : List Loc) (Z : wZ G (σ) ((ca, cA G m) :: []) o s H locs) (ls : Array Slot) (hl : lv_has ls 15 [(0, .ref (gA G 0)), (1, .int (nI x)), (2, .int (nI y)), (3, .ref (ca)), (4, .int (nI i)), (5, .int (nI j)), (6, .int (nI row)), (7, .int (nI col)), (8, .int (sv))]), W p l e (headSpec wsL_reads rm_k_L_reads).room s m9 args below meth c H locs 0 0 Q (F0 m9 425 ls [.int (bv)]) := by
                intro bv hbv H locs Z ls hl
                refine lv_istore (lv' := [(9, .int (bv)), (0, .ref (gA G 0)), (1, .int (nI x)), (2, .int (nI y)), (3, .ref (ca)), (4, .int (nI i)), (5, .int (nI j)), (6, .int (nI row)), (7, .int (nI col)), (8, .int (sv))]) S.1 S.2.1 dL_reads_425 hl (by decide) rfl (fun ls hl => ?_)
                refine lv_aload_n S.1 S.2.1 dL_reads_427 rfl (lv_at hl 1 rfl) ?_
                refine vp_callSi (va_runV (As := []) (rest := []) S (kr_repairs l G σ ((ca, cA G m) :: []) o σ Sm_rf) (cwV 0 S.2.2.2.2 gL_reads_X7_repairs rfl rfl rfl ⟨rfl, hy_X7_repairs⟩ ⟨Nat.le_of_ble_eq_true rfl, Nat.le_of_ble_eq_true rfl⟩) (wPc_V (q := (RX7, TX7, 7)) Z (by decide) rfl rfl) rfl rfl hl.1 rfl (lv_room (Nat.le_of_ble_eq_true rfl)) dL_reads_428 ⟨Nat.le_of_ble_eq_true rfl, Nat.le_of_ble_eq_true rfl⟩).run (fun r_11 h_12 => ?_)
                rw [h_12]; clear h_12 r_11
                refine lv_istore (lv' := [(10, .int (cV σ 6)), (9, .int (bv)), (0, .ref (gA G 0)), (1, .int (nI x)), (2, .int (nI y)), (3, .ref (ca)), (4, .int (nI i)), (5, .int (nI j)), (6, .int (nI row)), (7, .int (nI col)), (8, .int (sv))]) S.1 S.2.1 dL_reads_431 hl (by decide) rfl (fun ls hl => ?_)
                refine lv_aload_n S.1 S.2.1 dL_reads_433 rfl (lv_at hl 2 rfl) ?_
                refine lv_iload S.1 S.2.1 dL_reads_434 (lv_at hl 6 rfl) ?_
                refine lv_iload S.1 S.2.1 dL_reads_436 (lv_at hl 7 rfl) ?_
                refine vp_callSi (va_runV (As := [.int (nI i), .int (nI j)]) (rest := []) S (kr_areAlike l G σ ((ca, cA G m) :: []) o σ i j Sm_rf (by omega) (by omega)) (cwV 2 S.2.2.2.2 gL_reads_X7_areAlike rfl rfl rfl ⟨rfl, hy_X7_areAlike⟩ ⟨Nat.le_of_ble_eq_true rfl, Nat.le_of_ble_eq_true rfl⟩) (wPc_V (q := (RX7, TX7, 7)) Z (by decide) rfl rfl) rfl rfl hl.1 rfl (lv_room (Nat.le_of_ble_eq_true rfl)) dL_reads_438 ⟨Nat.le_of_ble_eq_true rfl, Nat.le_of_ble_eq_true rfl⟩).run (fun r_13 h_14 => ?_)
                rw [h_14]; clear h_14 r_13
                refine lv_istore (lv' := [(11, .int (bi (alk σ i j))), (10, .int (cV σ 6)), (9, .int (bv)), (0, .ref (gA G 0)), (1, .int (nI x)), (2, .int (nI y)), (3, .ref (ca)), (4, .int (nI i)), (5, .int (nI j)), (6, .int (nI row)), (7, .int (nI col)), (8, .int (sv))]) S.1 S.2.1 dL_reads_441 hl (by decide) rfl (fun ls hl => ?_)
                refine lv_aload_n S.1 S.2.1 dL_reads_443 rfl (lv_at hl 3 rfl) ?_
                refine lv_iload S.1 S.2.1 dL_reads_444 (lv_at hl 7 rfl) ?_
                refine lv_iload S.1 S.2.1 dL_reads_446 (lv_at hl 8 rfl) ?_
                refine lv_iload S.1 S.2.1 dL_reads_448 (lv_at hl 9 rfl) ?_
                refine lv_iload S.1 S.2.1 dL_reads_450 (lv_at hl 10 rfl) ?_
                refine va_calli (va_runV (As := [.int (nI i), .int (nI j), .int (nI row), .int (nI col)]) (rest := []) S (kr_read l G σ ((ca, cA G m) :: []) o i j row col L nn hi hj hrow hcol hij hui huj hK) (cwV 4 S.2.2.2.2 gL_reads_X7_read rfl rfl rfl ⟨rfl, hy_X7_read⟩ ⟨Nat.le_of_ble_eq_true rfl, Nat.le_of_ble_eq_true rfl⟩) (wPc_V (q := (RX7, TX7, 7)) Z (by decide) rfl rfl) rfl rfl hl.1 rfl (lv_room (Nat.le_of_ble_eq_true rfl)) dL_reads_452 ⟨Nat.le_of_ble_eq_true rfl, Nat.le_of_ble_eq_true rfl⟩) Z.2.2.2.2 (fun _ _ h => h) (fun _ h => h) (fun r_15 u_16 T9 H1 locs1 hT9 hvm hw hB hz hk9 hS => ?_)
                obtain ⟨τ_17, μ9⟩ := u_16
                obtain ⟨hr9, hm9, hR⟩ := hw
                have hm9 : μ9 = (ca, cA G m) :: [] := hm9
                subst hm9
                have hR : RD G σ L nn i j row col τ_17 := hR
                rw [show r_15 = visV τ_17 i row col (cV τ_17 4) from hr9]; clear hr9 r_15
                obtain ⟨hKn, hJn, hUn, h4n, h5n, hEn, hTn, hsn, hbn, h6n⟩ := hR
                have Z : wZ G (τ_17) ((ca, cA G m) :: []) o s H1 locs1 := wZ_callP Z hB hT9 hS
                clear hB hT9 hS hk9 hz hvm T9
                revert Z; generalize H1 = H; generalize locs1 = locs; intro Z
                refine W.widen (k := 0) (n := 0) (by first | decide | omega) (by first | decide | omega) ?_
                refine lv_istore (lv' := [(12, .int (visV τ_17 i row col (cV τ_17 4))), (11, .int (bi (alk σ i j))), (10, .int (cV σ 6)), (9, .int (bv)), (0, .ref (gA G 0)), (1, .int (nI x)), (2, .int (nI y)), (3, .ref (ca)), (4, .int (nI i)), (5, .int (nI j)), (6, .int (nI row)), (7, .int (nI col)), (8, .int (sv))]) S.1 S.2.1 dL_reads_455 hl (by decide) rfl (fun ls hl => ?_)
                refine lv_aload_n S.1 S.2.1 dL_reads_457 rfl (lv_at hl 4 rfl) ?_
                refine vp_callSi (va_runV (As := []) (rest := []) S (kr_repairs l G τ_17 ((ca, cA G m) :: []) o τ_17 Sm_rf) (cwV 0 S.2.2.2.2 gL_reads_X7_repairs rfl rfl rfl ⟨rfl, hy_X7_repairs⟩ ⟨Nat.le_of_ble_eq_true rfl, Nat.le_of_ble_eq_true rfl⟩) (wPc_V (q := (RX7, TX7, 7)) Z (by decide) rfl rfl) rfl rfl hl.1 rfl (lv_room (Nat.le_of_ble_eq_true rfl)) dL_reads_458 ⟨Nat.le_of_ble_eq_true rfl, Nat.le_of_ble_eq_true rfl⟩).run (fun r_18 h_19 => ?_)
                rw [h_19]; clear h_19 r_18
                refine lv_iload S.1 S.2.1 dL_reads_461 (lv_at hl 2 rfl) ?_
                have L_482 : ∀ (q : Nat) (hq : cV τ_17 6 = cV σ 6 + nI q) (H : Heap) (locs : List Loc) (Z : wZ G (τ_17) ((ca, cA G m) :: []) o s H locs) (ls : Array Slot) (hl : lv_has ls 15 [(0, .ref (gA G 0)), (1, .int (nI x)), (2, .int (nI y)), (3, .ref (ca)), (4, .int (nI i)), (5, .int (nI j)), (6, .int (nI row)), (7, .int (nI col)), (8, .int (sv)), (9, .int (bv)), (10, .int (cV σ 6)), (11, .int (bi (alk σ i j))), (12, .int (visV τ_17 i row col (cV τ_17 4))), (13, .int (nI q))]), W p l e (headSpec wsL_reads rm_k_L_reads).room s m9 args below meth c H locs 0 0 Q (F0 m9 482 ls []) := by
                  intro q hq H locs Z ls hl
                  refine lv_aload_n S.1 S.2.1 dL_reads_482 rfl (lv_at hl 0 rfl) ?_
                  refine lv_iload S.1 S.2.1 dL_reads_483 (lv_at hl 4 rfl) ?_
                  refine lv_iload S.1 S.2.1 dL_reads_485 (lv_at hl 6 rfl) ?_
                  refine lv_iload S.1 S.2.1 dL_reads_487 (lv_at hl 7 rfl) ?_
                  refine vp_callSi (va_runV (As := [.int (nI i), .int (nI row), .int (nI col)]) (rest := []) S (kr_valueAt l G τ_17 ((ca, cA G m) :: []) o τ_17 i row col Sm_rf (by omega) (by omega) (by omega)) (cwV 3 S.2.2.2.2 gL_reads_X7_valueAt rfl rfl rfl ⟨rfl, hy_X7_valueAt⟩ ⟨Nat.le_of_ble_eq_true rfl, Nat.le_of_ble_eq_true rfl⟩) (wPc_V (q := (RX7, TX7, 7)) Z (by decide) rfl rfl) rfl rfl hl.1 rfl (lv_room (Nat.le_of_ble_eq_true rfl)) dL_reads_489 ⟨Nat.le_of_ble_eq_true rfl, Nat.le_of_ble_eq_true rfl⟩).run (fun r_20 h_21 => ?_)
                  rw [h_21]; clear h_21 r_20
                  refine lv_iload S.1 S.2.1 dL_reads_492 (lv_at hl 12 rfl) ?_
                  refine lv_icmp_ne (tgt := 558) S.1 S.2.1 dL_reads_494 (by decide) (fun c_22 => absurd c_22 (by exact not_not_intro rfl)) (fun c_22 => ?_)
                  refine lv_aload_n S.1 S.2.1 dL_reads_497 rfl (lv_at hl 0 rfl) ?_
                  refine lv_iload S.1 S.2.1 dL_reads_498 (lv_at hl 5 rfl) ?_
                  refine lv_iload S.1 S.2.1 dL_reads_500 (lv_at hl 6 rfl) ?_
                  refine lv_iload S.1 S.2.1 dL_reads_502 (lv_at hl 7 rfl) ?_
                  refine vp_callSi (va_runV (As := [.int (nI j), .int (nI row), .int (nI col)]) (rest := []) S (kr_valueAt l G τ_17 ((ca, cA G m) :: []) o τ_17 j row col Sm_rf (by omega) (by omega) (by omega)) (cwV 3 S.2.2.2.2 gL_reads_X7_valueAt rfl rfl rfl ⟨rfl, hy_X7_valueAt⟩ ⟨Nat.le_of_ble_eq_true rfl, Nat.le_of_ble_eq_true rfl⟩) (wPc_V (q := (RX7, TX7, 7)) Z (by decide) rfl rfl) rfl rfl hl.1 rfl (lv_room (Nat.le_of_ble_eq_true rfl)) dL_reads_504 ⟨Nat.le_of_ble_eq_true rfl, Nat.le_of_ble_eq_true rfl⟩).run (fun r_23 h_24 => ?_)
                  rw [h_24]; clear h_24 r_23
                  refine lv_iload S.1 S.2.1 dL_reads_507 (lv_at hl 12 rfl) ?_
                  refine lv_icmp_ne (tgt := 558) S.1 S.2.1 dL_reads_509 (by decide) (fun c_25 => absurd c_25 (by exact not_not_intro (vis_cg hEn.symm (gB_cg (fun _ => Iff.rfl) (fun p hp => (congrArg (fun z => z.1) (hTn p hp)).symm))))) (fun c_25 => ?_)
                  refine lv_aload_n S.1 S.2.1 dL_reads_512 rfl (lv_at hl 0 rfl) ?_
                  refine lv_iload S.1 S.2.1 dL_reads_513 (lv_at hl 4 rfl) ?_
                  refine lv_iload S.1 S.2.1 dL_reads_515 (lv_at hl 6 rfl) ?_
                  refine lv_iload S.1 S.2.1 dL_reads_517 (lv_at hl 7 rfl) ?_
                  refine vp_callSi (va_runV (As := [.int (nI i), .int (nI row), .int (nI col)]) (rest := []) S (kr_stampAt l G τ_17 ((ca, cA G m) :: []) o τ_17 i row col Sm_rf (by omega) (by omega) (by omega)) (cwV 3 S.2.2.2.2 gL_reads_X7_stampAt rfl rfl rfl ⟨rfl, hy_X7_stampAt⟩ ⟨Nat.le_of_ble_eq_true rfl, Nat.le_of_ble_eq_true rfl⟩) (wPc_V (q := (RX7, TX7, 7)) Z (by decide) rfl rfl) rfl rfl hl.1 rfl (lv_room (Nat.le_of_ble_eq_true rfl)) dL_reads_519 ⟨Nat.le_of_ble_eq_true rfl, Nat.le_of_ble_eq_true rfl⟩).run (fun r_26 h_27 => ?_)
                  rw [h_27]; clear h_27 r_26
                  refine lv_iload S.1 S.2.1 dL_reads_522 (lv_at hl 8 rfl) ?_
                  refine lv_icmp_ne (tgt := 558) S.1 S.2.1 dL_reads_524 (by decide) (fun c_28 => absurd c_28 (by exact not_not_intro (hsn.trans hsv.symm))) (fun c_28 => ?_)
                  refine lv_aload_n S.1 S.2.1 dL_reads_527 rfl (lv_at hl 0 rfl) ?_
                  refine lv_iload S.1 S.2.1 dL_reads_528 (lv_at hl 4 rfl) ?_
                  refine lv_iload S.1 S.2.1 dL_reads_530 (lv_at hl 6 rfl) ?_
                  refine lv_iload S.1 S.2.1 dL_reads_532 (lv_at hl 7 rfl) ?_
                  refine vp_callSi (va_runV (As := [.int (nI i), .int (nI row), .int (nI col)]) (rest := []) S (kr_buriedBy l G τ_17 ((ca, cA G m) :: []) o τ_17 i row col Sm_rf (by omega) (by omega) (by omega)) (cwV 3 S.2.2.2.2 gL_reads_X7_buriedBy rfl rfl rfl ⟨rfl, hy_X7_buriedBy⟩ ⟨Nat.le_of_ble_eq_true rfl, Nat.le_of_ble_eq_true rfl⟩) (wPc_V (q := (RX7, TX7, 7)) Z (by decide) rfl rfl) rfl rfl hl.1 rfl (lv_room (Nat.le_of_ble_eq_true rfl)) dL_reads_534 ⟨Nat.le_of_ble_eq_true rfl, Nat.le_of_ble_eq_true rfl⟩).run (fun r_29 h_30 => ?_)
                  rw [h_30]; clear h_30 r_29
                  refine lv_iload S.1 S.2.1 dL_reads_537 (lv_at hl 9 rfl) ?_
                  refine lv_icmp_ne (tgt := 558) S.1 S.2.1 dL_reads_539 (by decide) (fun c_31 => absurd c_31 (by exact not_not_intro (hbn.trans hbv.symm))) (fun c_31 => ?_)
                  refine lv_iload S.1 S.2.1 dL_reads_542 (lv_at hl 12 rfl) ?_
                  refine lv_if_lt (tgt := 554) S.1 S.2.1 dL_reads_544 (by decide) (fun c_32 => ?_) (fun c_32 => ?_)
                  · skip
                    refine lv_iconst (v := nI 1) S.1 S.2.1 dL_reads_554 (by decide) ?_
                    refine lv_goto (tgt := 559) S.1 S.2.1 dL_reads_555 (by decide) ?_
                    refine lv_istore (lv' := [(14, .int (nI 1)), (0, .ref (gA G 0)), (1, .int (nI x)), (2, .int (nI y)), (3, .ref (ca)), (4, .int (nI i)), (5, .int (nI j)), (6, .int (nI row)), (7, .int (nI col)), (8, .int (sv)), (9, .int (bv)), (10, .int (cV σ 6)), (11, .int (bi (alk σ i j))), (12, .int (visV τ_17 i row col (cV τ_17 4))), (13, .int (nI q))]) S.1 S.2.1 dL_reads_559 hl (by decide) rfl (fun ls hl => ?_)
                    refine lv_iload S.1 S.2.1 dL_reads_561 (lv_at hl 0 rfl) ?_
                    refine r_if_eqN S (tgt := 599) (by decide) dL_reads_563 (by decide) (fun c_33 => absurd c_33 (by decide)) (fun c_33 => ?_)
                    refine lv_aload_n S.1 S.2.1 dL_reads_566 rfl (lv_at hl 1 rfl) ?_
                    refine lv_iload S.1 S.2.1 dL_reads_567 (lv_at hl 6 rfl) ?_
                    refine lv_iload S.1 S.2.1 dL_reads_569 (lv_at hl 5 rfl) ?_
                    refine lv_iload S.1 S.2.1 dL_reads_571 (lv_at hl 7 rfl) ?_
                    refine lv_iload S.1 S.2.1 dL_reads_573 (lv_at hl 8 rfl) ?_
                    refine va_calli (va_runV (As := [.int (nI j), .int (nI i), .int (nI row), .int (nI col)]) (rest := []) S (kr_readS l G τ_17 ((ca, cA G m) :: []) o j i row col (by omega) (by omega) (by omega) (by omega) (fun z => hij z.symm) (by rw [hUn]; exact huj) (by rw [hUn]; exact hui) hEn hTn) (cwV 4 S.2.2.2.2 gL_reads_X7_read rfl rfl rfl ⟨rfl, hy_X7_read⟩ ⟨Nat.le_of_ble_eq_true rfl, Nat.le_of_ble_eq_true rfl⟩) (wPc_V (q := (RX7, TX7, 7)) Z (by decide) rfl rfl) rfl rfl hl.1 rfl (lv_room (Nat.le_of_ble_eq_true rfl)) dL_reads_575 ⟨Nat.le_of_ble_eq_true rfl, Nat.le_of_ble_eq_true rfl⟩) Z.2.2.2.2 (fun _ _ h => h) (fun _ h => h) (fun r_34 u_35 T9 H1 locs1 hT9 hvm hw hB hz hk9 hS => ?_)
                    obtain ⟨hr9, rfl⟩ := hw
                    rw [hr9]; clear hr9 r_34
                    have Z : wZ G (τ_17) (((ca, cA G m) :: [])) o s H1 locs1 := wZ_callP Z hB hT9 hS
                    clear hB hT9 hS hk9 hz hvm T9
                    revert Z; generalize H1 = H; generalize locs1 = locs; intro Z
                    refine W.widen (k := 0) (n := 0) (by decide) (by decide) ?_
                    refine lv_iload S.1 S.2.1 dL_reads_578 (lv_at hl 13 rfl) ?_
                    refine lv_icmp_ne (tgt := 599) S.1 S.2.1 dL_reads_580 (by decide) (fun c_36 => absurd c_36 (by exact not_not_intro (vis_cg hEn.symm (gB_cg (fun _ => Iff.rfl) (fun p hp => (congrArg (fun z => z.1) (hTn p hp)).symm))))) (fun c_36 => ?_)
                    refine lv_aload_n S.1 S.2.1 dL_reads_583 rfl (lv_at hl 1 rfl) ?_
                    refine vp_callSi (va_runV (As := []) (rest := []) S (kr_repairs l G τ_17 (((ca, cA G m) :: [])) o τ_17 Sm_rf) (cwV 0 S.2.2.2.2 gL_reads_X7_repairs rfl rfl rfl ⟨rfl, hy_X7_repairs⟩ ⟨Nat.le_of_ble_eq_true rfl, Nat.le_of_ble_eq_true rfl⟩) (wPc_V (q := (RX7, TX7, 7)) Z (by decide) rfl rfl) rfl rfl hl.1 rfl (lv_room (Nat.le_of_ble_eq_true rfl)) dL_reads_584 ⟨Nat.le_of_ble_eq_true rfl, Nat.le_of_ble_eq_true rfl⟩).run (fun r_37 h_38 => ?_)
                    rw [h_38]; clear h_38 r_37
                    refine lv_iload S.1 S.2.1 dL_reads_587 (lv_at hl 11 rfl) ?_
                    refine lv_iload S.1 S.2.1 dL_reads_589 (lv_at hl 14 rfl) ?_
                    refine lv_iadd S.1 S.2.1 dL_reads_591 ?_
                    refine lv_icmp_ne (tgt := 599) S.1 S.2.1 dL_reads_592 (by decide) (fun c_39 => absurd c_39 (by exact not_not_intro hq)) (fun c_39 => ?_)
                    refine lv_iconst (v := nI 1) S.1 S.2.1 dL_reads_595 (by decide) ?_
                    refine lv_goto (tgt := 600) S.1 S.2.1 dL_reads_596 (by decide) ?_
                    rw [hQ]
                    exact W.zret (v := nI 1) S.1 S.2.1 hret rfl (fun _ hT9 hW => ⟨⟨_, (τ_17, ((ca, cA G m) :: [])), rfl, ⟨rfl, m, rfl, LI_Sm Sm_rf (LI_keep hKn hJn hUn h4n h5n h0 h1 h1b h2 h5 h5b h7 h7b h8 h8b), by omega, by omega⟩, wZ_P Z hT9 hW⟩, Z.2.2.2.2.F hT9⟩) Z.2.2.2.2.2.2 dL_reads_600
                  · skip
                    refine lv_iload S.1 S.2.1 dL_reads_547 (lv_at hl 8 rfl) ?_
                    refine lv_iload S.1 S.2.1 dL_reads_549 (lv_at hl 9 rfl) ?_
                    refine lv_icmp_le (tgt := 558) S.1 S.2.1 dL_reads_551 (by decide) (fun c_40 => absurd c_40 (by rw [hsv, hbv, ← hsn, ← hbn]; exact vis_gt (vis_or hKn.2.1 (by omega) hrow hcol (cV τ_17 4)) c_32)) (fun c_40 => ?_)
                    refine lv_iconst (v := nI 1) S.1 S.2.1 dL_reads_554 (by decide) ?_
                    refine lv_goto (tgt := 559) S.1 S.2.1 dL_reads_555 (by decide) ?_
                    refine lv_istore (lv' := [(14, .int (nI 1)), (0, .ref (gA G 0)), (1, .int (nI x)), (2, .int (nI y)), (3, .ref (ca)), (4, .int (nI i)), (5, .int (nI j)), (6, .int (nI row)), (7, .int (nI col)), (8, .int (sv)), (9, .int (bv)), (10, .int (cV σ 6)), (11, .int (bi (alk σ i j))), (12, .int (visV τ_17 i row col (cV τ_17 4))), (13, .int (nI q))]) S.1 S.2.1 dL_reads_559 hl (by decide) rfl (fun ls hl => ?_)
                    refine lv_iload S.1 S.2.1 dL_reads_561 (lv_at hl 0 rfl) ?_
                    refine r_if_eqN S (tgt := 599) (by decide) dL_reads_563 (by decide) (fun c_41 => absurd c_41 (by decide)) (fun c_41 => ?_)
                    refine lv_aload_n S.1 S.2.1 dL_reads_566 rfl (lv_at hl 1 rfl) ?_
                    refine lv_iload S.1 S.2.1 dL_reads_567 (lv_at hl 6 rfl) ?_
                    refine lv_iload S.1 S.2.1 dL_reads_569 (lv_at hl 5 rfl) ?_
                    refine lv_iload S.1 S.2.1 dL_reads_571 (lv_at hl 7 rfl) ?_
                    refine lv_iload S.1 S.2.1 dL_reads_573 (lv_at hl 8 rfl) ?_
                    refine va_calli (va_runV (As := [.int (nI j), .int (nI i), .int (nI row), .int (nI col)]) (rest := []) S (kr_readS l G τ_17 ((ca, cA G m) :: []) o j i row col (by omega) (by omega) (by omega) (by omega) (fun z => hij z.symm) (by rw [hUn]; exact huj) (by rw [hUn]; exact hui) hEn hTn) (cwV 4 S.2.2.2.2 gL_reads_X7_read rfl rfl rfl ⟨rfl, hy_X7_read⟩ ⟨Nat.le_of_ble_eq_true rfl, Nat.le_of_ble_eq_true rfl⟩) (wPc_V (q := (RX7, TX7, 7)) Z (by decide) rfl rfl) rfl rfl hl.1 rfl (lv_room (Nat.le_of_ble_eq_true rfl)) dL_reads_575 ⟨Nat.le_of_ble_eq_true rfl, Nat.le_of_ble_eq_true rfl⟩) Z.2.2.2.2 (fun _ _ h => h) (fun _ h => h) (fun r_42 u_43 T9 H1 locs1 hT9 hvm hw hB hz hk9 hS => ?_)
                    obtain ⟨hr9, rfl⟩ := hw
                    rw [hr9]; clear hr9 r_42
                    have Z : wZ G (τ_17) (((ca, cA G m) :: [])) o s H1 locs1 := wZ_callP Z hB hT9 hS
                    clear hB hT9 hS hk9 hz hvm T9
                    revert Z; generalize H1 = H; generalize locs1 = locs; intro Z
                    refine W.widen (k := 0) (n := 0) (by decide) (by decide) ?_
                    refine lv_iload S.1 S.2.1 dL_reads_578 (lv_at hl 13 rfl) ?_
                    refine lv_icmp_ne (tgt := 599) S.1 S.2.1 dL_reads_580 (by decide) (fun c_44 => absurd c_44 (by exact not_not_intro (vis_cg hEn.symm (gB_cg (fun _ => Iff.rfl) (fun p hp => (congrArg (fun z => z.1) (hTn p hp)).symm))))) (fun c_44 => ?_)
                    refine lv_aload_n S.1 S.2.1 dL_reads_583 rfl (lv_at hl 1 rfl) ?_
                    refine vp_callSi (va_runV (As := []) (rest := []) S (kr_repairs l G τ_17 (((ca, cA G m) :: [])) o τ_17 Sm_rf) (cwV 0 S.2.2.2.2 gL_reads_X7_repairs rfl rfl rfl ⟨rfl, hy_X7_repairs⟩ ⟨Nat.le_of_ble_eq_true rfl, Nat.le_of_ble_eq_true rfl⟩) (wPc_V (q := (RX7, TX7, 7)) Z (by decide) rfl rfl) rfl rfl hl.1 rfl (lv_room (Nat.le_of_ble_eq_true rfl)) dL_reads_584 ⟨Nat.le_of_ble_eq_true rfl, Nat.le_of_ble_eq_true rfl⟩).run (fun r_45 h_46 => ?_)
                    rw [h_46]; clear h_46 r_45
                    refine lv_iload S.1 S.2.1 dL_reads_587 (lv_at hl 11 rfl) ?_
                    refine lv_iload S.1 S.2.1 dL_reads_589 (lv_at hl 14 rfl) ?_
                    refine lv_iadd S.1 S.2.1 dL_reads_591 ?_
                    refine lv_icmp_ne (tgt := 599) S.1 S.2.1 dL_reads_592 (by decide) (fun c_47 => absurd c_47 (by exact not_not_intro hq)) (fun c_47 => ?_)
                    refine lv_iconst (v := nI 1) S.1 S.2.1 dL_reads_595 (by decide) ?_
                    refine lv_goto (tgt := 600) S.1 S.2.1 dL_reads_596 (by decide) ?_
                    rw [hQ]
                    exact W.zret (v := nI 1) S.1 S.2.1 hret rfl (fun _ hT9 hW => ⟨⟨_, (τ_17, ((ca, cA G m) :: [])), rfl, ⟨rfl, m, rfl, LI_Sm Sm_rf (LI_keep hKn hJn hUn h4n h5n h0 h1 h1b h2 h5 h5b h7 h7b h8 h8b), by omega, by omega⟩, wZ_P Z hT9 hW⟩, Z.2.2.2.2.F hT9⟩) Z.2.2.2.2.2.2 dL_reads_600
                refine lv_isub S.1 S.2.1 dL_reads_463 ?_
                rcases h6n with e6 | ⟨e6, na⟩
                · skip
                  rw [show cV τ_17 6 - cV σ 6 = nI 0 from by rw [e6]; exact sub0 _]
                  refine lv_istore (lv' := [(13, .int (nI 0)), (12, .int (visV τ_17 i row col (cV τ_17 4))), (11, .int (bi (alk σ i j))), (10, .int (cV σ 6)), (9, .int (bv)), (0, .ref (gA G 0)), (1, .int (nI x)), (2, .int (nI y)), (3, .ref (ca)), (4, .int (nI i)), (5, .int (nI j)), (6, .int (nI row)), (7, .int (nI col)), (8, .int (sv))]) S.1 S.2.1 dL_reads_464 hl (by decide) rfl (fun ls hl => ?_)
                  refine lv_iload S.1 S.2.1 dL_reads_466 (lv_at hl 0 rfl) ?_
                  refine r_if_eqN S (tgt := 482) (by decide) dL_reads_468 (by decide) (fun c_48 => ?_) (fun c_48 => absurd c_48 (by decide))
                  exact L_482 0 (by rw [e6, nI_0, Int32.add_zero]) _ _ Z ls (lv_sub hl [5, 6, 7, 8, 9, 10, 11, 12, 13, 4, 3, 2, 1, 0] rfl)
                · skip
                  rw [show cV τ_17 6 - cV σ 6 = nI 1 from by rw [e6]; exact sub1 _]
                  refine lv_istore (lv' := [(13, .int (nI 1)), (12, .int (visV τ_17 i row col (cV τ_17 4))), (11, .int (bi (alk σ i j))), (10, .int (cV σ 6)), (9, .int (bv)), (0, .ref (gA G 0)), (1, .int (nI x)), (2, .int (nI y)), (3, .ref (ca)), (4, .int (nI i)), (5, .int (nI j)), (6, .int (nI row)), (7, .int (nI col)), (8, .int (sv))]) S.1 S.2.1 dL_reads_464 hl (by decide) rfl (fun ls hl => ?_)
                  refine lv_iload S.1 S.2.1 dL_reads_466 (lv_at hl 0 rfl) ?_
                  refine r_if_eqN S (tgt := 482) (by decide) dL_reads_468 (by decide) (fun c_49 => absurd c_49 (by decide)) (fun c_49 => ?_)
                  refine lv_iload S.1 S.2.1 dL_reads_471 (lv_at hl 0 rfl) ?_
                  refine lv_iconst (v := nI 1) S.1 S.2.1 dL_reads_473 (by decide) ?_
                  refine r_icmpN_ne S (tgt := 558) (by omega) (by omega) dL_reads_474 (by decide) (fun c_50 => absurd c_50 (by omega)) (fun c_50 => ?_)
                  refine lv_iload S.1 S.2.1 dL_reads_477 (lv_at hl 2 rfl) ?_
                  refine r_if_neB S (tgt := 558) dL_reads_479 (by decide) (fun c_51 => absurd c_51 (by rw [na]; decide)) (fun c_51 => ?_)
                  exact L_482 1 e6 _ _ Z ls (lv_sub hl [5, 6, 7, 8, 9, 10, 11, 12, 13, 4, 3, 2, 1, 0] rfl)
              refine lv_icmp_le (tgt := 415) S.1 S.2.1 dL_reads_399 (by decide) (fun c_52 => ?_) (fun c_52 => ?_)
              · skip
                refine lv_aload_n S.1 S.2.1 dL_reads_415 rfl (lv_at hl 1 rfl) ?_
                refine lv_iload S.1 S.2.1 dL_reads_416 (lv_at hl 6 rfl) ?_
                refine lv_iload S.1 S.2.1 dL_reads_418 (lv_at hl 7 rfl) ?_
                refine lv_iload S.1 S.2.1 dL_reads_420 (lv_at hl 8 rfl) ?_
                refine vp_callSi (va_runV (As := [.int (nI j), .int (nI row), .int (nI col)]) (rest := []) S (kr_buriedBy l G σ ((ca, cA G m) :: []) o σ j row col Sm_rf (by omega) (by omega) (by omega)) (cwV 3 S.2.2.2.2 gL_reads_X7_buriedBy rfl rfl rfl ⟨rfl, hy_X7_buriedBy⟩ ⟨Nat.le_of_ble_eq_true rfl, Nat.le_of_ble_eq_true rfl⟩) (wPc_V (q := (RX7, TX7, 7)) Z (by decide) rfl rfl) rfl rfl hl.1 rfl (lv_room (Nat.le_of_ble_eq_true rfl)) dL_reads_422 ⟨Nat.le_of_ble_eq_true rfl, Nat.le_of_ble_eq_true rfl⟩).run (fun r_53 h_54 => ?_)
                rw [h_54]; clear h_54 r_53
                exact L_425 (gB σ j row col) (mx_1 c_52) _ _ Z ls (lv_sub hl [1, 2, 3, 4, 5, 6, 7, 8, 0] rfl)
              · skip
                refine lv_aload_n S.1 S.2.1 dL_reads_402 rfl (lv_at hl 1 rfl) ?_
                refine lv_iload S.1 S.2.1 dL_reads_403 (lv_at hl 5 rfl) ?_
                refine lv_iload S.1 S.2.1 dL_reads_405 (lv_at hl 7 rfl) ?_
                refine lv_iload S.1 S.2.1 dL_reads_407 (lv_at hl 8 rfl) ?_
                refine vp_callSi (va_runV (As := [.int (nI i), .int (nI row), .int (nI col)]) (rest := []) S (kr_buriedBy l G σ ((ca, cA G m) :: []) o σ i row col Sm_rf (by omega) (by omega) (by omega)) (cwV 3 S.2.2.2.2 gL_reads_X7_buriedBy rfl rfl rfl ⟨rfl, hy_X7_buriedBy⟩ ⟨Nat.le_of_ble_eq_true rfl, Nat.le_of_ble_eq_true rfl⟩) (wPc_V (q := (RX7, TX7, 7)) Z (by decide) rfl rfl) rfl rfl hl.1 rfl (lv_room (Nat.le_of_ble_eq_true rfl)) dL_reads_409 ⟨Nat.le_of_ble_eq_true rfl, Nat.le_of_ble_eq_true rfl⟩).run (fun r_55 h_56 => ?_)
                rw [h_56]; clear h_56 r_55
                refine lv_goto (tgt := 425) S.1 S.2.1 dL_reads_412 (by decide) ?_
                exact L_425 (gB σ i row col) (mx_2 c_52) _ _ Z ls (lv_sub hl [1, 2, 3, 4, 5, 6, 7, 8, 0] rfl)
            refine lv_icmp_le (tgt := 367) S.1 S.2.1 dL_reads_351 (by decide) (fun c_57 => ?_) (fun c_57 => ?_)
            · skip
              refine lv_aload_n S.1 S.2.1 dL_reads_367 rfl (lv_at hl 0 rfl) ?_
              refine lv_iload S.1 S.2.1 dL_reads_368 (lv_at hl 5 rfl) ?_
              refine lv_iload S.1 S.2.1 dL_reads_370 (lv_at hl 6 rfl) ?_
              refine lv_iload S.1 S.2.1 dL_reads_372 (lv_at hl 7 rfl) ?_
              refine vp_callSi (va_runV (As := [.int (nI j), .int (nI row), .int (nI col)]) (rest := []) S (kr_stampAt l G σ ((ca, cA G m) :: []) o σ j row col Sm_rf (by omega) (by omega) (by omega)) (cwV 3 S.2.2.2.2 gL_reads_X7_stampAt rfl rfl rfl ⟨rfl, hy_X7_stampAt⟩ ⟨Nat.le_of_ble_eq_true rfl, Nat.le_of_ble_eq_true rfl⟩) (wPc_V (q := (RX7, TX7, 7)) Z (by decide) rfl rfl) rfl rfl hl.1 rfl (lv_room (Nat.le_of_ble_eq_true rfl)) dL_reads_374 ⟨Nat.le_of_ble_eq_true rfl, Nat.le_of_ble_eq_true rfl⟩).run (fun r_58 h_59 => ?_)
              rw [h_59]; clear h_59 r_58
              exact L_377 ((sE σ j (row * 4 + col)).1) (mx_1 c_57) _ _ Z ls (lv_sub hl [0, 1, 2, 3, 4, 5, 6, 7] rfl)
            · skip
              refine lv_aload_n S.1 S.2.1 dL_reads_354 rfl (lv_at hl 0 rfl) ?_
              refine lv_iload S.1 S.2.1 dL_reads_355 (lv_at hl 4 rfl) ?_
              refine lv_iload S.1 S.2.1 dL_reads_357 (lv_at hl 6 rfl) ?_
              refine lv_iload S.1 S.2.1 dL_reads_359 (lv_at hl 7 rfl) ?_
              refine vp_callSi (va_runV (As := [.int (nI i), .int (nI row), .int (nI col)]) (rest := []) S (kr_stampAt l G σ ((ca, cA G m) :: []) o σ i row col Sm_rf (by omega) (by omega) (by omega)) (cwV 3 S.2.2.2.2 gL_reads_X7_stampAt rfl rfl rfl ⟨rfl, hy_X7_stampAt⟩ ⟨Nat.le_of_ble_eq_true rfl, Nat.le_of_ble_eq_true rfl⟩) (wPc_V (q := (RX7, TX7, 7)) Z (by decide) rfl rfl) rfl rfl hl.1 rfl (lv_room (Nat.le_of_ble_eq_true rfl)) dL_reads_361 ⟨Nat.le_of_ble_eq_true rfl, Nat.le_of_ble_eq_true rfl⟩).run (fun r_60 h_61 => ?_)
              rw [h_61]; clear h_61 r_60
              refine lv_goto (tgt := 377) S.1 S.2.1 dL_reads_364 (by decide) ?_
              exact L_377 ((sE σ i (row * 4 + col)).1) (mx_2 c_57) _ _ Z ls (lv_sub hl [0, 1, 2, 3, 4, 5, 6, 7] rfl)
          have q_62 : (nI (y / 2 % 16) : Int32) = nI ((y / 2) % 16) := by first | with_reducible rfl | (first | (simp [hi, hj, hij, c_1, c_2]; done) | (simp [hi, hj, hij, c_1, c_2]; omega) | (simp [← Int32.not_le, hi, hj, hij, c_1, c_2]; done)) | exact congrArg nI (by omega) | rfl
          have q_63 : (nI (y / 32 % 4) : Int32) = nI ((y / 32) % 4) := by first | with_reducible rfl | (first | (simp [hi, hj, hij, c_1, c_2]; done) | (simp [hi, hj, hij, c_1, c_2]; omega) | (simp [← Int32.not_le, hi, hj, hij, c_1, c_2]; done)) | exact congrArg nI (by omega) | rfl
          have hl : lv_has ls 15 [(0, .ref (gA G 0)), (1, .int (nI x)), (2, .int (nI y)), (3, .ref (ca)), (4, .int (nI i)), (5, .int (nI j)), (6, .int (nI (y / 2 % 16))), (7, .int (nI (y / 32 % 4)))] := by
            have hl := lv_sub hl [2, 3, 4, 5, 6, 7, 1, 0] rfl
            rw [q_62, q_63]; exact hl
          exact L_331 (y / 2 % 16) (y / 32 % 4) (by first | omega | exact Nat.zero_le _) (by first | omega | exact Nat.zero_le _) _ _ Z ls (hl)
        exact L_315   _ _ Z ls (lv_sub hl [0, 1, 2, 3, 4, 5] rfl)
      · skip
        obtain ⟨U, hU1, hU, -⟩ := lpS_N (σ := σ) (i := i) (j := j)
        have hUz : alk σ i j = true → U = 0 := fun z => (nI_eq (by omega) (by decide)).mp (hU.symm.trans (alk_lp z).1)
        refine lv_aload_n S.1 S.2.1 dL_reads_48 rfl (lv_at hl 0 rfl) ?_
        refine lv_iload S.1 S.2.1 dL_reads_49 (lv_at hl 4 rfl) ?_
        refine lv_iload S.1 S.2.1 dL_reads_51 (lv_at hl 5 rfl) ?_
        refine va_calli (va_runV (As := [.int (nI i), .int (nI j)]) (rest := []) S (kr_unlike l G σ ((ca, cA G m) :: []) o σ i j Sm_rf (by omega) (by omega)) (cwV 2 S.2.2.2.2 gL_reads_X7_unlike rfl rfl rfl ⟨rfl, hy_X7_unlike⟩ ⟨Nat.le_of_ble_eq_true rfl, Nat.le_of_ble_eq_true rfl⟩) (wPc_V (q := (RX7, TX7, 7)) Z (by decide) rfl rfl) rfl rfl hl.1 rfl (lv_room (Nat.le_of_ble_eq_true rfl)) dL_reads_53 ⟨Nat.le_of_ble_eq_true rfl, Nat.le_of_ble_eq_true rfl⟩) Z.2.2.2.2 (fun _ _ h => h) (fun _ h => h) (fun r_64 u_65 T9 H1 locs1 hT9 hvm hw hB hz hk9 hS => ?_)
        obtain ⟨τ_66, μ9⟩ := u_65
        obtain ⟨hr9, hm9, hp9⟩ := hw
        have hm9 : ((ca, cA G m) :: []) = μ9 := hm9.symm
        subst hm9
        have hp_67 : Sm σ τ_66 := hp9
        clear hp9
        rw [hr9]; clear hr9 r_64
        have Z : wZ G (τ_66) (((ca, cA G m) :: [])) o s H1 locs1 := wZ_callP Z hB hT9 hS
        clear hB hT9 hS hk9 hz hvm T9
        revert Z; generalize H1 = H; generalize locs1 = locs; intro Z
        refine W.widen (k := 0) (n := 0) (by first | decide | omega) (by first | decide | omega) ?_
        rw [hU]
        refine lv_istore (lv' := [(6, .int (nI U)), (0, .ref (gA G 0)), (1, .int (nI x)), (2, .int (nI y)), (3, .ref (ca)), (4, .int (nI i)), (5, .int (nI j))]) S.1 S.2.1 dL_reads_56 hl (by decide) rfl (fun ls hl => ?_)
        refine lv_aload_n S.1 S.2.1 dL_reads_58 rfl (lv_at hl 1 rfl) ?_
        refine lv_iload S.1 S.2.1 dL_reads_59 (lv_at hl 5 rfl) ?_
        refine lv_iload S.1 S.2.1 dL_reads_61 (lv_at hl 6 rfl) ?_
        refine vp_callSi (va_runV (As := [.int (nI i), .int (nI j)]) (rest := []) S (kr_areAlike l G τ_66 (((ca, cA G m) :: [])) o σ i j hp_67 (by omega) (by omega)) (cwV 2 S.2.2.2.2 gL_reads_X7_areAlike rfl rfl rfl ⟨rfl, hy_X7_areAlike⟩ ⟨Nat.le_of_ble_eq_true rfl, Nat.le_of_ble_eq_true rfl⟩) (wPc_V (q := (RX7, TX7, 7)) Z (by decide) rfl rfl) rfl rfl hl.1 rfl (lv_room (Nat.le_of_ble_eq_true rfl)) dL_reads_63 ⟨Nat.le_of_ble_eq_true rfl, Nat.le_of_ble_eq_true rfl⟩).run (fun r_68 h_69 => ?_)
        rw [h_69]; clear h_69 r_68
        refine lv_istore (lv' := [(7, .int (bi (alk σ i j))), (6, .int (nI U)), (0, .ref (gA G 0)), (1, .int (nI x)), (2, .int (nI y)), (3, .ref (ca)), (4, .int (nI i)), (5, .int (nI j))]) S.1 S.2.1 dL_reads_66 hl (by decide) rfl (fun ls hl => ?_)
        refine lv_aload_n S.1 S.2.1 dL_reads_68 rfl (lv_at hl 2 rfl) ?_
        refine lv_iload S.1 S.2.1 dL_reads_69 (lv_at hl 6 rfl) ?_
        refine lv_iload S.1 S.2.1 dL_reads_71 (lv_at hl 7 rfl) ?_
        refine va_calli (va_runV (As := [.int (nI i), .int (nI j)]) (rest := []) S (kr_makeAlike l G τ_66 (((ca, cA G m) :: [])) o σ i j U L nn hp_67 (by omega) (by omega) hij hui huj hK hU hU1) (cwV 2 S.2.2.2.2 gL_reads_X7_makeAlike rfl rfl rfl ⟨rfl, hy_X7_makeAlike⟩ ⟨Nat.le_of_ble_eq_true rfl, Nat.le_of_ble_eq_true rfl⟩) (wPc_V (q := (RX7, TX7, 7)) Z (by decide) rfl rfl) rfl rfl hl.1 rfl (lv_room (Nat.le_of_ble_eq_true rfl)) dL_reads_73 ⟨Nat.le_of_ble_eq_true rfl, Nat.le_of_ble_eq_true rfl⟩) Z.2.2.2.2 (fun _ _ h => h) (fun _ h => h) (fun r_70 u_71 T9 H1 locs1 hT9 hvm hw hB hz hk9 hS => ?_)
        obtain ⟨τ_72, μ9⟩ := u_71
        obtain ⟨hr9, hm9, hp9⟩ := hw
        have hm9 : (((ca, cA G m) :: [])) = μ9 := hm9.symm
        subst hm9
        have hp_73 : MA G σ L nn i j U τ_72 := hp9
        clear hp9
        rw [hr9]; clear hr9 r_70
        have Z : wZ G (τ_72) ((((ca, cA G m) :: []))) o s H1 locs1 := wZ_callP Z hB hT9 hS
        clear hB hT9 hS hk9 hz hvm T9
        revert Z; generalize H1 = H; generalize locs1 = locs; intro Z
        refine W.widen (k := 0) (n := 0) (by first | decide | omega) (by first | decide | omega) ?_
        have hM := hp_73
        refine lv_iload S.1 S.2.1 dL_reads_76 (lv_at hl 1 rfl) ?_
        refine lv_bipush (v := nI 7) S.1 S.2.1 dL_reads_78 (by decide) ?_
        refine r_andN S dL_reads_80 ?_
        refine vp_callSi (va_runS (As := [.int (nI (U &&& 7))]) (rest := [.int (nI (pcN U 16))]) S (k_L_many l G τ_72 ((((ca, cA G m) :: []))) o ((U &&& 7)) (and7_lt _)) (va_cwS 1 S.2.2.2.2 gL_reads_L_many rfl rfl rfl hy_L_many ⟨Nat.le_of_ble_eq_true rfl, Nat.le_of_ble_eq_true rfl⟩) (wPc_S Z) rfl rfl hl.1 rfl (lv_room (Nat.le_of_ble_eq_true rfl)) dL_reads_81 ⟨Nat.le_of_ble_eq_true rfl, Nat.le_of_ble_eq_true rfl⟩).run (fun r_74 h_75 => ?_)
        rw [h_75]; clear h_75 r_74
        refine lv_iload S.1 S.2.1 dL_reads_84 (lv_at hl 1 rfl) ?_
        refine lv_iconst (v := nI 3) S.1 S.2.1 dL_reads_86 (by decide) ?_
        refine r_shrN (d := 3) S (by omega) (by decide) rfl dL_reads_87 ?_
        refine lv_bipush (v := nI 7) S.1 S.2.1 dL_reads_88 (by decide) ?_
        refine r_andN S dL_reads_90 ?_
        refine vp_callSi (va_runS (As := [.int (nI (U / 8 &&& 7))]) (rest := [.int (nI (mny (U &&& 7))), .int (nI (pcN U 16))]) S (k_L_many l G τ_72 ((((ca, cA G m) :: []))) o ((U / 8 &&& 7)) (and7_lt _)) (va_cwS 1 S.2.2.2.2 gL_reads_L_many rfl rfl rfl hy_L_many ⟨Nat.le_of_ble_eq_true rfl, Nat.le_of_ble_eq_true rfl⟩) (wPc_S Z) rfl rfl hl.1 rfl (lv_room (Nat.le_of_ble_eq_true rfl)) dL_reads_91 ⟨Nat.le_of_ble_eq_true rfl, Nat.le_of_ble_eq_true rfl⟩).run (fun r_76 h_77 => ?_)
        rw [h_77]; clear h_77 r_76
        refine r_addN S dL_reads_94 ?_
        refine lv_iload S.1 S.2.1 dL_reads_95 (lv_at hl 1 rfl) ?_
        refine lv_bipush (v := nI 6) S.1 S.2.1 dL_reads_97 (by decide) ?_
        refine r_shrN (d := 6) S (by omega) (by decide) rfl dL_reads_99 ?_
        refine lv_bipush (v := nI 7) S.1 S.2.1 dL_reads_100 (by decide) ?_
        refine r_andN S dL_reads_102 ?_
        refine vp_callSi (va_runS (As := [.int (nI (U / 64 &&& 7))]) (rest := [.int (nI ((mny (U &&& 7)) + (mny (U / 8 &&& 7)))), .int (nI (pcN U 16))]) S (k_L_many l G τ_72 ((((ca, cA G m) :: []))) o ((U / 64 &&& 7)) (and7_lt _)) (va_cwS 1 S.2.2.2.2 gL_reads_L_many rfl rfl rfl hy_L_many ⟨Nat.le_of_ble_eq_true rfl, Nat.le_of_ble_eq_true rfl⟩) (wPc_S Z) rfl rfl hl.1 rfl (lv_room (Nat.le_of_ble_eq_true rfl)) dL_reads_103 ⟨Nat.le_of_ble_eq_true rfl, Nat.le_of_ble_eq_true rfl⟩).run (fun r_78 h_79 => ?_)
        rw [h_79]; clear h_79 r_78
        refine r_addN S dL_reads_106 ?_
        refine lv_iload S.1 S.2.1 dL_reads_107 (lv_at hl 1 rfl) ?_
        refine lv_bipush (v := nI 9) S.1 S.2.1 dL_reads_109 (by decide) ?_
        refine r_shrN (d := 9) S (by omega) (by decide) rfl dL_reads_111 ?_
        refine lv_bipush (v := nI 7) S.1 S.2.1 dL_reads_112 (by decide) ?_
        refine r_andN S dL_reads_114 ?_
        refine vp_callSi (va_runS (As := [.int (nI (U / 512 &&& 7))]) (rest := [.int (nI (((mny (U &&& 7)) + (mny (U / 8 &&& 7))) + (mny (U / 64 &&& 7)))), .int (nI (pcN U 16))]) S (k_L_many l G τ_72 ((((ca, cA G m) :: []))) o ((U / 512 &&& 7)) (and7_lt _)) (va_cwS 1 S.2.2.2.2 gL_reads_L_many rfl rfl rfl hy_L_many ⟨Nat.le_of_ble_eq_true rfl, Nat.le_of_ble_eq_true rfl⟩) (wPc_S Z) rfl rfl hl.1 rfl (lv_room (Nat.le_of_ble_eq_true rfl)) dL_reads_115 ⟨Nat.le_of_ble_eq_true rfl, Nat.le_of_ble_eq_true rfl⟩).run (fun r_80 h_81 => ?_)
        rw [h_81]; clear h_81 r_80
        refine r_addN S dL_reads_118 ?_
        refine lv_iload S.1 S.2.1 dL_reads_119 (lv_at hl 1 rfl) ?_
        refine lv_bipush (v := nI 12) S.1 S.2.1 dL_reads_121 (by decide) ?_
        refine r_shrN (d := 12) S (by omega) (by decide) rfl dL_reads_123 ?_
        refine lv_bipush (v := nI 7) S.1 S.2.1 dL_reads_124 (by decide) ?_
        refine r_andN S dL_reads_126 ?_
        refine vp_callSi (va_runS (As := [.int (nI (U / 4096 &&& 7))]) (rest := [.int (nI ((((mny (U &&& 7)) + (mny (U / 8 &&& 7))) + (mny (U / 64 &&& 7))) + (mny (U / 512 &&& 7)))), .int (nI (pcN U 16))]) S (k_L_many l G τ_72 ((((ca, cA G m) :: []))) o ((U / 4096 &&& 7)) (and7_lt _)) (va_cwS 1 S.2.2.2.2 gL_reads_L_many rfl rfl rfl hy_L_many ⟨Nat.le_of_ble_eq_true rfl, Nat.le_of_ble_eq_true rfl⟩) (wPc_S Z) rfl rfl hl.1 rfl (lv_room (Nat.le_of_ble_eq_true rfl)) dL_reads_127 ⟨Nat.le_of_ble_eq_true rfl, Nat.le_of_ble_eq_true rfl⟩).run (fun r_82 h_83 => ?_)
        rw [h_83]; clear h_83 r_82
        refine r_addN S dL_reads_130 ?_
        refine lv_iload S.1 S.2.1 dL_reads_131 (lv_at hl 1 rfl) ?_
        refine lv_bipush (v := nI 15) S.1 S.2.1 dL_reads_133 (by decide) ?_
        refine r_shrN (d := 15) S (by omega) (by decide) rfl dL_reads_135 ?_
        refine r_addN S dL_reads_136 ?_
        have hp1 := pc_16 hU1
        have hp2 := pc_le (U := U) 16
        have hp3 := mny_le (U &&& 7)
        have hp4 := mny_le (U / 8 &&& 7)
        have hp5 := mny_le (U / 64 &&& 7)
        have hp6 := mny_le (U / 512 &&& 7)
        have hp7 := mny_le (U / 4096 &&& 7)
        refine r_icmpN_ne S (tgt := 144) (by omega) (by omega) dL_reads_137 (by decide) (fun c_84 => absurd c_84 (by exact not_not_intro hp1)) (fun c_84 => ?_)
        refine lv_iconst (v := nI 1) S.1 S.2.1 dL_reads_140 (by decide) ?_
        refine lv_goto (tgt := 145) S.1 S.2.1 dL_reads_141 (by decide) ?_
        refine lv_istore (lv' := [(8, .int (nI 1)), (7, .int (bi (alk σ i j))), (6, .int (nI U)), (0, .ref (gA G 0)), (1, .int (nI x)), (2, .int (nI y)), (3, .ref (ca)), (4, .int (nI i)), (5, .int (nI j))]) S.1 S.2.1 dL_reads_145 hl (by decide) rfl (fun ls hl => ?_)
        refine lv_iconst (v := nI 0) S.1 S.2.1 dL_reads_147 (by decide) ?_
        refine lv_istore (lv' := [(9, .int (nI 0)), (8, .int (nI 1)), (7, .int (bi (alk σ i j))), (6, .int (nI U)), (0, .ref (gA G 0)), (1, .int (nI x)), (2, .int (nI y)), (3, .ref (ca)), (4, .int (nI i)), (5, .int (nI j))]) S.1 S.2.1 dL_reads_148 hl (by decide) rfl (fun ls hl => ?_)
        have L_150 : ∀ (n : Nat) (k : Nat) (hk : k ≤ 64) (hn : 64 - k < n) (H : Heap) (locs : List Loc) (Z : wZ G (τ_72) ((((ca, cA G m) :: []))) o s H locs) (ls : Array Slot) (hl : lv_has ls 15 [(0, .ref (gA G 0)), (1, .int (nI x)), (2, .int (nI y)), (3, .ref (ca)), (4, .int (nI i)), (5, .int (nI j)), (6, .int (nI U)), (7, .int (bi (alk σ i j))), (8, .int (nI 1)), (9, .int (nI k))]), W p l e (headSpec wsL_reads rm_k_L_reads).room s m9 args below meth c H locs 0 0 Q (F0 m9 150 ls []) := by
          intro n
          induction n with
          | zero => intro k hk hn; omega
          | succ n ih_150 =>
            intro k hk hn H locs Z ls hl
            refine lv_iload S.1 S.2.1 dL_reads_150 (lv_at hl 9 rfl) ?_
            refine lv_bipush (v := nI 64) S.1 S.2.1 dL_reads_152 (by decide) ?_
            refine r_icmpN_ge S (tgt := 280) (by omega) (by omega) dL_reads_154 (by decide) (fun c_85 => ?_) (fun c_85 => ?_)
            · skip
              obtain rfl : k = 64 := by omega
              refine lv_iload S.1 S.2.1 dL_reads_280 (lv_at hl 8 rfl) ?_
              refine r_if_eqN S (tgt := 313) (by decide) dL_reads_282 (by decide) (fun c_86 => absurd c_86 (by decide)) (fun c_86 => ?_)
              refine lv_iload S.1 S.2.1 dL_reads_285 (lv_at hl 7 rfl) ?_
              refine r_if_eqB S (tgt := 295) dL_reads_287 (by decide) (fun c_87 => ?_) (fun c_87 => ?_)
              · skip
                refine lv_aload_n S.1 S.2.1 dL_reads_295 rfl (lv_at hl 0 rfl) ?_
                refine lv_iload S.1 S.2.1 dL_reads_296 (lv_at hl 4 rfl) ?_
                refine lv_iload S.1 S.2.1 dL_reads_298 (lv_at hl 5 rfl) ?_
                refine va_calli (va_runV (As := [.int (nI i), .int (nI j)]) (rest := []) S (kr_unlike l G τ_72 ((((ca, cA G m) :: []))) o τ_72 i j Sm_rf (by omega) (by omega)) (cwV 2 S.2.2.2.2 gL_reads_X7_unlike rfl rfl rfl ⟨rfl, hy_X7_unlike⟩ ⟨Nat.le_of_ble_eq_true rfl, Nat.le_of_ble_eq_true rfl⟩) (wPc_V (q := (RX7, TX7, 7)) Z (by decide) rfl rfl) rfl rfl hl.1 rfl (lv_room (Nat.le_of_ble_eq_true rfl)) dL_reads_300 ⟨Nat.le_of_ble_eq_true rfl, Nat.le_of_ble_eq_true rfl⟩) Z.2.2.2.2 (fun _ _ h => h) (fun _ h => h) (fun r_88 u_89 T9 H1 locs1 hT9 hvm hw hB hz hk9 hS => ?_)
                obtain ⟨τ_90, μ9⟩ := u_89
                obtain ⟨hr9, hm9, hp9⟩ := hw
                have hm9 : ((((ca, cA G m) :: []))) = μ9 := hm9.symm
                subst hm9
                have hp_91 : Sm τ_72 τ_90 := hp9
                clear hp9
                rw [hr9]; clear hr9 r_88
                have Z : wZ G (τ_90) (((((ca, cA G m) :: [])))) o s H1 locs1 := wZ_callP Z hB hT9 hS
                clear hB hT9 hS hk9 hz hvm T9
                revert Z; generalize H1 = H; generalize locs1 = locs; intro Z
                refine W.widen (k := 0) (n := 0) (by first | decide | omega) (by first | decide | omega) ?_
                obtain ⟨U2, hU21, hU22, hU23⟩ := lpS_N (σ := τ_72) (i := i) (j := j)
                rw [hU22]
                have e20 : U2 &&& U = 0 := and_0 hU21 (fun r hr ha hb => hU23 r hr ha (rowS_al (hM.2.2.2.2.2 r hr hb)))
                refine lv_iload S.1 S.2.1 dL_reads_303 (lv_at hl 6 rfl) ?_
                refine r_andN S dL_reads_305 ?_
                rw [e20]
                refine r_if_neN S (tgt := 313) (by decide) dL_reads_306 (by decide) (fun c_92 => absurd c_92 (by decide)) (fun c_92 => ?_)
                refine lv_iconst (v := nI 1) S.1 S.2.1 dL_reads_309 (by decide) ?_
                refine lv_goto (tgt := 314) S.1 S.2.1 dL_reads_310 (by decide) ?_
                rw [hQ]
                exact W.zret (v := nI 1) S.1 S.2.1 hret rfl (fun _ hT9 hW => ⟨⟨_, (τ_90, ((((ca, cA G m) :: [])))), rfl, ⟨rfl, m, rfl, LI_Sm hp_91 (LI_keep hM.1 hM.2.1 hM.2.2.1 hM.2.2.2.1 hM.2.2.2.2.1 h0 h1 h1b h2 h5 h5b h7 h7b h8 h8b), by omega, by omega⟩, wZ_P Z hT9 hW⟩, Z.2.2.2.2.F hT9⟩) Z.2.2.2.2.2.2 dL_reads_314
              · skip
                refine lv_iload S.1 S.2.1 dL_reads_290 (lv_at hl 6 rfl) ?_
                refine r_if_neN S (tgt := 313) (by omega) dL_reads_292 (by decide) (fun c_93 => absurd c_93 (by exact not_not_intro (hUz c_87))) (fun c_93 => ?_)
                refine lv_aload_n S.1 S.2.1 dL_reads_295 rfl (lv_at hl 0 rfl) ?_
                refine lv_iload S.1 S.2.1 dL_reads_296 (lv_at hl 4 rfl) ?_
                refine lv_iload S.1 S.2.1 dL_reads_298 (lv_at hl 5 rfl) ?_
                refine va_calli (va_runV (As := [.int (nI i), .int (nI j)]) (rest := []) S (kr_unlike l G τ_72 ((((ca, cA G m) :: []))) o τ_72 i j Sm_rf (by omega) (by omega)) (cwV 2 S.2.2.2.2 gL_reads_X7_unlike rfl rfl rfl ⟨rfl, hy_X7_unlike⟩ ⟨Nat.le_of_ble_eq_true rfl, Nat.le_of_ble_eq_true rfl⟩) (wPc_V (q := (RX7, TX7, 7)) Z (by decide) rfl rfl) rfl rfl hl.1 rfl (lv_room (Nat.le_of_ble_eq_true rfl)) dL_reads_300 ⟨Nat.le_of_ble_eq_true rfl, Nat.le_of_ble_eq_true rfl⟩) Z.2.2.2.2 (fun _ _ h => h) (fun _ h => h) (fun r_94 u_95 T9 H1 locs1 hT9 hvm hw hB hz hk9 hS => ?_)
                obtain ⟨τ_96, μ9⟩ := u_95
                obtain ⟨hr9, hm9, hp9⟩ := hw
                have hm9 : ((((ca, cA G m) :: []))) = μ9 := hm9.symm
                subst hm9
                have hp_97 : Sm τ_72 τ_96 := hp9
                clear hp9
                rw [hr9]; clear hr9 r_94
                have Z : wZ G (τ_96) (((((ca, cA G m) :: [])))) o s H1 locs1 := wZ_callP Z hB hT9 hS
                clear hB hT9 hS hk9 hz hvm T9
                revert Z; generalize H1 = H; generalize locs1 = locs; intro Z
                refine W.widen (k := 0) (n := 0) (by first | decide | omega) (by first | decide | omega) ?_
                obtain ⟨U2, hU21, hU22, hU23⟩ := lpS_N (σ := τ_72) (i := i) (j := j)
                rw [hU22]
                have e20 : U2 &&& U = 0 := and_0 hU21 (fun r hr ha hb => hU23 r hr ha (rowS_al (hM.2.2.2.2.2 r hr hb)))
                refine lv_iload S.1 S.2.1 dL_reads_303 (lv_at hl 6 rfl) ?_
                refine r_andN S dL_reads_305 ?_
                rw [e20]
                refine r_if_neN S (tgt := 313) (by decide) dL_reads_306 (by decide) (fun c_98 => absurd c_98 (by decide)) (fun c_98 => ?_)
                refine lv_iconst (v := nI 1) S.1 S.2.1 dL_reads_309 (by decide) ?_
                refine lv_goto (tgt := 314) S.1 S.2.1 dL_reads_310 (by decide) ?_
                rw [hQ]
                exact W.zret (v := nI 1) S.1 S.2.1 hret rfl (fun _ hT9 hW => ⟨⟨_, (τ_96, ((((ca, cA G m) :: [])))), rfl, ⟨rfl, m, rfl, LI_Sm hp_97 (LI_keep hM.1 hM.2.1 hM.2.2.1 hM.2.2.2.1 hM.2.2.2.2.1 h0 h1 h1b h2 h5 h5b h7 h7b h8 h8b), by omega, by omega⟩, wZ_P Z hT9 hW⟩, Z.2.2.2.2.F hT9⟩) Z.2.2.2.2.2.2 dL_reads_314
            · skip
              refine lv_iload S.1 S.2.1 dL_reads_157 (lv_at hl 8 rfl) ?_
              refine r_if_eqN S (tgt := 280) (by decide) dL_reads_159 (by decide) (fun c_99 => absurd c_99 (by decide)) (fun c_99 => ?_)
              refine lv_iload S.1 S.2.1 dL_reads_162 (lv_at hl 6 rfl) ?_
              refine lv_iload S.1 S.2.1 dL_reads_164 (lv_at hl 9 rfl) ?_
              refine lv_iconst (v := nI 4) S.1 S.2.1 dL_reads_166 (by decide) ?_
              refine r_divN S (by omega) (by decide) (by decide) dL_reads_167 ?_
              refine lv_ishr S.1 S.2.1 dL_reads_168 ?_
              refine lv_iconst (v := nI 1) S.1 S.2.1 dL_reads_169 (by decide) ?_
              refine lv_iand S.1 S.2.1 dL_reads_170 ?_
              rw [bitB_sh (x := nI U) (r := k / 4) (by omega)]
              refine r_if_eqB S (tgt := 267) dL_reads_171 (by decide) (fun c_100 => ?_) (fun c_100 => ?_)
              · skip
                refine lv_iconst (v := nI 1) S.1 S.2.1 dL_reads_267 (by decide) ?_
                refine lv_goto (tgt := 272) S.1 S.2.1 dL_reads_268 (by decide) ?_
                refine lv_istore (lv' := [(8, .int (nI 1)), (0, .ref (gA G 0)), (1, .int (nI x)), (2, .int (nI y)), (3, .ref (ca)), (4, .int (nI i)), (5, .int (nI j)), (6, .int (nI U)), (7, .int (bi (alk σ i j))), (9, .int (nI k))]) S.1 S.2.1 dL_reads_272 hl (by decide) rfl (fun ls hl => ?_)
                refine lv_iinc (v := nI (k + 1)) (lv' := [(9, .int (nI (k + 1))), (8, .int (nI 1)), (0, .ref (gA G 0)), (1, .int (nI x)), (2, .int (nI y)), (3, .ref (ca)), (4, .int (nI i)), (5, .int (nI j)), (6, .int (nI U)), (7, .int (bi (alk σ i j)))]) S.1 S.2.1 dL_reads_274 hl (k := 9) rfl (nI_inc rfl) (by decide) rfl (fun ls hl => ?_)
                refine lv_goto (tgt := 150) S.1 S.2.1 dL_reads_277 (by decide) ?_
                exact ih_150 (k + 1) (by first | omega | exact Nat.zero_le _) (by omega) _ _ Z ls (lv_sub hl [2, 3, 4, 5, 6, 7, 8, 9, 1, 0] rfl)
              · skip
                have hal := hM.2.2.2.2.2 (k / 4) (by omega) (by rw [← tb_bitB (by omega)]; exact c_100)
                refine lv_aload_n S.1 S.2.1 dL_reads_174 rfl (lv_at hl 0 rfl) ?_
                refine lv_iload S.1 S.2.1 dL_reads_175 (lv_at hl 4 rfl) ?_
                refine lv_iload S.1 S.2.1 dL_reads_177 (lv_at hl 9 rfl) ?_
                refine lv_iconst (v := nI 4) S.1 S.2.1 dL_reads_179 (by decide) ?_
                refine r_divN S (by omega) (by decide) (by decide) dL_reads_180 ?_
                refine lv_iload S.1 S.2.1 dL_reads_181 (lv_at hl 9 rfl) ?_
                refine lv_iconst (v := nI 4) S.1 S.2.1 dL_reads_183 (by decide) ?_
                refine r_remN S (by omega) (by decide) (by decide) dL_reads_184 ?_
                refine vp_callSi (va_runV (As := [.int (nI i), .int (nI (k / 4)), .int (nI (k % 4))]) (rest := []) S (kr_stampAt l G τ_72 ((((ca, cA G m) :: []))) o τ_72 i (k / 4) (k % 4) Sm_rf (by omega) (by omega) (by omega)) (cwV 3 S.2.2.2.2 gL_reads_X7_stampAt rfl rfl rfl ⟨rfl, hy_X7_stampAt⟩ ⟨Nat.le_of_ble_eq_true rfl, Nat.le_of_ble_eq_true rfl⟩) (wPc_V (q := (RX7, TX7, 7)) Z (by decide) rfl rfl) rfl rfl hl.1 rfl (lv_room (Nat.le_of_ble_eq_true rfl)) dL_reads_185 ⟨Nat.le_of_ble_eq_true rfl, Nat.le_of_ble_eq_true rfl⟩).run (fun r_101 h_102 => ?_)
                rw [h_102]; clear h_102 r_101
                refine lv_aload_n S.1 S.2.1 dL_reads_188 rfl (lv_at hl 0 rfl) ?_
                refine lv_iload S.1 S.2.1 dL_reads_189 (lv_at hl 5 rfl) ?_
                refine lv_iload S.1 S.2.1 dL_reads_191 (lv_at hl 9 rfl) ?_
                refine lv_iconst (v := nI 4) S.1 S.2.1 dL_reads_193 (by decide) ?_
                refine r_divN S (by omega) (by decide) (by decide) dL_reads_194 ?_
                refine lv_iload S.1 S.2.1 dL_reads_195 (lv_at hl 9 rfl) ?_
                refine lv_iconst (v := nI 4) S.1 S.2.1 dL_reads_197 (by decide) ?_
                refine r_remN S (by omega) (by decide) (by decide) dL_reads_198 ?_
                refine vp_callSi (va_runV (As := [.int (nI j), .int (nI (k / 4)), .int (nI (k % 4))]) (rest := [.int ((sE τ_72 i ((k / 4) * 4 + (k % 4))).1)]) S (kr_stampAt l G τ_72 ((((ca, cA G m) :: []))) o τ_72 j (k / 4) (k % 4) Sm_rf (by omega) (by omega) (by omega)) (cwV 3 S.2.2.2.2 gL_reads_X7_stampAt rfl rfl rfl ⟨rfl, hy_X7_stampAt⟩ ⟨Nat.le_of_ble_eq_true rfl, Nat.le_of_ble_eq_true rfl⟩) (wPc_V (q := (RX7, TX7, 7)) Z (by decide) rfl rfl) rfl rfl hl.1 rfl (lv_room (Nat.le_of_ble_eq_true rfl)) dL_reads_199 ⟨Nat.le_of_ble_eq_true rfl, Nat.le_of_ble_eq_true rfl⟩).run (fun r_103 h_104 => ?_)
                rw [h_104]; clear h_104 r_103
                refine lv_icmp_ne (tgt := 271) S.1 S.2.1 dL_reads_202 (by decide) (fun c_105 => absurd c_105 (by exact not_not_intro (congrArg (fun z => z.1) (hal.1 _ (by unfold rowK; omega))))) (fun c_105 => ?_)
                refine lv_aload_n S.1 S.2.1 dL_reads_205 rfl (lv_at hl 0 rfl) ?_
                refine lv_iload S.1 S.2.1 dL_reads_206 (lv_at hl 4 rfl) ?_
                refine lv_iload S.1 S.2.1 dL_reads_208 (lv_at hl 9 rfl) ?_
                refine lv_iconst (v := nI 4) S.1 S.2.1 dL_reads_210 (by decide) ?_
                refine r_divN S (by omega) (by decide) (by decide) dL_reads_211 ?_
                refine lv_iload S.1 S.2.1 dL_reads_212 (lv_at hl 9 rfl) ?_
                refine lv_iconst (v := nI 4) S.1 S.2.1 dL_reads_214 (by decide) ?_
                refine r_remN S (by omega) (by decide) (by decide) dL_reads_215 ?_
                refine vp_callSi (va_runV (As := [.int (nI i), .int (nI (k / 4)), .int (nI (k % 4))]) (rest := []) S (kr_buriedBy l G τ_72 ((((ca, cA G m) :: []))) o τ_72 i (k / 4) (k % 4) Sm_rf (by omega) (by omega) (by omega)) (cwV 3 S.2.2.2.2 gL_reads_X7_buriedBy rfl rfl rfl ⟨rfl, hy_X7_buriedBy⟩ ⟨Nat.le_of_ble_eq_true rfl, Nat.le_of_ble_eq_true rfl⟩) (wPc_V (q := (RX7, TX7, 7)) Z (by decide) rfl rfl) rfl rfl hl.1 rfl (lv_room (Nat.le_of_ble_eq_true rfl)) dL_reads_216 ⟨Nat.le_of_ble_eq_true rfl, Nat.le_of_ble_eq_true rfl⟩).run (fun r_106 h_107 => ?_)
                rw [h_107]; clear h_107 r_106
                refine lv_aload_n S.1 S.2.1 dL_reads_219 rfl (lv_at hl 0 rfl) ?_
                refine lv_iload S.1 S.2.1 dL_reads_220 (lv_at hl 5 rfl) ?_
                refine lv_iload S.1 S.2.1 dL_reads_222 (lv_at hl 9 rfl) ?_
                refine lv_iconst (v := nI 4) S.1 S.2.1 dL_reads_224 (by decide) ?_
                refine r_divN S (by omega) (by decide) (by decide) dL_reads_225 ?_
                refine lv_iload S.1 S.2.1 dL_reads_226 (lv_at hl 9 rfl) ?_
                refine lv_iconst (v := nI 4) S.1 S.2.1 dL_reads_228 (by decide) ?_
                refine r_remN S (by omega) (by decide) (by decide) dL_reads_229 ?_
                refine vp_callSi (va_runV (As := [.int (nI j), .int (nI (k / 4)), .int (nI (k % 4))]) (rest := [.int (gB τ_72 i (k / 4) (k % 4))]) S (kr_buriedBy l G τ_72 ((((ca, cA G m) :: []))) o τ_72 j (k / 4) (k % 4) Sm_rf (by omega) (by omega) (by omega)) (cwV 3 S.2.2.2.2 gL_reads_X7_buriedBy rfl rfl rfl ⟨rfl, hy_X7_buriedBy⟩ ⟨Nat.le_of_ble_eq_true rfl, Nat.le_of_ble_eq_true rfl⟩) (wPc_V (q := (RX7, TX7, 7)) Z (by decide) rfl rfl) rfl rfl hl.1 rfl (lv_room (Nat.le_of_ble_eq_true rfl)) dL_reads_230 ⟨Nat.le_of_ble_eq_true rfl, Nat.le_of_ble_eq_true rfl⟩).run (fun r_108 h_109 => ?_)
                rw [h_109]; clear h_109 r_108
                refine lv_icmp_ne (tgt := 271) S.1 S.2.1 dL_reads_233 (by decide) (fun c_110 => absurd c_110 (by exact not_not_intro (gB_cg (fun _ => Iff.rfl) (fun p hp => congrArg (fun z => z.1) (hal.2 p ⟨k % 4, by omega, hp⟩))))) (fun c_110 => ?_)
                refine lv_aload_n S.1 S.2.1 dL_reads_236 rfl (lv_at hl 0 rfl) ?_
                refine lv_iload S.1 S.2.1 dL_reads_237 (lv_at hl 4 rfl) ?_
                refine lv_iload S.1 S.2.1 dL_reads_239 (lv_at hl 9 rfl) ?_
                refine lv_iconst (v := nI 4) S.1 S.2.1 dL_reads_241 (by decide) ?_
                refine r_divN S (by omega) (by decide) (by decide) dL_reads_242 ?_
                refine lv_iload S.1 S.2.1 dL_reads_243 (lv_at hl 9 rfl) ?_
                refine lv_iconst (v := nI 4) S.1 S.2.1 dL_reads_245 (by decide) ?_
                refine r_remN S (by omega) (by decide) (by decide) dL_reads_246 ?_
                refine vp_callSi (va_runV (As := [.int (nI i), .int (nI (k / 4)), .int (nI (k % 4))]) (rest := []) S (kr_valueAt l G τ_72 ((((ca, cA G m) :: []))) o τ_72 i (k / 4) (k % 4) Sm_rf (by omega) (by omega) (by omega)) (cwV 3 S.2.2.2.2 gL_reads_X7_valueAt rfl rfl rfl ⟨rfl, hy_X7_valueAt⟩ ⟨Nat.le_of_ble_eq_true rfl, Nat.le_of_ble_eq_true rfl⟩) (wPc_V (q := (RX7, TX7, 7)) Z (by decide) rfl rfl) rfl rfl hl.1 rfl (lv_room (Nat.le_of_ble_eq_true rfl)) dL_reads_247 ⟨Nat.le_of_ble_eq_true rfl, Nat.le_of_ble_eq_true rfl⟩).run (fun r_111 h_112 => ?_)
                rw [h_112]; clear h_112 r_111
                refine lv_aload_n S.1 S.2.1 dL_reads_250 rfl (lv_at hl 0 rfl) ?_
                refine lv_iload S.1 S.2.1 dL_reads_251 (lv_at hl 5 rfl) ?_
                refine lv_iload S.1 S.2.1 dL_reads_253 (lv_at hl 9 rfl) ?_
                refine lv_iconst (v := nI 4) S.1 S.2.1 dL_reads_255 (by decide) ?_
                refine r_divN S (by omega) (by decide) (by decide) dL_reads_256 ?_
                refine lv_iload S.1 S.2.1 dL_reads_257 (lv_at hl 9 rfl) ?_
                refine lv_iconst (v := nI 4) S.1 S.2.1 dL_reads_259 (by decide) ?_
                refine r_remN S (by omega) (by decide) (by decide) dL_reads_260 ?_
                refine vp_callSi (va_runV (As := [.int (nI j), .int (nI (k / 4)), .int (nI (k % 4))]) (rest := [.int (visV τ_72 i (k / 4) (k % 4) (cV τ_72 4))]) S (kr_valueAt l G τ_72 ((((ca, cA G m) :: []))) o τ_72 j (k / 4) (k % 4) Sm_rf (by omega) (by omega) (by omega)) (cwV 3 S.2.2.2.2 gL_reads_X7_valueAt rfl rfl rfl ⟨rfl, hy_X7_valueAt⟩ ⟨Nat.le_of_ble_eq_true rfl, Nat.le_of_ble_eq_true rfl⟩) (wPc_V (q := (RX7, TX7, 7)) Z (by decide) rfl rfl) rfl rfl hl.1 rfl (lv_room (Nat.le_of_ble_eq_true rfl)) dL_reads_261 ⟨Nat.le_of_ble_eq_true rfl, Nat.le_of_ble_eq_true rfl⟩).run (fun r_113 h_114 => ?_)
                rw [h_114]; clear h_114 r_113
                refine lv_icmp_ne (tgt := 271) S.1 S.2.1 dL_reads_264 (by decide) (fun c_115 => absurd c_115 (by exact not_not_intro (vis_cg (hal.1 _ (by unfold rowK; omega)) (gB_cg (fun _ => Iff.rfl) (fun p hp => congrArg (fun z => z.1) (hal.2 p ⟨k % 4, by omega, hp⟩)))))) (fun c_115 => ?_)
                refine lv_iconst (v := nI 1) S.1 S.2.1 dL_reads_267 (by decide) ?_
                refine lv_goto (tgt := 272) S.1 S.2.1 dL_reads_268 (by decide) ?_
                refine lv_istore (lv' := [(8, .int (nI 1)), (0, .ref (gA G 0)), (1, .int (nI x)), (2, .int (nI y)), (3, .ref (ca)), (4, .int (nI i)), (5, .int (nI j)), (6, .int (nI U)), (7, .int (bi (alk σ i j))), (9, .int (nI k))]) S.1 S.2.1 dL_reads_272 hl (by decide) rfl (fun ls hl => ?_)
                refine lv_iinc (v := nI (k + 1)) (lv' := [(9, .int (nI (k + 1))), (8, .int (nI 1)), (0, .ref (gA G 0)), (1, .int (nI x)), (2, .int (nI y)), (3, .ref (ca)), (4, .int (nI i)), (5, .int (nI j)), (6, .int (nI U)), (7, .int (bi (alk σ i j)))]) S.1 S.2.1 dL_reads_274 hl (k := 9) rfl (nI_inc rfl) (by decide) rfl (fun ls hl => ?_)
                refine lv_goto (tgt := 150) S.1 S.2.1 dL_reads_277 (by decide) ?_
                exact ih_150 (k + 1) (by first | omega | exact Nat.zero_le _) (by omega) _ _ Z ls (lv_sub hl [2, 3, 4, 5, 6, 7, 8, 9, 1, 0] rfl)
        exact L_150 (64 - 0 + 1) 0 (by first | omega | exact Nat.zero_le _) (Nat.lt_succ_self _) _ _ Z ls (lv_sub hl [4, 5, 6, 7, 8, 9, 3, 2, 1, 0] rfl)
    · skip
      refine lv_iconst (v := nI 1) S.1 S.2.1 dL_reads_38 (by decide) ?_
      rw [hQ]
      exact W.zret (v := nI 1) S.1 S.2.1 hret rfl (fun _ hT9 hW => ⟨⟨_, (σ, (ca, cA G m) :: []), rfl, ⟨rfl, m, rfl, hLI0, by omega, by omega⟩, wZ_P Z hT9 hW⟩, Z.2.2.2.2.F hT9⟩) Z.2.2.2.2.2.2 dL_reads_39
  have q_116 : (nI ((x % 3 + 1 + y % 2) % 3) : Int32) = nI ((((x % 3) + 1) + (y % 2)) % 3) := by first | with_reducible rfl | (first | (simp []; done) | (simp []; omega) | (simp [← Int32.not_le]; done)) | exact congrArg nI (by omega) | rfl
  have hl : lv_has ls 15 [(0, .ref (gA G 0)), (1, .int (nI x)), (2, .int (nI y)), (3, .ref (ca)), (4, .int (nI (x % 3))), (5, .int (nI ((x % 3 + 1 + y % 2) % 3)))] := by
    have hl := lv_sub hl [2, 3, 4, 5, 1, 0] rfl
    rw [q_116]; exact hl
  exact L_17 (x % 3) ((x % 3 + 1 + y % 2) % 3) (by first | omega | exact Nat.zero_le _) (by first | omega | exact Nat.zero_le _) (by first | omega | exact Nat.zero_le _) _ _ Z ls (hl)
