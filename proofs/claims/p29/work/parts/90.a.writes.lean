theorem m_L_writes_arint : Cond.arrayClass .int ∈ wsL_writes := by decide +kernel
abbrev rm_k_L_writes : Room := { frames := 8, cells := 5, slots := 37, locals := 180 }
set_option maxHeartbeats 4000000 in
set_option maxRecDepth 100000 in
theorem k_L_writes (l : Launch) (G : wG) (σ : cS) (ca : Nat) (m : Nat → Nat) (o : Nat → Int64) (x : Nat) (y : Nat) (hx : x < 2 ^ 30) (hy : y < 2 ^ 30) (hLI : LI G σ m) (hm0 : m 0 ≤ 10000) (hm6 : m 6 ≤ 1000000) : Met l yL_writes wsL_writes rm_k_L_writes (wPc G σ ((ca, cA G m) :: []) o [.ref (gA G 0), .int (nI x), .int (nI y), .ref (ca)]) (va_Qi (fun (rr : Int32) (u : cS × mS) => rr = nI 1 ∧ SQ G ca m u) (fun u t => wI G u.1 u.2 o t) (gP G)) 5 37 (gP G) := by
  refine Met.ofW (cc := cL_writes) (maxL := 14) (ret := (some .boolean)) (by decide) rfl ?_
  intro p e s m9 args below meth c s₁ B hml hv
  obtain ⟨hargs, hI⟩ := hv
  have S : CallFix p m9 c cL_writes 14 s args wsL_writes RL := ⟨B.exec, B.bytes, hml, findClass_of_methodNamed B.named, atoms_spec (ws := wsL_writes) B.pre⟩
  have hret := B.returns
  have hlocks := B.notSynchronized
  have Z := wZ_0 hI
  clear hI
  obtain ⟨Q, hQ⟩ : ∃ Q, Q = MQ below (va_Qi (fun (rr : Int32) (u : cS × mS) => rr = nI 1 ∧ SQ G ca m u) (fun u t => wI G u.1 u.2 o t) (gP G)) args s 5 37 (gP G) := ⟨_, rfl⟩
  rw [← hQ]
  have hl := lv_entry [.ref (gA G 0), .int (nI x), .int (nI y), .ref (ca)] (n := 14) (Nat.le_of_ble_eq_true rfl)
  rw [show entryFrame m9 args 14 = entryFrame m9 ([.ref (gA G 0), .int (nI x), .int (nI y), .ref (ca)] : List Value).toArray 14 from by rw [hargs], lg_entry_eq]
  generalize (lg_sl [.ref (gA G 0), .int (nI x), .int (nI y), .ref (ca)] ++ List.replicate (14 - (lg_sl [.ref (gA G 0), .int (nI x), .int (nI y), .ref (ca)]).length) Slot.unset).toArray = ls at hl ⊢
  have hl : lv_has ls 14 [(0, .ref (gA G 0)), (1, .int (nI x)), (2, .int (nI y)), (3, .ref (ca))] := hl
  obtain ⟨L, nn, hK, h0, h1, h1b, h2, h5, h5b, h7, h7b, h8, h8b⟩ := hLI
  have hc8 : cpy m y < 8 := cpy_lt m y
  have hcu : cpy m y &&& m 5 < 8 := Nat.lt_of_le_of_lt Nat.and_le_left hc8
  have hlen : ∀ i, i < 3 → m (2 + i) ≤ 10 := fun i hi => by rw [h2 i hi]; exact (hK.1.1 i hi).1
  have hm3 := mny_le (cpy m y &&& m 5)
  have hP : ∀ i, i < 3 → ((bitB (nI (cpy m y)) i = true ∧ cU σ i = true) ↔ bitB (nI (cpy m y &&& m 5)) i = true) := fun i hi => bit_P hi h5b
  have e9 : sdN σ (nI (cpy m y)) 3 = mny (cpy m y &&& m 5) := sdN_mny hc8 h5 h5b
  have hs3 := sdN_le (σ := σ) (cs := nI (cpy m y)) 3
  refine lv_iload_n S.1 S.2.1 dL_writes_0 rfl (lv_at hl 1 rfl) ?_
  refine lv_bipush (v := nI 16) S.1 S.2.1 dL_writes_1 (by decide) ?_
  refine r_remN S (by omega) (by decide) (by decide) dL_writes_3 ?_
  refine lv_istore (lv' := [(4, .int (nI (x % 16))), (0, .ref (gA G 0)), (1, .int (nI x)), (2, .int (nI y)), (3, .ref (ca))]) S.1 S.2.1 dL_writes_4 hl (by decide) rfl (fun ls hl => ?_)
  refine lv_iload_n S.1 S.2.1 dL_writes_6 rfl (lv_at hl 2 rfl) ?_
  refine lv_bipush (v := nI 16) S.1 S.2.1 dL_writes_7 (by decide) ?_
  refine r_divN S (by omega) (by decide) (by decide) dL_writes_9 ?_
  refine lv_iconst (v := nI 4) S.1 S.2.1 dL_writes_10 (by decide) ?_
  refine r_remN S (by omega) (by decide) (by decide) dL_writes_11 ?_
  refine lv_istore (lv' := [(5, .int (nI ((x / 16) % 4))), (4, .int (nI (x % 16))), (0, .ref (gA G 0)), (1, .int (nI x)), (2, .int (nI y)), (3, .ref (ca))]) S.1 S.2.1 dL_writes_12 hl (by decide) rfl (fun ls hl => ?_)
  refine lv_aload_n S.1 S.2.1 dL_writes_14 rfl (lv_at hl 5 rfl) ?_
  refine lv_iload_n S.1 S.2.1 dL_writes_15 rfl (lv_at hl 4 rfl) ?_
  refine vp_callSi (va_runS (As := [.ref (ca), .int (nI y)]) (rest := []) S (k_L_copies l G σ ca m ([]) o y (by omega) (by omega)) (va_cwS 2 S.2.2.2.2 gL_writes_L_copies rfl rfl rfl hy_L_copies ⟨Nat.le_of_ble_eq_true rfl, Nat.le_of_ble_eq_true rfl⟩) (wPc_S Z) rfl rfl hl.1 rfl (lv_room (Nat.le_of_ble_eq_true rfl)) dL_writes_16 ⟨Nat.le_of_ble_eq_true rfl, Nat.le_of_ble_eq_true rfl⟩).run (fun r_1 h_2 => ?_)
  rw [h_2]; clear h_2 r_1
  refine lv_istore (lv' := [(6, .int (nI (cpy m y))), (5, .int (nI ((x / 16) % 4))), (4, .int (nI (x % 16))), (0, .ref (gA G 0)), (1, .int (nI x)), (2, .int (nI y)), (3, .ref (ca))]) S.1 S.2.1 dL_writes_19 hl (by decide) rfl (fun ls hl => ?_)
  refine lv_iload_n S.1 S.2.1 dL_writes_21 rfl (lv_at hl 5 rfl) ?_
  refine lv_bipush (v := nI 8) S.1 S.2.1 dL_writes_22 (by decide) ?_
  refine r_divN S (by omega) (by decide) (by decide) dL_writes_24 ?_
  refine lv_iconst (v := nI 5) S.1 S.2.1 dL_writes_25 (by decide) ?_
  refine r_remN S (by omega) (by decide) (by decide) dL_writes_26 ?_
  refine lv_istore (lv' := [(7, .int (nI ((y / 8) % 5))), (6, .int (nI (cpy m y))), (5, .int (nI ((x / 16) % 4))), (4, .int (nI (x % 16))), (0, .ref (gA G 0)), (1, .int (nI x)), (2, .int (nI y)), (3, .ref (ca))]) S.1 S.2.1 dL_writes_27 hl (by decide) rfl (fun ls hl => ?_)
  refine lv_iload_n S.1 S.2.1 dL_writes_29 rfl (lv_at hl 6 rfl) ?_
  refine lv_bipush (v := nI 40) S.1 S.2.1 dL_writes_30 (by decide) ?_
  refine r_divN S (by omega) (by decide) (by decide) dL_writes_32 ?_
  refine lv_bipush (v := nI 7) S.1 S.2.1 dL_writes_33 (by decide) ?_
  refine r_remN S (by omega) (by decide) (by decide) dL_writes_35 ?_
  refine lv_istore (lv' := [(8, .int (nI ((y / 40) % 7))), (7, .int (nI ((y / 8) % 5))), (6, .int (nI (cpy m y))), (5, .int (nI ((x / 16) % 4))), (4, .int (nI (x % 16))), (0, .ref (gA G 0)), (1, .int (nI x)), (2, .int (nI y)), (3, .ref (ca))]) S.1 S.2.1 dL_writes_36 hl (by decide) rfl (fun ls hl => ?_)
  have L_57 : ∀ (li : Nat) (hli : li ≤ 1000) (H : Heap) (locs : List Loc) (Z : wZ G (σ) ((ca, cA G m) :: []) o s H locs) (ls : Array Slot) (hl : lv_has ls 14 [(0, .ref (gA G 0)), (1, .int (nI x)), (2, .int (nI y)), (3, .ref (ca)), (4, .int (nI (x % 16))), (5, .int (nI ((x / 16) % 4))), (6, .int (nI (cpy m y))), (7, .int (nI ((y / 8) % 5))), (8, .int (nI ((y / 40) % 7)))]), W p l e (headSpec wsL_writes rm_k_L_writes).room s m9 args below meth c H locs 0 0 Q (F0 m9 57 ls [.int (nI li)]) := by
    intro li hli H locs Z ls hl
    refine lv_istore (lv' := [(9, .int (nI li)), (0, .ref (gA G 0)), (1, .int (nI x)), (2, .int (nI y)), (3, .ref (ca)), (4, .int (nI (x % 16))), (5, .int (nI ((x / 16) % 4))), (6, .int (nI (cpy m y))), (7, .int (nI ((y / 8) % 5))), (8, .int (nI ((y / 40) % 7)))]) S.1 S.2.1 dL_writes_57 hl (by decide) rfl (fun ls hl => ?_)
    refine lv_iconst (v := nI 3) S.1 S.2.1 dL_writes_59 (by decide) ?_
    refine r_newA (n := 3) S Z (by decide) m_L_writes_arint (by decide) (by decide) dL_writes_60 (fun q1 H Z => ?_)
    have Z : wZ G (σ) ((ca, cA G m) :: [(q1, iA G 3 (fun _ => 0))]) o s H locs := Z
    refine lv_astore (lv' := [(10, .ref (q1)), (9, .int (nI li)), (0, .ref (gA G 0)), (1, .int (nI x)), (2, .int (nI y)), (3, .ref (ca)), (4, .int (nI (x % 16))), (5, .int (nI ((x / 16) % 4))), (6, .int (nI (cpy m y))), (7, .int (nI ((y / 8) % 5))), (8, .int (nI ((y / 40) % 7)))]) S.1 S.2.1 dL_writes_62 hl (by decide) rfl (fun ls hl => ?_)
    refine lv_iconst (v := nI 0) S.1 S.2.1 dL_writes_64 (by decide) ?_
    refine lv_istore (lv' := [(11, .int (nI 0)), (10, .ref (q1)), (9, .int (nI li)), (0, .ref (gA G 0)), (1, .int (nI x)), (2, .int (nI y)), (3, .ref (ca)), (4, .int (nI (x % 16))), (5, .int (nI ((x / 16) % 4))), (6, .int (nI (cpy m y))), (7, .int (nI ((y / 8) % 5))), (8, .int (nI ((y / 40) % 7)))]) S.1 S.2.1 dL_writes_65 hl (by decide) rfl (fun ls hl => ?_)
    have L_67 : ∀ (n : Nat) (k : Nat) (hk : k ≤ 3) (hn : 3 - k < n) (H : Heap) (locs : List Loc) (Z : wZ G (σ) ((ca, cA G m) :: [(q1, iA G 3 (fa_fill (fun j => (sE σ j (x % 16 * 4 + x / 16 % 4)).1) (fun _ => 0) k))]) o s H locs) (ls : Array Slot) (hl : lv_has ls 14 [(0, .ref (gA G 0)), (1, .int (nI x)), (2, .int (nI y)), (3, .ref (ca)), (4, .int (nI (x % 16))), (5, .int (nI ((x / 16) % 4))), (6, .int (nI (cpy m y))), (7, .int (nI ((y / 8) % 5))), (8, .int (nI ((y / 40) % 7))), (9, .int (nI li)), (10, .ref (q1)), (11, .int (nI k))]), W p l e (headSpec wsL_writes rm_k_L_writes).room s m9 args below meth c H locs 1 3 Q (F0 m9 67 ls []) := by
      intro n
      induction n with
      | zero => intro k hk hn; omega
      | succ n ih_67 =>
        intro k hk hn H locs Z ls hl
        refine lv_iload S.1 S.2.1 dL_writes_67 (lv_at hl 11 rfl) ?_
        refine lv_iconst (v := nI 3) S.1 S.2.1 dL_writes_69 (by decide) ?_
        refine r_icmpN_ge S (tgt := 94) (by omega) (by omega) dL_writes_70 (by decide) (fun c_3 => ?_) (fun c_3 => ?_)
        · skip
          obtain rfl : k = 3 := by omega
          refine lv_aload_n S.1 S.2.1 dL_writes_94 rfl (lv_at hl 0 rfl) ?_
          refine lv_iload S.1 S.2.1 dL_writes_95 (lv_at hl 6 rfl) ?_
          refine lv_iload S.1 S.2.1 dL_writes_97 (lv_at hl 4 rfl) ?_
          refine lv_iload S.1 S.2.1 dL_writes_99 (lv_at hl 5 rfl) ?_
          refine lv_iload S.1 S.2.1 dL_writes_101 (lv_at hl 7 rfl) ?_
          refine lv_iload S.1 S.2.1 dL_writes_103 (lv_at hl 8 rfl) ?_
          refine lv_iload S.1 S.2.1 dL_writes_105 (lv_at hl 9 rfl) ?_
          refine va_calli (va_runV (As := [.int (nI (cpy m y)), .int (nI (x % 16)), .int (nI ((x / 16) % 4)), .int (nI ((y / 8) % 5)), .int (nI ((y / 40) % 7)), .int (nI li)]) (rest := []) S (k_X7_write l G σ ((ca, cA G m) :: [(q1, iA G 3 (fa_fill (fun j => (sE σ j (x % 16 * 4 + x / 16 % 4)).1) (fun _ => 0) 3))]) o (cpy m y) (x % 16) ((x / 16) % 4) ((y / 8) % 5) ((y / 40) % 7) li L (by omega) (by omega) (by omega) (by omega) (by omega) (by omega) hK.1) (cwV 6 S.2.2.2.2 gL_writes_X7_write rfl rfl rfl ⟨rfl, hy_X7_write⟩ ⟨Nat.le_of_ble_eq_true rfl, Nat.le_of_ble_eq_true rfl⟩) (wPc_V (q := (RX7, TX7, 7)) Z (by decide) rfl rfl) rfl rfl hl.1 rfl (lv_room (Nat.le_of_ble_eq_true rfl)) dL_writes_107 ⟨Nat.le_of_ble_eq_true rfl, Nat.le_of_ble_eq_true rfl⟩) Z.2.2.2.2 (fun _ _ h => h) (fun _ h => h) (fun r_4 u_5 T9 H1 locs1 hT9 hvm hw hB hz hk9 hS => ?_)
          obtain ⟨τ_6, μ9⟩ := u_5
          obtain ⟨hr9, hm9, hp9⟩ := hw
          have hm9 : ((ca, cA G m) :: [(q1, iA G 3 (fa_fill (fun j => (sE σ j (x % 16 * 4 + x / 16 % 4)).1) (fun _ => 0) 3))]) = μ9 := hm9.symm
          subst hm9
          have hp_7 : sc τ_6 (sdS σ ((x % 16) * 4 + ((x / 16) % 4), nI ((y / 40) % 7), nI ((y / 8) % 5), enW σ li) (nI (cpy m y)) 3) ∧ HI G τ_6 (sdLL σ (nI (cpy m y)) ((x % 16) * 4 + ((x / 16) % 4), nI ((y / 40) % 7), nI ((y / 8) % 5), enW σ li) L) := hp9
          clear hp9
          rw [hr9]; clear hr9 r_4
          have Z : wZ G (τ_6) (((ca, cA G m) :: [(q1, iA G 3 (fa_fill (fun j => (sE σ j (x % 16 * 4 + x / 16 % 4)).1) (fun _ => 0) 3))])) o s H1 locs1 := wZ_callP Z hB hT9 hS
          clear hB hT9 hS hk9 hz hvm T9
          revert Z; generalize H1 = H; generalize locs1 = locs; intro Z
          refine W.widen (k := 5) (n := 37) (by first | decide | omega) (by first | decide | omega) ?_
          refine lv_iload S.1 S.2.1 dL_writes_110 (lv_at hl 6 rfl) ?_
          refine lv_aload_n S.1 S.2.1 dL_writes_112 rfl (lv_at hl 3 rfl) ?_
          refine lv_iconst (v := nI 5) S.1 S.2.1 dL_writes_113 (by decide) ?_
          refine r_ldc S Z (by omega) dL_writes_114 ?_
          refine r_andN S dL_writes_115 ?_
          refine vp_callSi (va_runS (As := [.int (nI (cpy m y &&& m 5))]) (rest := [.int (nI (sdN σ (nI (cpy m y)) 3))]) S (k_L_many l G τ_6 (((ca, cA G m) :: [(q1, iA G 3 (fa_fill (fun j => (sE σ j (x % 16 * 4 + x / 16 % 4)).1) (fun _ => 0) 3))])) o ((cpy m y &&& m 5)) hcu) (va_cwS 1 S.2.2.2.2 gL_writes_L_many rfl rfl rfl hy_L_many ⟨Nat.le_of_ble_eq_true rfl, Nat.le_of_ble_eq_true rfl⟩) (wPc_S Z) rfl rfl hl.1 rfl (lv_room (Nat.le_of_ble_eq_true rfl)) dL_writes_116 ⟨Nat.le_of_ble_eq_true rfl, Nat.le_of_ble_eq_true rfl⟩).run (fun r_8 h_9 => ?_)
          rw [h_9]; clear h_9 r_8
          refine r_icmpN_ne S (tgt := 126) (by omega) (by omega) dL_writes_119 (by decide) (fun c_10 => absurd c_10 (by exact not_not_intro e9)) (fun c_10 => ?_)
          refine lv_iconst (v := nI 1) S.1 S.2.1 dL_writes_122 (by decide) ?_
          refine lv_goto (tgt := 127) S.1 S.2.1 dL_writes_123 (by decide) ?_
          refine lv_istore (lv' := [(11, .int (nI 1)), (0, .ref (gA G 0)), (1, .int (nI x)), (2, .int (nI y)), (3, .ref (ca)), (4, .int (nI (x % 16))), (5, .int (nI ((x / 16) % 4))), (6, .int (nI (cpy m y))), (7, .int (nI ((y / 8) % 5))), (8, .int (nI ((y / 40) % 7))), (9, .int (nI li)), (10, .ref (q1))]) S.1 S.2.1 dL_writes_127 hl (by decide) rfl (fun ls hl => ?_)
          refine lv_iconst (v := nI 0) S.1 S.2.1 dL_writes_129 (by decide) ?_
          refine lv_istore (lv' := [(12, .int (nI 0)), (11, .int (nI 1)), (0, .ref (gA G 0)), (1, .int (nI x)), (2, .int (nI y)), (3, .ref (ca)), (4, .int (nI (x % 16))), (5, .int (nI ((x / 16) % 4))), (6, .int (nI (cpy m y))), (7, .int (nI ((y / 8) % 5))), (8, .int (nI ((y / 40) % 7))), (9, .int (nI li)), (10, .ref (q1))]) S.1 S.2.1 dL_writes_130 hl (by decide) rfl (fun ls hl => ?_)
          have L_132 : ∀ (n : Nat) (i : Nat) (hi : i ≤ 3) (hn : 3 - i < n) (H : Heap) (locs : List Loc) (Z : wZ G (τ_6) (((ca, cA G m) :: [(q1, iA G 3 (fa_fill (fun j => (sE σ j (x % 16 * 4 + x / 16 % 4)).1) (fun _ => 0) 3))])) o s H locs) (ls : Array Slot) (hl : lv_has ls 14 [(0, .ref (gA G 0)), (1, .int (nI x)), (2, .int (nI y)), (3, .ref (ca)), (4, .int (nI (x % 16))), (5, .int (nI ((x / 16) % 4))), (6, .int (nI (cpy m y))), (7, .int (nI ((y / 8) % 5))), (8, .int (nI ((y / 40) % 7))), (9, .int (nI li)), (10, .ref (q1)), (11, .int (nI 1)), (12, .int (nI i))]), W p l e (headSpec wsL_writes rm_k_L_writes).room s m9 args below meth c H locs 5 37 Q (F0 m9 132 ls []) := by
            intro n
            induction n with
            | zero => intro i hi hn; omega
            | succ n ih_132 =>
              intro i hi hn H locs Z ls hl
              refine lv_iload S.1 S.2.1 dL_writes_132 (lv_at hl 12 rfl) ?_
              refine lv_iconst (v := nI 3) S.1 S.2.1 dL_writes_134 (by decide) ?_
              refine r_icmpN_ge S (tgt := 216) (by omega) (by omega) dL_writes_135 (by decide) (fun c_11 => ?_) (fun c_11 => ?_)
              · skip
                obtain rfl : i = 3 := by omega
                refine lv_aload_n S.1 S.2.1 dL_writes_216 rfl (lv_at hl 3 rfl) ?_
                refine lv_iload S.1 S.2.1 dL_writes_217 (lv_at hl 6 rfl) ?_
                refine va_callv (va_runS (As := [.ref (ca), .int (nI (cpy m y))]) (rest := []) S (k_L_hints l G τ_6 ca m ([(q1, iA G 3 (fa_fill (fun j => (sE σ j (x % 16 * 4 + x / 16 % 4)).1) (fun _ => 0) 3))]) o ((cpy m y)) hc8 hlen (by omega) (by omega)) (va_cwS 2 S.2.2.2.2 gL_writes_L_hints rfl rfl rfl hy_L_hints ⟨Nat.le_of_ble_eq_true rfl, Nat.le_of_ble_eq_true rfl⟩) (wPc_S Z) rfl rfl hl.1 rfl (lv_room (Nat.le_of_ble_eq_true rfl)) dL_writes_219 ⟨Nat.le_of_ble_eq_true rfl, Nat.le_of_ble_eq_true rfl⟩) Z.2.2.2.2 (fun _ _ h => h) (fun _ h => h) (fun u_13 T9 H1 locs1 hT9 hvm hw hB hz hk9 hS => ?_)
                obtain ⟨τ_14, μ9⟩ := u_13
                obtain ⟨he9, mh_15, hm9, hN_16⟩ := hw
                have he9 : τ_14 = τ_6 := he9
                rw [he9] at hB
                have hm9 : μ9 = (ca, cA G mh_15) :: [(q1, iA G 3 (fa_fill (fun j => (sE σ j (x % 16 * 4 + x / 16 % 4)).1) (fun _ => 0) 3))] := hm9
                rw [hm9] at hB
                have Z : wZ G (τ_6) ((ca, cA G mh_15) :: [(q1, iA G 3 (fa_fill (fun j => (sE σ j (x % 16 * 4 + x / 16 % 4)).1) (fun _ => 0) 3))]) o s H1 locs1 := wZ_callP Z hB hT9 hS
                clear hB hT9 hS hk9 hz hvm T9
                revert Z; generalize H1 = H; generalize locs1 = locs; intro Z
                refine W.widen (k := 5) (n := 37) (by first | decide | omega) (by first | decide | omega) ?_
                refine lv_iload S.1 S.2.1 dL_writes_222 (lv_at hl 11 rfl) ?_
                have Z := wZ_drop (μ' := (ca, cA G mh_15) :: []) Z (List.Sublist.cons_cons _ (List.nil_sublist _))
                rw [hQ]
                exact W.zret (v := nI 1) S.1 S.2.1 hret rfl (fun _ hT9 hW => ⟨⟨_, (τ_6, (ca, cA G mh_15) :: []), rfl, ⟨rfl, mh_15, rfl, LI_send hK rfl id (okN_write (by omega) (by omega) (by omega) (by omega) h0 hm0) hp_7.1 hp_7.2 h0 h1 h1b h2 h5 h5b h7 h7b h8 h8b hN_16 (fun z => by unfold cpy; rw [if_pos z]), by have := hN_16.1; omega, by have := hN_16.2.2.2.2.2.2.1; omega⟩, wZ_P Z hT9 hW⟩, Z.2.2.2.2.F hT9⟩) Z.2.2.2.2.2.2 dL_writes_224
              · skip
                refine lv_iload S.1 S.2.1 dL_writes_138 (lv_at hl 6 rfl) ?_
                refine lv_aload_n S.1 S.2.1 dL_writes_140 rfl (lv_at hl 3 rfl) ?_
                refine lv_iconst (v := nI 5) S.1 S.2.1 dL_writes_141 (by decide) ?_
                refine r_ldc S Z (by omega) dL_writes_142 ?_
                refine r_andN S dL_writes_143 ?_
                refine lv_iload S.1 S.2.1 dL_writes_144 (lv_at hl 12 rfl) ?_
                refine lv_ishr S.1 S.2.1 dL_writes_146 ?_
                refine lv_iconst (v := nI 1) S.1 S.2.1 dL_writes_147 (by decide) ?_
                refine lv_iand S.1 S.2.1 dL_writes_148 ?_
                rw [bitB_sh (x := nI (cpy m y &&& m 5)) (r := i) (by omega)]
                refine lv_iconst (v := nI 1) S.1 S.2.1 dL_writes_149 (by decide) ?_
                refine r_b1_ne S (tgt := 157) dL_writes_150 (by decide) (fun c_17 => ?_) (fun c_17 => ?_)
                · skip
                  refine lv_iconst (v := nI 0) S.1 S.2.1 dL_writes_157 (by decide) ?_
                  refine lv_istore (lv' := [(13, .int (nI 0)), (0, .ref (gA G 0)), (1, .int (nI x)), (2, .int (nI y)), (3, .ref (ca)), (4, .int (nI (x % 16))), (5, .int (nI ((x / 16) % 4))), (6, .int (nI (cpy m y))), (7, .int (nI ((y / 8) % 5))), (8, .int (nI ((y / 40) % 7))), (9, .int (nI li)), (10, .ref (q1)), (11, .int (nI 1)), (12, .int (nI i))]) S.1 S.2.1 dL_writes_158 hl (by decide) rfl (fun ls hl => ?_)
                  refine lv_iload S.1 S.2.1 dL_writes_160 (lv_at hl 12 rfl) ?_
                  refine r_if_eqN S (tgt := 207) (by decide) dL_writes_162 (by decide) (fun c_18 => absurd c_18 (by decide)) (fun c_18 => ?_)
                  refine lv_aload_n S.1 S.2.1 dL_writes_165 rfl (lv_at hl 1 rfl) ?_
                  refine lv_iload S.1 S.2.1 dL_writes_166 (lv_at hl 13 rfl) ?_
                  refine lv_iload S.1 S.2.1 dL_writes_168 (lv_at hl 5 rfl) ?_
                  refine lv_iload S.1 S.2.1 dL_writes_170 (lv_at hl 6 rfl) ?_
                  refine vp_callSi (va_runV (As := [.int (nI i), .int (nI (x % 16)), .int (nI ((x / 16) % 4))]) (rest := []) S (kr_stampAt l G τ_6 (((ca, cA G m) :: [(q1, iA G 3 (fa_fill (fun j => (sE σ j (x % 16 * 4 + x / 16 % 4)).1) (fun _ => 0) 3))])) o τ_6 i (x % 16) ((x / 16) % 4) Sm_rf (by omega) (by omega) (by omega)) (cwV 3 S.2.2.2.2 gL_writes_X7_stampAt rfl rfl rfl ⟨rfl, hy_X7_stampAt⟩ ⟨Nat.le_of_ble_eq_true rfl, Nat.le_of_ble_eq_true rfl⟩) (wPc_V (q := (RX7, TX7, 7)) Z (by decide) rfl rfl) rfl rfl hl.1 rfl (lv_room (Nat.le_of_ble_eq_true rfl)) dL_writes_172 ⟨Nat.le_of_ble_eq_true rfl, Nat.le_of_ble_eq_true rfl⟩).run (fun r_19 h_20 => ?_)
                  rw [h_20]; clear h_20 r_19
                  refine lv_iload S.1 S.2.1 dL_writes_175 (lv_at hl 0 rfl) ?_
                  refine r_if_eqN S (tgt := 195) (by decide) dL_writes_177 (by decide) (fun c_21 => ?_) (fun c_21 => absurd c_21 (by decide))
                  refine lv_aload S.1 S.2.1 dL_writes_195 (lv_at hl 11 rfl) ?_
                  refine lv_iload S.1 S.2.1 dL_writes_197 (lv_at hl 13 rfl) ?_
                  refine r_ldA (q := 0) (n := 3) S Z rfl (by omega) (by decide) dL_writes_199 ?_
                  rw [fa_fill_in (by omega)]
                  refine lv_icmp_ne (tgt := 207) S.1 S.2.1 dL_writes_200 (by decide) (fun c_22 => absurd c_22 (by exact not_not_intro (wr_3 (send_st hp_7.1 (by omega) (by omega)) (fun z => by rw [(hP i (by omega)).mp z] at c_17; exact absurd c_17 (by decide))))) (fun c_22 => ?_)
                  refine lv_iconst (v := nI 1) S.1 S.2.1 dL_writes_203 (by decide) ?_
                  refine lv_goto (tgt := 208) S.1 S.2.1 dL_writes_204 (by decide) ?_
                  refine lv_istore (lv' := [(11, .int (nI 1)), (13, .int (nI 0)), (0, .ref (gA G 0)), (1, .int (nI x)), (2, .int (nI y)), (3, .ref (ca)), (4, .int (nI (x % 16))), (5, .int (nI ((x / 16) % 4))), (6, .int (nI (cpy m y))), (7, .int (nI ((y / 8) % 5))), (8, .int (nI ((y / 40) % 7))), (9, .int (nI li)), (10, .ref (q1)), (12, .int (nI i))]) S.1 S.2.1 dL_writes_208 hl (by decide) rfl (fun ls hl => ?_)
                  refine lv_iinc (v := nI (i + 1)) (lv' := [(12, .int (nI (i + 1))), (11, .int (nI 1)), (13, .int (nI 0)), (0, .ref (gA G 0)), (1, .int (nI x)), (2, .int (nI y)), (3, .ref (ca)), (4, .int (nI (x % 16))), (5, .int (nI ((x / 16) % 4))), (6, .int (nI (cpy m y))), (7, .int (nI ((y / 8) % 5))), (8, .int (nI ((y / 40) % 7))), (9, .int (nI li)), (10, .ref (q1))]) S.1 S.2.1 dL_writes_210 hl (k := 13) rfl (nI_inc rfl) (by decide) rfl (fun ls hl => ?_)
                  refine lv_goto (tgt := 132) S.1 S.2.1 dL_writes_213 (by decide) ?_
                  exact ih_132 (i + 1) (by first | omega | exact Nat.zero_le _) (by omega) _ _ Z ls (lv_sub hl [3, 4, 5, 6, 7, 8, 9, 10, 11, 12, 13, 1, 0] rfl)
                · skip
                  refine lv_iconst (v := nI 1) S.1 S.2.1 dL_writes_153 (by decide) ?_
                  refine lv_goto (tgt := 158) S.1 S.2.1 dL_writes_154 (by decide) ?_
                  refine lv_istore (lv' := [(13, .int (nI 1)), (0, .ref (gA G 0)), (1, .int (nI x)), (2, .int (nI y)), (3, .ref (ca)), (4, .int (nI (x % 16))), (5, .int (nI ((x / 16) % 4))), (6, .int (nI (cpy m y))), (7, .int (nI ((y / 8) % 5))), (8, .int (nI ((y / 40) % 7))), (9, .int (nI li)), (10, .ref (q1)), (11, .int (nI 1)), (12, .int (nI i))]) S.1 S.2.1 dL_writes_158 hl (by decide) rfl (fun ls hl => ?_)
                  refine lv_iload S.1 S.2.1 dL_writes_160 (lv_at hl 12 rfl) ?_
                  refine r_if_eqN S (tgt := 207) (by decide) dL_writes_162 (by decide) (fun c_23 => absurd c_23 (by decide)) (fun c_23 => ?_)
                  refine lv_aload_n S.1 S.2.1 dL_writes_165 rfl (lv_at hl 1 rfl) ?_
                  refine lv_iload S.1 S.2.1 dL_writes_166 (lv_at hl 13 rfl) ?_
                  refine lv_iload S.1 S.2.1 dL_writes_168 (lv_at hl 5 rfl) ?_
                  refine lv_iload S.1 S.2.1 dL_writes_170 (lv_at hl 6 rfl) ?_
                  refine vp_callSi (va_runV (As := [.int (nI i), .int (nI (x % 16)), .int (nI ((x / 16) % 4))]) (rest := []) S (kr_stampAt l G τ_6 (((ca, cA G m) :: [(q1, iA G 3 (fa_fill (fun j => (sE σ j (x % 16 * 4 + x / 16 % 4)).1) (fun _ => 0) 3))])) o τ_6 i (x % 16) ((x / 16) % 4) Sm_rf (by omega) (by omega) (by omega)) (cwV 3 S.2.2.2.2 gL_writes_X7_stampAt rfl rfl rfl ⟨rfl, hy_X7_stampAt⟩ ⟨Nat.le_of_ble_eq_true rfl, Nat.le_of_ble_eq_true rfl⟩) (wPc_V (q := (RX7, TX7, 7)) Z (by decide) rfl rfl) rfl rfl hl.1 rfl (lv_room (Nat.le_of_ble_eq_true rfl)) dL_writes_172 ⟨Nat.le_of_ble_eq_true rfl, Nat.le_of_ble_eq_true rfl⟩).run (fun r_24 h_25 => ?_)
                  rw [h_25]; clear h_25 r_24
                  refine lv_iload S.1 S.2.1 dL_writes_175 (lv_at hl 0 rfl) ?_
                  refine r_if_eqN S (tgt := 195) (by decide) dL_writes_177 (by decide) (fun c_26 => absurd c_26 (by decide)) (fun c_26 => ?_)
                  refine lv_iload S.1 S.2.1 dL_writes_180 (lv_at hl 9 rfl) ?_
                  refine lv_aload S.1 S.2.1 dL_writes_182 (lv_at hl 11 rfl) ?_
                  refine lv_iload S.1 S.2.1 dL_writes_184 (lv_at hl 13 rfl) ?_
                  refine r_ldA (q := 0) (n := 3) S Z rfl (by omega) (by decide) dL_writes_186 ?_
                  rw [fa_fill_in (by omega)]
                  refine lv_icmp_le (tgt := 195) S.1 S.2.1 dL_writes_187 (by decide) (fun c_27 => ?_) (fun c_27 => ?_)
                  · skip
                    refine lv_aload S.1 S.2.1 dL_writes_195 (lv_at hl 11 rfl) ?_
                    refine lv_iload S.1 S.2.1 dL_writes_197 (lv_at hl 13 rfl) ?_
                    refine r_ldA (q := 0) (n := 3) S Z rfl (by omega) (by decide) dL_writes_199 ?_
                    rw [fa_fill_in (by omega)]
                    refine lv_icmp_ne (tgt := 207) S.1 S.2.1 dL_writes_200 (by decide) (fun c_28 => absurd c_28 (by exact not_not_intro (wr_2 (send_st hp_7.1 (by omega) (by omega)) ((hP i (by omega)).mpr c_17) c_27))) (fun c_28 => ?_)
                    refine lv_iconst (v := nI 1) S.1 S.2.1 dL_writes_203 (by decide) ?_
                    refine lv_goto (tgt := 208) S.1 S.2.1 dL_writes_204 (by decide) ?_
                    refine lv_istore (lv' := [(11, .int (nI 1)), (13, .int (nI 1)), (0, .ref (gA G 0)), (1, .int (nI x)), (2, .int (nI y)), (3, .ref (ca)), (4, .int (nI (x % 16))), (5, .int (nI ((x / 16) % 4))), (6, .int (nI (cpy m y))), (7, .int (nI ((y / 8) % 5))), (8, .int (nI ((y / 40) % 7))), (9, .int (nI li)), (10, .ref (q1)), (12, .int (nI i))]) S.1 S.2.1 dL_writes_208 hl (by decide) rfl (fun ls hl => ?_)
                    refine lv_iinc (v := nI (i + 1)) (lv' := [(12, .int (nI (i + 1))), (11, .int (nI 1)), (13, .int (nI 1)), (0, .ref (gA G 0)), (1, .int (nI x)), (2, .int (nI y)), (3, .ref (ca)), (4, .int (nI (x % 16))), (5, .int (nI ((x / 16) % 4))), (6, .int (nI (cpy m y))), (7, .int (nI ((y / 8) % 5))), (8, .int (nI ((y / 40) % 7))), (9, .int (nI li)), (10, .ref (q1))]) S.1 S.2.1 dL_writes_210 hl (k := 13) rfl (nI_inc rfl) (by decide) rfl (fun ls hl => ?_)
                    refine lv_goto (tgt := 132) S.1 S.2.1 dL_writes_213 (by decide) ?_
                    exact ih_132 (i + 1) (by first | omega | exact Nat.zero_le _) (by omega) _ _ Z ls (lv_sub hl [3, 4, 5, 6, 7, 8, 9, 10, 11, 12, 13, 1, 0] rfl)
                  · skip
                    refine lv_iload S.1 S.2.1 dL_writes_190 (lv_at hl 9 rfl) ?_
                    refine lv_goto (tgt := 200) S.1 S.2.1 dL_writes_192 (by decide) ?_
                    refine lv_icmp_ne (tgt := 207) S.1 S.2.1 dL_writes_200 (by decide) (fun c_29 => absurd c_29 (by exact not_not_intro (wr_1 (send_st hp_7.1 (by omega) (by omega)) ((hP i (by omega)).mpr c_17) c_27))) (fun c_29 => ?_)
                    refine lv_iconst (v := nI 1) S.1 S.2.1 dL_writes_203 (by decide) ?_
                    refine lv_goto (tgt := 208) S.1 S.2.1 dL_writes_204 (by decide) ?_
                    refine lv_istore (lv' := [(11, .int (nI 1)), (13, .int (nI 1)), (0, .ref (gA G 0)), (1, .int (nI x)), (2, .int (nI y)), (3, .ref (ca)), (4, .int (nI (x % 16))), (5, .int (nI ((x / 16) % 4))), (6, .int (nI (cpy m y))), (7, .int (nI ((y / 8) % 5))), (8, .int (nI ((y / 40) % 7))), (9, .int (nI li)), (10, .ref (q1)), (12, .int (nI i))]) S.1 S.2.1 dL_writes_208 hl (by decide) rfl (fun ls hl => ?_)
                    refine lv_iinc (v := nI (i + 1)) (lv' := [(12, .int (nI (i + 1))), (11, .int (nI 1)), (13, .int (nI 1)), (0, .ref (gA G 0)), (1, .int (nI x)), (2, .int (nI y)), (3, .ref (ca)), (4, .int (nI (x % 16))), (5, .int (nI ((x / 16) % 4))), (6, .int (nI (cpy m y))), (7, .int (nI ((y / 8) % 5))), (8, .int (nI ((y / 40) % 7))), (9, .int (nI li)), (10, .ref (q1))]) S.1 S.2.1 dL_writes_210 hl (k := 13) rfl (nI_inc rfl) (by decide) rfl (fun ls hl => ?_)
                    refine lv_goto (tgt := 132) S.1 S.2.1 dL_writes_213 (by decide) ?_
                    exact ih_132 (i + 1) (by first | omega | exact Nat.zero_le _) (by omega) _ _ Z ls (lv_sub hl [3, 4, 5, 6, 7, 8, 9, 10, 11, 12, 13, 1, 0] rfl)
          exact L_132 (3 - 0 + 1) 0 (by first | omega | exact Nat.zero_le _) (Nat.lt_succ_self _) _ _ Z ls (lv_sub hl [2, 3, 4, 5, 6, 7, 8, 9, 10, 11, 12, 1, 0] rfl)
        · skip
          refine lv_aload S.1 S.2.1 dL_writes_73 (lv_at hl 10 rfl) ?_
          refine lv_iload S.1 S.2.1 dL_writes_75 (lv_at hl 11 rfl) ?_
          refine lv_aload_n S.1 S.2.1 dL_writes_77 rfl (lv_at hl 0 rfl) ?_
          refine lv_iload S.1 S.2.1 dL_writes_78 (lv_at hl 11 rfl) ?_
          refine lv_iload S.1 S.2.1 dL_writes_80 (lv_at hl 4 rfl) ?_
          refine lv_iload S.1 S.2.1 dL_writes_82 (lv_at hl 5 rfl) ?_
          refine vp_callSi (va_runV (As := [.int (nI k), .int (nI (x % 16)), .int (nI ((x / 16) % 4))]) (rest := [.int (nI k), .ref (q1)]) S (kr_stampAt l G σ ((ca, cA G m) :: [(q1, iA G 3 (fa_fill (fun j => (sE σ j (x % 16 * 4 + x / 16 % 4)).1) (fun _ => 0) k))]) o σ k (x % 16) ((x / 16) % 4) Sm_rf (by omega) (by omega) (by omega)) (cwV 3 S.2.2.2.2 gL_writes_X7_stampAt rfl rfl rfl ⟨rfl, hy_X7_stampAt⟩ ⟨Nat.le_of_ble_eq_true rfl, Nat.le_of_ble_eq_true rfl⟩) (wPc_V (q := (RX7, TX7, 7)) Z (by decide) rfl rfl) rfl rfl hl.1 rfl (lv_room (Nat.le_of_ble_eq_true rfl)) dL_writes_84 ⟨Nat.le_of_ble_eq_true rfl, Nat.le_of_ble_eq_true rfl⟩).run (fun r_30 h_31 => ?_)
          rw [h_31]; clear h_31 r_30
          refine r_stA (q := 0) (n := 3) S Z rfl (by omega) (by decide) dL_writes_87 (fun H locs Z => ?_)
          have Z : wZ G (σ) ((ca, cA G m) :: [(q1, iA G 3 (fa_fill (fun j => (sE σ j (x % 16 * 4 + x / 16 % 4)).1) (fun _ => 0) (k + 1)))]) o s H locs := by
            rw [← fa_fill_succ (fun j => (sE σ j (x % 16 * 4 + x / 16 % 4)).1) (fun _ => 0) k]
            exact Z
          refine lv_iinc (v := nI (k + 1)) (lv' := [(11, .int (nI (k + 1))), (0, .ref (gA G 0)), (1, .int (nI x)), (2, .int (nI y)), (3, .ref (ca)), (4, .int (nI (x % 16))), (5, .int (nI ((x / 16) % 4))), (6, .int (nI (cpy m y))), (7, .int (nI ((y / 8) % 5))), (8, .int (nI ((y / 40) % 7))), (9, .int (nI li)), (10, .ref (q1))]) S.1 S.2.1 dL_writes_88 hl (k := 11) rfl (nI_inc rfl) (by decide) rfl (fun ls hl => ?_)
          refine lv_goto (tgt := 67) S.1 S.2.1 dL_writes_91 (by decide) ?_
          exact ih_67 (k + 1) (by first | omega | exact Nat.zero_le _) (by omega) _ _ Z ls (lv_sub hl [1, 2, 3, 4, 5, 6, 7, 8, 9, 10, 11, 0] rfl)
    have q8 : ((ca, cA G m) :: [(q1, iA G 3 (fa_fill (fun j => (sE σ j (x % 16 * 4 + x / 16 % 4)).1) (fun _ => 0) 0))] : mS) = (ca, cA G m) :: [(q1, iA G 3 (fun _ => 0))] := by rw [fa_fill_0]
    rw [← q8] at Z
    exact L_67 (3 - 0 + 1) 0 (by first | omega | exact Nat.zero_le _) (Nat.lt_succ_self _) _ _ Z ls (lv_sub hl [3, 4, 5, 6, 7, 8, 9, 10, 11, 2, 1, 0] rfl)
  refine lv_iload_n S.1 S.2.1 dL_writes_38 rfl (lv_at hl 6 rfl) ?_
  refine lv_iconst (v := nI 3) S.1 S.2.1 dL_writes_39 (by decide) ?_
  refine r_remN S (by omega) (by decide) (by decide) dL_writes_40 ?_
  refine r_if_neN S (tgt := 56) (by omega) dL_writes_41 (by decide) (fun c_32 => ?_) (fun c_32 => ?_)
  · skip
    refine lv_iconst (v := nI 0) S.1 S.2.1 dL_writes_56 (by decide) ?_
    exact L_57 0 (by omega) _ _ Z ls (lv_sub hl [5, 6, 7, 8, 4, 3, 2, 1, 0] rfl)
  · skip
    refine lv_iconst (v := nI 1) S.1 S.2.1 dL_writes_44 (by decide) ?_
    refine lv_iload_n S.1 S.2.1 dL_writes_45 rfl (lv_at hl 6 rfl) ?_
    refine lv_bipush (v := nI 64) S.1 S.2.1 dL_writes_46 (by decide) ?_
    refine r_divN S (by omega) (by decide) (by decide) dL_writes_48 ?_
    refine lv_bipush (v := nI 30) S.1 S.2.1 dL_writes_49 (by decide) ?_
    refine r_remN S (by omega) (by decide) (by decide) dL_writes_51 ?_
    refine r_addN S dL_writes_52 ?_
    refine lv_goto (tgt := 57) S.1 S.2.1 dL_writes_53 (by decide) ?_
    exact L_57 (1 + ((x / 64) % 30)) (by omega) _ _ Z ls (lv_sub hl [5, 6, 7, 8, 4, 3, 2, 1, 0] rfl)
