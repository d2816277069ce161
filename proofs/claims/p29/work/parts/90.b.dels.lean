theorem m_L_deletes_c26 : Cond.classLink RL 26 "java/lang/IllegalStateException" ∈ wsL_deletes := by decide +kernel
abbrev rm_k_L_deletes : Room := { frames := 8, cells := 4, slots := 33, locals := 178 }
set_option maxHeartbeats 4000000 in
set_option maxRecDepth 100000 in
theorem k_L_deletes (l : Launch) (hst : l.stackTraces = false) (G : wG) (σ : cS) (μ : mS) (o : Nat → Int64) (what : Nat) (cs : Nat) (a : Nat) (b : Nat) (sp : Nat) (L : Nat → List Ch) (nn : Nat) (hwh : what < 4) (hcs : cs ≤ 7) (ha : a < 16) (hb : b < 16) (hb3 : what = 3 → a ≤ b) (hsp : sp ≤ 999) (hK : KP G σ L nn) : Met l yL_deletes wsL_deletes rm_k_L_deletes (wPc G σ μ o [.ref (gA G 0), .int (nI what), .int (nI cs), .int (nI a), .int (nI b), .int (nI sp)]) (va_Qi (fun (rr : Int32) (u : cS × mS) => u.2 = μ ∧ ((rr = -8 ∧ what = 3 ∧ nn = 8 ∧ u.1 = σ) ∨ (rr = nI (sdN σ (nI cs) 3) ∧ DL G σ L nn cs what a b sp u.1))) (fun u t => wI G u.1 u.2 o t) (gP G)) 4 33 (gP G) := by
  refine m_ofWH (hh := [(0, 64, 65, 26)]) (cc := cL_deletes) (maxL := 7) (ret := (some .int)) (by decide) rfl ?_
  intro p e s m9 args below meth c s₁ B hml htab hv
  obtain ⟨hargs, hI⟩ := hv
  have S : CallFix p m9 c cL_deletes 7 s args wsL_deletes RL := ⟨B.exec, B.bytes, hml, findClass_of_methodNamed B.named, atoms_spec (ws := wsL_deletes) B.pre⟩
  have hret := B.returns
  have hlocks := B.notSynchronized
  have Z := wZ_0 hI
  clear hI
  obtain ⟨Q, hQ⟩ : ∃ Q, Q = MQ below (va_Qi (fun (rr : Int32) (u : cS × mS) => u.2 = μ ∧ ((rr = -8 ∧ what = 3 ∧ nn = 8 ∧ u.1 = σ) ∨ (rr = nI (sdN σ (nI cs) 3) ∧ DL G σ L nn cs what a b sp u.1))) (fun u t => wI G u.1 u.2 o t) (gP G)) args s 4 33 (gP G) := ⟨_, rfl⟩
  rw [← hQ]
  have hl := lv_entry [.ref (gA G 0), .int (nI what), .int (nI cs), .int (nI a), .int (nI b), .int (nI sp)] (n := 7) (Nat.le_of_ble_eq_true rfl)
  rw [show entryFrame m9 args 7 = entryFrame m9 ([.ref (gA G 0), .int (nI what), .int (nI cs), .int (nI a), .int (nI b), .int (nI sp)] : List Value).toArray 7 from by rw [hargs], lg_entry_eq]
  generalize (lg_sl [.ref (gA G 0), .int (nI what), .int (nI cs), .int (nI a), .int (nI b), .int (nI sp)] ++ List.replicate (7 - (lg_sl [.ref (gA G 0), .int (nI what), .int (nI cs), .int (nI a), .int (nI b), .int (nI sp)]).length) Slot.unset).toArray = ls at hl ⊢
  have hl : lv_has ls 7 [(0, .ref (gA G 0)), (1, .int (nI what)), (2, .int (nI cs)), (3, .int (nI a)), (4, .int (nI b)), (5, .int (nI sp))] := hl
  refine lv_iload_n S.1 S.2.1 dL_deletes_0 rfl (lv_at hl 1 rfl) ?_
  refine r_if_neN S (tgt := 19) (by omega) dL_deletes_1 (by decide) (fun c_1 => ?_) (fun c_1 => ?_)
  · skip
    refine lv_iload_n S.1 S.2.1 dL_deletes_19 rfl (lv_at hl 1 rfl) ?_
    refine lv_iconst (v := nI 1) S.1 S.2.1 dL_deletes_20 (by decide) ?_
    refine r_icmpN_ne S (tgt := 38) (by omega) (by omega) dL_deletes_21 (by decide) (fun c_2 => ?_) (fun c_2 => ?_)
    · skip
      refine lv_iload_n S.1 S.2.1 dL_deletes_38 rfl (lv_at hl 1 rfl) ?_
      refine lv_iconst (v := nI 2) S.1 S.2.1 dL_deletes_39 (by decide) ?_
      refine r_icmpN_ne S (tgt := 54) (by omega) (by omega) dL_deletes_40 (by decide) (fun c_3 => ?_) (fun c_3 => ?_)
      · skip
        refine lv_aload_n S.1 S.2.1 dL_deletes_54 rfl (lv_at hl 0 rfl) ?_
        refine lv_iload_n S.1 S.2.1 dL_deletes_55 rfl (lv_at hl 2 rfl) ?_
        refine lv_iload_n S.1 S.2.1 dL_deletes_56 rfl (lv_at hl 3 rfl) ?_
        refine lv_iload S.1 S.2.1 dL_deletes_57 (lv_at hl 4 rfl) ?_
        refine lv_iload S.1 S.2.1 dL_deletes_59 (lv_at hl 5 rfl) ?_
        have hw3 : what = 3 := by omega
        by_cases hz : rgi σ a b < 8
        · skip
          refine va_calli (va_runV (As := [.int (nI cs), .int (nI a), .int (nI b), .int (nI sp)]) (rest := []) S (k_X7_deleteRange l G σ μ o cs a b sp L (by omega) (by omega) (by omega) (by omega) (hb3 hw3) hz hK.1) (cwV 4 S.2.2.2.2 gL_deletes_X7_deleteRange rfl rfl rfl ⟨rfl, hy_X7_deleteRange⟩ ⟨Nat.le_of_ble_eq_true rfl, Nat.le_of_ble_eq_true rfl⟩) (wPc_V (q := (RX7, TX7, 7)) Z (by decide) rfl rfl) rfl rfl hl.1 rfl (lv_room (Nat.le_of_ble_eq_true rfl)) dL_deletes_61 ⟨Nat.le_of_ble_eq_true rfl, Nat.le_of_ble_eq_true rfl⟩) Z.2.2.2.2 (fun _ _ h => h) (fun _ h => h) (fun r_4 u_5 T9 H1 locs1 hT9 hvm hw hB hz hk9 hS => ?_)
          obtain ⟨τ_6, μ9⟩ := u_5
          obtain ⟨hr9, hm9, hp9⟩ := hw
          have hm9 : μ = μ9 := hm9.symm
          subst hm9
          have hp_7 : sc τ_6 (sdS (rgS σ a b) (64 + (84 + rgi σ a b), nI sp, cV (rgS σ a b) 4, nI 0) (nI cs) 3) ∧ HI G τ_6 (sdLL (rgS σ a b) (nI cs) (64 + (84 + rgi σ a b), nI sp, cV (rgS σ a b) 4, nI 0) L) := hp9
          clear hp9
          rw [hr9]; clear hr9 r_4
          have Z : wZ G (τ_6) (μ) o s H1 locs1 := wZ_callP Z hB hT9 hS
          clear hB hT9 hS hk9 hz hvm T9
          revert Z; generalize H1 = H; generalize locs1 = locs; intro Z
          refine W.widen (k := 4) (n := 33) (by first | decide | omega) (by first | decide | omega) ?_
          rw [hQ]
          exact W.iret (v := nI (sdN (rgS σ a b) (nI cs) 3)) S.1 S.2.1 hret (fun _ hT9 hW => ⟨⟨_, (τ_6, μ), rfl, ⟨rfl, Or.inr ⟨congrArg nI (sdN_cg (c_of range_V).2.1 3), DL_range hK hw3 (hb3 hw3) hb hz hp_7.1 hp_7.2⟩⟩, wZ_P Z hT9 hW⟩, Z.2.2.2.2.F hT9⟩) Z.2.2.2.2.2.2 dL_deletes_64
        · skip
          obtain ⟨hn8, hzr, hzs⟩ := rg_full hK hz
          refine x_callS (vx_runV (As := [.int (nI cs), .int (nI a), .int (nI b), .int (nI sp)]) (rest := []) S (k_X7_deleteRange_X6 l hst G σ μ o cs a b sp (by omega) (by omega) (by omega) (by omega) (hb3 hw3) hzr) (cwV 4 S.2.2.2.2 gL_deletes_X7_deleteRange rfl rfl rfl ⟨rfl, hy_X7_deleteRange⟩ ⟨Nat.le_of_ble_eq_true rfl, Nat.le_of_ble_eq_true rfl⟩) (wPc_V (q := (RX7, TX7, 7)) Z (by decide) rfl rfl) rfl rfl hl.1 rfl (lv_room (Nat.le_of_ble_eq_true rfl)) dL_deletes_61 ⟨Nat.le_of_ble_eq_true rfl, Nat.le_of_ble_eq_true rfl⟩) (fun _ _ _ h => h) Z (fun ce q9 H locs Z h1 h2 h3 => ?_)
          refine vx_catch (name := "java/lang/IllegalStateException") S.2.2.2.1 [] ⟨0, 64, 65, 26⟩ [] (by rw [htab]; rfl) (fun z h => absurd h List.not_mem_nil) rfl (by decide) (S.2.2.2.2 _ m_L_deletes_c26) (ca_use Z n_caC) h1 h2 h3 ?_
          refine lv_astore (lv' := [(6, .ref (q9)), (0, .ref (gA G 0)), (1, .int (nI what)), (2, .int (nI cs)), (3, .int (nI a)), (4, .int (nI b)), (5, .int (nI sp))]) S.1 S.2.1 dL_deletes_65 hl (by decide) rfl (fun ls hl => ?_)
          refine lv_bipush (v := (-8)) S.1 S.2.1 dL_deletes_67 (by decide) ?_
          refine W.widen (k := 4) (n := 33) (by first | decide | omega) (by first | decide | omega) ?_
          rw [hQ]
          exact W.iret (v := (-8)) S.1 S.2.1 hret (fun _ hT9 hW => ⟨⟨_, (rgS σ a b, μ), rfl, ⟨rfl, Or.inl ⟨rfl, hw3, hn8, hzs⟩⟩, wZ_P Z hT9 hW⟩, Z.2.2.2.2.F hT9⟩) Z.2.2.2.2.2.2 dL_deletes_69
      · skip
        refine lv_aload_n S.1 S.2.1 dL_deletes_43 rfl (lv_at hl 0 rfl) ?_
        refine lv_iload_n S.1 S.2.1 dL_deletes_44 rfl (lv_at hl 2 rfl) ?_
        refine lv_iload_n S.1 S.2.1 dL_deletes_45 rfl (lv_at hl 3 rfl) ?_
        refine lv_iload S.1 S.2.1 dL_deletes_46 (lv_at hl 5 rfl) ?_
        refine va_calli (va_runV (As := [.int (nI cs), .int (nI a), .int (nI sp)]) (rest := []) S (k_X7_deleteRow l G σ μ o cs a sp L (by omega) (by omega) (by omega) hK.1) (cwV 3 S.2.2.2.2 gL_deletes_X7_deleteRow rfl rfl rfl ⟨rfl, hy_X7_deleteRow⟩ ⟨Nat.le_of_ble_eq_true rfl, Nat.le_of_ble_eq_true rfl⟩) (wPc_V (q := (RX7, TX7, 7)) Z (by decide) rfl rfl) rfl rfl hl.1 rfl (lv_room (Nat.le_of_ble_eq_true rfl)) dL_deletes_48 ⟨Nat.le_of_ble_eq_true rfl, Nat.le_of_ble_eq_true rfl⟩) Z.2.2.2.2 (fun _ _ h => h) (fun _ h => h) (fun r_8 u_9 T9 H1 locs1 hT9 hvm hw hB hz hk9 hS => ?_)
        obtain ⟨τ_10, μ9⟩ := u_9
        obtain ⟨hr9, hm9, hp9⟩ := hw
        have hm9 : μ = μ9 := hm9.symm
        subst hm9
        have hp_11 : sc τ_10 (sdS σ (64 + (68 + a), nI sp, cV σ 4, nI 0) (nI cs) 3) ∧ HI G τ_10 (sdLL σ (nI cs) (64 + (68 + a), nI sp, cV σ 4, nI 0) L) := hp9
        clear hp9
        rw [hr9]; clear hr9 r_8
        have Z : wZ G (τ_10) (μ) o s H1 locs1 := wZ_callP Z hB hT9 hS
        clear hB hT9 hS hk9 hz hvm T9
        revert Z; generalize H1 = H; generalize locs1 = locs; intro Z
        refine W.widen (k := 4) (n := 33) (by first | decide | omega) (by first | decide | omega) ?_
        refine lv_goto (tgt := 64) S.1 S.2.1 dL_deletes_51 (by decide) ?_
        rw [hQ]
        exact W.iret (v := nI (sdN σ (nI cs) 3)) S.1 S.2.1 hret (fun _ hT9 hW => ⟨⟨_, (τ_10, μ), rfl, ⟨rfl, Or.inr ⟨rfl, DL_row hK (by omega) ha hp_11.1 hp_11.2⟩⟩, wZ_P Z hT9 hW⟩, Z.2.2.2.2.F hT9⟩) Z.2.2.2.2.2.2 dL_deletes_64
    · skip
      refine lv_aload_n S.1 S.2.1 dL_deletes_24 rfl (lv_at hl 0 rfl) ?_
      refine lv_iload_n S.1 S.2.1 dL_deletes_25 rfl (lv_at hl 2 rfl) ?_
      refine lv_iload S.1 S.2.1 dL_deletes_26 (lv_at hl 4 rfl) ?_
      refine lv_iconst (v := nI 4) S.1 S.2.1 dL_deletes_28 (by decide) ?_
      refine r_remN S (by omega) (by decide) (by decide) dL_deletes_29 ?_
      refine lv_iload S.1 S.2.1 dL_deletes_30 (lv_at hl 5 rfl) ?_
      refine va_calli (va_runV (As := [.int (nI cs), .int (nI (b % 4)), .int (nI sp)]) (rest := []) S (k_X7_deleteColumn l G σ μ o cs (b % 4) sp L (by omega) (by omega) (by omega) hK.1) (cwV 3 S.2.2.2.2 gL_deletes_X7_deleteColumn rfl rfl rfl ⟨rfl, hy_X7_deleteColumn⟩ ⟨Nat.le_of_ble_eq_true rfl, Nat.le_of_ble_eq_true rfl⟩) (wPc_V (q := (RX7, TX7, 7)) Z (by decide) rfl rfl) rfl rfl hl.1 rfl (lv_room (Nat.le_of_ble_eq_true rfl)) dL_deletes_32 ⟨Nat.le_of_ble_eq_true rfl, Nat.le_of_ble_eq_true rfl⟩) Z.2.2.2.2 (fun _ _ h => h) (fun _ h => h) (fun r_12 u_13 T9 H1 locs1 hT9 hvm hw hB hz hk9 hS => ?_)
      obtain ⟨τ_14, μ9⟩ := u_13
      obtain ⟨hr9, hm9, hp9⟩ := hw
      have hm9 : μ = μ9 := hm9.symm
      subst hm9
      have hp_15 : sc τ_14 (sdS σ (64 + (64 + (b % 4)), nI sp, cV σ 4, nI 0) (nI cs) 3) ∧ HI G τ_14 (sdLL σ (nI cs) (64 + (64 + (b % 4)), nI sp, cV σ 4, nI 0) L) := hp9
      clear hp9
      rw [hr9]; clear hr9 r_12
      have Z : wZ G (τ_14) (μ) o s H1 locs1 := wZ_callP Z hB hT9 hS
      clear hB hT9 hS hk9 hz hvm T9
      revert Z; generalize H1 = H; generalize locs1 = locs; intro Z
      refine W.widen (k := 4) (n := 33) (by first | decide | omega) (by first | decide | omega) ?_
      refine lv_goto (tgt := 64) S.1 S.2.1 dL_deletes_35 (by decide) ?_
      rw [hQ]
      exact W.iret (v := nI (sdN σ (nI cs) 3)) S.1 S.2.1 hret (fun _ hT9 hW => ⟨⟨_, (τ_14, μ), rfl, ⟨rfl, Or.inr ⟨rfl, DL_col hK (by omega) hp_15.1 hp_15.2⟩⟩, wZ_P Z hT9 hW⟩, Z.2.2.2.2.F hT9⟩) Z.2.2.2.2.2.2 dL_deletes_64
  · skip
    refine lv_aload_n S.1 S.2.1 dL_deletes_4 rfl (lv_at hl 0 rfl) ?_
    refine lv_iload_n S.1 S.2.1 dL_deletes_5 rfl (lv_at hl 2 rfl) ?_
    refine lv_iload_n S.1 S.2.1 dL_deletes_6 rfl (lv_at hl 3 rfl) ?_
    refine lv_iload S.1 S.2.1 dL_deletes_7 (lv_at hl 4 rfl) ?_
    refine lv_iconst (v := nI 4) S.1 S.2.1 dL_deletes_9 (by decide) ?_
    refine r_remN S (by omega) (by decide) (by decide) dL_deletes_10 ?_
    refine lv_iload S.1 S.2.1 dL_deletes_11 (lv_at hl 5 rfl) ?_
    refine va_calli (va_runV (As := [.int (nI cs), .int (nI a), .int (nI (b % 4)), .int (nI sp)]) (rest := []) S (k_X7_deleteCell l G σ μ o cs a (b % 4) sp L (by omega) (by omega) (by omega) (by omega) hK.1) (cwV 4 S.2.2.2.2 gL_deletes_X7_deleteCell rfl rfl rfl ⟨rfl, hy_X7_deleteCell⟩ ⟨Nat.le_of_ble_eq_true rfl, Nat.le_of_ble_eq_true rfl⟩) (wPc_V (q := (RX7, TX7, 7)) Z (by decide) rfl rfl) rfl rfl hl.1 rfl (lv_room (Nat.le_of_ble_eq_true rfl)) dL_deletes_13 ⟨Nat.le_of_ble_eq_true rfl, Nat.le_of_ble_eq_true rfl⟩) Z.2.2.2.2 (fun _ _ h => h) (fun _ h => h) (fun r_16 u_17 T9 H1 locs1 hT9 hvm hw hB hz hk9 hS => ?_)
    obtain ⟨τ_18, μ9⟩ := u_17
    obtain ⟨hr9, hm9, hp9⟩ := hw
    have hm9 : μ = μ9 := hm9.symm
    subst hm9
    have hp_19 : sc τ_18 (sdS σ (64 + (a * 4 + (b % 4)), nI sp, cV σ 4, nI 0) (nI cs) 3) ∧ HI G τ_18 (sdLL σ (nI cs) (64 + (a * 4 + (b % 4)), nI sp, cV σ 4, nI 0) L) := hp9
    clear hp9
    rw [hr9]; clear hr9 r_16
    have Z : wZ G (τ_18) (μ) o s H1 locs1 := wZ_callP Z hB hT9 hS
    clear hB hT9 hS hk9 hz hvm T9
    revert Z; generalize H1 = H; generalize locs1 = locs; intro Z
    refine W.widen (k := 4) (n := 33) (by first | decide | omega) (by first | decide | omega) ?_
    refine lv_goto (tgt := 64) S.1 S.2.1 dL_deletes_16 (by decide) ?_
    rw [hQ]
    exact W.iret (v := nI (sdN σ (nI cs) 3)) S.1 S.2.1 hret (fun _ hT9 hW => ⟨⟨_, (τ_18, μ), rfl, ⟨rfl, Or.inr ⟨rfl, DL_cell hK (by omega) ha hp_19.1 hp_19.2⟩⟩, wZ_P Z hT9 hW⟩, Z.2.2.2.2.F hT9⟩) Z.2.2.2.2.2.2 dL_deletes_64

theorem m_L_buries_arint : Cond.arrayClass .int ∈ wsL_buries := by decide +kernel
abbrev rm_k_L_buries : Room := { frames := 9, cells := 5, slots := 36, locals := 204 }
set_option maxHeartbeats 4000000 in
set_option maxRecDepth 100000 in
theorem k_L_buries (l : Launch) (hst : l.stackTraces = false) (G : wG) (σ : cS) (ca : Nat) (m : Nat → Nat) (o : Nat → Int64) (what : Nat) (x : Nat) (y : Nat) (hwh : what < 4) (hx : x < 2 ^ 30) (hy : y < 2 ^ 30) (hLI : LI G σ m) (hm0 : m 0 ≤ 10000) (hm6 : m 6 ≤ 1000000) : Met l yL_buries wsL_buries rm_k_L_buries (wPc G σ ((ca, cA G m) :: []) o [.ref (gA G 0), .int (nI what), .int (nI x), .int (nI y), .ref (ca)]) (va_Qi (fun (rr : Int32) (u : cS × mS) => rr = nI 1 ∧ SQ G ca m u) (fun u t => wI G u.1 u.2 o t) (gP G)) 5 36 (gP G) := by
  refine Met.ofW (cc := cL_buries) (maxL := 16) (ret := (some .boolean)) (by decide) rfl ?_
  intro p e s m9 args below meth c s₁ B hml hv
  obtain ⟨hargs, hI⟩ := hv
  have S : CallFix p m9 c cL_buries 16 s args wsL_buries RL := ⟨B.exec, B.bytes, hml, findClass_of_methodNamed B.named, atoms_spec (ws := wsL_buries) B.pre⟩
  have hret := B.returns
  have hlocks := B.notSynchronized
  have Z := wZ_0 hI
  clear hI
  obtain ⟨Q, hQ⟩ : ∃ Q, Q = MQ below (va_Qi (fun (rr : Int32) (u : cS × mS) => rr = nI 1 ∧ SQ G ca m u) (fun u t => wI G u.1 u.2 o t) (gP G)) args s 5 36 (gP G) := ⟨_, rfl⟩
  rw [← hQ]
  have hl := lv_entry [.ref (gA G 0), .int (nI what), .int (nI x), .int (nI y), .ref (ca)] (n := 16) (Nat.le_of_ble_eq_true rfl)
  rw [show entryFrame m9 args 16 = entryFrame m9 ([.ref (gA G 0), .int (nI what), .int (nI x), .int (nI y), .ref (ca)] : List Value).toArray 16 from by rw [hargs], lg_entry_eq]
  generalize (lg_sl [.ref (gA G 0), .int (nI what), .int (nI x), .int (nI y), .ref (ca)] ++ List.replicate (16 - (lg_sl [.ref (gA G 0), .int (nI what), .int (nI x), .int (nI y), .ref (ca)]).length) Slot.unset).toArray = ls at hl ⊢
  have hl : lv_has ls 16 [(0, .ref (gA G 0)), (1, .int (nI what)), (2, .int (nI x)), (3, .int (nI y)), (4, .ref (ca))] := hl
  have hLI0 := hLI
  obtain ⟨L, nn, hK, h0, h1, h1b, h2, h5, h5b, h7, h7b, h8, h8b⟩ := hLI
  have hc8 : cpy m y < 8 := cpy_lt m y
  have hcu : cpy m y &&& m 5 < 8 := Nat.lt_of_le_of_lt Nat.and_le_left hc8
  have hlen : ∀ i, i < 3 → m (2 + i) ≤ 10 := fun i hi => by rw [h2 i hi]; exact (hK.1.1 i hi).1
  have hm3 := mny_le (cpy m y &&& m 5)
  have hP : ∀ i, i < 3 → ((bitB (nI (cpy m y)) i = true ∧ cU σ i = true) ↔ bitB (nI (cpy m y &&& m 5)) i = true) := fun i hi => bit_P hi h5b
  have e9 : sdN σ (nI (cpy m y)) 3 = mny (cpy m y &&& m 5) := sdN_mny hc8 h5 h5b
  have hs3 := sdN_le (σ := σ) (cs := nI (cpy m y)) 3
  refine lv_iload_n S.1 S.2.1 dL_buries_0 rfl (lv_at hl 2 rfl) ?_
  refine lv_bipush (v := nI 16) S.1 S.2.1 dL_buries_1 (by decide) ?_
  refine r_remN S (by omega) (by decide) (by decide) dL_buries_3 ?_
  refine lv_istore (lv' := [(5, .int (nI (x % 16))), (0, .ref (gA G 0)), (1, .int (nI what)), (2, .int (nI x)), (3, .int (nI y)), (4, .ref (ca))]) S.1 S.2.1 dL_buries_4 hl (by decide) rfl (fun ls hl => ?_)
  have L_33 : ∀ (b : Nat) (hb : b < 16) (hb3 : what = 3 → x % 16 ≤ b) (hbn : what ≠ 3 → b < 4) (H : Heap) (locs : List Loc) (Z : wZ G (σ) ((ca, cA G m) :: []) o s H locs) (ls : Array Slot) (hl : lv_has ls 16 [(0, .ref (gA G 0)), (1, .int (nI what)), (2, .int (nI x)), (3, .int (nI y)), (4, .ref (ca)), (5, .int (nI (x % 16)))]), W p l e (headSpec wsL_buries rm_k_L_buries).room s m9 args below meth c H locs 0 0 Q (F0 m9 33 ls [.int (nI b)]) := by
    intro b hb hb3 hbn H locs Z ls hl
    refine lv_istore (lv' := [(6, .int (nI b)), (0, .ref (gA G 0)), (1, .int (nI what)), (2, .int (nI x)), (3, .int (nI y)), (4, .ref (ca)), (5, .int (nI (x % 16)))]) S.1 S.2.1 dL_buries_33 hl (by decide) rfl (fun ls hl => ?_)
    refine lv_aload S.1 S.2.1 dL_buries_35 (lv_at hl 5 rfl) ?_
    refine lv_iload_n S.1 S.2.1 dL_buries_37 rfl (lv_at hl 4 rfl) ?_
    refine vp_callSi (va_runS (As := [.ref (ca), .int (nI y)]) (rest := []) S (k_L_copies l G σ ca m ([]) o y (by omega) (by omega)) (va_cwS 2 S.2.2.2.2 gL_buries_L_copies rfl rfl rfl hy_L_copies ⟨Nat.le_of_ble_eq_true rfl, Nat.le_of_ble_eq_true rfl⟩) (wPc_S Z) rfl rfl hl.1 rfl (lv_room (Nat.le_of_ble_eq_true rfl)) dL_buries_38 ⟨Nat.le_of_ble_eq_true rfl, Nat.le_of_ble_eq_true rfl⟩).run (fun r_1 h_2 => ?_)
    rw [h_2]; clear h_2 r_1
    refine lv_istore (lv' := [(7, .int (nI (cpy m y))), (6, .int (nI b)), (0, .ref (gA G 0)), (1, .int (nI what)), (2, .int (nI x)), (3, .int (nI y)), (4, .ref (ca)), (5, .int (nI (x % 16)))]) S.1 S.2.1 dL_buries_41 hl (by decide) rfl (fun ls hl => ?_)
    refine lv_iload_n S.1 S.2.1 dL_buries_43 rfl (lv_at hl 5 rfl) ?_
    refine lv_bipush (v := nI 40) S.1 S.2.1 dL_buries_44 (by decide) ?_
    refine r_divN S (by omega) (by decide) (by decide) dL_buries_46 ?_
    refine lv_bipush (v := nI 7) S.1 S.2.1 dL_buries_47 (by decide) ?_
    refine r_remN S (by omega) (by decide) (by decide) dL_buries_49 ?_
    refine lv_istore (lv' := [(8, .int (nI ((y / 40) % 7))), (7, .int (nI (cpy m y))), (6, .int (nI b)), (0, .ref (gA G 0)), (1, .int (nI what)), (2, .int (nI x)), (3, .int (nI y)), (4, .ref (ca)), (5, .int (nI (x % 16)))]) S.1 S.2.1 dL_buries_50 hl (by decide) rfl (fun ls hl => ?_)
    refine lv_iconst (v := nI 3) S.1 S.2.1 dL_buries_52 (by decide) ?_
    refine r_newA (n := 3) S Z (by decide) m_L_buries_arint (by decide) (by decide) dL_buries_53 (fun q1 H Z => ?_)
    have Z : wZ G (σ) ((ca, cA G m) :: [(q1, iA G 3 (fun _ => 0))]) o s H locs := Z
    refine lv_astore (lv' := [(9, .ref (q1)), (8, .int (nI ((y / 40) % 7))), (7, .int (nI (cpy m y))), (6, .int (nI b)), (0, .ref (gA G 0)), (1, .int (nI what)), (2, .int (nI x)), (3, .int (nI y)), (4, .ref (ca)), (5, .int (nI (x % 16)))]) S.1 S.2.1 dL_buries_55 hl (by decide) rfl (fun ls hl => ?_)
    have L_71 : ∀ (row : Nat) (hrow : row < 16) (hr1 : what ≠ 1 → row = x % 16) (H : Heap) (locs : List Loc) (Z : wZ G (σ) ((ca, cA G m) :: [(q1, iA G 3 (fun _ => 0))]) o s H locs) (ls : Array Slot) (hl : lv_has ls 16 [(0, .ref (gA G 0)), (1, .int (nI what)), (2, .int (nI x)), (3, .int (nI y)), (4, .ref (ca)), (5, .int (nI (x % 16))), (6, .int (nI b)), (7, .int (nI (cpy m y))), (8, .int (nI ((y / 40) % 7))), (9, .ref (q1))]), W p l e (headSpec wsL_buries rm_k_L_buries).room s m9 args below meth c H locs 1 3 Q (F0 m9 71 ls [.int (nI row)]) := by
      intro row hrow hr1 H locs Z ls hl
      refine lv_istore (lv' := [(10, .int (nI row)), (0, .ref (gA G 0)), (1, .int (nI what)), (2, .int (nI x)), (3, .int (nI y)), (4, .ref (ca)), (5, .int (nI (x % 16))), (6, .int (nI b)), (7, .int (nI (cpy m y))), (8, .int (nI ((y / 40) % 7))), (9, .ref (q1))]) S.1 S.2.1 dL_buries_71 hl (by decide) rfl (fun ls hl => ?_)
      have L_93 : ∀ (col : Nat) (hcol : col < 4) (hc1 : what ≤ 1 → col = b) (H : Heap) (locs : List Loc) (Z : wZ G (σ) ((ca, cA G m) :: [(q1, iA G 3 (fun _ => 0))]) o s H locs) (ls : Array Slot) (hl : lv_has ls 16 [(0, .ref (gA G 0)), (1, .int (nI what)), (2, .int (nI x)), (3, .int (nI y)), (4, .ref (ca)), (5, .int (nI (x % 16))), (6, .int (nI b)), (7, .int (nI (cpy m y))), (8, .int (nI ((y / 40) % 7))), (9, .ref (q1)), (10, .int (nI row))]), W p l e (headSpec wsL_buries rm_k_L_buries).room s m9 args below meth c H locs 1 3 Q (F0 m9 93 ls [.int (nI col)]) := by
        intro col hcol hc1 H locs Z ls hl
        refine lv_istore (lv' := [(11, .int (nI col)), (0, .ref (gA G 0)), (1, .int (nI what)), (2, .int (nI x)), (3, .int (nI y)), (4, .ref (ca)), (5, .int (nI (x % 16))), (6, .int (nI b)), (7, .int (nI (cpy m y))), (8, .int (nI ((y / 40) % 7))), (9, .ref (q1)), (10, .int (nI row))]) S.1 S.2.1 dL_buries_93 hl (by decide) rfl (fun ls hl => ?_)
        have htg : tg what (x % 16) b row col := by
          unfold tg
          have := hr1
          have := hc1
          have := hbn
          omega
        refine lv_iconst (v := nI 0) S.1 S.2.1 dL_buries_95 (by decide) ?_
        refine lv_istore (lv' := [(12, .int (nI 0)), (11, .int (nI col)), (0, .ref (gA G 0)), (1, .int (nI what)), (2, .int (nI x)), (3, .int (nI y)), (4, .ref (ca)), (5, .int (nI (x % 16))), (6, .int (nI b)), (7, .int (nI (cpy m y))), (8, .int (nI ((y / 40) % 7))), (9, .ref (q1)), (10, .int (nI row))]) S.1 S.2.1 dL_buries_96 hl (by decide) rfl (fun ls hl => ?_)
        have L_98 : ∀ (n : Nat) (k : Nat) (hk : k ≤ 3) (hn : 3 - k < n) (H : Heap) (locs : List Loc) (Z : wZ G (σ) ((ca, cA G m) :: [(q1, iA G 3 (fa_fill (fun j => gB σ j row col) (fun _ => 0) k))]) o s H locs) (ls : Array Slot) (hl : lv_has ls 16 [(0, .ref (gA G 0)), (1, .int (nI what)), (2, .int (nI x)), (3, .int (nI y)), (4, .ref (ca)), (5, .int (nI (x % 16))), (6, .int (nI b)), (7, .int (nI (cpy m y))), (8, .int (nI ((y / 40) % 7))), (9, .ref (q1)), (10, .int (nI row)), (11, .int (nI col)), (12, .int (nI k))]), W p l e (headSpec wsL_buries rm_k_L_buries).room s m9 args below meth c H locs 1 3 Q (F0 m9 98 ls []) := by
          intro n
          induction n with
          | zero => intro k hk hn; omega
          | succ n ih_98 =>
            intro k hk hn H locs Z ls hl
            refine lv_iload S.1 S.2.1 dL_buries_98 (lv_at hl 12 rfl) ?_
            refine lv_iconst (v := nI 3) S.1 S.2.1 dL_buries_100 (by decide) ?_
            refine r_icmpN_ge S (tgt := 125) (by omega) (by omega) dL_buries_101 (by decide) (fun c_3 => ?_) (fun c_3 => ?_)
            · skip
              obtain rfl : k = 3 := by omega
              refine lv_aload_n S.1 S.2.1 dL_buries_125 rfl (lv_at hl 0 rfl) ?_
              refine lv_iload_n S.1 S.2.1 dL_buries_126 rfl (lv_at hl 1 rfl) ?_
              refine lv_iload S.1 S.2.1 dL_buries_127 (lv_at hl 7 rfl) ?_
              refine lv_iload S.1 S.2.1 dL_buries_129 (lv_at hl 5 rfl) ?_
              refine lv_iload S.1 S.2.1 dL_buries_131 (lv_at hl 6 rfl) ?_
              refine lv_iload S.1 S.2.1 dL_buries_133 (lv_at hl 8 rfl) ?_
              refine va_calli (vx_runSW (As := [.ref (gA G 0), .int (nI what), .int (nI (cpy m y)), .int (nI (x % 16)), .int (nI b), .int (nI ((y / 40) % 7))]) (rest := []) S (k_L_deletes l hst G σ ((ca, cA G m) :: [(q1, iA G 3 (fa_fill (fun j => gB σ j row col) (fun _ => 0) 3))]) o what ((cpy m y)) ((x % 16)) b (((y / 40) % 7)) L nn (by omega) (by omega) (by omega) (by omega) hb3 (by omega) hK) (vx_cwSW 6 S.2.2.2.2 gL_buries_L_deletes rfl rfl rfl hy_L_deletes ⟨Nat.le_of_ble_eq_true rfl, Nat.le_of_ble_eq_true rfl⟩) (wPc_S Z) rfl rfl hl.1 rfl (lv_room (Nat.le_of_ble_eq_true rfl)) dL_buries_135 ⟨Nat.le_of_ble_eq_true rfl, Nat.le_of_ble_eq_true rfl⟩) Z.2.2.2.2 (fun _ _ h => h) (fun _ h => h) (fun r_4 u_5 T9 H1 locs1 hT9 hvm hw hB hz hk9 hS => ?_)
              obtain ⟨τ_6, μ9⟩ := u_5
              obtain ⟨hm9, hd9⟩ := hw
              have hm9 : μ9 = (ca, cA G m) :: [(q1, iA G 3 (fa_fill (fun j => gB σ j row col) (fun _ => 0) 3))] := hm9
              subst hm9
              rcases hd9 with ⟨hr9, hw3, hn8, hs9⟩ | ⟨hr9, hD9⟩
              · skip
                have hs9 : τ_6 = σ := hs9
                rw [hs9] at hB
                rw [hr9]; clear hr9 r_4
                have Z : wZ G (σ) ((ca, cA G m) :: [(q1, iA G 3 (fa_fill (fun j => gB σ j row col) (fun _ => 0) 3))]) o s H1 locs1 := wZ_callP Z hB hT9 hS
                clear hB hT9 hS hk9 hz hvm T9
                revert Z; generalize H1 = H; generalize locs1 = locs; intro Z
                refine W.widen (k := 5) (n := 36) (by first | decide | omega) (by first | decide | omega) ?_
                refine lv_istore (lv' := [(12, .int ((-8))), (0, .ref (gA G 0)), (1, .int (nI what)), (2, .int (nI x)), (3, .int (nI y)), (4, .ref (ca)), (5, .int (nI (x % 16))), (6, .int (nI b)), (7, .int (nI (cpy m y))), (8, .int (nI ((y / 40) % 7))), (9, .ref (q1)), (10, .int (nI row)), (11, .int (nI col))]) S.1 S.2.1 dL_buries_138 hl (by decide) rfl (fun ls hl => ?_)
                refine lv_iload S.1 S.2.1 dL_buries_140 (lv_at hl 0 rfl) ?_
                refine lv_bipush (v := (-8)) S.1 S.2.1 dL_buries_142 (by decide) ?_
                refine lv_icmp_ne (tgt := 168) S.1 S.2.1 dL_buries_144 (by decide) (fun c_7 => absurd c_7 (by exact not_not_intro rfl)) (fun c_7 => ?_)
                refine lv_iload_n S.1 S.2.1 dL_buries_147 rfl (lv_at hl 2 rfl) ?_
                refine lv_iconst (v := nI 3) S.1 S.2.1 dL_buries_148 (by decide) ?_
                refine r_icmpN_ne S (tgt := 166) (by omega) (by omega) dL_buries_149 (by decide) (fun c_8 => absurd c_8 (by exact not_not_intro hw3)) (fun c_8 => ?_)
                refine lv_aload S.1 S.2.1 dL_buries_152 (lv_at hl 5 rfl) ?_
                refine lv_bipush (v := nI 8) S.1 S.2.1 dL_buries_154 (by decide) ?_
                refine r_ldc S Z (by omega) dL_buries_156 ?_
                refine lv_bipush (v := nI 8) S.1 S.2.1 dL_buries_157 (by decide) ?_
                refine r_icmpN_ne S (tgt := 166) (by omega) (by omega) dL_buries_159 (by decide) (fun c_9 => absurd c_9 (by omega)) (fun c_9 => ?_)
                refine lv_iconst (v := nI 1) S.1 S.2.1 dL_buries_162 (by decide) ?_
                refine lv_goto (tgt := 167) S.1 S.2.1 dL_buries_163 (by decide) ?_
                have Z := wZ_drop (μ' := (ca, cA G m) :: []) Z (List.Sublist.cons_cons _ (List.nil_sublist _))
                rw [hQ]
                exact W.zret (v := nI 1) S.1 S.2.1 hret rfl (fun _ hT9 hW => ⟨⟨_, (σ, (ca, cA G m) :: []), rfl, ⟨rfl, m, rfl, hLI0, by omega, by omega⟩, wZ_P Z hT9 hW⟩, Z.2.2.2.2.F hT9⟩) Z.2.2.2.2.2.2 dL_buries_167
              · skip
                rw [hr9]; clear hr9 r_4
                obtain ⟨n', τ0, P, hn1, hn2, hn3, hK', hr', hE', hT', hP1, hP2, hs', hH', hcv'⟩ := hD9
                have Z : wZ G (τ_6) ((ca, cA G m) :: [(q1, iA G 3 (fa_fill (fun j => gB σ j row col) (fun _ => 0) 3))]) o s H1 locs1 := wZ_callP Z hB hT9 hS
                clear hB hT9 hS hk9 hz hvm T9
                revert Z; generalize H1 = H; generalize locs1 = locs; intro Z
                refine W.widen (k := 5) (n := 36) (by first | decide | omega) (by first | decide | omega) ?_
                refine lv_istore (lv' := [(12, .int (nI (sdN σ (nI (cpy m y)) 3))), (0, .ref (gA G 0)), (1, .int (nI what)), (2, .int (nI x)), (3, .int (nI y)), (4, .ref (ca)), (5, .int (nI (x % 16))), (6, .int (nI b)), (7, .int (nI (cpy m y))), (8, .int (nI ((y / 40) % 7))), (9, .ref (q1)), (10, .int (nI row)), (11, .int (nI col))]) S.1 S.2.1 dL_buries_138 hl (by decide) rfl (fun ls hl => ?_)
                refine lv_iload S.1 S.2.1 dL_buries_140 (lv_at hl 0 rfl) ?_
                refine lv_bipush (v := (-8)) S.1 S.2.1 dL_buries_142 (by decide) ?_
                refine lv_icmp_ne (tgt := 168) S.1 S.2.1 dL_buries_144 (by decide) (fun c_10 => ?_) (fun c_10 => absurd c_10 (by exact nI_m8 hs3))
                have L_203 : ∀ (m2 : Nat → Nat) (hm2 : ∀ j, j ≠ 8 → m2 j = m j) (hm8 : n' ≤ m2 8 ∧ m2 8 ≤ 8 ∧ m 8 ≤ m2 8) (H : Heap) (locs : List Loc) (Z : wZ G (τ_6) ((ca, cA G m2) :: [(q1, iA G 3 (fa_fill (fun j => gB σ j row col) (fun _ => 0) 3))]) o s H locs) (ls : Array Slot) (hl : lv_has ls 16 [(0, .ref (gA G 0)), (1, .int (nI what)), (2, .int (nI x)), (3, .int (nI y)), (4, .ref (ca)), (5, .int (nI (x % 16))), (6, .int (nI b)), (7, .int (nI (cpy m y))), (8, .int (nI ((y / 40) % 7))), (9, .ref (q1)), (10, .int (nI row)), (11, .int (nI col)), (12, .int (nI (sdN σ (nI (cpy m y)) 3)))]), W p l e (headSpec wsL_buries rm_k_L_buries).room s m9 args below meth c H locs 5 36 Q (F0 m9 203 ls []) := by
                  intro m2 hm2 hm8 H locs Z ls hl
                  have e5 : m2 5 = m 5 := hm2 5 (by decide)
                  refine lv_iload S.1 S.2.1 dL_buries_203 (lv_at hl 12 rfl) ?_
                  refine lv_iload S.1 S.2.1 dL_buries_205 (lv_at hl 7 rfl) ?_
                  refine lv_aload S.1 S.2.1 dL_buries_207 (lv_at hl 4 rfl) ?_
                  refine lv_iconst (v := nI 5) S.1 S.2.1 dL_buries_209 (by decide) ?_
                  refine r_ldc S Z (by omega) dL_buries_210 ?_
                  rw [e5]
                  refine r_andN S dL_buries_211 ?_
                  refine vp_callSi (va_runS (As := [.int (nI (cpy m y &&& m 5))]) (rest := [.int (nI (sdN σ (nI (cpy m y)) 3))]) S (k_L_many l G τ_6 ((ca, cA G m2) :: [(q1, iA G 3 (fa_fill (fun j => gB σ j row col) (fun _ => 0) 3))]) o ((cpy m y &&& m 5)) (by omega)) (va_cwS 1 S.2.2.2.2 gL_buries_L_many rfl rfl rfl hy_L_many ⟨Nat.le_of_ble_eq_true rfl, Nat.le_of_ble_eq_true rfl⟩) (wPc_S Z) rfl rfl hl.1 rfl (lv_room (Nat.le_of_ble_eq_true rfl)) dL_buries_212 ⟨Nat.le_of_ble_eq_true rfl, Nat.le_of_ble_eq_true rfl⟩).run (fun r_11 h_12 => ?_)
                  rw [h_12]; clear h_12 r_11
                  refine r_icmpN_ne S (tgt := 222) (by omega) (by omega) dL_buries_215 (by decide) (fun c_13 => absurd c_13 (by exact not_not_intro e9)) (fun c_13 => ?_)
                  refine lv_iconst (v := nI 1) S.1 S.2.1 dL_buries_218 (by decide) ?_
                  refine lv_goto (tgt := 223) S.1 S.2.1 dL_buries_219 (by decide) ?_
                  refine lv_istore (lv' := [(13, .int (nI 1)), (0, .ref (gA G 0)), (1, .int (nI what)), (2, .int (nI x)), (3, .int (nI y)), (4, .ref (ca)), (5, .int (nI (x % 16))), (6, .int (nI b)), (7, .int (nI (cpy m y))), (8, .int (nI ((y / 40) % 7))), (9, .ref (q1)), (10, .int (nI row)), (11, .int (nI col)), (12, .int (nI (sdN σ (nI (cpy m y)) 3)))]) S.1 S.2.1 dL_buries_223 hl (by decide) rfl (fun ls hl => ?_)
                  refine lv_iconst (v := nI 0) S.1 S.2.1 dL_buries_225 (by decide) ?_
                  refine lv_istore (lv' := [(14, .int (nI 0)), (13, .int (nI 1)), (0, .ref (gA G 0)), (1, .int (nI what)), (2, .int (nI x)), (3, .int (nI y)), (4, .ref (ca)), (5, .int (nI (x % 16))), (6, .int (nI b)), (7, .int (nI (cpy m y))), (8, .int (nI ((y / 40) % 7))), (9, .ref (q1)), (10, .int (nI row)), (11, .int (nI col)), (12, .int (nI (sdN σ (nI (cpy m y)) 3)))]) S.1 S.2.1 dL_buries_226 hl (by decide) rfl (fun ls hl => ?_)
                  have L_228 : ∀ (n : Nat) (i : Nat) (hi : i ≤ 3) (hn : 3 - i < n) (H : Heap) (locs : List Loc) (Z : wZ G (τ_6) ((ca, cA G m2) :: [(q1, iA G 3 (fa_fill (fun j => gB σ j row col) (fun _ => 0) 3))]) o s H locs) (ls : Array Slot) (hl : lv_has ls 16 [(0, .ref (gA G 0)), (1, .int (nI what)), (2, .int (nI x)), (3, .int (nI y)), (4, .ref (ca)), (5, .int (nI (x % 16))), (6, .int (nI b)), (7, .int (nI (cpy m y))), (8, .int (nI ((y / 40) % 7))), (9, .ref (q1)), (10, .int (nI row)), (11, .int (nI col)), (12, .int (nI (sdN σ (nI (cpy m y)) 3))), (13, .int (nI 1)), (14, .int (nI i))]), W p l e (headSpec wsL_buries rm_k_L_buries).room s m9 args below meth c H locs 5 36 Q (F0 m9 228 ls []) := by
                    intro n
                    induction n with
                    | zero => intro i hi hn; omega
                    | succ n ih_228 =>
                      intro i hi hn H locs Z ls hl
                      refine lv_iload S.1 S.2.1 dL_buries_228 (lv_at hl 14 rfl) ?_
                      refine lv_iconst (v := nI 3) S.1 S.2.1 dL_buries_230 (by decide) ?_
                      refine r_icmpN_ge S (tgt := 313) (by omega) (by omega) dL_buries_231 (by decide) (fun c_14 => ?_) (fun c_14 => ?_)
                      · skip
                        obtain rfl : i = 3 := by omega
                        refine lv_aload S.1 S.2.1 dL_buries_313 (lv_at hl 4 rfl) ?_
                        refine lv_iload S.1 S.2.1 dL_buries_315 (lv_at hl 7 rfl) ?_
                        refine va_callv (va_runS (As := [.ref (ca), .int (nI (cpy m y))]) (rest := []) S (k_L_hints l G τ_6 ca m2 ([(q1, iA G 3 (fa_fill (fun j => gB σ j row col) (fun _ => 0) 3))]) o ((cpy m y)) hc8 (fun i hi => by rw [hm2 _ (by omega)]; exact hlen i hi) (by rw [hm2 6 (by decide)]; exact hm6) (by rw [hm2 7 (by decide)]; exact h7)) (va_cwS 2 S.2.2.2.2 gL_buries_L_hints rfl rfl rfl hy_L_hints ⟨Nat.le_of_ble_eq_true rfl, Nat.le_of_ble_eq_true rfl⟩) (wPc_S Z) rfl rfl hl.1 rfl (lv_room (Nat.le_of_ble_eq_true rfl)) dL_buries_317 ⟨Nat.le_of_ble_eq_true rfl, Nat.le_of_ble_eq_true rfl⟩) Z.2.2.2.2 (fun _ _ h => h) (fun _ h => h) (fun u_16 T9 H1 locs1 hT9 hvm hw hB hz hk9 hS => ?_)
                        obtain ⟨τ_17, μ9⟩ := u_16
                        obtain ⟨he9, mh_18, hm9, hN_19⟩ := hw
                        have he9 : τ_17 = τ_6 := he9
                        rw [he9] at hB
                        have hm9 : μ9 = (ca, cA G mh_18) :: [(q1, iA G 3 (fa_fill (fun j => gB σ j row col) (fun _ => 0) 3))] := hm9
                        rw [hm9] at hB
                        have Z : wZ G (τ_6) ((ca, cA G mh_18) :: [(q1, iA G 3 (fa_fill (fun j => gB σ j row col) (fun _ => 0) 3))]) o s H1 locs1 := wZ_callP Z hB hT9 hS
                        clear hB hT9 hS hk9 hz hvm T9
                        revert Z; generalize H1 = H; generalize locs1 = locs; intro Z
                        refine W.widen (k := 5) (n := 36) (by first | decide | omega) (by first | decide | omega) ?_
                        refine lv_iload S.1 S.2.1 dL_buries_320 (lv_at hl 13 rfl) ?_
                        have Z := wZ_drop (μ' := (ca, cA G mh_18) :: []) Z (List.Sublist.cons_cons _ (List.nil_sublist _))
                        rw [hQ]
                        exact W.zret (v := nI 1) S.1 S.2.1 hret rfl (fun _ hT9 hW => ⟨⟨_, (τ_6, (ca, cA G mh_18) :: []), rfl, ⟨rfl, mh_18, rfl, LI_send hK' hr' (fun z => Jp_of hE' hT' z) (okN_tomb hP1 hP2 (by omega) h0 hm0) hs' hH' (by rw [hm2 0 (by decide)]; exact h0) (by rw [hm2 1 (by decide)]; exact h1) (by rw [hm2 1 (by decide)]; exact h1b) (fun i hi => by rw [hm2 _ (by omega)]; exact h2 i hi) (by rw [e5]; exact h5) (fun i hi => by rw [e5]; exact h5b i hi) (by rw [hm2 7 (by decide)]; exact h7) (fun z => by rw [hm2 6 (by decide)]; exact h7b (by rw [← hm2 7 (by decide)]; exact z)) hm8.1 hm8.2.1 hN_19 (fun z => by unfold cpy; rw [if_pos (by rw [← hm2 7 (by decide)]; exact z)]), by have := hN_19.1; have := hm2 0 (by decide); omega, by have := hN_19.2.2.2.2.2.2.1; have := hm2 6 (by decide); omega⟩, wZ_P Z hT9 hW⟩, Z.2.2.2.2.F hT9⟩) Z.2.2.2.2.2.2 dL_buries_322
                      · skip
                        refine lv_iload S.1 S.2.1 dL_buries_234 (lv_at hl 7 rfl) ?_
                        refine lv_aload S.1 S.2.1 dL_buries_236 (lv_at hl 4 rfl) ?_
                        refine lv_iconst (v := nI 5) S.1 S.2.1 dL_buries_238 (by decide) ?_
                        refine r_ldc S Z (by omega) dL_buries_239 ?_
                        rw [e5]
                        refine r_andN S dL_buries_240 ?_
                        refine lv_iload S.1 S.2.1 dL_buries_241 (lv_at hl 14 rfl) ?_
                        refine lv_ishr S.1 S.2.1 dL_buries_243 ?_
                        refine lv_iconst (v := nI 1) S.1 S.2.1 dL_buries_244 (by decide) ?_
                        refine lv_iand S.1 S.2.1 dL_buries_245 ?_
                        rw [bitB_sh (x := nI (cpy m y &&& m 5)) (r := i) (by omega)]
                        refine lv_iconst (v := nI 1) S.1 S.2.1 dL_buries_246 (by decide) ?_
                        refine r_b1_ne S (tgt := 254) dL_buries_247 (by decide) (fun c_20 => ?_) (fun c_20 => ?_)
                        · skip
                          refine lv_iconst (v := nI 0) S.1 S.2.1 dL_buries_254 (by decide) ?_
                          refine lv_istore (lv' := [(15, .int (nI 0)), (0, .ref (gA G 0)), (1, .int (nI what)), (2, .int (nI x)), (3, .int (nI y)), (4, .ref (ca)), (5, .int (nI (x % 16))), (6, .int (nI b)), (7, .int (nI (cpy m y))), (8, .int (nI ((y / 40) % 7))), (9, .ref (q1)), (10, .int (nI row)), (11, .int (nI col)), (12, .int (nI (sdN σ (nI (cpy m y)) 3))), (13, .int (nI 1)), (14, .int (nI i))]) S.1 S.2.1 dL_buries_255 hl (by decide) rfl (fun ls hl => ?_)
                          refine lv_iload S.1 S.2.1 dL_buries_257 (lv_at hl 14 rfl) ?_
                          refine r_if_eqN S (tgt := 304) (by decide) dL_buries_259 (by decide) (fun c_21 => absurd c_21 (by decide)) (fun c_21 => ?_)
                          refine lv_aload_n S.1 S.2.1 dL_buries_262 rfl (lv_at hl 1 rfl) ?_
                          refine lv_iload S.1 S.2.1 dL_buries_263 (lv_at hl 15 rfl) ?_
                          refine lv_iload S.1 S.2.1 dL_buries_265 (lv_at hl 11 rfl) ?_
                          refine lv_iload S.1 S.2.1 dL_buries_267 (lv_at hl 12 rfl) ?_
                          refine vp_callSi (va_runV (As := [.int (nI i), .int (nI row), .int (nI col)]) (rest := []) S (kr_buriedBy l G τ_6 ((ca, cA G m2) :: [(q1, iA G 3 (fa_fill (fun j => gB σ j row col) (fun _ => 0) 3))]) o τ_6 i row col Sm_rf (by omega) (by omega) (by omega)) (cwV 3 S.2.2.2.2 gL_buries_X7_buriedBy rfl rfl rfl ⟨rfl, hy_X7_buriedBy⟩ ⟨Nat.le_of_ble_eq_true rfl, Nat.le_of_ble_eq_true rfl⟩) (wPc_V (q := (RX7, TX7, 7)) Z (by decide) rfl rfl) rfl rfl hl.1 rfl (lv_room (Nat.le_of_ble_eq_true rfl)) dL_buries_269 ⟨Nat.le_of_ble_eq_true rfl, Nat.le_of_ble_eq_true rfl⟩).run (fun r_22 h_23 => ?_)
                          rw [h_23]; clear h_23 r_22
                          refine lv_iload S.1 S.2.1 dL_buries_272 (lv_at hl 0 rfl) ?_
                          refine r_if_eqN S (tgt := 292) (by decide) dL_buries_274 (by decide) (fun c_24 => ?_) (fun c_24 => absurd c_24 (by decide))
                          refine lv_aload S.1 S.2.1 dL_buries_292 (lv_at hl 10 rfl) ?_
                          refine lv_iload S.1 S.2.1 dL_buries_294 (lv_at hl 15 rfl) ?_
                          refine r_ldA (q := 0) (n := 3) S Z rfl (by omega) (by decide) dL_buries_296 ?_
                          rw [fa_fill_in (by omega)]
                          refine lv_icmp_ne (tgt := 304) S.1 S.2.1 dL_buries_297 (by decide) (fun c_25 => absurd c_25 (by exact not_not_intro (wr_3 (gB_bu (by omega) hs' hr' hT' (hcv' row col htg) (by omega)) (fun z => by rw [(hP i (by omega)).mp z] at c_20; exact absurd c_20 (by decide))))) (fun c_25 => ?_)
                          refine lv_iconst (v := nI 1) S.1 S.2.1 dL_buries_300 (by decide) ?_
                          refine lv_goto (tgt := 305) S.1 S.2.1 dL_buries_301 (by decide) ?_
                          refine lv_istore (lv' := [(13, .int (nI 1)), (15, .int (nI 0)), (0, .ref (gA G 0)), (1, .int (nI what)), (2, .int (nI x)), (3, .int (nI y)), (4, .ref (ca)), (5, .int (nI (x % 16))), (6, .int (nI b)), (7, .int (nI (cpy m y))), (8, .int (nI ((y / 40) % 7))), (9, .ref (q1)), (10, .int (nI row)), (11, .int (nI col)), (12, .int (nI (sdN σ (nI (cpy m y)) 3))), (14, .int (nI i))]) S.1 S.2.1 dL_buries_305 hl (by decide) rfl (fun ls hl => ?_)
                          refine lv_iinc (v := nI (i + 1)) (lv' := [(14, .int (nI (i + 1))), (13, .int (nI 1)), (15, .int (nI 0)), (0, .ref (gA G 0)), (1, .int (nI what)), (2, .int (nI x)), (3, .int (nI y)), (4, .ref (ca)), (5, .int (nI (x % 16))), (6, .int (nI b)), (7, .int (nI (cpy m y))), (8, .int (nI ((y / 40) % 7))), (9, .ref (q1)), (10, .int (nI row)), (11, .int (nI col)), (12, .int (nI (sdN σ (nI (cpy m y)) 3)))]) S.1 S.2.1 dL_buries_307 hl (k := 15) rfl (nI_inc rfl) (by decide) rfl (fun ls hl => ?_)
                          refine lv_goto (tgt := 228) S.1 S.2.1 dL_buries_310 (by decide) ?_
                          exact ih_228 (i + 1) (by first | omega | exact Nat.zero_le _) (by omega) _ _ Z ls (lv_sub hl [3, 4, 5, 6, 7, 8, 9, 10, 11, 12, 13, 14, 15, 1, 0] rfl)
                        · skip
                          refine lv_iconst (v := nI 1) S.1 S.2.1 dL_buries_250 (by decide) ?_
                          refine lv_goto (tgt := 255) S.1 S.2.1 dL_buries_251 (by decide) ?_
                          refine lv_istore (lv' := [(15, .int (nI 1)), (0, .ref (gA G 0)), (1, .int (nI what)), (2, .int (nI x)), (3, .int (nI y)), (4, .ref (ca)), (5, .int (nI (x % 16))), (6, .int (nI b)), (7, .int (nI (cpy m y))), (8, .int (nI ((y / 40) % 7))), (9, .ref (q1)), (10, .int (nI row)), (11, .int (nI col)), (12, .int (nI (sdN σ (nI (cpy m y)) 3))), (13, .int (nI 1)), (14, .int (nI i))]) S.1 S.2.1 dL_buries_255 hl (by decide) rfl (fun ls hl => ?_)
                          refine lv_iload S.1 S.2.1 dL_buries_257 (lv_at hl 14 rfl) ?_
                          refine r_if_eqN S (tgt := 304) (by decide) dL_buries_259 (by decide) (fun c_26 => absurd c_26 (by decide)) (fun c_26 => ?_)
                          refine lv_aload_n S.1 S.2.1 dL_buries_262 rfl (lv_at hl 1 rfl) ?_
                          refine lv_iload S.1 S.2.1 dL_buries_263 (lv_at hl 15 rfl) ?_
                          refine lv_iload S.1 S.2.1 dL_buries_265 (lv_at hl 11 rfl) ?_
                          refine lv_iload S.1 S.2.1 dL_buries_267 (lv_at hl 12 rfl) ?_
                          refine vp_callSi (va_runV (As := [.int (nI i), .int (nI row), .int (nI col)]) (rest := []) S (kr_buriedBy l G τ_6 ((ca, cA G m2) :: [(q1, iA G 3 (fa_fill (fun j => gB σ j row col) (fun _ => 0) 3))]) o τ_6 i row col Sm_rf (by omega) (by omega) (by omega)) (cwV 3 S.2.2.2.2 gL_buries_X7_buriedBy rfl rfl rfl ⟨rfl, hy_X7_buriedBy⟩ ⟨Nat.le_of_ble_eq_true rfl, Nat.le_of_ble_eq_true rfl⟩) (wPc_V (q := (RX7, TX7, 7)) Z (by decide) rfl rfl) rfl rfl hl.1 rfl (lv_room (Nat.le_of_ble_eq_true rfl)) dL_buries_269 ⟨Nat.le_of_ble_eq_true rfl, Nat.le_of_ble_eq_true rfl⟩).run (fun r_27 h_28 => ?_)
                          rw [h_28]; clear h_28 r_27
                          refine lv_iload S.1 S.2.1 dL_buries_272 (lv_at hl 0 rfl) ?_
                          refine r_if_eqN S (tgt := 292) (by decide) dL_buries_274 (by decide) (fun c_29 => absurd c_29 (by decide)) (fun c_29 => ?_)
                          refine lv_iload S.1 S.2.1 dL_buries_277 (lv_at hl 9 rfl) ?_
                          refine lv_aload S.1 S.2.1 dL_buries_279 (lv_at hl 10 rfl) ?_
                          refine lv_iload S.1 S.2.1 dL_buries_281 (lv_at hl 15 rfl) ?_
                          refine r_ldA (q := 0) (n := 3) S Z rfl (by omega) (by decide) dL_buries_283 ?_
                          rw [fa_fill_in (by omega)]
                          refine lv_icmp_le (tgt := 292) S.1 S.2.1 dL_buries_284 (by decide) (fun c_30 => ?_) (fun c_30 => ?_)
                          · skip
                            refine lv_aload S.1 S.2.1 dL_buries_292 (lv_at hl 10 rfl) ?_
                            refine lv_iload S.1 S.2.1 dL_buries_294 (lv_at hl 15 rfl) ?_
                            refine r_ldA (q := 0) (n := 3) S Z rfl (by omega) (by decide) dL_buries_296 ?_
                            rw [fa_fill_in (by omega)]
                            refine lv_icmp_ne (tgt := 304) S.1 S.2.1 dL_buries_297 (by decide) (fun c_31 => absurd c_31 (by exact not_not_intro (wr_2 (gB_bu (by omega) hs' hr' hT' (hcv' row col htg) (by omega)) ((hP i (by omega)).mpr c_20) c_30))) (fun c_31 => ?_)
                            refine lv_iconst (v := nI 1) S.1 S.2.1 dL_buries_300 (by decide) ?_
                            refine lv_goto (tgt := 305) S.1 S.2.1 dL_buries_301 (by decide) ?_
                            refine lv_istore (lv' := [(13, .int (nI 1)), (15, .int (nI 1)), (0, .ref (gA G 0)), (1, .int (nI what)), (2, .int (nI x)), (3, .int (nI y)), (4, .ref (ca)), (5, .int (nI (x % 16))), (6, .int (nI b)), (7, .int (nI (cpy m y))), (8, .int (nI ((y / 40) % 7))), (9, .ref (q1)), (10, .int (nI row)), (11, .int (nI col)), (12, .int (nI (sdN σ (nI (cpy m y)) 3))), (14, .int (nI i))]) S.1 S.2.1 dL_buries_305 hl (by decide) rfl (fun ls hl => ?_)
                            refine lv_iinc (v := nI (i + 1)) (lv' := [(14, .int (nI (i + 1))), (13, .int (nI 1)), (15, .int (nI 1)), (0, .ref (gA G 0)), (1, .int (nI what)), (2, .int (nI x)), (3, .int (nI y)), (4, .ref (ca)), (5, .int (nI (x % 16))), (6, .int (nI b)), (7, .int (nI (cpy m y))), (8, .int (nI ((y / 40) % 7))), (9, .ref (q1)), (10, .int (nI row)), (11, .int (nI col)), (12, .int (nI (sdN σ (nI (cpy m y)) 3)))]) S.1 S.2.1 dL_buries_307 hl (k := 15) rfl (nI_inc rfl) (by decide) rfl (fun ls hl => ?_)
                            refine lv_goto (tgt := 228) S.1 S.2.1 dL_buries_310 (by decide) ?_
                            exact ih_228 (i + 1) (by first | omega | exact Nat.zero_le _) (by omega) _ _ Z ls (lv_sub hl [3, 4, 5, 6, 7, 8, 9, 10, 11, 12, 13, 14, 15, 1, 0] rfl)
                          · skip
                            refine lv_iload S.1 S.2.1 dL_buries_287 (lv_at hl 9 rfl) ?_
                            refine lv_goto (tgt := 297) S.1 S.2.1 dL_buries_289 (by decide) ?_
                            refine lv_icmp_ne (tgt := 304) S.1 S.2.1 dL_buries_297 (by decide) (fun c_32 => absurd c_32 (by exact not_not_intro (wr_1 (gB_bu (by omega) hs' hr' hT' (hcv' row col htg) (by omega)) ((hP i (by omega)).mpr c_20) c_30))) (fun c_32 => ?_)
                            refine lv_iconst (v := nI 1) S.1 S.2.1 dL_buries_300 (by decide) ?_
                            refine lv_goto (tgt := 305) S.1 S.2.1 dL_buries_301 (by decide) ?_
                            refine lv_istore (lv' := [(13, .int (nI 1)), (15, .int (nI 1)), (0, .ref (gA G 0)), (1, .int (nI what)), (2, .int (nI x)), (3, .int (nI y)), (4, .ref (ca)), (5, .int (nI (x % 16))), (6, .int (nI b)), (7, .int (nI (cpy m y))), (8, .int (nI ((y / 40) % 7))), (9, .ref (q1)), (10, .int (nI row)), (11, .int (nI col)), (12, .int (nI (sdN σ (nI (cpy m y)) 3))), (14, .int (nI i))]) S.1 S.2.1 dL_buries_305 hl (by decide) rfl (fun ls hl => ?_)
                            refine lv_iinc (v := nI (i + 1)) (lv' := [(14, .int (nI (i + 1))), (13, .int (nI 1)), (15, .int (nI 1)), (0, .ref (gA G 0)), (1, .int (nI what)), (2, .int (nI x)), (3, .int (nI y)), (4, .ref (ca)), (5, .int (nI (x % 16))), (6, .int (nI b)), (7, .int (nI (cpy m y))), (8, .int (nI ((y / 40) % 7))), (9, .ref (q1)), (10, .int (nI row)), (11, .int (nI col)), (12, .int (nI (sdN σ (nI (cpy m y)) 3)))]) S.1 S.2.1 dL_buries_307 hl (k := 15) rfl (nI_inc rfl) (by decide) rfl (fun ls hl => ?_)
                            refine lv_goto (tgt := 228) S.1 S.2.1 dL_buries_310 (by decide) ?_
                            exact ih_228 (i + 1) (by first | omega | exact Nat.zero_le _) (by omega) _ _ Z ls (lv_sub hl [3, 4, 5, 6, 7, 8, 9, 10, 11, 12, 13, 14, 15, 1, 0] rfl)
                  exact L_228 (3 - 0 + 1) 0 (by first | omega | exact Nat.zero_le _) (Nat.lt_succ_self _) _ _ Z ls (lv_sub hl [2, 3, 4, 5, 6, 7, 8, 9, 10, 11, 12, 13, 14, 1, 0] rfl)
                refine lv_aload S.1 S.2.1 dL_buries_168 (lv_at hl 5 rfl) ?_
                refine lv_bipush (v := nI 8) S.1 S.2.1 dL_buries_170 (by decide) ?_
                refine lv_iload_n S.1 S.2.1 dL_buries_172 rfl (lv_at hl 2 rfl) ?_
                refine lv_iconst (v := nI 3) S.1 S.2.1 dL_buries_173 (by decide) ?_
                refine r_icmpN_ne S (tgt := 197) (by omega) (by omega) dL_buries_174 (by decide) (fun c_33 => ?_) (fun c_33 => ?_)
                · skip
                  refine lv_aload S.1 S.2.1 dL_buries_197 (lv_at hl 5 rfl) ?_
                  refine lv_bipush (v := nI 8) S.1 S.2.1 dL_buries_199 (by decide) ?_
                  refine r_ldc S Z (by omega) dL_buries_201 ?_
                  refine r_stc S Z (by omega) dL_buries_202 (fun H locs Z => ?_)
                  exact L_203 (va_up m 8 (m 8)) (fun j hj => va_up_ne _ _ hj) (by rw [va_up_self]; omega) _ _ Z ls (lv_sub hl [1, 2, 3, 4, 5, 6, 7, 8, 9, 10, 11, 12, 0] rfl)
                · skip
                  refine lv_aload S.1 S.2.1 dL_buries_177 (lv_at hl 5 rfl) ?_
                  refine lv_bipush (v := nI 8) S.1 S.2.1 dL_buries_179 (by decide) ?_
                  refine r_ldc S Z (by omega) dL_buries_181 ?_
                  refine lv_bipush (v := nI 8) S.1 S.2.1 dL_buries_182 (by decide) ?_
                  refine r_icmpN_ge S (tgt := 197) (by omega) (by omega) dL_buries_184 (by decide) (fun c_34 => ?_) (fun c_34 => ?_)
                  · skip
                    refine lv_aload S.1 S.2.1 dL_buries_197 (lv_at hl 5 rfl) ?_
                    refine lv_bipush (v := nI 8) S.1 S.2.1 dL_buries_199 (by decide) ?_
                    refine r_ldc S Z (by omega) dL_buries_201 ?_
                    refine r_stc S Z (by omega) dL_buries_202 (fun H locs Z => ?_)
                    exact L_203 (va_up m 8 (m 8)) (fun j hj => va_up_ne _ _ hj) (by rw [va_up_self]; omega) _ _ Z ls (lv_sub hl [1, 2, 3, 4, 5, 6, 7, 8, 9, 10, 11, 12, 0] rfl)
                  · skip
                    refine lv_aload S.1 S.2.1 dL_buries_187 (lv_at hl 5 rfl) ?_
                    refine lv_bipush (v := nI 8) S.1 S.2.1 dL_buries_189 (by decide) ?_
                    refine r_ldc S Z (by omega) dL_buries_191 ?_
                    refine lv_iconst (v := nI 1) S.1 S.2.1 dL_buries_192 (by decide) ?_
                    refine r_addN S dL_buries_193 ?_
                    refine lv_goto (tgt := 202) S.1 S.2.1 dL_buries_194 (by decide) ?_
                    refine r_stc S Z (by omega) dL_buries_202 (fun H locs Z => ?_)
                    exact L_203 (va_up m 8 ((m 8) + 1)) (fun j hj => va_up_ne _ _ hj) (by rw [va_up_self]; omega) _ _ Z ls (lv_sub hl [1, 2, 3, 4, 5, 6, 7, 8, 9, 10, 11, 12, 0] rfl)
            · skip
              refine lv_aload S.1 S.2.1 dL_buries_104 (lv_at hl 9 rfl) ?_
              refine lv_iload S.1 S.2.1 dL_buries_106 (lv_at hl 12 rfl) ?_
              refine lv_aload_n S.1 S.2.1 dL_buries_108 rfl (lv_at hl 0 rfl) ?_
              refine lv_iload S.1 S.2.1 dL_buries_109 (lv_at hl 12 rfl) ?_
              refine lv_iload S.1 S.2.1 dL_buries_111 (lv_at hl 10 rfl) ?_
              refine lv_iload S.1 S.2.1 dL_buries_113 (lv_at hl 11 rfl) ?_
              refine vp_callSi (va_runV (As := [.int (nI k), .int (nI row), .int (nI col)]) (rest := [.int (nI k), .ref (q1)]) S (kr_buriedBy l G σ ((ca, cA G m) :: [(q1, iA G 3 (fa_fill (fun j => gB σ j row col) (fun _ => 0) k))]) o σ k row col Sm_rf (by omega) (by omega) (by omega)) (cwV 3 S.2.2.2.2 gL_buries_X7_buriedBy rfl rfl rfl ⟨rfl, hy_X7_buriedBy⟩ ⟨Nat.le_of_ble_eq_true rfl, Nat.le_of_ble_eq_true rfl⟩) (wPc_V (q := (RX7, TX7, 7)) Z (by decide) rfl rfl) rfl rfl hl.1 rfl (lv_room (Nat.le_of_ble_eq_true rfl)) dL_buries_115 ⟨Nat.le_of_ble_eq_true rfl, Nat.le_of_ble_eq_true rfl⟩).run (fun r_35 h_36 => ?_)
              rw [h_36]; clear h_36 r_35
              refine r_stA (q := 0) (n := 3) S Z rfl (by omega) (by decide) dL_buries_118 (fun H locs Z => ?_)
              have Z : wZ G (σ) ((ca, cA G m) :: [(q1, iA G 3 (fa_fill (fun j => gB σ j row col) (fun _ => 0) (k + 1)))]) o s H locs := by
                rw [← fa_fill_succ (fun j => gB σ j row col) (fun _ => 0) k]
                exact Z
              refine lv_iinc (v := nI (k + 1)) (lv' := [(12, .int (nI (k + 1))), (0, .ref (gA G 0)), (1, .int (nI what)), (2, .int (nI x)), (3, .int (nI y)), (4, .ref (ca)), (5, .int (nI (x % 16))), (6, .int (nI b)), (7, .int (nI (cpy m y))), (8, .int (nI ((y / 40) % 7))), (9, .ref (q1)), (10, .int (nI row)), (11, .int (nI col))]) S.1 S.2.1 dL_buries_119 hl (k := 12) rfl (nI_inc rfl) (by decide) rfl (fun ls hl => ?_)
              refine lv_goto (tgt := 98) S.1 S.2.1 dL_buries_122 (by decide) ?_
              exact ih_98 (k + 1) (by first | omega | exact Nat.zero_le _) (by omega) _ _ Z ls (lv_sub hl [1, 2, 3, 4, 5, 6, 7, 8, 9, 10, 11, 12, 0] rfl)
        have q8 : ((ca, cA G m) :: [(q1, iA G 3 (fa_fill (fun j => gB σ j row col) (fun _ => 0) 0))] : mS) = (ca, cA G m) :: [(q1, iA G 3 (fun _ => 0))] := by rw [fa_fill_0]
        rw [← q8] at Z
        exact L_98 (3 - 0 + 1) 0 (by first | omega | exact Nat.zero_le _) (Nat.lt_succ_self _) _ _ Z ls (lv_sub hl [2, 3, 4, 5, 6, 7, 8, 9, 10, 11, 12, 1, 0] rfl)
      refine lv_iload_n S.1 S.2.1 dL_buries_73 rfl (lv_at hl 2 rfl) ?_
      refine r_if_eqN S (tgt := 82) (by omega) dL_buries_74 (by decide) (fun c_37 => ?_) (fun c_37 => ?_)
      · skip
        refine lv_iload S.1 S.2.1 dL_buries_82 (lv_at hl 7 rfl) ?_
        refine lv_goto (tgt := 93) S.1 S.2.1 dL_buries_84 (by decide) ?_
        exact L_93 b (by first | omega | (have := hbn (by omega); omega)) (fun z => by omega) _ _ Z ls (lv_sub hl [1, 2, 3, 4, 5, 6, 7, 8, 9, 10, 0] rfl)
      · skip
        refine lv_iload_n S.1 S.2.1 dL_buries_77 rfl (lv_at hl 2 rfl) ?_
        refine lv_iconst (v := nI 1) S.1 S.2.1 dL_buries_78 (by decide) ?_
        refine r_icmpN_ne S (tgt := 87) (by omega) (by omega) dL_buries_79 (by decide) (fun c_38 => ?_) (fun c_38 => ?_)
        · skip
          refine lv_iload_n S.1 S.2.1 dL_buries_87 rfl (lv_at hl 4 rfl) ?_
          refine lv_bipush (v := nI 16) S.1 S.2.1 dL_buries_88 (by decide) ?_
          refine r_divN S (by omega) (by decide) (by decide) dL_buries_90 ?_
          refine lv_iconst (v := nI 4) S.1 S.2.1 dL_buries_91 (by decide) ?_
          refine r_remN S (by omega) (by decide) (by decide) dL_buries_92 ?_
          exact L_93 ((y / 16) % 4) (by first | omega | (have := hbn (by omega); omega)) (fun z => by omega) _ _ Z ls (lv_sub hl [1, 2, 3, 4, 5, 6, 7, 8, 9, 10, 0] rfl)
        · skip
          refine lv_iload S.1 S.2.1 dL_buries_82 (lv_at hl 7 rfl) ?_
          refine lv_goto (tgt := 93) S.1 S.2.1 dL_buries_84 (by decide) ?_
          exact L_93 b (by first | omega | (have := hbn (by omega); omega)) (fun z => by omega) _ _ Z ls (lv_sub hl [1, 2, 3, 4, 5, 6, 7, 8, 9, 10, 0] rfl)
    refine lv_iload_n S.1 S.2.1 dL_buries_57 rfl (lv_at hl 5 rfl) ?_
    refine lv_iconst (v := nI 1) S.1 S.2.1 dL_buries_58 (by decide) ?_
    refine r_icmpN_ne S (tgt := 69) (by omega) (by omega) dL_buries_59 (by decide) (fun c_39 => ?_) (fun c_39 => ?_)
    · skip
      refine lv_iload S.1 S.2.1 dL_buries_69 (lv_at hl 9 rfl) ?_
      exact L_71 (x % 16) (by omega) (fun z => by omega) _ _ Z ls (lv_sub hl [4, 5, 6, 7, 8, 9, 3, 2, 1, 0] rfl)
    · skip
      refine lv_iload_n S.1 S.2.1 dL_buries_62 rfl (lv_at hl 7 rfl) ?_
      refine lv_bipush (v := nI 16) S.1 S.2.1 dL_buries_63 (by decide) ?_
      refine r_remN S (by omega) (by decide) (by decide) dL_buries_65 ?_
      refine lv_goto (tgt := 71) S.1 S.2.1 dL_buries_66 (by decide) ?_
      exact L_71 (y % 16) (by omega) (fun z => by omega) _ _ Z ls (lv_sub hl [4, 5, 6, 7, 8, 9, 3, 2, 1, 0] rfl)
  refine lv_iload_n S.1 S.2.1 dL_buries_6 rfl (lv_at hl 2 rfl) ?_
  refine lv_iconst (v := nI 3) S.1 S.2.1 dL_buries_7 (by decide) ?_
  refine r_icmpN_ne S (tgt := 27) (by omega) (by omega) dL_buries_8 (by decide) (fun c_40 => ?_) (fun c_40 => ?_)
  · skip
    refine lv_iload_n S.1 S.2.1 dL_buries_27 rfl (lv_at hl 3 rfl) ?_
    refine lv_bipush (v := nI 16) S.1 S.2.1 dL_buries_28 (by decide) ?_
    refine r_divN S (by omega) (by decide) (by decide) dL_buries_30 ?_
    refine lv_iconst (v := nI 4) S.1 S.2.1 dL_buries_31 (by decide) ?_
    refine r_remN S (by omega) (by decide) (by decide) dL_buries_32 ?_
    exact L_33 ((x / 16) % 4) (by omega) (fun z => by omega) (fun z => by omega) _ _ Z ls (lv_sub hl [1, 2, 3, 4, 5, 0] rfl)
  · skip
    refine lv_iload S.1 S.2.1 dL_buries_11 (lv_at hl 0 rfl) ?_
    refine lv_iload_n S.1 S.2.1 dL_buries_13 rfl (lv_at hl 3 rfl) ?_
    refine lv_bipush (v := nI 16) S.1 S.2.1 dL_buries_14 (by decide) ?_
    refine r_divN S (by omega) (by decide) (by decide) dL_buries_16 ?_
    refine lv_bipush (v := nI 16) S.1 S.2.1 dL_buries_17 (by decide) ?_
    refine lv_iload S.1 S.2.1 dL_buries_19 (lv_at hl 0 rfl) ?_
    refine r_subN S (by omega) dL_buries_21 ?_
    have e10 := Nat.mod_lt (x / 16) (show 0 < 16 - x % 16 by omega)
    refine r_remN S (by omega) (by omega) (by omega) dL_buries_22 ?_
    refine r_addN S dL_buries_23 ?_
    refine lv_goto (tgt := 33) S.1 S.2.1 dL_buries_24 (by decide) ?_
    exact L_33 ((x % 16) + (x / 16 % (16 - x % 16))) (by omega) (fun z => by omega) (fun z => by omega) _ _ Z ls (lv_sub hl [1, 2, 3, 4, 5, 0] rfl)
