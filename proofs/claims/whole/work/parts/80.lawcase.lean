theorem m_L_write_c13 : Cond.classLink RL 13 "java/lang/IndexOutOfBoundsException" ∈ wsL_write := by decide +kernel
set_option maxHeartbeats 4000000 in
set_option maxRecDepth 100000 in
theorem kL_write_X1 (l : Launch) (hst : l.stackTraces = false) (G : wG) (σ : cS) (μ : mS) (o : Nat → Int64) (v1 : Int32) (v2 : Int32) (v3 : Int32) (v4 : Int32) (v5 : Int32) (v6 : Int32) (MS : mS) (MR : Int32) (hx : wi v2 (nI 15) = false) (hpost : LQ G μ MS MR (nI 1) (σ, μ, o)) : Met l yL_write wsL_write rmL (wPc G σ μ o [.ref (gA G 0), .int (v1), .int (v2), .int (v3), .int (v4), .int (v5), .int (v6), .ref (gA G 53)]) (QLP G μ MS MR) 4 34 (gP G) := by
  refine m_ofWH (hh := [(0, 18, 21, 13), (0, 18, 25, 15)]) (cc := cL_write) (maxL := 9) (ret := (some .int)) (by decide) rfl ?_
  intro p e s m args below meth c s₁ B hml htab hv
  obtain ⟨hargs, hI⟩ := hv
  have S : CallFix p m c cL_write 9 s args wsL_write RL := ⟨B.exec, B.bytes, hml, findClass_of_methodNamed B.named, atoms_spec (ws := wsL_write) B.pre⟩
  have hret := B.returns
  have hlocks := B.notSynchronized
  have Z := wZ_0 hI
  clear hI
  obtain ⟨Q, hQ⟩ : ∃ Q, Q = MQ below (QLP G μ MS MR) args s 4 34 (gP G) := ⟨_, rfl⟩
  rw [← hQ]
  have hl := lv_entry [.ref (gA G 0), .int (v1), .int (v2), .int (v3), .int (v4), .int (v5), .int (v6), .ref (gA G 53)] (n := 9) (Nat.le_of_ble_eq_true rfl)
  rw [show entryFrame m args 9 = entryFrame m ([.ref (gA G 0), .int (v1), .int (v2), .int (v3), .int (v4), .int (v5), .int (v6), .ref (gA G 53)] : List Value).toArray 9 from by rw [hargs], lg_entry_eq]
  generalize (lg_sl [.ref (gA G 0), .int (v1), .int (v2), .int (v3), .int (v4), .int (v5), .int (v6), .ref (gA G 53)] ++ List.replicate (9 - (lg_sl [.ref (gA G 0), .int (v1), .int (v2), .int (v3), .int (v4), .int (v5), .int (v6), .ref (gA G 53)]).length) Slot.unset).toArray = ls at hl ⊢
  have hl : lv_has ls 9 [(0, .ref (gA G 0)), (1, .int (v1)), (2, .int (v2)), (3, .int (v3)), (4, .int (v4)), (5, .int (v5)), (6, .int (v6)), (7, .ref (gA G 53))] := hl
  refine lv_aload S.1 S.2.1 dL_write_0 (lv_at hl 7 rfl) ?_
  refine lv_iconst (v := nI 0) S.1 S.2.1 dL_write_2 (by decide) ?_
  refine lv_aload_n S.1 S.2.1 dL_write_3 rfl (lv_at hl 0 rfl) ?_
  refine lv_iload_n S.1 S.2.1 dL_write_4 rfl (lv_at hl 1 rfl) ?_
  refine lv_iload_n S.1 S.2.1 dL_write_5 rfl (lv_at hl 2 rfl) ?_
  refine lv_iload_n S.1 S.2.1 dL_write_6 rfl (lv_at hl 3 rfl) ?_
  refine lv_iload S.1 S.2.1 dL_write_7 (lv_at hl 4 rfl) ?_
  refine lv_iload S.1 S.2.1 dL_write_9 (lv_at hl 5 rfl) ?_
  refine lv_iload S.1 S.2.1 dL_write_11 (lv_at hl 6 rfl) ?_
  refine x_call (vx_runV (As := [.int (v1), .int (v2), .int (v3), .int (v4), .int (v5), .int (v6)]) (rest := [.int (nI 0), .ref (gA G 53)]) S (k_X7_write_X1 l hst G σ μ o v1 v2 v3 v4 v5 v6 hx) (cwV 6 S.2.2.2.2 gL_write_X7_write rfl rfl rfl ⟨rfl, hy_X7_write⟩ ⟨Nat.le_of_ble_eq_true rfl, Nat.le_of_ble_eq_true rfl⟩) (wPc_V (q := (RX7, TX7, 7)) Z (by decide) rfl rfl) rfl rfl hl.1 rfl (lv_room (Nat.le_of_ble_eq_true rfl)) dL_write_13 ⟨Nat.le_of_ble_eq_true rfl, Nat.le_of_ble_eq_true rfl⟩) (fun _ _ _ h => h) Z (fun ce q9 H locs Z h1 h2 h3 => ?_)
  refine vx_catch (name := "java/lang/IndexOutOfBoundsException") S.2.2.2.1 [] ⟨0, 18, 21, 13⟩ [⟨0, 18, 25, 15⟩] (by rw [htab]; rfl) (fun z h => absurd h List.not_mem_nil) rfl (by decide) (S.2.2.2.2 _ m_L_write_c13) (ca_use Z n_caA) h1 h2 h3 ?_
  refine lv_astore (lv' := [(8, .ref (q9)), (0, .ref (gA G 0)), (1, .int (v1)), (2, .int (v2)), (3, .int (v3)), (4, .int (v4)), (5, .int (v5)), (6, .int (v6)), (7, .ref (gA G 53))]) S.1 S.2.1 dL_write_21 hl (by decide) rfl (fun ls hl => ?_)
  refine lv_iconst (v := nI 1) S.1 S.2.1 dL_write_23 (by decide) ?_
  refine W.widen (k := 4) (n := 34) (by decide) (by decide) ?_
  rw [hQ]
  exact W.iret (v := nI 1) S.1 S.2.1 hret (fun _ hT9 hW => ⟨⟨_, (σ, μ, o), rfl, hpost, wZ_I Z hT9 hW⟩, Z.2.2.2.2.F hT9⟩) Z.2.2.2.2.2.2 dL_write_24

set_option maxHeartbeats 4000000 in
set_option maxRecDepth 100000 in
theorem kL_write_X2 (l : Launch) (hst : l.stackTraces = false) (G : wG) (σ : cS) (μ : mS) (o : Nat → Int64) (v1 : Int32) (k2 : Nat) (v3 : Int32) (v4 : Int32) (v5 : Int32) (v6 : Int32) (MS : mS) (MR : Int32) (h2_ : k2 ≤ 15) (hx : wi v3 (nI 3) = false) (hpost : LQ G μ MS MR (nI 1) (σ, μ, o)) : Met l yL_write wsL_write rmL (wPc G σ μ o [.ref (gA G 0), .int (v1), .int (nI k2), .int (v3), .int (v4), .int (v5), .int (v6), .ref (gA G 53)]) (QLP G μ MS MR) 4 34 (gP G) := by
  refine m_ofWH (hh := [(0, 18, 21, 13), (0, 18, 25, 15)]) (cc := cL_write) (maxL := 9) (ret := (some .int)) (by decide) rfl ?_
  intro p e s m args below meth c s₁ B hml htab hv
  obtain ⟨hargs, hI⟩ := hv
  have S : CallFix p m c cL_write 9 s args wsL_write RL := ⟨B.exec, B.bytes, hml, findClass_of_methodNamed B.named, atoms_spec (ws := wsL_write) B.pre⟩
  have hret := B.returns
  have hlocks := B.notSynchronized
  have Z := wZ_0 hI
  clear hI
  obtain ⟨Q, hQ⟩ : ∃ Q, Q = MQ below (QLP G μ MS MR) args s 4 34 (gP G) := ⟨_, rfl⟩
  rw [← hQ]
  have hl := lv_entry [.ref (gA G 0), .int (v1), .int (nI k2), .int (v3), .int (v4), .int (v5), .int (v6), .ref (gA G 53)] (n := 9) (Nat.le_of_ble_eq_true rfl)
  rw [show entryFrame m args 9 = entryFrame m ([.ref (gA G 0), .int (v1), .int (nI k2), .int (v3), .int (v4), .int (v5), .int (v6), .ref (gA G 53)] : List Value).toArray 9 from by rw [hargs], lg_entry_eq]
  generalize (lg_sl [.ref (gA G 0), .int (v1), .int (nI k2), .int (v3), .int (v4), .int (v5), .int (v6), .ref (gA G 53)] ++ List.replicate (9 - (lg_sl [.ref (gA G 0), .int (v1), .int (nI k2), .int (v3), .int (v4), .int (v5), .int (v6), .ref (gA G 53)]).length) Slot.unset).toArray = ls at hl ⊢
  have hl : lv_has ls 9 [(0, .ref (gA G 0)), (1, .int (v1)), (2, .int (nI k2)), (3, .int (v3)), (4, .int (v4)), (5, .int (v5)), (6, .int (v6)), (7, .ref (gA G 53))] := hl
  refine lv_aload S.1 S.2.1 dL_write_0 (lv_at hl 7 rfl) ?_
  refine lv_iconst (v := nI 0) S.1 S.2.1 dL_write_2 (by decide) ?_
  refine lv_aload_n S.1 S.2.1 dL_write_3 rfl (lv_at hl 0 rfl) ?_
  refine lv_iload_n S.1 S.2.1 dL_write_4 rfl (lv_at hl 1 rfl) ?_
  refine lv_iload_n S.1 S.2.1 dL_write_5 rfl (lv_at hl 2 rfl) ?_
  refine lv_iload_n S.1 S.2.1 dL_write_6 rfl (lv_at hl 3 rfl) ?_
  refine lv_iload S.1 S.2.1 dL_write_7 (lv_at hl 4 rfl) ?_
  refine lv_iload S.1 S.2.1 dL_write_9 (lv_at hl 5 rfl) ?_
  refine lv_iload S.1 S.2.1 dL_write_11 (lv_at hl 6 rfl) ?_
  refine x_call (vx_runV (As := [.int (v1), .int (nI k2), .int (v3), .int (v4), .int (v5), .int (v6)]) (rest := [.int (nI 0), .ref (gA G 53)]) S (k_X7_write_X2 l hst G σ μ o v1 k2 v3 v4 v5 v6 h2_ hx) (cwV 6 S.2.2.2.2 gL_write_X7_write rfl rfl rfl ⟨rfl, hy_X7_write⟩ ⟨Nat.le_of_ble_eq_true rfl, Nat.le_of_ble_eq_true rfl⟩) (wPc_V (q := (RX7, TX7, 7)) Z (by decide) rfl rfl) rfl rfl hl.1 rfl (lv_room (Nat.le_of_ble_eq_true rfl)) dL_write_13 ⟨Nat.le_of_ble_eq_true rfl, Nat.le_of_ble_eq_true rfl⟩) (fun _ _ _ h => h) Z (fun ce q9 H locs Z h1 h2 h3 => ?_)
  refine vx_catch (name := "java/lang/IndexOutOfBoundsException") S.2.2.2.1 [] ⟨0, 18, 21, 13⟩ [⟨0, 18, 25, 15⟩] (by rw [htab]; rfl) (fun z h => absurd h List.not_mem_nil) rfl (by decide) (S.2.2.2.2 _ m_L_write_c13) (ca_use Z n_caA) h1 h2 h3 ?_
  refine lv_astore (lv' := [(8, .ref (q9)), (0, .ref (gA G 0)), (1, .int (v1)), (2, .int (nI k2)), (3, .int (v3)), (4, .int (v4)), (5, .int (v5)), (6, .int (v6)), (7, .ref (gA G 53))]) S.1 S.2.1 dL_write_21 hl (by decide) rfl (fun ls hl => ?_)
  refine lv_iconst (v := nI 1) S.1 S.2.1 dL_write_23 (by decide) ?_
  refine W.widen (k := 4) (n := 34) (by decide) (by decide) ?_
  rw [hQ]
  exact W.iret (v := nI 1) S.1 S.2.1 hret (fun _ hT9 hW => ⟨⟨_, (σ, μ, o), rfl, hpost, wZ_I Z hT9 hW⟩, Z.2.2.2.2.F hT9⟩) Z.2.2.2.2.2.2 dL_write_24

theorem m_L_write_c15 : Cond.classLink RL 15 "java/lang/IllegalArgumentException" ∈ wsL_write := by decide +kernel
set_option maxHeartbeats 4000000 in
set_option maxRecDepth 100000 in
theorem kL_write_X3 (l : Launch) (hst : l.stackTraces = false) (G : wG) (σ : cS) (μ : mS) (o : Nat → Int64) (v1 : Int32) (k2 : Nat) (k3 : Nat) (v4 : Int32) (v5 : Int32) (v6 : Int32) (MS : mS) (MR : Int32) (h2_ : k2 ≤ 15) (h3_ : k3 ≤ 3) (hx : wi v1 (nI 7) = false) (hpost : LQ G μ MS MR (nI 2) (σ, μ, o)) : Met l yL_write wsL_write rmL (wPc G σ μ o [.ref (gA G 0), .int (v1), .int (nI k2), .int (nI k3), .int (v4), .int (v5), .int (v6), .ref (gA G 53)]) (QLP G μ MS MR) 4 34 (gP G) := by
  refine m_ofWH (hh := [(0, 18, 21, 13), (0, 18, 25, 15)]) (cc := cL_write) (maxL := 9) (ret := (some .int)) (by decide) rfl ?_
  intro p e s m args below meth c s₁ B hml htab hv
  obtain ⟨hargs, hI⟩ := hv
  have S : CallFix p m c cL_write 9 s args wsL_write RL := ⟨B.exec, B.bytes, hml, findClass_of_methodNamed B.named, atoms_spec (ws := wsL_write) B.pre⟩
  have hret := B.returns
  have hlocks := B.notSynchronized
  have Z := wZ_0 hI
  clear hI
  obtain ⟨Q, hQ⟩ : ∃ Q, Q = MQ below (QLP G μ MS MR) args s 4 34 (gP G) := ⟨_, rfl⟩
  rw [← hQ]
  have hl := lv_entry [.ref (gA G 0), .int (v1), .int (nI k2), .int (nI k3), .int (v4), .int (v5), .int (v6), .ref (gA G 53)] (n := 9) (Nat.le_of_ble_eq_true rfl)
  rw [show entryFrame m args 9 = entryFrame m ([.ref (gA G 0), .int (v1), .int (nI k2), .int (nI k3), .int (v4), .int (v5), .int (v6), .ref (gA G 53)] : List Value).toArray 9 from by rw [hargs], lg_entry_eq]
  generalize (lg_sl [.ref (gA G 0), .int (v1), .int (nI k2), .int (nI k3), .int (v4), .int (v5), .int (v6), .ref (gA G 53)] ++ List.replicate (9 - (lg_sl [.ref (gA G 0), .int (v1), .int (nI k2), .int (nI k3), .int (v4), .int (v5), .int (v6), .ref (gA G 53)]).length) Slot.unset).toArray = ls at hl ⊢
  have hl : lv_has ls 9 [(0, .ref (gA G 0)), (1, .int (v1)), (2, .int (nI k2)), (3, .int (nI k3)), (4, .int (v4)), (5, .int (v5)), (6, .int (v6)), (7, .ref (gA G 53))] := hl
  refine lv_aload S.1 S.2.1 dL_write_0 (lv_at hl 7 rfl) ?_
  refine lv_iconst (v := nI 0) S.1 S.2.1 dL_write_2 (by decide) ?_
  refine lv_aload_n S.1 S.2.1 dL_write_3 rfl (lv_at hl 0 rfl) ?_
  refine lv_iload_n S.1 S.2.1 dL_write_4 rfl (lv_at hl 1 rfl) ?_
  refine lv_iload_n S.1 S.2.1 dL_write_5 rfl (lv_at hl 2 rfl) ?_
  refine lv_iload_n S.1 S.2.1 dL_write_6 rfl (lv_at hl 3 rfl) ?_
  refine lv_iload S.1 S.2.1 dL_write_7 (lv_at hl 4 rfl) ?_
  refine lv_iload S.1 S.2.1 dL_write_9 (lv_at hl 5 rfl) ?_
  refine lv_iload S.1 S.2.1 dL_write_11 (lv_at hl 6 rfl) ?_
  refine x_call (vx_runV (As := [.int (v1), .int (nI k2), .int (nI k3), .int (v4), .int (v5), .int (v6)]) (rest := [.int (nI 0), .ref (gA G 53)]) S (k_X7_write_X3 l hst G σ μ o v1 k2 k3 v4 v5 v6 h2_ h3_ hx) (cwV 6 S.2.2.2.2 gL_write_X7_write rfl rfl rfl ⟨rfl, hy_X7_write⟩ ⟨Nat.le_of_ble_eq_true rfl, Nat.le_of_ble_eq_true rfl⟩) (wPc_V (q := (RX7, TX7, 7)) Z (by decide) rfl rfl) rfl rfl hl.1 rfl (lv_room (Nat.le_of_ble_eq_true rfl)) dL_write_13 ⟨Nat.le_of_ble_eq_true rfl, Nat.le_of_ble_eq_true rfl⟩) (fun _ _ _ h => h) Z (fun ce q9 H locs Z h1 h2 h3 => ?_)
  refine vx_catch (name := "java/lang/IllegalArgumentException") S.2.2.2.1 [⟨0, 18, 21, 13⟩] ⟨0, 18, 25, 15⟩ [] (by rw [htab]; rfl) (pass_1 (by decide) (S.2.2.2.2 _ m_L_write_c13) (nc_BA Z)) rfl (by decide) (S.2.2.2.2 _ m_L_write_c15) (ca_use Z n_caB) h1 h2 h3 ?_
  refine lv_astore (lv' := [(8, .ref (q9)), (0, .ref (gA G 0)), (1, .int (v1)), (2, .int (nI k2)), (3, .int (nI k3)), (4, .int (v4)), (5, .int (v5)), (6, .int (v6)), (7, .ref (gA G 53))]) S.1 S.2.1 dL_write_25 hl (by decide) rfl (fun ls hl => ?_)
  refine lv_iconst (v := nI 2) S.1 S.2.1 dL_write_27 (by decide) ?_
  refine W.widen (k := 4) (n := 34) (by decide) (by decide) ?_
  rw [hQ]
  exact W.iret (v := nI 2) S.1 S.2.1 hret (fun _ hT9 hW => ⟨⟨_, (σ, μ, o), rfl, hpost, wZ_I Z hT9 hW⟩, Z.2.2.2.2.F hT9⟩) Z.2.2.2.2.2.2 dL_write_28

set_option maxHeartbeats 4000000 in
set_option maxRecDepth 100000 in
theorem kL_write_X4 (l : Launch) (hst : l.stackTraces = false) (G : wG) (σ : cS) (μ : mS) (o : Nat → Int64) (k1 : Nat) (k2 : Nat) (k3 : Nat) (v4 : Int32) (v5 : Int32) (v6 : Int32) (MS : mS) (MR : Int32) (h1_ : k1 ≤ 7) (h2_ : k2 ≤ 15) (h3_ : k3 ≤ 3) (hx : wi v4 (nI 999) = false) (hpost : LQ G μ MS MR (nI 2) (σ, μ, o)) : Met l yL_write wsL_write rmL (wPc G σ μ o [.ref (gA G 0), .int (nI k1), .int (nI k2), .int (nI k3), .int (v4), .int (v5), .int (v6), .ref (gA G 53)]) (QLP G μ MS MR) 4 34 (gP G) := by
  refine m_ofWH (hh := [(0, 18, 21, 13), (0, 18, 25, 15)]) (cc := cL_write) (maxL := 9) (ret := (some .int)) (by decide) rfl ?_
  intro p e s m args below meth c s₁ B hml htab hv
  obtain ⟨hargs, hI⟩ := hv
  have S : CallFix p m c cL_write 9 s args wsL_write RL := ⟨B.exec, B.bytes, hml, findClass_of_methodNamed B.named, atoms_spec (ws := wsL_write) B.pre⟩
  have hret := B.returns
  have hlocks := B.notSynchronized
  have Z := wZ_0 hI
  clear hI
  obtain ⟨Q, hQ⟩ : ∃ Q, Q = MQ below (QLP G μ MS MR) args s 4 34 (gP G) := ⟨_, rfl⟩
  rw [← hQ]
  have hl := lv_entry [.ref (gA G 0), .int (nI k1), .int (nI k2), .int (nI k3), .int (v4), .int (v5), .int (v6), .ref (gA G 53)] (n := 9) (Nat.le_of_ble_eq_true rfl)
  rw [show entryFrame m args 9 = entryFrame m ([.ref (gA G 0), .int (nI k1), .int (nI k2), .int (nI k3), .int (v4), .int (v5), .int (v6), .ref (gA G 53)] : List Value).toArray 9 from by rw [hargs], lg_entry_eq]
  generalize (lg_sl [.ref (gA G 0), .int (nI k1), .int (nI k2), .int (nI k3), .int (v4), .int (v5), .int (v6), .ref (gA G 53)] ++ List.replicate (9 - (lg_sl [.ref (gA G 0), .int (nI k1), .int (nI k2), .int (nI k3), .int (v4), .int (v5), .int (v6), .ref (gA G 53)]).length) Slot.unset).toArray = ls at hl ⊢
  have hl : lv_has ls 9 [(0, .ref (gA G 0)), (1, .int (nI k1)), (2, .int (nI k2)), (3, .int (nI k3)), (4, .int (v4)), (5, .int (v5)), (6, .int (v6)), (7, .ref (gA G 53))] := hl
  refine lv_aload S.1 S.2.1 dL_write_0 (lv_at hl 7 rfl) ?_
  refine lv_iconst (v := nI 0) S.1 S.2.1 dL_write_2 (by decide) ?_
  refine lv_aload_n S.1 S.2.1 dL_write_3 rfl (lv_at hl 0 rfl) ?_
  refine lv_iload_n S.1 S.2.1 dL_write_4 rfl (lv_at hl 1 rfl) ?_
  refine lv_iload_n S.1 S.2.1 dL_write_5 rfl (lv_at hl 2 rfl) ?_
  refine lv_iload_n S.1 S.2.1 dL_write_6 rfl (lv_at hl 3 rfl) ?_
  refine lv_iload S.1 S.2.1 dL_write_7 (lv_at hl 4 rfl) ?_
  refine lv_iload S.1 S.2.1 dL_write_9 (lv_at hl 5 rfl) ?_
  refine lv_iload S.1 S.2.1 dL_write_11 (lv_at hl 6 rfl) ?_
  refine x_call (vx_runV (As := [.int (nI k1), .int (nI k2), .int (nI k3), .int (v4), .int (v5), .int (v6)]) (rest := [.int (nI 0), .ref (gA G 53)]) S (k_X7_write_X4 l hst G σ μ o k1 k2 k3 v4 v5 v6 h1_ h2_ h3_ hx) (cwV 6 S.2.2.2.2 gL_write_X7_write rfl rfl rfl ⟨rfl, hy_X7_write⟩ ⟨Nat.le_of_ble_eq_true rfl, Nat.le_of_ble_eq_true rfl⟩) (wPc_V (q := (RX7, TX7, 7)) Z (by decide) rfl rfl) rfl rfl hl.1 rfl (lv_room (Nat.le_of_ble_eq_true rfl)) dL_write_13 ⟨Nat.le_of_ble_eq_true rfl, Nat.le_of_ble_eq_true rfl⟩) (fun _ _ _ h => h) Z (fun ce q9 H locs Z h1 h2 h3 => ?_)
  refine vx_catch (name := "java/lang/IllegalArgumentException") S.2.2.2.1 [⟨0, 18, 21, 13⟩] ⟨0, 18, 25, 15⟩ [] (by rw [htab]; rfl) (pass_1 (by decide) (S.2.2.2.2 _ m_L_write_c13) (nc_BA Z)) rfl (by decide) (S.2.2.2.2 _ m_L_write_c15) (ca_use Z n_caB) h1 h2 h3 ?_
  refine lv_astore (lv' := [(8, .ref (q9)), (0, .ref (gA G 0)), (1, .int (nI k1)), (2, .int (nI k2)), (3, .int (nI k3)), (4, .int (v4)), (5, .int (v5)), (6, .int (v6)), (7, .ref (gA G 53))]) S.1 S.2.1 dL_write_25 hl (by decide) rfl (fun ls hl => ?_)
  refine lv_iconst (v := nI 2) S.1 S.2.1 dL_write_27 (by decide) ?_
  refine W.widen (k := 4) (n := 34) (by decide) (by decide) ?_
  rw [hQ]
  exact W.iret (v := nI 2) S.1 S.2.1 hret (fun _ hT9 hW => ⟨⟨_, (σ, μ, o), rfl, hpost, wZ_I Z hT9 hW⟩, Z.2.2.2.2.F hT9⟩) Z.2.2.2.2.2.2 dL_write_28

set_option maxHeartbeats 4000000 in
set_option maxRecDepth 100000 in
theorem kL_write_X5 (l : Launch) (hst : l.stackTraces = false) (G : wG) (σ : cS) (μ : mS) (o : Nat → Int64) (k1 : Nat) (k2 : Nat) (k3 : Nat) (k4 : Nat) (v5 : Int32) (v6 : Int32) (MS : mS) (MR : Int32) (h1_ : k1 ≤ 7) (h2_ : k2 ≤ 15) (h3_ : k3 ≤ 3) (h4_ : k4 ≤ 999) (hx : wi v5 (nI 999) = false) (hpost : LQ G μ MS MR (nI 2) (σ, μ, o)) : Met l yL_write wsL_write rmL (wPc G σ μ o [.ref (gA G 0), .int (nI k1), .int (nI k2), .int (nI k3), .int (nI k4), .int (v5), .int (v6), .ref (gA G 53)]) (QLP G μ MS MR) 4 34 (gP G) := by
  refine m_ofWH (hh := [(0, 18, 21, 13), (0, 18, 25, 15)]) (cc := cL_write) (maxL := 9) (ret := (some .int)) (by decide) rfl ?_
  intro p e s m args below meth c s₁ B hml htab hv
  obtain ⟨hargs, hI⟩ := hv
  have S : CallFix p m c cL_write 9 s args wsL_write RL := ⟨B.exec, B.bytes, hml, findClass_of_methodNamed B.named, atoms_spec (ws := wsL_write) B.pre⟩
  have hret := B.returns
  have hlocks := B.notSynchronized
  have Z := wZ_0 hI
  clear hI
  obtain ⟨Q, hQ⟩ : ∃ Q, Q = MQ below (QLP G μ MS MR) args s 4 34 (gP G) := ⟨_, rfl⟩
  rw [← hQ]
  have hl := lv_entry [.ref (gA G 0), .int (nI k1), .int (nI k2), .int (nI k3), .int (nI k4), .int (v5), .int (v6), .ref (gA G 53)] (n := 9) (Nat.le_of_ble_eq_true rfl)
  rw [show entryFrame m args 9 = entryFrame m ([.ref (gA G 0), .int (nI k1), .int (nI k2), .int (nI k3), .int (nI k4), .int (v5), .int (v6), .ref (gA G 53)] : List Value).toArray 9 from by rw [hargs], lg_entry_eq]
  generalize (lg_sl [.ref (gA G 0), .int (nI k1), .int (nI k2), .int (nI k3), .int (nI k4), .int (v5), .int (v6), .ref (gA G 53)] ++ List.replicate (9 - (lg_sl [.ref (gA G 0), .int (nI k1), .int (nI k2), .int (nI k3), .int (nI k4), .int (v5), .int (v6), .ref (gA G 53)]).length) Slot.unset).toArray = ls at hl ⊢
  have hl : lv_has ls 9 [(0, .ref (gA G 0)), (1, .int (nI k1)), (2, .int (nI k2)), (3, .int (nI k3)), (4, .int (nI k4)), (5, .int (v5)), (6, .int (v6)), (7, .ref (gA G 53))] := hl
  refine lv_aload S.1 S.2.1 dL_write_0 (lv_at hl 7 rfl) ?_
  refine lv_iconst (v := nI 0) S.1 S.2.1 dL_write_2 (by decide) ?_
  refine lv_aload_n S.1 S.2.1 dL_write_3 rfl (lv_at hl 0 rfl) ?_
  refine lv_iload_n S.1 S.2.1 dL_write_4 rfl (lv_at hl 1 rfl) ?_
  refine lv_iload_n S.1 S.2.1 dL_write_5 rfl (lv_at hl 2 rfl) ?_
  refine lv_iload_n S.1 S.2.1 dL_write_6 rfl (lv_at hl 3 rfl) ?_
  refine lv_iload S.1 S.2.1 dL_write_7 (lv_at hl 4 rfl) ?_
  refine lv_iload S.1 S.2.1 dL_write_9 (lv_at hl 5 rfl) ?_
  refine lv_iload S.1 S.2.1 dL_write_11 (lv_at hl 6 rfl) ?_
  refine x_call (vx_runV (As := [.int (nI k1), .int (nI k2), .int (nI k3), .int (nI k4), .int (v5), .int (v6)]) (rest := [.int (nI 0), .ref (gA G 53)]) S (k_X7_write_X5 l hst G σ μ o k1 k2 k3 k4 v5 v6 h1_ h2_ h3_ h4_ hx) (cwV 6 S.2.2.2.2 gL_write_X7_write rfl rfl rfl ⟨rfl, hy_X7_write⟩ ⟨Nat.le_of_ble_eq_true rfl, Nat.le_of_ble_eq_true rfl⟩) (wPc_V (q := (RX7, TX7, 7)) Z (by decide) rfl rfl) rfl rfl hl.1 rfl (lv_room (Nat.le_of_ble_eq_true rfl)) dL_write_13 ⟨Nat.le_of_ble_eq_true rfl, Nat.le_of_ble_eq_true rfl⟩) (fun _ _ _ h => h) Z (fun ce q9 H locs Z h1 h2 h3 => ?_)
  refine vx_catch (name := "java/lang/IllegalArgumentException") S.2.2.2.1 [⟨0, 18, 21, 13⟩] ⟨0, 18, 25, 15⟩ [] (by rw [htab]; rfl) (pass_1 (by decide) (S.2.2.2.2 _ m_L_write_c13) (nc_BA Z)) rfl (by decide) (S.2.2.2.2 _ m_L_write_c15) (ca_use Z n_caB) h1 h2 h3 ?_
  refine lv_astore (lv' := [(8, .ref (q9)), (0, .ref (gA G 0)), (1, .int (nI k1)), (2, .int (nI k2)), (3, .int (nI k3)), (4, .int (nI k4)), (5, .int (v5)), (6, .int (v6)), (7, .ref (gA G 53))]) S.1 S.2.1 dL_write_25 hl (by decide) rfl (fun ls hl => ?_)
  refine lv_iconst (v := nI 2) S.1 S.2.1 dL_write_27 (by decide) ?_
  refine W.widen (k := 4) (n := 34) (by decide) (by decide) ?_
  rw [hQ]
  exact W.iret (v := nI 2) S.1 S.2.1 hret (fun _ hT9 hW => ⟨⟨_, (σ, μ, o), rfl, hpost, wZ_I Z hT9 hW⟩, Z.2.2.2.2.F hT9⟩) Z.2.2.2.2.2.2 dL_write_28

set_option maxHeartbeats 4000000 in
set_option maxRecDepth 100000 in
theorem kL_write_X6 (l : Launch) (hst : l.stackTraces = false) (G : wG) (σ : cS) (μ : mS) (o : Nat → Int64) (k1 : Nat) (k2 : Nat) (k3 : Nat) (k4 : Nat) (k5 : Nat) (v6 : Int32) (MS : mS) (MR : Int32) (h1_ : k1 ≤ 7) (h2_ : k2 ≤ 15) (h3_ : k3 ≤ 3) (h4_ : k4 ≤ 999) (h5_ : k5 ≤ 999) (hx : wi v6 (nI 1000) = false) (hpost : LQ G μ MS MR (nI 2) (σ, μ, o)) : Met l yL_write wsL_write rmL (wPc G σ μ o [.ref (gA G 0), .int (nI k1), .int (nI k2), .int (nI k3), .int (nI k4), .int (nI k5), .int (v6), .ref (gA G 53)]) (QLP G μ MS MR) 4 34 (gP G) := by
  refine m_ofWH (hh := [(0, 18, 21, 13), (0, 18, 25, 15)]) (cc := cL_write) (maxL := 9) (ret := (some .int)) (by decide) rfl ?_
  intro p e s m args below meth c s₁ B hml htab hv
  obtain ⟨hargs, hI⟩ := hv
  have S : CallFix p m c cL_write 9 s args wsL_write RL := ⟨B.exec, B.bytes, hml, findClass_of_methodNamed B.named, atoms_spec (ws := wsL_write) B.pre⟩
  have hret := B.returns
  have hlocks := B.notSynchronized
  have Z := wZ_0 hI
  clear hI
  obtain ⟨Q, hQ⟩ : ∃ Q, Q = MQ below (QLP G μ MS MR) args s 4 34 (gP G) := ⟨_, rfl⟩
  rw [← hQ]
  have hl := lv_entry [.ref (gA G 0), .int (nI k1), .int (nI k2), .int (nI k3), .int (nI k4), .int (nI k5), .int (v6), .ref (gA G 53)] (n := 9) (Nat.le_of_ble_eq_true rfl)
  rw [show entryFrame m args 9 = entryFrame m ([.ref (gA G 0), .int (nI k1), .int (nI k2), .int (nI k3), .int (nI k4), .int (nI k5), .int (v6), .ref (gA G 53)] : List Value).toArray 9 from by rw [hargs], lg_entry_eq]
  generalize (lg_sl [.ref (gA G 0), .int (nI k1), .int (nI k2), .int (nI k3), .int (nI k4), .int (nI k5), .int (v6), .ref (gA G 53)] ++ List.replicate (9 - (lg_sl [.ref (gA G 0), .int (nI k1), .int (nI k2), .int (nI k3), .int (nI k4), .int (nI k5), .int (v6), .ref (gA G 53)]).length) Slot.unset).toArray = ls at hl ⊢
  have hl : lv_has ls 9 [(0, .ref (gA G 0)), (1, .int (nI k1)), (2, .int (nI k2)), (3, .int (nI k3)), (4, .int (nI k4)), (5, .int (nI k5)), (6, .int (v6)), (7, .ref (gA G 53))] := hl
  refine lv_aload S.1 S.2.1 dL_write_0 (lv_at hl 7 rfl) ?_
  refine lv_iconst (v := nI 0) S.1 S.2.1 dL_write_2 (by decide) ?_
  refine lv_aload_n S.1 S.2.1 dL_write_3 rfl (lv_at hl 0 rfl) ?_
  refine lv_iload_n S.1 S.2.1 dL_write_4 rfl (lv_at hl 1 rfl) ?_
  refine lv_iload_n S.1 S.2.1 dL_write_5 rfl (lv_at hl 2 rfl) ?_
  refine lv_iload_n S.1 S.2.1 dL_write_6 rfl (lv_at hl 3 rfl) ?_
  refine lv_iload S.1 S.2.1 dL_write_7 (lv_at hl 4 rfl) ?_
  refine lv_iload S.1 S.2.1 dL_write_9 (lv_at hl 5 rfl) ?_
  refine lv_iload S.1 S.2.1 dL_write_11 (lv_at hl 6 rfl) ?_
  refine x_call (vx_runV (As := [.int (nI k1), .int (nI k2), .int (nI k3), .int (nI k4), .int (nI k5), .int (v6)]) (rest := [.int (nI 0), .ref (gA G 53)]) S (k_X7_write_X6 l hst G σ μ o k1 k2 k3 k4 k5 v6 h1_ h2_ h3_ h4_ h5_ hx) (cwV 6 S.2.2.2.2 gL_write_X7_write rfl rfl rfl ⟨rfl, hy_X7_write⟩ ⟨Nat.le_of_ble_eq_true rfl, Nat.le_of_ble_eq_true rfl⟩) (wPc_V (q := (RX7, TX7, 7)) Z (by decide) rfl rfl) rfl rfl hl.1 rfl (lv_room (Nat.le_of_ble_eq_true rfl)) dL_write_13 ⟨Nat.le_of_ble_eq_true rfl, Nat.le_of_ble_eq_true rfl⟩) (fun _ _ _ h => h) Z (fun ce q9 H locs Z h1 h2 h3 => ?_)
  refine vx_catch (name := "java/lang/IllegalArgumentException") S.2.2.2.1 [⟨0, 18, 21, 13⟩] ⟨0, 18, 25, 15⟩ [] (by rw [htab]; rfl) (pass_1 (by decide) (S.2.2.2.2 _ m_L_write_c13) (nc_BA Z)) rfl (by decide) (S.2.2.2.2 _ m_L_write_c15) (ca_use Z n_caB) h1 h2 h3 ?_
  refine lv_astore (lv' := [(8, .ref (q9)), (0, .ref (gA G 0)), (1, .int (nI k1)), (2, .int (nI k2)), (3, .int (nI k3)), (4, .int (nI k4)), (5, .int (nI k5)), (6, .int (v6)), (7, .ref (gA G 53))]) S.1 S.2.1 dL_write_25 hl (by decide) rfl (fun ls hl => ?_)
  refine lv_iconst (v := nI 2) S.1 S.2.1 dL_write_27 (by decide) ?_
  refine W.widen (k := 4) (n := 34) (by decide) (by decide) ?_
  rw [hQ]
  exact W.iret (v := nI 2) S.1 S.2.1 hret (fun _ hT9 hW => ⟨⟨_, (σ, μ, o), rfl, hpost, wZ_I Z hT9 hW⟩, Z.2.2.2.2.F hT9⟩) Z.2.2.2.2.2.2 dL_write_28

set_option maxHeartbeats 4000000 in
set_option maxRecDepth 100000 in
theorem kL_write (l : Launch) (hst : l.stackTraces = false) (G : wG) (σ : cS) (μ : mS) (o : Nat → Int64) (k1 : Nat) (k2 : Nat) (k3 : Nat) (k4 : Nat) (k5 : Nat) (k6 : Nat) (L : Nat → List Ch) (MS : mS) (MR : Int32) (h1_ : k1 ≤ 7) (h2_ : k2 ≤ 15) (h3_ : k3 ≤ 3) (h4_ : k4 ≤ 999) (h5_ : k5 ≤ 999) (h6_ : k6 ≤ 1000) (hHI : HI G σ L) (hpost : ∀ ns, (sc ns (sdS σ (k2 * 4 + k3, nI k5, nI k4, enW σ k6) (nI k1) 3) ∧ HI G ns (sdLL σ (nI k1) (k2 * 4 + k3, nI k5, nI k4, enW σ k6) L)) → LQ G μ MS MR (nI 0) (ns, μ, vp_updL o 0 (nI (sdN σ (nI k1) 3)).toInt64)) : Met l yL_write wsL_write rmL (wPc G σ μ o [.ref (gA G 0), .int (nI k1), .int (nI k2), .int (nI k3), .int (nI k4), .int (nI k5), .int (nI k6), .ref (gA G 53)]) (QLP G μ MS MR) 4 34 (gP G) := by
  refine m_ofWH (hh := [(0, 18, 21, 13), (0, 18, 25, 15)]) (cc := cL_write) (maxL := 9) (ret := (some .int)) (by decide) rfl ?_
  intro p e s m args below meth c s₁ B hml htab hv
  obtain ⟨hargs, hI⟩ := hv
  have S : CallFix p m c cL_write 9 s args wsL_write RL := ⟨B.exec, B.bytes, hml, findClass_of_methodNamed B.named, atoms_spec (ws := wsL_write) B.pre⟩
  have hret := B.returns
  have hlocks := B.notSynchronized
  have Z := wZ_0 hI
  clear hI
  obtain ⟨Q, hQ⟩ : ∃ Q, Q = MQ below (QLP G μ MS MR) args s 4 34 (gP G) := ⟨_, rfl⟩
  rw [← hQ]
  have hl := lv_entry [.ref (gA G 0), .int (nI k1), .int (nI k2), .int (nI k3), .int (nI k4), .int (nI k5), .int (nI k6), .ref (gA G 53)] (n := 9) (Nat.le_of_ble_eq_true rfl)
  rw [show entryFrame m args 9 = entryFrame m ([.ref (gA G 0), .int (nI k1), .int (nI k2), .int (nI k3), .int (nI k4), .int (nI k5), .int (nI k6), .ref (gA G 53)] : List Value).toArray 9 from by rw [hargs], lg_entry_eq]
  generalize (lg_sl [.ref (gA G 0), .int (nI k1), .int (nI k2), .int (nI k3), .int (nI k4), .int (nI k5), .int (nI k6), .ref (gA G 53)] ++ List.replicate (9 - (lg_sl [.ref (gA G 0), .int (nI k1), .int (nI k2), .int (nI k3), .int (nI k4), .int (nI k5), .int (nI k6), .ref (gA G 53)]).length) Slot.unset).toArray = ls at hl ⊢
  have hl : lv_has ls 9 [(0, .ref (gA G 0)), (1, .int (nI k1)), (2, .int (nI k2)), (3, .int (nI k3)), (4, .int (nI k4)), (5, .int (nI k5)), (6, .int (nI k6)), (7, .ref (gA G 53))] := hl
  refine lv_aload S.1 S.2.1 dL_write_0 (lv_at hl 7 rfl) ?_
  refine lv_iconst (v := nI 0) S.1 S.2.1 dL_write_2 (by decide) ?_
  refine lv_aload_n S.1 S.2.1 dL_write_3 rfl (lv_at hl 0 rfl) ?_
  refine lv_iload_n S.1 S.2.1 dL_write_4 rfl (lv_at hl 1 rfl) ?_
  refine lv_iload_n S.1 S.2.1 dL_write_5 rfl (lv_at hl 2 rfl) ?_
  refine lv_iload_n S.1 S.2.1 dL_write_6 rfl (lv_at hl 3 rfl) ?_
  refine lv_iload S.1 S.2.1 dL_write_7 (lv_at hl 4 rfl) ?_
  refine lv_iload S.1 S.2.1 dL_write_9 (lv_at hl 5 rfl) ?_
  refine lv_iload S.1 S.2.1 dL_write_11 (lv_at hl 6 rfl) ?_
  refine va_calli (va_runV (As := [.int (nI k1), .int (nI k2), .int (nI k3), .int (nI k4), .int (nI k5), .int (nI k6)]) (rest := [.int (nI 0), .ref (gA G 53)]) S (k_X7_write l G σ μ o k1 k2 k3 k4 k5 k6 L h1_ h2_ h3_ h4_ h5_ h6_ hHI) (cwV 6 S.2.2.2.2 gL_write_X7_write rfl rfl rfl ⟨rfl, hy_X7_write⟩ ⟨Nat.le_of_ble_eq_true rfl, Nat.le_of_ble_eq_true rfl⟩) (wPc_V (q := (RX7, TX7, 7)) Z (by decide) rfl rfl) rfl rfl hl.1 rfl (lv_room (Nat.le_of_ble_eq_true rfl)) dL_write_13 ⟨Nat.le_of_ble_eq_true rfl, Nat.le_of_ble_eq_true rfl⟩) Z.2.2.2.2 (fun _ _ h => h) (fun _ h => h) (fun r_1 u_2 T9 H1 locs1 hT9 hvm hw hB hz hk9 hS => ?_)
  obtain ⟨τ_3, μ9⟩ := u_2
  obtain ⟨hr9, hm9, hp9⟩ := hw
  have hm9 : μ = μ9 := hm9.symm
  subst hm9
  have hp_4 : sc τ_3 (sdS σ (k2 * 4 + k3, nI k5, nI k4, enW σ k6) (nI k1) 3) ∧ HI G τ_3 (sdLL σ (nI k1) (k2 * 4 + k3, nI k5, nI k4, enW σ k6) L) := hp9
  clear hp9
  rw [hr9]; clear hr9 r_1
  have Z : wZ G (τ_3) (μ) o s H1 locs1 := wZ_callP Z hB hT9 hS
  clear hB hT9 hS hk9 hz hvm T9
  revert Z; generalize H1 = H; generalize locs1 = locs; intro Z
  refine W.widen (k := 4) (n := 34) (by first | decide | omega) (by first | decide | omega) ?_
  refine lv_i2l (v := (nI (sdN σ (nI k1) 3)).toInt64) S.1 S.2.1 dL_write_16 rfl ?_
  refine r_last S Z dL_write_17 (fun H locs Z => ?_)
  refine lv_goto (tgt := 29) S.1 S.2.1 dL_write_18 (by decide) ?_
  refine lv_iconst (v := nI 0) S.1 S.2.1 dL_write_29 (by decide) ?_
  refine W.widen (k := 4) (n := 34) (by decide) (by decide) ?_
  rw [hQ]
  exact W.iret (v := nI 0) S.1 S.2.1 hret (fun _ hT9 hW => ⟨⟨_, (τ_3, μ, vp_updL o 0 ((nI (sdN σ (nI k1) 3)).toInt64)), rfl, (hpost _ hp_4), wZ_I Z hT9 hW⟩, Z.2.2.2.2.F hT9⟩) Z.2.2.2.2.2.2 dL_write_30

theorem m_L_deleteCell_c13 : Cond.classLink RL 13 "java/lang/IndexOutOfBoundsException" ∈ wsL_deleteCell := by decide +kernel
set_option maxHeartbeats 4000000 in
set_option maxRecDepth 100000 in
theorem kL_deleteCell_X1 (l : Launch) (hst : l.stackTraces = false) (G : wG) (σ : cS) (μ : mS) (o : Nat → Int64) (v1 : Int32) (v2 : Int32) (v3 : Int32) (v4 : Int32) (MS : mS) (MR : Int32) (hx : wi v2 (nI 15) = false) (hpost : LQ G μ MS MR (nI 1) (σ, μ, o)) : Met l yL_deleteCell wsL_deleteCell rmL (wPc G σ μ o [.ref (gA G 0), .int (v1), .int (v2), .int (v3), .int (v4), .ref (gA G 53)]) (QLP G μ MS MR) 4 34 (gP G) := by
  refine m_ofWH (hh := [(0, 14, 17, 13), (0, 14, 21, 15)]) (cc := cL_deleteCell) (maxL := 7) (ret := (some .int)) (by decide) rfl ?_
  intro p e s m args below meth c s₁ B hml htab hv
  obtain ⟨hargs, hI⟩ := hv
  have S : CallFix p m c cL_deleteCell 7 s args wsL_deleteCell RL := ⟨B.exec, B.bytes, hml, findClass_of_methodNamed B.named, atoms_spec (ws := wsL_deleteCell) B.pre⟩
  have hret := B.returns
  have hlocks := B.notSynchronized
  have Z := wZ_0 hI
  clear hI
  obtain ⟨Q, hQ⟩ : ∃ Q, Q = MQ below (QLP G μ MS MR) args s 4 34 (gP G) := ⟨_, rfl⟩
  rw [← hQ]
  have hl := lv_entry [.ref (gA G 0), .int (v1), .int (v2), .int (v3), .int (v4), .ref (gA G 53)] (n := 7) (Nat.le_of_ble_eq_true rfl)
  rw [show entryFrame m args 7 = entryFrame m ([.ref (gA G 0), .int (v1), .int (v2), .int (v3), .int (v4), .ref (gA G 53)] : List Value).toArray 7 from by rw [hargs], lg_entry_eq]
  generalize (lg_sl [.ref (gA G 0), .int (v1), .int (v2), .int (v3), .int (v4), .ref (gA G 53)] ++ List.replicate (7 - (lg_sl [.ref (gA G 0), .int (v1), .int (v2), .int (v3), .int (v4), .ref (gA G 53)]).length) Slot.unset).toArray = ls at hl ⊢
  have hl : lv_has ls 7 [(0, .ref (gA G 0)), (1, .int (v1)), (2, .int (v2)), (3, .int (v3)), (4, .int (v4)), (5, .ref (gA G 53))] := hl
  refine lv_aload S.1 S.2.1 dL_deleteCell_0 (lv_at hl 5 rfl) ?_
  refine lv_iconst (v := nI 0) S.1 S.2.1 dL_deleteCell_2 (by decide) ?_
  refine lv_aload_n S.1 S.2.1 dL_deleteCell_3 rfl (lv_at hl 0 rfl) ?_
  refine lv_iload_n S.1 S.2.1 dL_deleteCell_4 rfl (lv_at hl 1 rfl) ?_
  refine lv_iload_n S.1 S.2.1 dL_deleteCell_5 rfl (lv_at hl 2 rfl) ?_
  refine lv_iload_n S.1 S.2.1 dL_deleteCell_6 rfl (lv_at hl 3 rfl) ?_
  refine lv_iload S.1 S.2.1 dL_deleteCell_7 (lv_at hl 4 rfl) ?_
  refine x_call (vx_runV (As := [.int (v1), .int (v2), .int (v3), .int (v4)]) (rest := [.int (nI 0), .ref (gA G 53)]) S (k_X7_deleteCell_X1 l hst G σ μ o v1 v2 v3 v4 hx) (cwV 4 S.2.2.2.2 gL_deleteCell_X7_deleteCell rfl rfl rfl ⟨rfl, hy_X7_deleteCell⟩ ⟨Nat.le_of_ble_eq_true rfl, Nat.le_of_ble_eq_true rfl⟩) (wPc_V (q := (RX7, TX7, 7)) Z (by decide) rfl rfl) rfl rfl hl.1 rfl (lv_room (Nat.le_of_ble_eq_true rfl)) dL_deleteCell_9 ⟨Nat.le_of_ble_eq_true rfl, Nat.le_of_ble_eq_true rfl⟩) (fun _ _ _ h => h) Z (fun ce q9 H locs Z h1 h2 h3 => ?_)
  refine vx_catch (name := "java/lang/IndexOutOfBoundsException") S.2.2.2.1 [] ⟨0, 14, 17, 13⟩ [⟨0, 14, 21, 15⟩] (by rw [htab]; rfl) (fun z h => absurd h List.not_mem_nil) rfl (by decide) (S.2.2.2.2 _ m_L_deleteCell_c13) (ca_use Z n_caA) h1 h2 h3 ?_
  refine lv_astore (lv' := [(6, .ref (q9)), (0, .ref (gA G 0)), (1, .int (v1)), (2, .int (v2)), (3, .int (v3)), (4, .int (v4)), (5, .ref (gA G 53))]) S.1 S.2.1 dL_deleteCell_17 hl (by decide) rfl (fun ls hl => ?_)
  refine lv_iconst (v := nI 1) S.1 S.2.1 dL_deleteCell_19 (by decide) ?_
  refine W.widen (k := 4) (n := 34) (by decide) (by decide) ?_
  rw [hQ]
  exact W.iret (v := nI 1) S.1 S.2.1 hret (fun _ hT9 hW => ⟨⟨_, (σ, μ, o), rfl, hpost, wZ_I Z hT9 hW⟩, Z.2.2.2.2.F hT9⟩) Z.2.2.2.2.2.2 dL_deleteCell_20

set_option maxHeartbeats 4000000 in
set_option maxRecDepth 100000 in
theorem kL_deleteCell_X2 (l : Launch) (hst : l.stackTraces = false) (G : wG) (σ : cS) (μ : mS) (o : Nat → Int64) (v1 : Int32) (k2 : Nat) (v3 : Int32) (v4 : Int32) (MS : mS) (MR : Int32) (h2_ : k2 ≤ 15) (hx : wi v3 (nI 3) = false) (hpost : LQ G μ MS MR (nI 1) (σ, μ, o)) : Met l yL_deleteCell wsL_deleteCell rmL (wPc G σ μ o [.ref (gA G 0), .int (v1), .int (nI k2), .int (v3), .int (v4), .ref (gA G 53)]) (QLP G μ MS MR) 4 34 (gP G) := by
  refine m_ofWH (hh := [(0, 14, 17, 13), (0, 14, 21, 15)]) (cc := cL_deleteCell) (maxL := 7) (ret := (some .int)) (by decide) rfl ?_
  intro p e s m args below meth c s₁ B hml htab hv
  obtain ⟨hargs, hI⟩ := hv
  have S : CallFix p m c cL_deleteCell 7 s args wsL_deleteCell RL := ⟨B.exec, B.bytes, hml, findClass_of_methodNamed B.named, atoms_spec (ws := wsL_deleteCell) B.pre⟩
  have hret := B.returns
  have hlocks := B.notSynchronized
  have Z := wZ_0 hI
  clear hI
  obtain ⟨Q, hQ⟩ : ∃ Q, Q = MQ below (QLP G μ MS MR) args s 4 34 (gP G) := ⟨_, rfl⟩
  rw [← hQ]
  have hl := lv_entry [.ref (gA G 0), .int (v1), .int (nI k2), .int (v3), .int (v4), .ref (gA G 53)] (n := 7) (Nat.le_of_ble_eq_true rfl)
  rw [show entryFrame m args 7 = entryFrame m ([.ref (gA G 0), .int (v1), .int (nI k2), .int (v3), .int (v4), .ref (gA G 53)] : List Value).toArray 7 from by rw [hargs], lg_entry_eq]
  generalize (lg_sl [.ref (gA G 0), .int (v1), .int (nI k2), .int (v3), .int (v4), .ref (gA G 53)] ++ List.replicate (7 - (lg_sl [.ref (gA G 0), .int (v1), .int (nI k2), .int (v3), .int (v4), .ref (gA G 53)]).length) Slot.unset).toArray = ls at hl ⊢
  have hl : lv_has ls 7 [(0, .ref (gA G 0)), (1, .int (v1)), (2, .int (nI k2)), (3, .int (v3)), (4, .int (v4)), (5, .ref (gA G 53))] := hl
  refine lv_aload S.1 S.2.1 dL_deleteCell_0 (lv_at hl 5 rfl) ?_
  refine lv_iconst (v := nI 0) S.1 S.2.1 dL_deleteCell_2 (by decide) ?_
  refine lv_aload_n S.1 S.2.1 dL_deleteCell_3 rfl (lv_at hl 0 rfl) ?_
  refine lv_iload_n S.1 S.2.1 dL_deleteCell_4 rfl (lv_at hl 1 rfl) ?_
  refine lv_iload_n S.1 S.2.1 dL_deleteCell_5 rfl (lv_at hl 2 rfl) ?_
  refine lv_iload_n S.1 S.2.1 dL_deleteCell_6 rfl (lv_at hl 3 rfl) ?_
  refine lv_iload S.1 S.2.1 dL_deleteCell_7 (lv_at hl 4 rfl) ?_
  refine x_call (vx_runV (As := [.int (v1), .int (nI k2), .int (v3), .int (v4)]) (rest := [.int (nI 0), .ref (gA G 53)]) S (k_X7_deleteCell_X2 l hst G σ μ o v1 k2 v3 v4 h2_ hx) (cwV 4 S.2.2.2.2 gL_deleteCell_X7_deleteCell rfl rfl rfl ⟨rfl, hy_X7_deleteCell⟩ ⟨Nat.le_of_ble_eq_true rfl, Nat.le_of_ble_eq_true rfl⟩) (wPc_V (q := (RX7, TX7, 7)) Z (by decide) rfl rfl) rfl rfl hl.1 rfl (lv_room (Nat.le_of_ble_eq_true rfl)) dL_deleteCell_9 ⟨Nat.le_of_ble_eq_true rfl, Nat.le_of_ble_eq_true rfl⟩) (fun _ _ _ h => h) Z (fun ce q9 H locs Z h1 h2 h3 => ?_)
  refine vx_catch (name := "java/lang/IndexOutOfBoundsException") S.2.2.2.1 [] ⟨0, 14, 17, 13⟩ [⟨0, 14, 21, 15⟩] (by rw [htab]; rfl) (fun z h => absurd h List.not_mem_nil) rfl (by decide) (S.2.2.2.2 _ m_L_deleteCell_c13) (ca_use Z n_caA) h1 h2 h3 ?_
  refine lv_astore (lv' := [(6, .ref (q9)), (0, .ref (gA G 0)), (1, .int (v1)), (2, .int (nI k2)), (3, .int (v3)), (4, .int (v4)), (5, .ref (gA G 53))]) S.1 S.2.1 dL_deleteCell_17 hl (by decide) rfl (fun ls hl => ?_)
  refine lv_iconst (v := nI 1) S.1 S.2.1 dL_deleteCell_19 (by decide) ?_
  refine W.widen (k := 4) (n := 34) (by decide) (by decide) ?_
  rw [hQ]
  exact W.iret (v := nI 1) S.1 S.2.1 hret (fun _ hT9 hW => ⟨⟨_, (σ, μ, o), rfl, hpost, wZ_I Z hT9 hW⟩, Z.2.2.2.2.F hT9⟩) Z.2.2.2.2.2.2 dL_deleteCell_20

theorem m_L_deleteCell_c15 : Cond.classLink RL 15 "java/lang/IllegalArgumentException" ∈ wsL_deleteCell := by decide +kernel
set_option maxHeartbeats 4000000 in
set_option maxRecDepth 100000 in
theorem kL_deleteCell_X3 (l : Launch) (hst : l.stackTraces = false) (G : wG) (σ : cS) (μ : mS) (o : Nat → Int64) (v1 : Int32) (k2 : Nat) (k3 : Nat) (v4 : Int32) (MS : mS) (MR : Int32) (h2_ : k2 ≤ 15) (h3_ : k3 ≤ 3) (hx : wi v1 (nI 7) = false) (hpost : LQ G μ MS MR (nI 2) (σ, μ, o)) : Met l yL_deleteCell wsL_deleteCell rmL (wPc G σ μ o [.ref (gA G 0), .int (v1), .int (nI k2), .int (nI k3), .int (v4), .ref (gA G 53)]) (QLP G μ MS MR) 4 34 (gP G) := by
  refine m_ofWH (hh := [(0, 14, 17, 13), (0, 14, 21, 15)]) (cc := cL_deleteCell) (maxL := 7) (ret := (some .int)) (by decide) rfl ?_
  intro p e s m args below meth c s₁ B hml htab hv
  obtain ⟨hargs, hI⟩ := hv
  have S : CallFix p m c cL_deleteCell 7 s args wsL_deleteCell RL := ⟨B.exec, B.bytes, hml, findClass_of_methodNamed B.named, atoms_spec (ws := wsL_deleteCell) B.pre⟩
  have hret := B.returns
  have hlocks := B.notSynchronized
  have Z := wZ_0 hI
  clear hI
  obtain ⟨Q, hQ⟩ : ∃ Q, Q = MQ below (QLP G μ MS MR) args s 4 34 (gP G) := ⟨_, rfl⟩
  rw [← hQ]
  have hl := lv_entry [.ref (gA G 0), .int (v1), .int (nI k2), .int (nI k3), .int (v4), .ref (gA G 53)] (n := 7) (Nat.le_of_ble_eq_true rfl)
  rw [show entryFrame m args 7 = entryFrame m ([.ref (gA G 0), .int (v1), .int (nI k2), .int (nI k3), .int (v4), .ref (gA G 53)] : List Value).toArray 7 from by rw [hargs], lg_entry_eq]
  generalize (lg_sl [.ref (gA G 0), .int (v1), .int (nI k2), .int (nI k3), .int (v4), .ref (gA G 53)] ++ List.replicate (7 - (lg_sl [.ref (gA G 0), .int (v1), .int (nI k2), .int (nI k3), .int (v4), .ref (gA G 53)]).length) Slot.unset).toArray = ls at hl ⊢
  have hl : lv_has ls 7 [(0, .ref (gA G 0)), (1, .int (v1)), (2, .int (nI k2)), (3, .int (nI k3)), (4, .int (v4)), (5, .ref (gA G 53))] := hl
  refine lv_aload S.1 S.2.1 dL_deleteCell_0 (lv_at hl 5 rfl) ?_
  refine lv_iconst (v := nI 0) S.1 S.2.1 dL_deleteCell_2 (by decide) ?_
  refine lv_aload_n S.1 S.2.1 dL_deleteCell_3 rfl (lv_at hl 0 rfl) ?_
  refine lv_iload_n S.1 S.2.1 dL_deleteCell_4 rfl (lv_at hl 1 rfl) ?_
  refine lv_iload_n S.1 S.2.1 dL_deleteCell_5 rfl (lv_at hl 2 rfl) ?_
  refine lv_iload_n S.1 S.2.1 dL_deleteCell_6 rfl (lv_at hl 3 rfl) ?_
  refine lv_iload S.1 S.2.1 dL_deleteCell_7 (lv_at hl 4 rfl) ?_
  refine x_call (vx_runV (As := [.int (v1), .int (nI k2), .int (nI k3), .int (v4)]) (rest := [.int (nI 0), .ref (gA G 53)]) S (k_X7_deleteCell_X3 l hst G σ μ o v1 k2 k3 v4 h2_ h3_ hx) (cwV 4 S.2.2.2.2 gL_deleteCell_X7_deleteCell rfl rfl rfl ⟨rfl, hy_X7_deleteCell⟩ ⟨Nat.le_of_ble_eq_true rfl, Nat.le_of_ble_eq_true rfl⟩) (wPc_V (q := (RX7, TX7, 7)) Z (by decide) rfl rfl) rfl rfl hl.1 rfl (lv_room (Nat.le_of_ble_eq_true rfl)) dL_deleteCell_9 ⟨Nat.le_of_ble_eq_true rfl, Nat.le_of_ble_eq_true rfl⟩) (fun _ _ _ h => h) Z (fun ce q9 H locs Z h1 h2 h3 => ?_)
  refine vx_catch (name := "java/lang/IllegalArgumentException") S.2.2.2.1 [⟨0, 14, 17, 13⟩] ⟨0, 14, 21, 15⟩ [] (by rw [htab]; rfl) (pass_1 (by decide) (S.2.2.2.2 _ m_L_deleteCell_c13) (nc_BA Z)) rfl (by decide) (S.2.2.2.2 _ m_L_deleteCell_c15) (ca_use Z n_caB) h1 h2 h3 ?_
  refine lv_astore (lv' := [(6, .ref (q9)), (0, .ref (gA G 0)), (1, .int (v1)), (2, .int (nI k2)), (3, .int (nI k3)), (4, .int (v4)), (5, .ref (gA G 53))]) S.1 S.2.1 dL_deleteCell_21 hl (by decide) rfl (fun ls hl => ?_)
  refine lv_iconst (v := nI 2) S.1 S.2.1 dL_deleteCell_23 (by decide) ?_
  refine W.widen (k := 4) (n := 34) (by decide) (by decide) ?_
  rw [hQ]
  exact W.iret (v := nI 2) S.1 S.2.1 hret (fun _ hT9 hW => ⟨⟨_, (σ, μ, o), rfl, hpost, wZ_I Z hT9 hW⟩, Z.2.2.2.2.F hT9⟩) Z.2.2.2.2.2.2 dL_deleteCell_24

set_option maxHeartbeats 4000000 in
set_option maxRecDepth 100000 in
theorem kL_deleteCell_X4 (l : Launch) (hst : l.stackTraces = false) (G : wG) (σ : cS) (μ : mS) (o : Nat → Int64) (k1 : Nat) (k2 : Nat) (k3 : Nat) (v4 : Int32) (MS : mS) (MR : Int32) (h1_ : k1 ≤ 7) (h2_ : k2 ≤ 15) (h3_ : k3 ≤ 3) (hx : wi v4 (nI 999) = false) (hpost : LQ G μ MS MR (nI 2) (σ, μ, o)) : Met l yL_deleteCell wsL_deleteCell rmL (wPc G σ μ o [.ref (gA G 0), .int (nI k1), .int (nI k2), .int (nI k3), .int (v4), .ref (gA G 53)]) (QLP G μ MS MR) 4 34 (gP G) := by
  refine m_ofWH (hh := [(0, 14, 17, 13), (0, 14, 21, 15)]) (cc := cL_deleteCell) (maxL := 7) (ret := (some .int)) (by decide) rfl ?_
  intro p e s m args below meth c s₁ B hml htab hv
  obtain ⟨hargs, hI⟩ := hv
  have S : CallFix p m c cL_deleteCell 7 s args wsL_deleteCell RL := ⟨B.exec, B.bytes, hml, findClass_of_methodNamed B.named, atoms_spec (ws := wsL_deleteCell) B.pre⟩
  have hret := B.returns
  have hlocks := B.notSynchronized
  have Z := wZ_0 hI
  clear hI
  obtain ⟨Q, hQ⟩ : ∃ Q, Q = MQ below (QLP G μ MS MR) args s 4 34 (gP G) := ⟨_, rfl⟩
  rw [← hQ]
  have hl := lv_entry [.ref (gA G 0), .int (nI k1), .int (nI k2), .int (nI k3), .int (v4), .ref (gA G 53)] (n := 7) (Nat.le_of_ble_eq_true rfl)
  rw [show entryFrame m args 7 = entryFrame m ([.ref (gA G 0), .int (nI k1), .int (nI k2), .int (nI k3), .int (v4), .ref (gA G 53)] : List Value).toArray 7 from by rw [hargs], lg_entry_eq]
  generalize (lg_sl [.ref (gA G 0), .int (nI k1), .int (nI k2), .int (nI k3), .int (v4), .ref (gA G 53)] ++ List.replicate (7 - (lg_sl [.ref (gA G 0), .int (nI k1), .int (nI k2), .int (nI k3), .int (v4), .ref (gA G 53)]).length) Slot.unset).toArray = ls at hl ⊢
  have hl : lv_has ls 7 [(0, .ref (gA G 0)), (1, .int (nI k1)), (2, .int (nI k2)), (3, .int (nI k3)), (4, .int (v4)), (5, .ref (gA G 53))] := hl
  refine lv_aload S.1 S.2.1 dL_deleteCell_0 (lv_at hl 5 rfl) ?_
  refine lv_iconst (v := nI 0) S.1 S.2.1 dL_deleteCell_2 (by decide) ?_
  refine lv_aload_n S.1 S.2.1 dL_deleteCell_3 rfl (lv_at hl 0 rfl) ?_
  refine lv_iload_n S.1 S.2.1 dL_deleteCell_4 rfl (lv_at hl 1 rfl) ?_
  refine lv_iload_n S.1 S.2.1 dL_deleteCell_5 rfl (lv_at hl 2 rfl) ?_
  refine lv_iload_n S.1 S.2.1 dL_deleteCell_6 rfl (lv_at hl 3 rfl) ?_
  refine lv_iload S.1 S.2.1 dL_deleteCell_7 (lv_at hl 4 rfl) ?_
  refine x_call (vx_runV (As := [.int (nI k1), .int (nI k2), .int (nI k3), .int (v4)]) (rest := [.int (nI 0), .ref (gA G 53)]) S (k_X7_deleteCell_X4 l hst G σ μ o k1 k2 k3 v4 h1_ h2_ h3_ hx) (cwV 4 S.2.2.2.2 gL_deleteCell_X7_deleteCell rfl rfl rfl ⟨rfl, hy_X7_deleteCell⟩ ⟨Nat.le_of_ble_eq_true rfl, Nat.le_of_ble_eq_true rfl⟩) (wPc_V (q := (RX7, TX7, 7)) Z (by decide) rfl rfl) rfl rfl hl.1 rfl (lv_room (Nat.le_of_ble_eq_true rfl)) dL_deleteCell_9 ⟨Nat.le_of_ble_eq_true rfl, Nat.le_of_ble_eq_true rfl⟩) (fun _ _ _ h => h) Z (fun ce q9 H locs Z h1 h2 h3 => ?_)
  refine vx_catch (name := "java/lang/IllegalArgumentException") S.2.2.2.1 [⟨0, 14, 17, 13⟩] ⟨0, 14, 21, 15⟩ [] (by rw [htab]; rfl) (pass_1 (by decide) (S.2.2.2.2 _ m_L_deleteCell_c13) (nc_BA Z)) rfl (by decide) (S.2.2.2.2 _ m_L_deleteCell_c15) (ca_use Z n_caB) h1 h2 h3 ?_
  refine lv_astore (lv' := [(6, .ref (q9)), (0, .ref (gA G 0)), (1, .int (nI k1)), (2, .int (nI k2)), (3, .int (nI k3)), (4, .int (v4)), (5, .ref (gA G 53))]) S.1 S.2.1 dL_deleteCell_21 hl (by decide) rfl (fun ls hl => ?_)
  refine lv_iconst (v := nI 2) S.1 S.2.1 dL_deleteCell_23 (by decide) ?_
  refine W.widen (k := 4) (n := 34) (by decide) (by decide) ?_
  rw [hQ]
  exact W.iret (v := nI 2) S.1 S.2.1 hret (fun _ hT9 hW => ⟨⟨_, (σ, μ, o), rfl, hpost, wZ_I Z hT9 hW⟩, Z.2.2.2.2.F hT9⟩) Z.2.2.2.2.2.2 dL_deleteCell_24

set_option maxHeartbeats 4000000 in
set_option maxRecDepth 100000 in
theorem kL_deleteCell (l : Launch) (hst : l.stackTraces = false) (G : wG) (σ : cS) (μ : mS) (o : Nat → Int64) (k1 : Nat) (k2 : Nat) (k3 : Nat) (k4 : Nat) (L : Nat → List Ch) (MS : mS) (MR : Int32) (h1_ : k1 ≤ 7) (h2_ : k2 ≤ 15) (h3_ : k3 ≤ 3) (h4_ : k4 ≤ 999) (hHI : HI G σ L) (hpost : ∀ ns, (sc ns (sdS σ (64 + (k2 * 4 + k3), nI k4, cV σ 4, nI 0) (nI k1) 3) ∧ HI G ns (sdLL σ (nI k1) (64 + (k2 * 4 + k3), nI k4, cV σ 4, nI 0) L)) → LQ G μ MS MR (nI 0) (ns, μ, vp_updL o 0 (nI (sdN σ (nI k1) 3)).toInt64)) : Met l yL_deleteCell wsL_deleteCell rmL (wPc G σ μ o [.ref (gA G 0), .int (nI k1), .int (nI k2), .int (nI k3), .int (nI k4), .ref (gA G 53)]) (QLP G μ MS MR) 4 34 (gP G) := by
  refine m_ofWH (hh := [(0, 14, 17, 13), (0, 14, 21, 15)]) (cc := cL_deleteCell) (maxL := 7) (ret := (some .int)) (by decide) rfl ?_
  intro p e s m args below meth c s₁ B hml htab hv
  obtain ⟨hargs, hI⟩ := hv
  have S : CallFix p m c cL_deleteCell 7 s args wsL_deleteCell RL := ⟨B.exec, B.bytes, hml, findClass_of_methodNamed B.named, atoms_spec (ws := wsL_deleteCell) B.pre⟩
  have hret := B.returns
  have hlocks := B.notSynchronized
  have Z := wZ_0 hI
  clear hI
  obtain ⟨Q, hQ⟩ : ∃ Q, Q = MQ below (QLP G μ MS MR) args s 4 34 (gP G) := ⟨_, rfl⟩
  rw [← hQ]
  have hl := lv_entry [.ref (gA G 0), .int (nI k1), .int (nI k2), .int (nI k3), .int (nI k4), .ref (gA G 53)] (n := 7) (Nat.le_of_ble_eq_true rfl)
  rw [show entryFrame m args 7 = entryFrame m ([.ref (gA G 0), .int (nI k1), .int (nI k2), .int (nI k3), .int (nI k4), .ref (gA G 53)] : List Value).toArray 7 from by rw [hargs], lg_entry_eq]
  generalize (lg_sl [.ref (gA G 0), .int (nI k1), .int (nI k2), .int (nI k3), .int (nI k4), .ref (gA G 53)] ++ List.replicate (7 - (lg_sl [.ref (gA G 0), .int (nI k1), .int (nI k2), .int (nI k3), .int (nI k4), .ref (gA G 53)]).length) Slot.unset).toArray = ls at hl ⊢
  have hl : lv_has ls 7 [(0, .ref (gA G 0)), (1, .int (nI k1)), (2, .int (nI k2)), (3, .int (nI k3)), (4, .int (nI k4)), (5, .ref (gA G 53))] := hl
  refine lv_aload S.1 S.2.1 dL_deleteCell_0 (lv_at hl 5 rfl) ?_
  refine lv_iconst (v := nI 0) S.1 S.2.1 dL_deleteCell_2 (by decide) ?_
  refine lv_aload_n S.1 S.2.1 dL_deleteCell_3 rfl (lv_at hl 0 rfl) ?_
  refine lv_iload_n S.1 S.2.1 dL_deleteCell_4 rfl (lv_at hl 1 rfl) ?_
  refine lv_iload_n S.1 S.2.1 dL_deleteCell_5 rfl (lv_at hl 2 rfl) ?_
  refine lv_iload_n S.1 S.2.1 dL_deleteCell_6 rfl (lv_at hl 3 rfl) ?_
  refine lv_iload S.1 S.2.1 dL_deleteCell_7 (lv_at hl 4 rfl) ?_
  refine va_calli (va_runV (As := [.int (nI k1), .int (nI k2), .int (nI k3), .int (nI k4)]) (rest := [.int (nI 0), .ref (gA G 53)]) S (k_X7_deleteCell l G σ μ o k1 k2 k3 k4 L h1_ h2_ h3_ h4_ hHI) (cwV 4 S.2.2.2.2 gL_deleteCell_X7_deleteCell rfl rfl rfl ⟨rfl, hy_X7_deleteCell⟩ ⟨Nat.le_of_ble_eq_true rfl, Nat.le_of_ble_eq_true rfl⟩) (wPc_V (q := (RX7, TX7, 7)) Z (by decide) rfl rfl) rfl rfl hl.1 rfl (lv_room (Nat.le_of_ble_eq_true rfl)) dL_deleteCell_9 ⟨Nat.le_of_ble_eq_true rfl, Nat.le_of_ble_eq_true rfl⟩) Z.2.2.2.2 (fun _ _ h => h) (fun _ h => h) (fun r_1 u_2 T9 H1 locs1 hT9 hvm hw hB hz hk9 hS => ?_)
  obtain ⟨τ_3, μ9⟩ := u_2
  obtain ⟨hr9, hm9, hp9⟩ := hw
  have hm9 : μ = μ9 := hm9.symm
  subst hm9
  have hp_4 : sc τ_3 (sdS σ (64 + (k2 * 4 + k3), nI k4, cV σ 4, nI 0) (nI k1) 3) ∧ HI G τ_3 (sdLL σ (nI k1) (64 + (k2 * 4 + k3), nI k4, cV σ 4, nI 0) L) := hp9
  clear hp9
  rw [hr9]; clear hr9 r_1
  have Z : wZ G (τ_3) (μ) o s H1 locs1 := wZ_callP Z hB hT9 hS
  clear hB hT9 hS hk9 hz hvm T9
  revert Z; generalize H1 = H; generalize locs1 = locs; intro Z
  refine W.widen (k := 4) (n := 33) (by first | decide | omega) (by first | decide | omega) ?_
  refine lv_i2l (v := (nI (sdN σ (nI k1) 3)).toInt64) S.1 S.2.1 dL_deleteCell_12 rfl ?_
  refine r_last S Z dL_deleteCell_13 (fun H locs Z => ?_)
  refine lv_goto (tgt := 25) S.1 S.2.1 dL_deleteCell_14 (by decide) ?_
  refine lv_iconst (v := nI 0) S.1 S.2.1 dL_deleteCell_25 (by decide) ?_
  refine W.widen (k := 4) (n := 34) (by decide) (by decide) ?_
  rw [hQ]
  exact W.iret (v := nI 0) S.1 S.2.1 hret (fun _ hT9 hW => ⟨⟨_, (τ_3, μ, vp_updL o 0 ((nI (sdN σ (nI k1) 3)).toInt64)), rfl, (hpost _ hp_4), wZ_I Z hT9 hW⟩, Z.2.2.2.2.F hT9⟩) Z.2.2.2.2.2.2 dL_deleteCell_26

theorem m_L_deleteColumn_c13 : Cond.classLink RL 13 "java/lang/IndexOutOfBoundsException" ∈ wsL_deleteColumn := by decide +kernel
set_option maxHeartbeats 4000000 in
set_option maxRecDepth 100000 in
theorem kL_deleteColumn_X1 (l : Launch) (hst : l.stackTraces = false) (G : wG) (σ : cS) (μ : mS) (o : Nat → Int64) (v1 : Int32) (v2 : Int32) (v3 : Int32) (MS : mS) (MR : Int32) (hx : wi v2 (nI 3) = false) (hpost : LQ G μ MS MR (nI 1) (σ, μ, o)) : Met l yL_deleteColumn wsL_deleteColumn rmL (wPc G σ μ o [.ref (gA G 0), .int (v1), .int (v2), .int (v3), .ref (gA G 53)]) (QLP G μ MS MR) 4 34 (gP G) := by
  refine m_ofWH (hh := [(0, 12, 15, 13), (0, 12, 19, 15)]) (cc := cL_deleteColumn) (maxL := 6) (ret := (some .int)) (by decide) rfl ?_
  intro p e s m args below meth c s₁ B hml htab hv
  obtain ⟨hargs, hI⟩ := hv
  have S : CallFix p m c cL_deleteColumn 6 s args wsL_deleteColumn RL := ⟨B.exec, B.bytes, hml, findClass_of_methodNamed B.named, atoms_spec (ws := wsL_deleteColumn) B.pre⟩
  have hret := B.returns
  have hlocks := B.notSynchronized
  have Z := wZ_0 hI
  clear hI
  obtain ⟨Q, hQ⟩ : ∃ Q, Q = MQ below (QLP G μ MS MR) args s 4 34 (gP G) := ⟨_, rfl⟩
  rw [← hQ]
  have hl := lv_entry [.ref (gA G 0), .int (v1), .int (v2), .int (v3), .ref (gA G 53)] (n := 6) (Nat.le_of_ble_eq_true rfl)
  rw [show entryFrame m args 6 = entryFrame m ([.ref (gA G 0), .int (v1), .int (v2), .int (v3), .ref (gA G 53)] : List Value).toArray 6 from by rw [hargs], lg_entry_eq]
  generalize (lg_sl [.ref (gA G 0), .int (v1), .int (v2), .int (v3), .ref (gA G 53)] ++ List.replicate (6 - (lg_sl [.ref (gA G 0), .int (v1), .int (v2), .int (v3), .ref (gA G 53)]).length) Slot.unset).toArray = ls at hl ⊢
  have hl : lv_has ls 6 [(0, .ref (gA G 0)), (1, .int (v1)), (2, .int (v2)), (3, .int (v3)), (4, .ref (gA G 53))] := hl
  refine lv_aload S.1 S.2.1 dL_deleteColumn_0 (lv_at hl 4 rfl) ?_
  refine lv_iconst (v := nI 0) S.1 S.2.1 dL_deleteColumn_2 (by decide) ?_
  refine lv_aload_n S.1 S.2.1 dL_deleteColumn_3 rfl (lv_at hl 0 rfl) ?_
  refine lv_iload_n S.1 S.2.1 dL_deleteColumn_4 rfl (lv_at hl 1 rfl) ?_
  refine lv_iload_n S.1 S.2.1 dL_deleteColumn_5 rfl (lv_at hl 2 rfl) ?_
  refine lv_iload_n S.1 S.2.1 dL_deleteColumn_6 rfl (lv_at hl 3 rfl) ?_
  refine x_call (vx_runV (As := [.int (v1), .int (v2), .int (v3)]) (rest := [.int (nI 0), .ref (gA G 53)]) S (k_X7_deleteColumn_X1 l hst G σ μ o v1 v2 v3 hx) (cwV 3 S.2.2.2.2 gL_deleteColumn_X7_deleteColumn rfl rfl rfl ⟨rfl, hy_X7_deleteColumn⟩ ⟨Nat.le_of_ble_eq_true rfl, Nat.le_of_ble_eq_true rfl⟩) (wPc_V (q := (RX7, TX7, 7)) Z (by decide) rfl rfl) rfl rfl hl.1 rfl (lv_room (Nat.le_of_ble_eq_true rfl)) dL_deleteColumn_7 ⟨Nat.le_of_ble_eq_true rfl, Nat.le_of_ble_eq_true rfl⟩) (fun _ _ _ h => h) Z (fun ce q9 H locs Z h1 h2 h3 => ?_)
  refine vx_catch (name := "java/lang/IndexOutOfBoundsException") S.2.2.2.1 [] ⟨0, 12, 15, 13⟩ [⟨0, 12, 19, 15⟩] (by rw [htab]; rfl) (fun z h => absurd h List.not_mem_nil) rfl (by decide) (S.2.2.2.2 _ m_L_deleteColumn_c13) (ca_use Z n_caA) h1 h2 h3 ?_
  refine lv_astore (lv' := [(5, .ref (q9)), (0, .ref (gA G 0)), (1, .int (v1)), (2, .int (v2)), (3, .int (v3)), (4, .ref (gA G 53))]) S.1 S.2.1 dL_deleteColumn_15 hl (by decide) rfl (fun ls hl => ?_)
  refine lv_iconst (v := nI 1) S.1 S.2.1 dL_deleteColumn_17 (by decide) ?_
  refine W.widen (k := 4) (n := 34) (by decide) (by decide) ?_
  rw [hQ]
  exact W.iret (v := nI 1) S.1 S.2.1 hret (fun _ hT9 hW => ⟨⟨_, (σ, μ, o), rfl, hpost, wZ_I Z hT9 hW⟩, Z.2.2.2.2.F hT9⟩) Z.2.2.2.2.2.2 dL_deleteColumn_18

theorem m_L_deleteColumn_c15 : Cond.classLink RL 15 "java/lang/IllegalArgumentException" ∈ wsL_deleteColumn := by decide +kernel
set_option maxHeartbeats 4000000 in
set_option maxRecDepth 100000 in
theorem kL_deleteColumn_X2 (l : Launch) (hst : l.stackTraces = false) (G : wG) (σ : cS) (μ : mS) (o : Nat → Int64) (v1 : Int32) (k2 : Nat) (v3 : Int32) (MS : mS) (MR : Int32) (h2_ : k2 ≤ 3) (hx : wi v1 (nI 7) = false) (hpost : LQ G μ MS MR (nI 2) (σ, μ, o)) : Met l yL_deleteColumn wsL_deleteColumn rmL (wPc G σ μ o [.ref (gA G 0), .int (v1), .int (nI k2), .int (v3), .ref (gA G 53)]) (QLP G μ MS MR) 4 34 (gP G) := by
  refine m_ofWH (hh := [(0, 12, 15, 13), (0, 12, 19, 15)]) (cc := cL_deleteColumn) (maxL := 6) (ret := (some .int)) (by decide) rfl ?_
  intro p e s m args below meth c s₁ B hml htab hv
  obtain ⟨hargs, hI⟩ := hv
  have S : CallFix p m c cL_deleteColumn 6 s args wsL_deleteColumn RL := ⟨B.exec, B.bytes, hml, findClass_of_methodNamed B.named, atoms_spec (ws := wsL_deleteColumn) B.pre⟩
  have hret := B.returns
  have hlocks := B.notSynchronized
  have Z := wZ_0 hI
  clear hI
  obtain ⟨Q, hQ⟩ : ∃ Q, Q = MQ below (QLP G μ MS MR) args s 4 34 (gP G) := ⟨_, rfl⟩
  rw [← hQ]
  have hl := lv_entry [.ref (gA G 0), .int (v1), .int (nI k2), .int (v3), .ref (gA G 53)] (n := 6) (Nat.le_of_ble_eq_true rfl)
  rw [show entryFrame m args 6 = entryFrame m ([.ref (gA G 0), .int (v1), .int (nI k2), .int (v3), .ref (gA G 53)] : List Value).toArray 6 from by rw [hargs], lg_entry_eq]
  generalize (lg_sl [.ref (gA G 0), .int (v1), .int (nI k2), .int (v3), .ref (gA G 53)] ++ List.replicate (6 - (lg_sl [.ref (gA G 0), .int (v1), .int (nI k2), .int (v3), .ref (gA G 53)]).length) Slot.unset).toArray = ls at hl ⊢
  have hl : lv_has ls 6 [(0, .ref (gA G 0)), (1, .int (v1)), (2, .int (nI k2)), (3, .int (v3)), (4, .ref (gA G 53))] := hl
  refine lv_aload S.1 S.2.1 dL_deleteColumn_0 (lv_at hl 4 rfl) ?_
  refine lv_iconst (v := nI 0) S.1 S.2.1 dL_deleteColumn_2 (by decide) ?_
  refine lv_aload_n S.1 S.2.1 dL_deleteColumn_3 rfl (lv_at hl 0 rfl) ?_
  refine lv_iload_n S.1 S.2.1 dL_deleteColumn_4 rfl (lv_at hl 1 rfl) ?_
  refine lv_iload_n S.1 S.2.1 dL_deleteColumn_5 rfl (lv_at hl 2 rfl) ?_
  refine lv_iload_n S.1 S.2.1 dL_deleteColumn_6 rfl (lv_at hl 3 rfl) ?_
  refine x_call (vx_runV (As := [.int (v1), .int (nI k2), .int (v3)]) (rest := [.int (nI 0), .ref (gA G 53)]) S (k_X7_deleteColumn_X2 l hst G σ μ o v1 k2 v3 h2_ hx) (cwV 3 S.2.2.2.2 gL_deleteColumn_X7_deleteColumn rfl rfl rfl ⟨rfl, hy_X7_deleteColumn⟩ ⟨Nat.le_of_ble_eq_true rfl, Nat.le_of_ble_eq_true rfl⟩) (wPc_V (q := (RX7, TX7, 7)) Z (by decide) rfl rfl) rfl rfl hl.1 rfl (lv_room (Nat.le_of_ble_eq_true rfl)) dL_deleteColumn_7 ⟨Nat.le_of_ble_eq_true rfl, Nat.le_of_ble_eq_true rfl⟩) (fun _ _ _ h => h) Z (fun ce q9 H locs Z h1 h2 h3 => ?_)
  refine vx_catch (name := "java/lang/IllegalArgumentException") S.2.2.2.1 [⟨0, 12, 15, 13⟩] ⟨0, 12, 19, 15⟩ [] (by rw [htab]; rfl) (pass_1 (by decide) (S.2.2.2.2 _ m_L_deleteColumn_c13) (nc_BA Z)) rfl (by decide) (S.2.2.2.2 _ m_L_deleteColumn_c15) (ca_use Z n_caB) h1 h2 h3 ?_
  refine lv_astore (lv' := [(5, .ref (q9)), (0, .ref (gA G 0)), (1, .int (v1)), (2, .int (nI k2)), (3, .int (v3)), (4, .ref (gA G 53))]) S.1 S.2.1 dL_deleteColumn_19 hl (by decide) rfl (fun ls hl => ?_)
  refine lv_iconst (v := nI 2) S.1 S.2.1 dL_deleteColumn_21 (by decide) ?_
  refine W.widen (k := 4) (n := 34) (by decide) (by decide) ?_
  rw [hQ]
  exact W.iret (v := nI 2) S.1 S.2.1 hret (fun _ hT9 hW => ⟨⟨_, (σ, μ, o), rfl, hpost, wZ_I Z hT9 hW⟩, Z.2.2.2.2.F hT9⟩) Z.2.2.2.2.2.2 dL_deleteColumn_22

set_option maxHeartbeats 4000000 in
set_option maxRecDepth 100000 in
theorem kL_deleteColumn_X3 (l : Launch) (hst : l.stackTraces = false) (G : wG) (σ : cS) (μ : mS) (o : Nat → Int64) (k1 : Nat) (k2 : Nat) (v3 : Int32) (MS : mS) (MR : Int32) (h1_ : k1 ≤ 7) (h2_ : k2 ≤ 3) (hx : wi v3 (nI 999) = false) (hpost : LQ G μ MS MR (nI 2) (σ, μ, o)) : Met l yL_deleteColumn wsL_deleteColumn rmL (wPc G σ μ o [.ref (gA G 0), .int (nI k1), .int (nI k2), .int (v3), .ref (gA G 53)]) (QLP G μ MS MR) 4 34 (gP G) := by
  refine m_ofWH (hh := [(0, 12, 15, 13), (0, 12, 19, 15)]) (cc := cL_deleteColumn) (maxL := 6) (ret := (some .int)) (by decide) rfl ?_
  intro p e s m args below meth c s₁ B hml htab hv
  obtain ⟨hargs, hI⟩ := hv
  have S : CallFix p m c cL_deleteColumn 6 s args wsL_deleteColumn RL := ⟨B.exec, B.bytes, hml, findClass_of_methodNamed B.named, atoms_spec (ws := wsL_deleteColumn) B.pre⟩
  have hret := B.returns
  have hlocks := B.notSynchronized
  have Z := wZ_0 hI
  clear hI
  obtain ⟨Q, hQ⟩ : ∃ Q, Q = MQ below (QLP G μ MS MR) args s 4 34 (gP G) := ⟨_, rfl⟩
  rw [← hQ]
  have hl := lv_entry [.ref (gA G 0), .int (nI k1), .int (nI k2), .int (v3), .ref (gA G 53)] (n := 6) (Nat.le_of_ble_eq_true rfl)
  rw [show entryFrame m args 6 = entryFrame m ([.ref (gA G 0), .int (nI k1), .int (nI k2), .int (v3), .ref (gA G 53)] : List Value).toArray 6 from by rw [hargs], lg_entry_eq]
  generalize (lg_sl [.ref (gA G 0), .int (nI k1), .int (nI k2), .int (v3), .ref (gA G 53)] ++ List.replicate (6 - (lg_sl [.ref (gA G 0), .int (nI k1), .int (nI k2), .int (v3), .ref (gA G 53)]).length) Slot.unset).toArray = ls at hl ⊢
  have hl : lv_has ls 6 [(0, .ref (gA G 0)), (1, .int (nI k1)), (2, .int (nI k2)), (3, .int (v3)), (4, .ref (gA G 53))] := hl
  refine lv_aload S.1 S.2.1 dL_deleteColumn_0 (lv_at hl 4 rfl) ?_
  refine lv_iconst (v := nI 0) S.1 S.2.1 dL_deleteColumn_2 (by decide) ?_
  refine lv_aload_n S.1 S.2.1 dL_deleteColumn_3 rfl (lv_at hl 0 rfl) ?_
  refine lv_iload_n S.1 S.2.1 dL_deleteColumn_4 rfl (lv_at hl 1 rfl) ?_
  refine lv_iload_n S.1 S.2.1 dL_deleteColumn_5 rfl (lv_at hl 2 rfl) ?_
  refine lv_iload_n S.1 S.2.1 dL_deleteColumn_6 rfl (lv_at hl 3 rfl) ?_
  refine x_call (vx_runV (As := [.int (nI k1), .int (nI k2), .int (v3)]) (rest := [.int (nI 0), .ref (gA G 53)]) S (k_X7_deleteColumn_X3 l hst G σ μ o k1 k2 v3 h1_ h2_ hx) (cwV 3 S.2.2.2.2 gL_deleteColumn_X7_deleteColumn rfl rfl rfl ⟨rfl, hy_X7_deleteColumn⟩ ⟨Nat.le_of_ble_eq_true rfl, Nat.le_of_ble_eq_true rfl⟩) (wPc_V (q := (RX7, TX7, 7)) Z (by decide) rfl rfl) rfl rfl hl.1 rfl (lv_room (Nat.le_of_ble_eq_true rfl)) dL_deleteColumn_7 ⟨Nat.le_of_ble_eq_true rfl, Nat.le_of_ble_eq_true rfl⟩) (fun _ _ _ h => h) Z (fun ce q9 H locs Z h1 h2 h3 => ?_)
  refine vx_catch (name := "java/lang/IllegalArgumentException") S.2.2.2.1 [⟨0, 12, 15, 13⟩] ⟨0, 12, 19, 15⟩ [] (by rw [htab]; rfl) (pass_1 (by decide) (S.2.2.2.2 _ m_L_deleteColumn_c13) (nc_BA Z)) rfl (by decide) (S.2.2.2.2 _ m_L_deleteColumn_c15) (ca_use Z n_caB) h1 h2 h3 ?_
  refine lv_astore (lv' := [(5, .ref (q9)), (0, .ref (gA G 0)), (1, .int (nI k1)), (2, .int (nI k2)), (3, .int (v3)), (4, .ref (gA G 53))]) S.1 S.2.1 dL_deleteColumn_19 hl (by decide) rfl (fun ls hl => ?_)
  refine lv_iconst (v := nI 2) S.1 S.2.1 dL_deleteColumn_21 (by decide) ?_
  refine W.widen (k := 4) (n := 34) (by decide) (by decide) ?_
  rw [hQ]
  exact W.iret (v := nI 2) S.1 S.2.1 hret (fun _ hT9 hW => ⟨⟨_, (σ, μ, o), rfl, hpost, wZ_I Z hT9 hW⟩, Z.2.2.2.2.F hT9⟩) Z.2.2.2.2.2.2 dL_deleteColumn_22

set_option maxHeartbeats 4000000 in
set_option maxRecDepth 100000 in
theorem kL_deleteColumn (l : Launch) (hst : l.stackTraces = false) (G : wG) (σ : cS) (μ : mS) (o : Nat → Int64) (k1 : Nat) (k2 : Nat) (k3 : Nat) (L : Nat → List Ch) (MS : mS) (MR : Int32) (h1_ : k1 ≤ 7) (h2_ : k2 ≤ 3) (h3_ : k3 ≤ 999) (hHI : HI G σ L) (hpost : ∀ ns, (sc ns (sdS σ (64 + (64 + k2), nI k3, cV σ 4, nI 0) (nI k1) 3) ∧ HI G ns (sdLL σ (nI k1) (64 + (64 + k2), nI k3, cV σ 4, nI 0) L)) → LQ G μ MS MR (nI 0) (ns, μ, vp_updL o 0 (nI (sdN σ (nI k1) 3)).toInt64)) : Met l yL_deleteColumn wsL_deleteColumn rmL (wPc G σ μ o [.ref (gA G 0), .int (nI k1), .int (nI k2), .int (nI k3), .ref (gA G 53)]) (QLP G μ MS MR) 4 34 (gP G) := by
  refine m_ofWH (hh := [(0, 12, 15, 13), (0, 12, 19, 15)]) (cc := cL_deleteColumn) (maxL := 6) (ret := (some .int)) (by decide) rfl ?_
  intro p e s m args below meth c s₁ B hml htab hv
  obtain ⟨hargs, hI⟩ := hv
  have S : CallFix p m c cL_deleteColumn 6 s args wsL_deleteColumn RL := ⟨B.exec, B.bytes, hml, findClass_of_methodNamed B.named, atoms_spec (ws := wsL_deleteColumn) B.pre⟩
  have hret := B.returns
  have hlocks := B.notSynchronized
  have Z := wZ_0 hI
  clear hI
  obtain ⟨Q, hQ⟩ : ∃ Q, Q = MQ below (QLP G μ MS MR) args s 4 34 (gP G) := ⟨_, rfl⟩
  rw [← hQ]
  have hl := lv_entry [.ref (gA G 0), .int (nI k1), .int (nI k2), .int (nI k3), .ref (gA G 53)] (n := 6) (Nat.le_of_ble_eq_true rfl)
  rw [show entryFrame m args 6 = entryFrame m ([.ref (gA G 0), .int (nI k1), .int (nI k2), .int (nI k3), .ref (gA G 53)] : List Value).toArray 6 from by rw [hargs], lg_entry_eq]
  generalize (lg_sl [.ref (gA G 0), .int (nI k1), .int (nI k2), .int (nI k3), .ref (gA G 53)] ++ List.replicate (6 - (lg_sl [.ref (gA G 0), .int (nI k1), .int (nI k2), .int (nI k3), .ref (gA G 53)]).length) Slot.unset).toArray = ls at hl ⊢
  have hl : lv_has ls 6 [(0, .ref (gA G 0)), (1, .int (nI k1)), (2, .int (nI k2)), (3, .int (nI k3)), (4, .ref (gA G 53))] := hl
  refine lv_aload S.1 S.2.1 dL_deleteColumn_0 (lv_at hl 4 rfl) ?_
  refine lv_iconst (v := nI 0) S.1 S.2.1 dL_deleteColumn_2 (by decide) ?_
  refine lv_aload_n S.1 S.2.1 dL_deleteColumn_3 rfl (lv_at hl 0 rfl) ?_
  refine lv_iload_n S.1 S.2.1 dL_deleteColumn_4 rfl (lv_at hl 1 rfl) ?_
  refine lv_iload_n S.1 S.2.1 dL_deleteColumn_5 rfl (lv_at hl 2 rfl) ?_
  refine lv_iload_n S.1 S.2.1 dL_deleteColumn_6 rfl (lv_at hl 3 rfl) ?_
  refine va_calli (va_runV (As := [.int (nI k1), .int (nI k2), .int (nI k3)]) (rest := [.int (nI 0), .ref (gA G 53)]) S (k_X7_deleteColumn l G σ μ o k1 k2 k3 L h1_ h2_ h3_ hHI) (cwV 3 S.2.2.2.2 gL_deleteColumn_X7_deleteColumn rfl rfl rfl ⟨rfl, hy_X7_deleteColumn⟩ ⟨Nat.le_of_ble_eq_true rfl, Nat.le_of_ble_eq_true rfl⟩) (wPc_V (q := (RX7, TX7, 7)) Z (by decide) rfl rfl) rfl rfl hl.1 rfl (lv_room (Nat.le_of_ble_eq_true rfl)) dL_deleteColumn_7 ⟨Nat.le_of_ble_eq_true rfl, Nat.le_of_ble_eq_true rfl⟩) Z.2.2.2.2 (fun _ _ h => h) (fun _ h => h) (fun r_1 u_2 T9 H1 locs1 hT9 hvm hw hB hz hk9 hS => ?_)
  obtain ⟨τ_3, μ9⟩ := u_2
  obtain ⟨hr9, hm9, hp9⟩ := hw
  have hm9 : μ = μ9 := hm9.symm
  subst hm9
  have hp_4 : sc τ_3 (sdS σ (64 + (64 + k2), nI k3, cV σ 4, nI 0) (nI k1) 3) ∧ HI G τ_3 (sdLL σ (nI k1) (64 + (64 + k2), nI k3, cV σ 4, nI 0) L) := hp9
  clear hp9
  rw [hr9]; clear hr9 r_1
  have Z : wZ G (τ_3) (μ) o s H1 locs1 := wZ_callP Z hB hT9 hS
  clear hB hT9 hS hk9 hz hvm T9
  revert Z; generalize H1 = H; generalize locs1 = locs; intro Z
  refine W.widen (k := 4) (n := 33) (by first | decide | omega) (by first | decide | omega) ?_
  refine lv_i2l (v := (nI (sdN σ (nI k1) 3)).toInt64) S.1 S.2.1 dL_deleteColumn_10 rfl ?_
  refine r_last S Z dL_deleteColumn_11 (fun H locs Z => ?_)
  refine lv_goto (tgt := 23) S.1 S.2.1 dL_deleteColumn_12 (by decide) ?_
  refine lv_iconst (v := nI 0) S.1 S.2.1 dL_deleteColumn_23 (by decide) ?_
  refine W.widen (k := 4) (n := 34) (by decide) (by decide) ?_
  rw [hQ]
  exact W.iret (v := nI 0) S.1 S.2.1 hret (fun _ hT9 hW => ⟨⟨_, (τ_3, μ, vp_updL o 0 ((nI (sdN σ (nI k1) 3)).toInt64)), rfl, (hpost _ hp_4), wZ_I Z hT9 hW⟩, Z.2.2.2.2.F hT9⟩) Z.2.2.2.2.2.2 dL_deleteColumn_24

theorem m_L_deleteRow_c13 : Cond.classLink RL 13 "java/lang/IndexOutOfBoundsException" ∈ wsL_deleteRow := by decide +kernel
set_option maxHeartbeats 4000000 in
set_option maxRecDepth 100000 in
theorem kL_deleteRow_X1 (l : Launch) (hst : l.stackTraces = false) (G : wG) (σ : cS) (μ : mS) (o : Nat → Int64) (v1 : Int32) (v2 : Int32) (v3 : Int32) (MS : mS) (MR : Int32) (hx : wi v2 (nI 15) = false) (hpost : LQ G μ MS MR (nI 1) (σ, μ, o)) : Met l yL_deleteRow wsL_deleteRow rmL (wPc G σ μ o [.ref (gA G 0), .int (v1), .int (v2), .int (v3), .ref (gA G 53)]) (QLP G μ MS MR) 4 34 (gP G) := by
  refine m_ofWH (hh := [(0, 12, 15, 13), (0, 12, 19, 15)]) (cc := cL_deleteRow) (maxL := 6) (ret := (some .int)) (by decide) rfl ?_
  intro p e s m args below meth c s₁ B hml htab hv
  obtain ⟨hargs, hI⟩ := hv
  have S : CallFix p m c cL_deleteRow 6 s args wsL_deleteRow RL := ⟨B.exec, B.bytes, hml, findClass_of_methodNamed B.named, atoms_spec (ws := wsL_deleteRow) B.pre⟩
  have hret := B.returns
  have hlocks := B.notSynchronized
  have Z := wZ_0 hI
  clear hI
  obtain ⟨Q, hQ⟩ : ∃ Q, Q = MQ below (QLP G μ MS MR) args s 4 34 (gP G) := ⟨_, rfl⟩
  rw [← hQ]
  have hl := lv_entry [.ref (gA G 0), .int (v1), .int (v2), .int (v3), .ref (gA G 53)] (n := 6) (Nat.le_of_ble_eq_true rfl)
  rw [show entryFrame m args 6 = entryFrame m ([.ref (gA G 0), .int (v1), .int (v2), .int (v3), .ref (gA G 53)] : List Value).toArray 6 from by rw [hargs], lg_entry_eq]
  generalize (lg_sl [.ref (gA G 0), .int (v1), .int (v2), .int (v3), .ref (gA G 53)] ++ List.replicate (6 - (lg_sl [.ref (gA G 0), .int (v1), .int (v2), .int (v3), .ref (gA G 53)]).length) Slot.unset).toArray = ls at hl ⊢
  have hl : lv_has ls 6 [(0, .ref (gA G 0)), (1, .int (v1)), (2, .int (v2)), (3, .int (v3)), (4, .ref (gA G 53))] := hl
  refine lv_aload S.1 S.2.1 dL_deleteRow_0 (lv_at hl 4 rfl) ?_
  refine lv_iconst (v := nI 0) S.1 S.2.1 dL_deleteRow_2 (by decide) ?_
  refine lv_aload_n S.1 S.2.1 dL_deleteRow_3 rfl (lv_at hl 0 rfl) ?_
  refine lv_iload_n S.1 S.2.1 dL_deleteRow_4 rfl (lv_at hl 1 rfl) ?_
  refine lv_iload_n S.1 S.2.1 dL_deleteRow_5 rfl (lv_at hl 2 rfl) ?_
  refine lv_iload_n S.1 S.2.1 dL_deleteRow_6 rfl (lv_at hl 3 rfl) ?_
  refine x_call (vx_runV (As := [.int (v1), .int (v2), .int (v3)]) (rest := [.int (nI 0), .ref (gA G 53)]) S (k_X7_deleteRow_X1 l hst G σ μ o v1 v2 v3 hx) (cwV 3 S.2.2.2.2 gL_deleteRow_X7_deleteRow rfl rfl rfl ⟨rfl, hy_X7_deleteRow⟩ ⟨Nat.le_of_ble_eq_true rfl, Nat.le_of_ble_eq_true rfl⟩) (wPc_V (q := (RX7, TX7, 7)) Z (by decide) rfl rfl) rfl rfl hl.1 rfl (lv_room (Nat.le_of_ble_eq_true rfl)) dL_deleteRow_7 ⟨Nat.le_of_ble_eq_true rfl, Nat.le_of_ble_eq_true rfl⟩) (fun _ _ _ h => h) Z (fun ce q9 H locs Z h1 h2 h3 => ?_)
  refine vx_catch (name := "java/lang/IndexOutOfBoundsException") S.2.2.2.1 [] ⟨0, 12, 15, 13⟩ [⟨0, 12, 19, 15⟩] (by rw [htab]; rfl) (fun z h => absurd h List.not_mem_nil) rfl (by decide) (S.2.2.2.2 _ m_L_deleteRow_c13) (ca_use Z n_caA) h1 h2 h3 ?_
  refine lv_astore (lv' := [(5, .ref (q9)), (0, .ref (gA G 0)), (1, .int (v1)), (2, .int (v2)), (3, .int (v3)), (4, .ref (gA G 53))]) S.1 S.2.1 dL_deleteRow_15 hl (by decide) rfl (fun ls hl => ?_)
  refine lv_iconst (v := nI 1) S.1 S.2.1 dL_deleteRow_17 (by decide) ?_
  refine W.widen (k := 4) (n := 34) (by decide) (by decide) ?_
  rw [hQ]
  exact W.iret (v := nI 1) S.1 S.2.1 hret (fun _ hT9 hW => ⟨⟨_, (σ, μ, o), rfl, hpost, wZ_I Z hT9 hW⟩, Z.2.2.2.2.F hT9⟩) Z.2.2.2.2.2.2 dL_deleteRow_18

theorem m_L_deleteRow_c15 : Cond.classLink RL 15 "java/lang/IllegalArgumentException" ∈ wsL_deleteRow := by decide +kernel
set_option maxHeartbeats 4000000 in
set_option maxRecDepth 100000 in
theorem kL_deleteRow_X2 (l : Launch) (hst : l.stackTraces = false) (G : wG) (σ : cS) (μ : mS) (o : Nat → Int64) (v1 : Int32) (k2 : Nat) (v3 : Int32) (MS : mS) (MR : Int32) (h2_ : k2 ≤ 15) (hx : wi v1 (nI 7) = false) (hpost : LQ G μ MS MR (nI 2) (σ, μ, o)) : Met l yL_deleteRow wsL_deleteRow rmL (wPc G σ μ o [.ref (gA G 0), .int (v1), .int (nI k2), .int (v3), .ref (gA G 53)]) (QLP G μ MS MR) 4 34 (gP G) := by
  refine m_ofWH (hh := [(0, 12, 15, 13), (0, 12, 19, 15)]) (cc := cL_deleteRow) (maxL := 6) (ret := (some .int)) (by decide) rfl ?_
  intro p e s m args below meth c s₁ B hml htab hv
  obtain ⟨hargs, hI⟩ := hv
  have S : CallFix p m c cL_deleteRow 6 s args wsL_deleteRow RL := ⟨B.exec, B.bytes, hml, findClass_of_methodNamed B.named, atoms_spec (ws := wsL_deleteRow) B.pre⟩
  have hret := B.returns
  have hlocks := B.notSynchronized
  have Z := wZ_0 hI
  clear hI
  obtain ⟨Q, hQ⟩ : ∃ Q, Q = MQ below (QLP G μ MS MR) args s 4 34 (gP G) := ⟨_, rfl⟩
  rw [← hQ]
  have hl := lv_entry [.ref (gA G 0), .int (v1), .int (nI k2), .int (v3), .ref (gA G 53)] (n := 6) (Nat.le_of_ble_eq_true rfl)
  rw [show entryFrame m args 6 = entryFrame m ([.ref (gA G 0), .int (v1), .int (nI k2), .int (v3), .ref (gA G 53)] : List Value).toArray 6 from by rw [hargs], lg_entry_eq]
  generalize (lg_sl [.ref (gA G 0), .int (v1), .int (nI k2), .int (v3), .ref (gA G 53)] ++ List.replicate (6 - (lg_sl [.ref (gA G 0), .int (v1), .int (nI k2), .int (v3), .ref (gA G 53)]).length) Slot.unset).toArray = ls at hl ⊢
  have hl : lv_has ls 6 [(0, .ref (gA G 0)), (1, .int (v1)), (2, .int (nI k2)), (3, .int (v3)), (4, .ref (gA G 53))] := hl
  refine lv_aload S.1 S.2.1 dL_deleteRow_0 (lv_at hl 4 rfl) ?_
  refine lv_iconst (v := nI 0) S.1 S.2.1 dL_deleteRow_2 (by decide) ?_
  refine lv_aload_n S.1 S.2.1 dL_deleteRow_3 rfl (lv_at hl 0 rfl) ?_
  refine lv_iload_n S.1 S.2.1 dL_deleteRow_4 rfl (lv_at hl 1 rfl) ?_
  refine lv_iload_n S.1 S.2.1 dL_deleteRow_5 rfl (lv_at hl 2 rfl) ?_
  refine lv_iload_n S.1 S.2.1 dL_deleteRow_6 rfl (lv_at hl 3 rfl) ?_
  refine x_call (vx_runV (As := [.int (v1), .int (nI k2), .int (v3)]) (rest := [.int (nI 0), .ref (gA G 53)]) S (k_X7_deleteRow_X2 l hst G σ μ o v1 k2 v3 h2_ hx) (cwV 3 S.2.2.2.2 gL_deleteRow_X7_deleteRow rfl rfl rfl ⟨rfl, hy_X7_deleteRow⟩ ⟨Nat.le_of_ble_eq_true rfl, Nat.le_of_ble_eq_true rfl⟩) (wPc_V (q := (RX7, TX7, 7)) Z (by decide) rfl rfl) rfl rfl hl.1 rfl (lv_room (Nat.le_of_ble_eq_true rfl)) dL_deleteRow_7 ⟨Nat.le_of_ble_eq_true rfl, Nat.le_of_ble_eq_true rfl⟩) (fun _ _ _ h => h) Z (fun ce q9 H locs Z h1 h2 h3 => ?_)
  refine vx_catch (name := "java/lang/IllegalArgumentException") S.2.2.2.1 [⟨0, 12, 15, 13⟩] ⟨0, 12, 19, 15⟩ [] (by rw [htab]; rfl) (pass_1 (by decide) (S.2.2.2.2 _ m_L_deleteRow_c13) (nc_BA Z)) rfl (by decide) (S.2.2.2.2 _ m_L_deleteRow_c15) (ca_use Z n_caB) h1 h2 h3 ?_
  refine lv_astore (lv' := [(5, .ref (q9)), (0, .ref (gA G 0)), (1, .int (v1)), (2, .int (nI k2)), (3, .int (v3)), (4, .ref (gA G 53))]) S.1 S.2.1 dL_deleteRow_19 hl (by decide) rfl (fun ls hl => ?_)
  refine lv_iconst (v := nI 2) S.1 S.2.1 dL_deleteRow_21 (by decide) ?_
  refine W.widen (k := 4) (n := 34) (by decide) (by decide) ?_
  rw [hQ]
  exact W.iret (v := nI 2) S.1 S.2.1 hret (fun _ hT9 hW => ⟨⟨_, (σ, μ, o), rfl, hpost, wZ_I Z hT9 hW⟩, Z.2.2.2.2.F hT9⟩) Z.2.2.2.2.2.2 dL_deleteRow_22

set_option maxHeartbeats 4000000 in
set_option maxRecDepth 100000 in
theorem kL_deleteRow_X3 (l : Launch) (hst : l.stackTraces = false) (G : wG) (σ : cS) (μ : mS) (o : Nat → Int64) (k1 : Nat) (k2 : Nat) (v3 : Int32) (MS : mS) (MR : Int32) (h1_ : k1 ≤ 7) (h2_ : k2 ≤ 15) (hx : wi v3 (nI 999) = false) (hpost : LQ G μ MS MR (nI 2) (σ, μ, o)) : Met l yL_deleteRow wsL_deleteRow rmL (wPc G σ μ o [.ref (gA G 0), .int (nI k1), .int (nI k2), .int (v3), .ref (gA G 53)]) (QLP G μ MS MR) 4 34 (gP G) := by
  refine m_ofWH (hh := [(0, 12, 15, 13), (0, 12, 19, 15)]) (cc := cL_deleteRow) (maxL := 6) (ret := (some .int)) (by decide) rfl ?_
  intro p e s m args below meth c s₁ B hml htab hv
  obtain ⟨hargs, hI⟩ := hv
  have S : CallFix p m c cL_deleteRow 6 s args wsL_deleteRow RL := ⟨B.exec, B.bytes, hml, findClass_of_methodNamed B.named, atoms_spec (ws := wsL_deleteRow) B.pre⟩
  have hret := B.returns
  have hlocks := B.notSynchronized
  have Z := wZ_0 hI
  clear hI
  obtain ⟨Q, hQ⟩ : ∃ Q, Q = MQ below (QLP G μ MS MR) args s 4 34 (gP G) := ⟨_, rfl⟩
  rw [← hQ]
  have hl := lv_entry [.ref (gA G 0), .int (nI k1), .int (nI k2), .int (v3), .ref (gA G 53)] (n := 6) (Nat.le_of_ble_eq_true rfl)
  rw [show entryFrame m args 6 = entryFrame m ([.ref (gA G 0), .int (nI k1), .int (nI k2), .int (v3), .ref (gA G 53)] : List Value).toArray 6 from by rw [hargs], lg_entry_eq]
  generalize (lg_sl [.ref (gA G 0), .int (nI k1), .int (nI k2), .int (v3), .ref (gA G 53)] ++ List.replicate (6 - (lg_sl [.ref (gA G 0), .int (nI k1), .int (nI k2), .int (v3), .ref (gA G 53)]).length) Slot.unset).toArray = ls at hl ⊢
  have hl : lv_has ls 6 [(0, .ref (gA G 0)), (1, .int (nI k1)), (2, .int (nI k2)), (3, .int (v3)), (4, .ref (gA G 53))] := hl
  refine lv_aload S.1 S.2.1 dL_deleteRow_0 (lv_at hl 4 rfl) ?_
  refine lv_iconst (v := nI 0) S.1 S.2.1 dL_deleteRow_2 (by decide) ?_
  refine lv_aload_n S.1 S.2.1 dL_deleteRow_3 rfl (lv_at hl 0 rfl) ?_
  refine lv_iload_n S.1 S.2.1 dL_deleteRow_4 rfl (lv_at hl 1 rfl) ?_
  refine lv_iload_n S.1 S.2.1 dL_deleteRow_5 rfl (lv_at hl 2 rfl) ?_
  refine lv_iload_n S.1 S.2.1 dL_deleteRow_6 rfl (lv_at hl 3 rfl) ?_
  refine x_call (vx_runV (As := [.int (nI k1), .int (nI k2), .int (v3)]) (rest := [.int (nI 0), .ref (gA G 53)]) S (k_X7_deleteRow_X3 l hst G σ μ o k1 k2 v3 h1_ h2_ hx) (cwV 3 S.2.2.2.2 gL_deleteRow_X7_deleteRow rfl rfl rfl ⟨rfl, hy_X7_deleteRow⟩ ⟨Nat.le_of_ble_eq_true rfl, Nat.le_of_ble_eq_true rfl⟩) (wPc_V (q := (RX7, TX7, 7)) Z (by decide) rfl rfl) rfl rfl hl.1 rfl (lv_room (Nat.le_of_ble_eq_true rfl)) dL_deleteRow_7 ⟨Nat.le_of_ble_eq_true rfl, Nat.le_of_ble_eq_true rfl⟩) (fun _ _ _ h => h) Z (fun ce q9 H locs Z h1 h2 h3 => ?_)
  refine vx_catch (name := "java/lang/IllegalArgumentException") S.2.2.2.1 [⟨0, 12, 15, 13⟩] ⟨0, 12, 19, 15⟩ [] (by rw [htab]; rfl) (pass_1 (by decide) (S.2.2.2.2 _ m_L_deleteRow_c13) (nc_BA Z)) rfl (by decide) (S.2.2.2.2 _ m_L_deleteRow_c15) (ca_use Z n_caB) h1 h2 h3 ?_
  refine lv_astore (lv' := [(5, .ref (q9)), (0, .ref (gA G 0)), (1, .int (nI k1)), (2, .int (nI k2)), (3, .int (v3)), (4, .ref (gA G 53))]) S.1 S.2.1 dL_deleteRow_19 hl (by decide) rfl (fun ls hl => ?_)
  refine lv_iconst (v := nI 2) S.1 S.2.1 dL_deleteRow_21 (by decide) ?_
  refine W.widen (k := 4) (n := 34) (by decide) (by decide) ?_
  rw [hQ]
  exact W.iret (v := nI 2) S.1 S.2.1 hret (fun _ hT9 hW => ⟨⟨_, (σ, μ, o), rfl, hpost, wZ_I Z hT9 hW⟩, Z.2.2.2.2.F hT9⟩) Z.2.2.2.2.2.2 dL_deleteRow_22

set_option maxHeartbeats 4000000 in
set_option maxRecDepth 100000 in
theorem kL_deleteRow (l : Launch) (hst : l.stackTraces = false) (G : wG) (σ : cS) (μ : mS) (o : Nat → Int64) (k1 : Nat) (k2 : Nat) (k3 : Nat) (L : Nat → List Ch) (MS : mS) (MR : Int32) (h1_ : k1 ≤ 7) (h2_ : k2 ≤ 15) (h3_ : k3 ≤ 999) (hHI : HI G σ L) (hpost : ∀ ns, (sc ns (sdS σ (64 + (68 + k2), nI k3, cV σ 4, nI 0) (nI k1) 3) ∧ HI G ns (sdLL σ (nI k1) (64 + (68 + k2), nI k3, cV σ 4, nI 0) L)) → LQ G μ MS MR (nI 0) (ns, μ, vp_updL o 0 (nI (sdN σ (nI k1) 3)).toInt64)) : Met l yL_deleteRow wsL_deleteRow rmL (wPc G σ μ o [.ref (gA G 0), .int (nI k1), .int (nI k2), .int (nI k3), .ref (gA G 53)]) (QLP G μ MS MR) 4 34 (gP G) := by
  refine m_ofWH (hh := [(0, 12, 15, 13), (0, 12, 19, 15)]) (cc := cL_deleteRow) (maxL := 6) (ret := (some .int)) (by decide) rfl ?_
  intro p e s m args below meth c s₁ B hml htab hv
  obtain ⟨hargs, hI⟩ := hv
  have S : CallFix p m c cL_deleteRow 6 s args wsL_deleteRow RL := ⟨B.exec, B.bytes, hml, findClass_of_methodNamed B.named, atoms_spec (ws := wsL_deleteRow) B.pre⟩
  have hret := B.returns
  have hlocks := B.notSynchronized
  have Z := wZ_0 hI
  clear hI
  obtain ⟨Q, hQ⟩ : ∃ Q, Q = MQ below (QLP G μ MS MR) args s 4 34 (gP G) := ⟨_, rfl⟩
  rw [← hQ]
  have hl := lv_entry [.ref (gA G 0), .int (nI k1), .int (nI k2), .int (nI k3), .ref (gA G 53)] (n := 6) (Nat.le_of_ble_eq_true rfl)
  rw [show entryFrame m args 6 = entryFrame m ([.ref (gA G 0), .int (nI k1), .int (nI k2), .int (nI k3), .ref (gA G 53)] : List Value).toArray 6 from by rw [hargs], lg_entry_eq]
  generalize (lg_sl [.ref (gA G 0), .int (nI k1), .int (nI k2), .int (nI k3), .ref (gA G 53)] ++ List.replicate (6 - (lg_sl [.ref (gA G 0), .int (nI k1), .int (nI k2), .int (nI k3), .ref (gA G 53)]).length) Slot.unset).toArray = ls at hl ⊢
  have hl : lv_has ls 6 [(0, .ref (gA G 0)), (1, .int (nI k1)), (2, .int (nI k2)), (3, .int (nI k3)), (4, .ref (gA G 53))] := hl
  refine lv_aload S.1 S.2.1 dL_deleteRow_0 (lv_at hl 4 rfl) ?_
  refine lv_iconst (v := nI 0) S.1 S.2.1 dL_deleteRow_2 (by decide) ?_
  refine lv_aload_n S.1 S.2.1 dL_deleteRow_3 rfl (lv_at hl 0 rfl) ?_
  refine lv_iload_n S.1 S.2.1 dL_deleteRow_4 rfl (lv_at hl 1 rfl) ?_
  refine lv_iload_n S.1 S.2.1 dL_deleteRow_5 rfl (lv_at hl 2 rfl) ?_
  refine lv_iload_n S.1 S.2.1 dL_deleteRow_6 rfl (lv_at hl 3 rfl) ?_
  refine va_calli (va_runV (As := [.int (nI k1), .int (nI k2), .int (nI k3)]) (rest := [.int (nI 0), .ref (gA G 53)]) S (k_X7_deleteRow l G σ μ o k1 k2 k3 L h1_ h2_ h3_ hHI) (cwV 3 S.2.2.2.2 gL_deleteRow_X7_deleteRow rfl rfl rfl ⟨rfl, hy_X7_deleteRow⟩ ⟨Nat.le_of_ble_eq_true rfl, Nat.le_of_ble_eq_true rfl⟩) (wPc_V (q := (RX7, TX7, 7)) Z (by decide) rfl rfl) rfl rfl hl.1 rfl (lv_room (Nat.le_of_ble_eq_true rfl)) dL_deleteRow_7 ⟨Nat.le_of_ble_eq_true rfl, Nat.le_of_ble_eq_true rfl⟩) Z.2.2.2.2 (fun _ _ h => h) (fun _ h => h) (fun r_1 u_2 T9 H1 locs1 hT9 hvm hw hB hz hk9 hS => ?_)
  obtain ⟨τ_3, μ9⟩ := u_2
  obtain ⟨hr9, hm9, hp9⟩ := hw
  have hm9 : μ = μ9 := hm9.symm
  subst hm9
  have hp_4 : sc τ_3 (sdS σ (64 + (68 + k2), nI k3, cV σ 4, nI 0) (nI k1) 3) ∧ HI G τ_3 (sdLL σ (nI k1) (64 + (68 + k2), nI k3, cV σ 4, nI 0) L) := hp9
  clear hp9
  rw [hr9]; clear hr9 r_1
  have Z : wZ G (τ_3) (μ) o s H1 locs1 := wZ_callP Z hB hT9 hS
  clear hB hT9 hS hk9 hz hvm T9
  revert Z; generalize H1 = H; generalize locs1 = locs; intro Z
  refine W.widen (k := 4) (n := 33) (by first | decide | omega) (by first | decide | omega) ?_
  refine lv_i2l (v := (nI (sdN σ (nI k1) 3)).toInt64) S.1 S.2.1 dL_deleteRow_10 rfl ?_
  refine r_last S Z dL_deleteRow_11 (fun H locs Z => ?_)
  refine lv_goto (tgt := 23) S.1 S.2.1 dL_deleteRow_12 (by decide) ?_
  refine lv_iconst (v := nI 0) S.1 S.2.1 dL_deleteRow_23 (by decide) ?_
  refine W.widen (k := 4) (n := 34) (by decide) (by decide) ?_
  rw [hQ]
  exact W.iret (v := nI 0) S.1 S.2.1 hret (fun _ hT9 hW => ⟨⟨_, (τ_3, μ, vp_updL o 0 ((nI (sdN σ (nI k1) 3)).toInt64)), rfl, (hpost _ hp_4), wZ_I Z hT9 hW⟩, Z.2.2.2.2.F hT9⟩) Z.2.2.2.2.2.2 dL_deleteRow_24

theorem m_L_deleteRange_c13 : Cond.classLink RL 13 "java/lang/IndexOutOfBoundsException" ∈ wsL_deleteRange := by decide +kernel
set_option maxHeartbeats 4000000 in
set_option maxRecDepth 100000 in
theorem kL_deleteRange_X1 (l : Launch) (hst : l.stackTraces = false) (G : wG) (σ : cS) (μ : mS) (o : Nat → Int64) (v1 : Int32) (v2 : Int32) (v3 : Int32) (v4 : Int32) (MS : mS) (MR : Int32) (hx : wi v2 (nI 15) = false) (hpost : LQ G μ MS MR (nI 1) (σ, μ, o)) : Met l yL_deleteRange wsL_deleteRange rmL (wPc G σ μ o [.ref (gA G 0), .int (v1), .int (v2), .int (v3), .int (v4), .ref (gA G 53)]) (QLP G μ MS MR) 4 34 (gP G) := by
  refine m_ofWH (hh := [(0, 14, 17, 13), (0, 14, 21, 15), (0, 14, 25, 31)]) (cc := cL_deleteRange) (maxL := 7) (ret := (some .int)) (by decide) rfl ?_
  intro p e s m args below meth c s₁ B hml htab hv
  obtain ⟨hargs, hI⟩ := hv
  have S : CallFix p m c cL_deleteRange 7 s args wsL_deleteRange RL := ⟨B.exec, B.bytes, hml, findClass_of_methodNamed B.named, atoms_spec (ws := wsL_deleteRange) B.pre⟩
  have hret := B.returns
  have hlocks := B.notSynchronized
  have Z := wZ_0 hI
  clear hI
  obtain ⟨Q, hQ⟩ : ∃ Q, Q = MQ below (QLP G μ MS MR) args s 4 34 (gP G) := ⟨_, rfl⟩
  rw [← hQ]
  have hl := lv_entry [.ref (gA G 0), .int (v1), .int (v2), .int (v3), .int (v4), .ref (gA G 53)] (n := 7) (Nat.le_of_ble_eq_true rfl)
  rw [show entryFrame m args 7 = entryFrame m ([.ref (gA G 0), .int (v1), .int (v2), .int (v3), .int (v4), .ref (gA G 53)] : List Value).toArray 7 from by rw [hargs], lg_entry_eq]
  generalize (lg_sl [.ref (gA G 0), .int (v1), .int (v2), .int (v3), .int (v4), .ref (gA G 53)] ++ List.replicate (7 - (lg_sl [.ref (gA G 0), .int (v1), .int (v2), .int (v3), .int (v4), .ref (gA G 53)]).length) Slot.unset).toArray = ls at hl ⊢
  have hl : lv_has ls 7 [(0, .ref (gA G 0)), (1, .int (v1)), (2, .int (v2)), (3, .int (v3)), (4, .int (v4)), (5, .ref (gA G 53))] := hl
  refine lv_aload S.1 S.2.1 dL_deleteRange_0 (lv_at hl 5 rfl) ?_
  refine lv_iconst (v := nI 0) S.1 S.2.1 dL_deleteRange_2 (by decide) ?_
  refine lv_aload_n S.1 S.2.1 dL_deleteRange_3 rfl (lv_at hl 0 rfl) ?_
  refine lv_iload_n S.1 S.2.1 dL_deleteRange_4 rfl (lv_at hl 1 rfl) ?_
  refine lv_iload_n S.1 S.2.1 dL_deleteRange_5 rfl (lv_at hl 2 rfl) ?_
  refine lv_iload_n S.1 S.2.1 dL_deleteRange_6 rfl (lv_at hl 3 rfl) ?_
  refine lv_iload S.1 S.2.1 dL_deleteRange_7 (lv_at hl 4 rfl) ?_
  refine x_call (vx_runV (As := [.int (v1), .int (v2), .int (v3), .int (v4)]) (rest := [.int (nI 0), .ref (gA G 53)]) S (k_X7_deleteRange_X1 l hst G σ μ o v1 v2 v3 v4 hx) (cwV 4 S.2.2.2.2 gL_deleteRange_X7_deleteRange rfl rfl rfl ⟨rfl, hy_X7_deleteRange⟩ ⟨Nat.le_of_ble_eq_true rfl, Nat.le_of_ble_eq_true rfl⟩) (wPc_V (q := (RX7, TX7, 7)) Z (by decide) rfl rfl) rfl rfl hl.1 rfl (lv_room (Nat.le_of_ble_eq_true rfl)) dL_deleteRange_9 ⟨Nat.le_of_ble_eq_true rfl, Nat.le_of_ble_eq_true rfl⟩) (fun _ _ _ h => h) Z (fun ce q9 H locs Z h1 h2 h3 => ?_)
  refine vx_catch (name := "java/lang/IndexOutOfBoundsException") S.2.2.2.1 [] ⟨0, 14, 17, 13⟩ [⟨0, 14, 21, 15⟩, ⟨0, 14, 25, 31⟩] (by rw [htab]; rfl) (fun z h => absurd h List.not_mem_nil) rfl (by decide) (S.2.2.2.2 _ m_L_deleteRange_c13) (ca_use Z n_caA) h1 h2 h3 ?_
  refine lv_astore (lv' := [(6, .ref (q9)), (0, .ref (gA G 0)), (1, .int (v1)), (2, .int (v2)), (3, .int (v3)), (4, .int (v4)), (5, .ref (gA G 53))]) S.1 S.2.1 dL_deleteRange_17 hl (by decide) rfl (fun ls hl => ?_)
  refine lv_iconst (v := nI 1) S.1 S.2.1 dL_deleteRange_19 (by decide) ?_
  refine W.widen (k := 4) (n := 34) (by decide) (by decide) ?_
  rw [hQ]
  exact W.iret (v := nI 1) S.1 S.2.1 hret (fun _ hT9 hW => ⟨⟨_, (σ, μ, o), rfl, hpost, wZ_I Z hT9 hW⟩, Z.2.2.2.2.F hT9⟩) Z.2.2.2.2.2.2 dL_deleteRange_20

set_option maxHeartbeats 4000000 in
set_option maxRecDepth 100000 in
theorem kL_deleteRange_X2 (l : Launch) (hst : l.stackTraces = false) (G : wG) (σ : cS) (μ : mS) (o : Nat → Int64) (v1 : Int32) (k2 : Nat) (v3 : Int32) (v4 : Int32) (MS : mS) (MR : Int32) (h2_ : k2 ≤ 15) (hx : wi v3 (nI 15) = false) (hpost : LQ G μ MS MR (nI 1) (σ, μ, o)) : Met l yL_deleteRange wsL_deleteRange rmL (wPc G σ μ o [.ref (gA G 0), .int (v1), .int (nI k2), .int (v3), .int (v4), .ref (gA G 53)]) (QLP G μ MS MR) 4 34 (gP G) := by
  refine m_ofWH (hh := [(0, 14, 17, 13), (0, 14, 21, 15), (0, 14, 25, 31)]) (cc := cL_deleteRange) (maxL := 7) (ret := (some .int)) (by decide) rfl ?_
  intro p e s m args below meth c s₁ B hml htab hv
  obtain ⟨hargs, hI⟩ := hv
  have S : CallFix p m c cL_deleteRange 7 s args wsL_deleteRange RL := ⟨B.exec, B.bytes, hml, findClass_of_methodNamed B.named, atoms_spec (ws := wsL_deleteRange) B.pre⟩
  have hret := B.returns
  have hlocks := B.notSynchronized
  have Z := wZ_0 hI
  clear hI
  obtain ⟨Q, hQ⟩ : ∃ Q, Q = MQ below (QLP G μ MS MR) args s 4 34 (gP G) := ⟨_, rfl⟩
  rw [← hQ]
  have hl := lv_entry [.ref (gA G 0), .int (v1), .int (nI k2), .int (v3), .int (v4), .ref (gA G 53)] (n := 7) (Nat.le_of_ble_eq_true rfl)
  rw [show entryFrame m args 7 = entryFrame m ([.ref (gA G 0), .int (v1), .int (nI k2), .int (v3), .int (v4), .ref (gA G 53)] : List Value).toArray 7 from by rw [hargs], lg_entry_eq]
  generalize (lg_sl [.ref (gA G 0), .int (v1), .int (nI k2), .int (v3), .int (v4), .ref (gA G 53)] ++ List.replicate (7 - (lg_sl [.ref (gA G 0), .int (v1), .int (nI k2), .int (v3), .int (v4), .ref (gA G 53)]).length) Slot.unset).toArray = ls at hl ⊢
  have hl : lv_has ls 7 [(0, .ref (gA G 0)), (1, .int (v1)), (2, .int (nI k2)), (3, .int (v3)), (4, .int (v4)), (5, .ref (gA G 53))] := hl
  refine lv_aload S.1 S.2.1 dL_deleteRange_0 (lv_at hl 5 rfl) ?_
  refine lv_iconst (v := nI 0) S.1 S.2.1 dL_deleteRange_2 (by decide) ?_
  refine lv_aload_n S.1 S.2.1 dL_deleteRange_3 rfl (lv_at hl 0 rfl) ?_
  refine lv_iload_n S.1 S.2.1 dL_deleteRange_4 rfl (lv_at hl 1 rfl) ?_
  refine lv_iload_n S.1 S.2.1 dL_deleteRange_5 rfl (lv_at hl 2 rfl) ?_
  refine lv_iload_n S.1 S.2.1 dL_deleteRange_6 rfl (lv_at hl 3 rfl) ?_
  refine lv_iload S.1 S.2.1 dL_deleteRange_7 (lv_at hl 4 rfl) ?_
  refine x_call (vx_runV (As := [.int (v1), .int (nI k2), .int (v3), .int (v4)]) (rest := [.int (nI 0), .ref (gA G 53)]) S (k_X7_deleteRange_X2 l hst G σ μ o v1 k2 v3 v4 h2_ hx) (cwV 4 S.2.2.2.2 gL_deleteRange_X7_deleteRange rfl rfl rfl ⟨rfl, hy_X7_deleteRange⟩ ⟨Nat.le_of_ble_eq_true rfl, Nat.le_of_ble_eq_true rfl⟩) (wPc_V (q := (RX7, TX7, 7)) Z (by decide) rfl rfl) rfl rfl hl.1 rfl (lv_room (Nat.le_of_ble_eq_true rfl)) dL_deleteRange_9 ⟨Nat.le_of_ble_eq_true rfl, Nat.le_of_ble_eq_true rfl⟩) (fun _ _ _ h => h) Z (fun ce q9 H locs Z h1 h2 h3 => ?_)
  refine vx_catch (name := "java/lang/IndexOutOfBoundsException") S.2.2.2.1 [] ⟨0, 14, 17, 13⟩ [⟨0, 14, 21, 15⟩, ⟨0, 14, 25, 31⟩] (by rw [htab]; rfl) (fun z h => absurd h List.not_mem_nil) rfl (by decide) (S.2.2.2.2 _ m_L_deleteRange_c13) (ca_use Z n_caA) h1 h2 h3 ?_
  refine lv_astore (lv' := [(6, .ref (q9)), (0, .ref (gA G 0)), (1, .int (v1)), (2, .int (nI k2)), (3, .int (v3)), (4, .int (v4)), (5, .ref (gA G 53))]) S.1 S.2.1 dL_deleteRange_17 hl (by decide) rfl (fun ls hl => ?_)
  refine lv_iconst (v := nI 1) S.1 S.2.1 dL_deleteRange_19 (by decide) ?_
  refine W.widen (k := 4) (n := 34) (by decide) (by decide) ?_
  rw [hQ]
  exact W.iret (v := nI 1) S.1 S.2.1 hret (fun _ hT9 hW => ⟨⟨_, (σ, μ, o), rfl, hpost, wZ_I Z hT9 hW⟩, Z.2.2.2.2.F hT9⟩) Z.2.2.2.2.2.2 dL_deleteRange_20

theorem m_L_deleteRange_c15 : Cond.classLink RL 15 "java/lang/IllegalArgumentException" ∈ wsL_deleteRange := by decide +kernel
set_option maxHeartbeats 4000000 in
set_option maxRecDepth 100000 in
theorem kL_deleteRange_X3 (l : Launch) (hst : l.stackTraces = false) (G : wG) (σ : cS) (μ : mS) (o : Nat → Int64) (v1 : Int32) (k2 : Nat) (k3 : Nat) (v4 : Int32) (MS : mS) (MR : Int32) (h2_ : k2 ≤ 15) (h3_ : k3 ≤ 15) (hx : wi v1 (nI 7) = false) (hpost : LQ G μ MS MR (nI 2) (σ, μ, o)) : Met l yL_deleteRange wsL_deleteRange rmL (wPc G σ μ o [.ref (gA G 0), .int (v1), .int (nI k2), .int (nI k3), .int (v4), .ref (gA G 53)]) (QLP G μ MS MR) 4 34 (gP G) := by
  refine m_ofWH (hh := [(0, 14, 17, 13), (0, 14, 21, 15), (0, 14, 25, 31)]) (cc := cL_deleteRange) (maxL := 7) (ret := (some .int)) (by decide) rfl ?_
  intro p e s m args below meth c s₁ B hml htab hv
  obtain ⟨hargs, hI⟩ := hv
  have S : CallFix p m c cL_deleteRange 7 s args wsL_deleteRange RL := ⟨B.exec, B.bytes, hml, findClass_of_methodNamed B.named, atoms_spec (ws := wsL_deleteRange) B.pre⟩
  have hret := B.returns
  have hlocks := B.notSynchronized
  have Z := wZ_0 hI
  clear hI
  obtain ⟨Q, hQ⟩ : ∃ Q, Q = MQ below (QLP G μ MS MR) args s 4 34 (gP G) := ⟨_, rfl⟩
  rw [← hQ]
  have hl := lv_entry [.ref (gA G 0), .int (v1), .int (nI k2), .int (nI k3), .int (v4), .ref (gA G 53)] (n := 7) (Nat.le_of_ble_eq_true rfl)
  rw [show entryFrame m args 7 = entryFrame m ([.ref (gA G 0), .int (v1), .int (nI k2), .int (nI k3), .int (v4), .ref (gA G 53)] : List Value).toArray 7 from by rw [hargs], lg_entry_eq]
  generalize (lg_sl [.ref (gA G 0), .int (v1), .int (nI k2), .int (nI k3), .int (v4), .ref (gA G 53)] ++ List.replicate (7 - (lg_sl [.ref (gA G 0), .int (v1), .int (nI k2), .int (nI k3), .int (v4), .ref (gA G 53)]).length) Slot.unset).toArray = ls at hl ⊢
  have hl : lv_has ls 7 [(0, .ref (gA G 0)), (1, .int (v1)), (2, .int (nI k2)), (3, .int (nI k3)), (4, .int (v4)), (5, .ref (gA G 53))] := hl
  refine lv_aload S.1 S.2.1 dL_deleteRange_0 (lv_at hl 5 rfl) ?_
  refine lv_iconst (v := nI 0) S.1 S.2.1 dL_deleteRange_2 (by decide) ?_
  refine lv_aload_n S.1 S.2.1 dL_deleteRange_3 rfl (lv_at hl 0 rfl) ?_
  refine lv_iload_n S.1 S.2.1 dL_deleteRange_4 rfl (lv_at hl 1 rfl) ?_
  refine lv_iload_n S.1 S.2.1 dL_deleteRange_5 rfl (lv_at hl 2 rfl) ?_
  refine lv_iload_n S.1 S.2.1 dL_deleteRange_6 rfl (lv_at hl 3 rfl) ?_
  refine lv_iload S.1 S.2.1 dL_deleteRange_7 (lv_at hl 4 rfl) ?_
  refine x_call (vx_runV (As := [.int (v1), .int (nI k2), .int (nI k3), .int (v4)]) (rest := [.int (nI 0), .ref (gA G 53)]) S (k_X7_deleteRange_X3 l hst G σ μ o v1 k2 k3 v4 h2_ h3_ hx) (cwV 4 S.2.2.2.2 gL_deleteRange_X7_deleteRange rfl rfl rfl ⟨rfl, hy_X7_deleteRange⟩ ⟨Nat.le_of_ble_eq_true rfl, Nat.le_of_ble_eq_true rfl⟩) (wPc_V (q := (RX7, TX7, 7)) Z (by decide) rfl rfl) rfl rfl hl.1 rfl (lv_room (Nat.le_of_ble_eq_true rfl)) dL_deleteRange_9 ⟨Nat.le_of_ble_eq_true rfl, Nat.le_of_ble_eq_true rfl⟩) (fun _ _ _ h => h) Z (fun ce q9 H locs Z h1 h2 h3 => ?_)
  refine vx_catch (name := "java/lang/IllegalArgumentException") S.2.2.2.1 [⟨0, 14, 17, 13⟩] ⟨0, 14, 21, 15⟩ [⟨0, 14, 25, 31⟩] (by rw [htab]; rfl) (pass_1 (by decide) (S.2.2.2.2 _ m_L_deleteRange_c13) (nc_BA Z)) rfl (by decide) (S.2.2.2.2 _ m_L_deleteRange_c15) (ca_use Z n_caB) h1 h2 h3 ?_
  refine lv_astore (lv' := [(6, .ref (q9)), (0, .ref (gA G 0)), (1, .int (v1)), (2, .int (nI k2)), (3, .int (nI k3)), (4, .int (v4)), (5, .ref (gA G 53))]) S.1 S.2.1 dL_deleteRange_21 hl (by decide) rfl (fun ls hl => ?_)
  refine lv_iconst (v := nI 2) S.1 S.2.1 dL_deleteRange_23 (by decide) ?_
  refine W.widen (k := 4) (n := 34) (by decide) (by decide) ?_
  rw [hQ]
  exact W.iret (v := nI 2) S.1 S.2.1 hret (fun _ hT9 hW => ⟨⟨_, (σ, μ, o), rfl, hpost, wZ_I Z hT9 hW⟩, Z.2.2.2.2.F hT9⟩) Z.2.2.2.2.2.2 dL_deleteRange_24

set_option maxHeartbeats 4000000 in
set_option maxRecDepth 100000 in
theorem kL_deleteRange_X4 (l : Launch) (hst : l.stackTraces = false) (G : wG) (σ : cS) (μ : mS) (o : Nat → Int64) (k1 : Nat) (k2 : Nat) (k3 : Nat) (v4 : Int32) (MS : mS) (MR : Int32) (h1_ : k1 ≤ 7) (h2_ : k2 ≤ 15) (h3_ : k3 ≤ 15) (hx : wi v4 (nI 999) = false) (hpost : LQ G μ MS MR (nI 2) (σ, μ, o)) : Met l yL_deleteRange wsL_deleteRange rmL (wPc G σ μ o [.ref (gA G 0), .int (nI k1), .int (nI k2), .int (nI k3), .int (v4), .ref (gA G 53)]) (QLP G μ MS MR) 4 34 (gP G) := by
  refine m_ofWH (hh := [(0, 14, 17, 13), (0, 14, 21, 15), (0, 14, 25, 31)]) (cc := cL_deleteRange) (maxL := 7) (ret := (some .int)) (by decide) rfl ?_
  intro p e s m args below meth c s₁ B hml htab hv
  obtain ⟨hargs, hI⟩ := hv
  have S : CallFix p m c cL_deleteRange 7 s args wsL_deleteRange RL := ⟨B.exec, B.bytes, hml, findClass_of_methodNamed B.named, atoms_spec (ws := wsL_deleteRange) B.pre⟩
  have hret := B.returns
  have hlocks := B.notSynchronized
  have Z := wZ_0 hI
  clear hI
  obtain ⟨Q, hQ⟩ : ∃ Q, Q = MQ below (QLP G μ MS MR) args s 4 34 (gP G) := ⟨_, rfl⟩
  rw [← hQ]
  have hl := lv_entry [.ref (gA G 0), .int (nI k1), .int (nI k2), .int (nI k3), .int (v4), .ref (gA G 53)] (n := 7) (Nat.le_of_ble_eq_true rfl)
  rw [show entryFrame m args 7 = entryFrame m ([.ref (gA G 0), .int (nI k1), .int (nI k2), .int (nI k3), .int (v4), .ref (gA G 53)] : List Value).toArray 7 from by rw [hargs], lg_entry_eq]
  generalize (lg_sl [.ref (gA G 0), .int (nI k1), .int (nI k2), .int (nI k3), .int (v4), .ref (gA G 53)] ++ List.replicate (7 - (lg_sl [.ref (gA G 0), .int (nI k1), .int (nI k2), .int (nI k3), .int (v4), .ref (gA G 53)]).length) Slot.unset).toArray = ls at hl ⊢
  have hl : lv_has ls 7 [(0, .ref (gA G 0)), (1, .int (nI k1)), (2, .int (nI k2)), (3, .int (nI k3)), (4, .int (v4)), (5, .ref (gA G 53))] := hl
  refine lv_aload S.1 S.2.1 dL_deleteRange_0 (lv_at hl 5 rfl) ?_
  refine lv_iconst (v := nI 0) S.1 S.2.1 dL_deleteRange_2 (by decide) ?_
  refine lv_aload_n S.1 S.2.1 dL_deleteRange_3 rfl (lv_at hl 0 rfl) ?_
  refine lv_iload_n S.1 S.2.1 dL_deleteRange_4 rfl (lv_at hl 1 rfl) ?_
  refine lv_iload_n S.1 S.2.1 dL_deleteRange_5 rfl (lv_at hl 2 rfl) ?_
  refine lv_iload_n S.1 S.2.1 dL_deleteRange_6 rfl (lv_at hl 3 rfl) ?_
  refine lv_iload S.1 S.2.1 dL_deleteRange_7 (lv_at hl 4 rfl) ?_
  refine x_call (vx_runV (As := [.int (nI k1), .int (nI k2), .int (nI k3), .int (v4)]) (rest := [.int (nI 0), .ref (gA G 53)]) S (k_X7_deleteRange_X4 l hst G σ μ o k1 k2 k3 v4 h1_ h2_ h3_ hx) (cwV 4 S.2.2.2.2 gL_deleteRange_X7_deleteRange rfl rfl rfl ⟨rfl, hy_X7_deleteRange⟩ ⟨Nat.le_of_ble_eq_true rfl, Nat.le_of_ble_eq_true rfl⟩) (wPc_V (q := (RX7, TX7, 7)) Z (by decide) rfl rfl) rfl rfl hl.1 rfl (lv_room (Nat.le_of_ble_eq_true rfl)) dL_deleteRange_9 ⟨Nat.le_of_ble_eq_true rfl, Nat.le_of_ble_eq_true rfl⟩) (fun _ _ _ h => h) Z (fun ce q9 H locs Z h1 h2 h3 => ?_)
  refine vx_catch (name := "java/lang/IllegalArgumentException") S.2.2.2.1 [⟨0, 14, 17, 13⟩] ⟨0, 14, 21, 15⟩ [⟨0, 14, 25, 31⟩] (by rw [htab]; rfl) (pass_1 (by decide) (S.2.2.2.2 _ m_L_deleteRange_c13) (nc_BA Z)) rfl (by decide) (S.2.2.2.2 _ m_L_deleteRange_c15) (ca_use Z n_caB) h1 h2 h3 ?_
  refine lv_astore (lv' := [(6, .ref (q9)), (0, .ref (gA G 0)), (1, .int (nI k1)), (2, .int (nI k2)), (3, .int (nI k3)), (4, .int (v4)), (5, .ref (gA G 53))]) S.1 S.2.1 dL_deleteRange_21 hl (by decide) rfl (fun ls hl => ?_)
  refine lv_iconst (v := nI 2) S.1 S.2.1 dL_deleteRange_23 (by decide) ?_
  refine W.widen (k := 4) (n := 34) (by decide) (by decide) ?_
  rw [hQ]
  exact W.iret (v := nI 2) S.1 S.2.1 hret (fun _ hT9 hW => ⟨⟨_, (σ, μ, o), rfl, hpost, wZ_I Z hT9 hW⟩, Z.2.2.2.2.F hT9⟩) Z.2.2.2.2.2.2 dL_deleteRange_24

set_option maxHeartbeats 4000000 in
set_option maxRecDepth 100000 in
theorem kL_deleteRange_X5 (l : Launch) (hst : l.stackTraces = false) (G : wG) (σ : cS) (μ : mS) (o : Nat → Int64) (k1 : Nat) (k2 : Nat) (k3 : Nat) (k4 : Nat) (MS : mS) (MR : Int32) (h1_ : k1 ≤ 7) (h2_ : k2 ≤ 15) (h3_ : k3 ≤ 15) (h4_ : k4 ≤ 999) (hab : k3 < k2) (hpost : LQ G μ MS MR (nI 2) (σ, μ, o)) : Met l yL_deleteRange wsL_deleteRange rmL (wPc G σ μ o [.ref (gA G 0), .int (nI k1), .int (nI k2), .int (nI k3), .int (nI k4), .ref (gA G 53)]) (QLP G μ MS MR) 4 34 (gP G) := by
  refine m_ofWH (hh := [(0, 14, 17, 13), (0, 14, 21, 15), (0, 14, 25, 31)]) (cc := cL_deleteRange) (maxL := 7) (ret := (some .int)) (by decide) rfl ?_
  intro p e s m args below meth c s₁ B hml htab hv
  obtain ⟨hargs, hI⟩ := hv
  have S : CallFix p m c cL_deleteRange 7 s args wsL_deleteRange RL := ⟨B.exec, B.bytes, hml, findClass_of_methodNamed B.named, atoms_spec (ws := wsL_deleteRange) B.pre⟩
  have hret := B.returns
  have hlocks := B.notSynchronized
  have Z := wZ_0 hI
  clear hI
  obtain ⟨Q, hQ⟩ : ∃ Q, Q = MQ below (QLP G μ MS MR) args s 4 34 (gP G) := ⟨_, rfl⟩
  rw [← hQ]
  have hl := lv_entry [.ref (gA G 0), .int (nI k1), .int (nI k2), .int (nI k3), .int (nI k4), .ref (gA G 53)] (n := 7) (Nat.le_of_ble_eq_true rfl)
  rw [show entryFrame m args 7 = entryFrame m ([.ref (gA G 0), .int (nI k1), .int (nI k2), .int (nI k3), .int (nI k4), .ref (gA G 53)] : List Value).toArray 7 from by rw [hargs], lg_entry_eq]
  generalize (lg_sl [.ref (gA G 0), .int (nI k1), .int (nI k2), .int (nI k3), .int (nI k4), .ref (gA G 53)] ++ List.replicate (7 - (lg_sl [.ref (gA G 0), .int (nI k1), .int (nI k2), .int (nI k3), .int (nI k4), .ref (gA G 53)]).length) Slot.unset).toArray = ls at hl ⊢
  have hl : lv_has ls 7 [(0, .ref (gA G 0)), (1, .int (nI k1)), (2, .int (nI k2)), (3, .int (nI k3)), (4, .int (nI k4)), (5, .ref (gA G 53))] := hl
  refine lv_aload S.1 S.2.1 dL_deleteRange_0 (lv_at hl 5 rfl) ?_
  refine lv_iconst (v := nI 0) S.1 S.2.1 dL_deleteRange_2 (by decide) ?_
  refine lv_aload_n S.1 S.2.1 dL_deleteRange_3 rfl (lv_at hl 0 rfl) ?_
  refine lv_iload_n S.1 S.2.1 dL_deleteRange_4 rfl (lv_at hl 1 rfl) ?_
  refine lv_iload_n S.1 S.2.1 dL_deleteRange_5 rfl (lv_at hl 2 rfl) ?_
  refine lv_iload_n S.1 S.2.1 dL_deleteRange_6 rfl (lv_at hl 3 rfl) ?_
  refine lv_iload S.1 S.2.1 dL_deleteRange_7 (lv_at hl 4 rfl) ?_
  refine x_call (vx_runV (As := [.int (nI k1), .int (nI k2), .int (nI k3), .int (nI k4)]) (rest := [.int (nI 0), .ref (gA G 53)]) S (k_X7_deleteRange_X5 l hst G σ μ o k1 k2 k3 k4 h1_ h2_ h3_ h4_ hab) (cwV 4 S.2.2.2.2 gL_deleteRange_X7_deleteRange rfl rfl rfl ⟨rfl, hy_X7_deleteRange⟩ ⟨Nat.le_of_ble_eq_true rfl, Nat.le_of_ble_eq_true rfl⟩) (wPc_V (q := (RX7, TX7, 7)) Z (by decide) rfl rfl) rfl rfl hl.1 rfl (lv_room (Nat.le_of_ble_eq_true rfl)) dL_deleteRange_9 ⟨Nat.le_of_ble_eq_true rfl, Nat.le_of_ble_eq_true rfl⟩) (fun _ _ _ h => h) Z (fun ce q9 H locs Z h1 h2 h3 => ?_)
  refine vx_catch (name := "java/lang/IllegalArgumentException") S.2.2.2.1 [⟨0, 14, 17, 13⟩] ⟨0, 14, 21, 15⟩ [⟨0, 14, 25, 31⟩] (by rw [htab]; rfl) (pass_1 (by decide) (S.2.2.2.2 _ m_L_deleteRange_c13) (nc_BA Z)) rfl (by decide) (S.2.2.2.2 _ m_L_deleteRange_c15) (ca_use Z n_caB) h1 h2 h3 ?_
  refine lv_astore (lv' := [(6, .ref (q9)), (0, .ref (gA G 0)), (1, .int (nI k1)), (2, .int (nI k2)), (3, .int (nI k3)), (4, .int (nI k4)), (5, .ref (gA G 53))]) S.1 S.2.1 dL_deleteRange_21 hl (by decide) rfl (fun ls hl => ?_)
  refine lv_iconst (v := nI 2) S.1 S.2.1 dL_deleteRange_23 (by decide) ?_
  refine W.widen (k := 4) (n := 34) (by decide) (by decide) ?_
  rw [hQ]
  exact W.iret (v := nI 2) S.1 S.2.1 hret (fun _ hT9 hW => ⟨⟨_, (σ, μ, o), rfl, hpost, wZ_I Z hT9 hW⟩, Z.2.2.2.2.F hT9⟩) Z.2.2.2.2.2.2 dL_deleteRange_24

theorem m_L_deleteRange_c31 : Cond.classLink RL 31 "java/lang/IllegalStateException" ∈ wsL_deleteRange := by decide +kernel
set_option maxHeartbeats 4000000 in
set_option maxRecDepth 100000 in
theorem kL_deleteRange_X6 (l : Launch) (hst : l.stackTraces = false) (G : wG) (σ : cS) (μ : mS) (o : Nat → Int64) (k1 : Nat) (k2 : Nat) (k3 : Nat) (k4 : Nat) (MS : mS) (MR : Int32) (h1_ : k1 ≤ 7) (h2_ : k2 ≤ 15) (h3_ : k3 ≤ 15) (h4_ : k4 ≤ 999) (hab : k2 ≤ k3) (hz : rgR σ k2 k3 = -1) (hpost : LQ G μ MS MR (nI 3) (rgS σ k2 k3, μ, o)) : Met l yL_deleteRange wsL_deleteRange rmL (wPc G σ μ o [.ref (gA G 0), .int (nI k1), .int (nI k2), .int (nI k3), .int (nI k4), .ref (gA G 53)]) (QLP G μ MS MR) 4 34 (gP G) := by
  refine m_ofWH (hh := [(0, 14, 17, 13), (0, 14, 21, 15), (0, 14, 25, 31)]) (cc := cL_deleteRange) (maxL := 7) (ret := (some .int)) (by decide) rfl ?_
  intro p e s m args below meth c s₁ B hml htab hv
  obtain ⟨hargs, hI⟩ := hv
  have S : CallFix p m c cL_deleteRange 7 s args wsL_deleteRange RL := ⟨B.exec, B.bytes, hml, findClass_of_methodNamed B.named, atoms_spec (ws := wsL_deleteRange) B.pre⟩
  have hret := B.returns
  have hlocks := B.notSynchronized
  have Z := wZ_0 hI
  clear hI
  obtain ⟨Q, hQ⟩ : ∃ Q, Q = MQ below (QLP G μ MS MR) args s 4 34 (gP G) := ⟨_, rfl⟩
  rw [← hQ]
  have hl := lv_entry [.ref (gA G 0), .int (nI k1), .int (nI k2), .int (nI k3), .int (nI k4), .ref (gA G 53)] (n := 7) (Nat.le_of_ble_eq_true rfl)
  rw [show entryFrame m args 7 = entryFrame m ([.ref (gA G 0), .int (nI k1), .int (nI k2), .int (nI k3), .int (nI k4), .ref (gA G 53)] : List Value).toArray 7 from by rw [hargs], lg_entry_eq]
  generalize (lg_sl [.ref (gA G 0), .int (nI k1), .int (nI k2), .int (nI k3), .int (nI k4), .ref (gA G 53)] ++ List.replicate (7 - (lg_sl [.ref (gA G 0), .int (nI k1), .int (nI k2), .int (nI k3), .int (nI k4), .ref (gA G 53)]).length) Slot.unset).toArray = ls at hl ⊢
  have hl : lv_has ls 7 [(0, .ref (gA G 0)), (1, .int (nI k1)), (2, .int (nI k2)), (3, .int (nI k3)), (4, .int (nI k4)), (5, .ref (gA G 53))] := hl
  refine lv_aload S.1 S.2.1 dL_deleteRange_0 (lv_at hl 5 rfl) ?_
  refine lv_iconst (v := nI 0) S.1 S.2.1 dL_deleteRange_2 (by decide) ?_
  refine lv_aload_n S.1 S.2.1 dL_deleteRange_3 rfl (lv_at hl 0 rfl) ?_
  refine lv_iload_n S.1 S.2.1 dL_deleteRange_4 rfl (lv_at hl 1 rfl) ?_
  refine lv_iload_n S.1 S.2.1 dL_deleteRange_5 rfl (lv_at hl 2 rfl) ?_
  refine lv_iload_n S.1 S.2.1 dL_deleteRange_6 rfl (lv_at hl 3 rfl) ?_
  refine lv_iload S.1 S.2.1 dL_deleteRange_7 (lv_at hl 4 rfl) ?_
  refine x_callS (vx_runV (As := [.int (nI k1), .int (nI k2), .int (nI k3), .int (nI k4)]) (rest := [.int (nI 0), .ref (gA G 53)]) S (k_X7_deleteRange_X6 l hst G σ μ o k1 k2 k3 k4 h1_ h2_ h3_ h4_ hab hz) (cwV 4 S.2.2.2.2 gL_deleteRange_X7_deleteRange rfl rfl rfl ⟨rfl, hy_X7_deleteRange⟩ ⟨Nat.le_of_ble_eq_true rfl, Nat.le_of_ble_eq_true rfl⟩) (wPc_V (q := (RX7, TX7, 7)) Z (by decide) rfl rfl) rfl rfl hl.1 rfl (lv_room (Nat.le_of_ble_eq_true rfl)) dL_deleteRange_9 ⟨Nat.le_of_ble_eq_true rfl, Nat.le_of_ble_eq_true rfl⟩) (fun _ _ _ h => h) Z (fun ce q9 H locs Z h1 h2 h3 => ?_)
  refine vx_catch (name := "java/lang/IllegalStateException") S.2.2.2.1 [⟨0, 14, 17, 13⟩, ⟨0, 14, 21, 15⟩] ⟨0, 14, 25, 31⟩ [] (by rw [htab]; rfl) (pass_2 (by decide) (S.2.2.2.2 _ m_L_deleteRange_c13) (nc_CA Z) (by decide) (S.2.2.2.2 _ m_L_deleteRange_c15) (nc_CB Z)) rfl (by decide) (S.2.2.2.2 _ m_L_deleteRange_c31) (ca_use Z n_caC) h1 h2 h3 ?_
  refine lv_astore (lv' := [(6, .ref (q9)), (0, .ref (gA G 0)), (1, .int (nI k1)), (2, .int (nI k2)), (3, .int (nI k3)), (4, .int (nI k4)), (5, .ref (gA G 53))]) S.1 S.2.1 dL_deleteRange_25 hl (by decide) rfl (fun ls hl => ?_)
  refine lv_iconst (v := nI 3) S.1 S.2.1 dL_deleteRange_27 (by decide) ?_
  refine W.widen (k := 4) (n := 34) (by decide) (by decide) ?_
  rw [hQ]
  exact W.iret (v := nI 3) S.1 S.2.1 hret (fun _ hT9 hW => ⟨⟨_, (rgS σ k2 k3, μ, o), rfl, hpost, wZ_I Z hT9 hW⟩, Z.2.2.2.2.F hT9⟩) Z.2.2.2.2.2.2 dL_deleteRange_28

set_option maxHeartbeats 4000000 in
set_option maxRecDepth 100000 in
theorem kL_deleteRange (l : Launch) (hst : l.stackTraces = false) (G : wG) (σ : cS) (μ : mS) (o : Nat → Int64) (k1 : Nat) (k2 : Nat) (k3 : Nat) (k4 : Nat) (L : Nat → List Ch) (MS : mS) (MR : Int32) (h1_ : k1 ≤ 7) (h2_ : k2 ≤ 15) (h3_ : k3 ≤ 15) (h4_ : k4 ≤ 999) (hab : k2 ≤ k3) (hz : rgi σ k2 k3 < 8) (hHI : HI G σ L) (hpost : ∀ ns, (sc ns (sdS (rgS σ k2 k3) (64 + (84 + rgi σ k2 k3), nI k4, cV (rgS σ k2 k3) 4, nI 0) (nI k1) 3) ∧ HI G ns (sdLL (rgS σ k2 k3) (nI k1) (64 + (84 + rgi σ k2 k3), nI k4, cV (rgS σ k2 k3) 4, nI 0) L)) → LQ G μ MS MR (nI 0) (ns, μ, vp_updL o 0 (nI (sdN (rgS σ k2 k3) (nI k1) 3)).toInt64)) : Met l yL_deleteRange wsL_deleteRange rmL (wPc G σ μ o [.ref (gA G 0), .int (nI k1), .int (nI k2), .int (nI k3), .int (nI k4), .ref (gA G 53)]) (QLP G μ MS MR) 4 34 (gP G) := by
  refine m_ofWH (hh := [(0, 14, 17, 13), (0, 14, 21, 15), (0, 14, 25, 31)]) (cc := cL_deleteRange) (maxL := 7) (ret := (some .int)) (by decide) rfl ?_
  intro p e s m args below meth c s₁ B hml htab hv
  obtain ⟨hargs, hI⟩ := hv
  have S : CallFix p m c cL_deleteRange 7 s args wsL_deleteRange RL := ⟨B.exec, B.bytes, hml, findClass_of_methodNamed B.named, atoms_spec (ws := wsL_deleteRange) B.pre⟩
  have hret := B.returns
  have hlocks := B.notSynchronized
  have Z := wZ_0 hI
  clear hI
  obtain ⟨Q, hQ⟩ : ∃ Q, Q = MQ below (QLP G μ MS MR) args s 4 34 (gP G) := ⟨_, rfl⟩
  rw [← hQ]
  have hl := lv_entry [.ref (gA G 0), .int (nI k1), .int (nI k2), .int (nI k3), .int (nI k4), .ref (gA G 53)] (n := 7) (Nat.le_of_ble_eq_true rfl)
  rw [show entryFrame m args 7 = entryFrame m ([.ref (gA G 0), .int (nI k1), .int (nI k2), .int (nI k3), .int (nI k4), .ref (gA G 53)] : List Value).toArray 7 from by rw [hargs], lg_entry_eq]
  generalize (lg_sl [.ref (gA G 0), .int (nI k1), .int (nI k2), .int (nI k3), .int (nI k4), .ref (gA G 53)] ++ List.replicate (7 - (lg_sl [.ref (gA G 0), .int (nI k1), .int (nI k2), .int (nI k3), .int (nI k4), .ref (gA G 53)]).length) Slot.unset).toArray = ls at hl ⊢
  have hl : lv_has ls 7 [(0, .ref (gA G 0)), (1, .int (nI k1)), (2, .int (nI k2)), (3, .int (nI k3)), (4, .int (nI k4)), (5, .ref (gA G 53))] := hl
  refine lv_aload S.1 S.2.1 dL_deleteRange_0 (lv_at hl 5 rfl) ?_
  refine lv_iconst (v := nI 0) S.1 S.2.1 dL_deleteRange_2 (by decide) ?_
  refine lv_aload_n S.1 S.2.1 dL_deleteRange_3 rfl (lv_at hl 0 rfl) ?_
  refine lv_iload_n S.1 S.2.1 dL_deleteRange_4 rfl (lv_at hl 1 rfl) ?_
  refine lv_iload_n S.1 S.2.1 dL_deleteRange_5 rfl (lv_at hl 2 rfl) ?_
  refine lv_iload_n S.1 S.2.1 dL_deleteRange_6 rfl (lv_at hl 3 rfl) ?_
  refine lv_iload S.1 S.2.1 dL_deleteRange_7 (lv_at hl 4 rfl) ?_
  refine va_calli (va_runV (As := [.int (nI k1), .int (nI k2), .int (nI k3), .int (nI k4)]) (rest := [.int (nI 0), .ref (gA G 53)]) S (k_X7_deleteRange l G σ μ o k1 k2 k3 k4 L h1_ h2_ h3_ h4_ hab hz hHI) (cwV 4 S.2.2.2.2 gL_deleteRange_X7_deleteRange rfl rfl rfl ⟨rfl, hy_X7_deleteRange⟩ ⟨Nat.le_of_ble_eq_true rfl, Nat.le_of_ble_eq_true rfl⟩) (wPc_V (q := (RX7, TX7, 7)) Z (by decide) rfl rfl) rfl rfl hl.1 rfl (lv_room (Nat.le_of_ble_eq_true rfl)) dL_deleteRange_9 ⟨Nat.le_of_ble_eq_true rfl, Nat.le_of_ble_eq_true rfl⟩) Z.2.2.2.2 (fun _ _ h => h) (fun _ h => h) (fun r_1 u_2 T9 H1 locs1 hT9 hvm hw hB hz hk9 hS => ?_)
  obtain ⟨τ_3, μ9⟩ := u_2
  obtain ⟨hr9, hm9, hp9⟩ := hw
  have hm9 : μ = μ9 := hm9.symm
  subst hm9
  have hp_4 : sc τ_3 (sdS (rgS σ k2 k3) (64 + (84 + rgi σ k2 k3), nI k4, cV (rgS σ k2 k3) 4, nI 0) (nI k1) 3) ∧ HI G τ_3 (sdLL (rgS σ k2 k3) (nI k1) (64 + (84 + rgi σ k2 k3), nI k4, cV (rgS σ k2 k3) 4, nI 0) L) := hp9
  clear hp9
  rw [hr9]; clear hr9 r_1
  have Z : wZ G (τ_3) (μ) o s H1 locs1 := wZ_callP Z hB hT9 hS
  clear hB hT9 hS hk9 hz hvm T9
  revert Z; generalize H1 = H; generalize locs1 = locs; intro Z
  refine W.widen (k := 4) (n := 33) (by first | decide | omega) (by first | decide | omega) ?_
  refine lv_i2l (v := (nI (sdN (rgS σ k2 k3) (nI k1) 3)).toInt64) S.1 S.2.1 dL_deleteRange_12 rfl ?_
  refine r_last S Z dL_deleteRange_13 (fun H locs Z => ?_)
  refine lv_goto (tgt := 29) S.1 S.2.1 dL_deleteRange_14 (by decide) ?_
  refine lv_iconst (v := nI 0) S.1 S.2.1 dL_deleteRange_29 (by decide) ?_
  refine W.widen (k := 4) (n := 34) (by decide) (by decide) ?_
  rw [hQ]
  exact W.iret (v := nI 0) S.1 S.2.1 hret (fun _ hT9 hW => ⟨⟨_, (τ_3, μ, vp_updL o 0 ((nI (sdN (rgS σ k2 k3) (nI k1) 3)).toInt64)), rfl, (hpost _ hp_4), wZ_I Z hT9 hW⟩, Z.2.2.2.2.F hT9⟩) Z.2.2.2.2.2.2 dL_deleteRange_30

theorem m_L_setUp_c13 : Cond.classLink RL 13 "java/lang/IndexOutOfBoundsException" ∈ wsL_setUp := by decide +kernel
set_option maxHeartbeats 4000000 in
set_option maxRecDepth 100000 in
theorem kL_setUp_X1 (l : Launch) (hst : l.stackTraces = false) (G : wG) (σ : cS) (μ : mS) (o : Nat → Int64) (x : Int32) (w : Bool) (MS : mS) (MR : Int32) (hx : wi x (nI 2) = false) (hpost : LQ G μ MS MR (nI 1) (σ, μ, o)) : Met l yL_setUp wsL_setUp rmL (wPc G σ μ o [.ref (gA G 0), .int (x), .int (bi w), .ref (gA G 53)]) (QLP G μ MS MR) 4 34 (gP G) := by
  refine m_ofWH (hh := [(0, 10, 13, 13)]) (cc := cL_setUp) (maxL := 5) (ret := (some .int)) (by decide) rfl ?_
  intro p e s m args below meth c s₁ B hml htab hv
  obtain ⟨hargs, hI⟩ := hv
  have S : CallFix p m c cL_setUp 5 s args wsL_setUp RL := ⟨B.exec, B.bytes, hml, findClass_of_methodNamed B.named, atoms_spec (ws := wsL_setUp) B.pre⟩
  have hret := B.returns
  have hlocks := B.notSynchronized
  have Z := wZ_0 hI
  clear hI
  obtain ⟨Q, hQ⟩ : ∃ Q, Q = MQ below (QLP G μ MS MR) args s 4 34 (gP G) := ⟨_, rfl⟩
  rw [← hQ]
  have hl := lv_entry [.ref (gA G 0), .int (x), .int (bi w), .ref (gA G 53)] (n := 5) (Nat.le_of_ble_eq_true rfl)
  rw [show entryFrame m args 5 = entryFrame m ([.ref (gA G 0), .int (x), .int (bi w), .ref (gA G 53)] : List Value).toArray 5 from by rw [hargs], lg_entry_eq]
  generalize (lg_sl [.ref (gA G 0), .int (x), .int (bi w), .ref (gA G 53)] ++ List.replicate (5 - (lg_sl [.ref (gA G 0), .int (x), .int (bi w), .ref (gA G 53)]).length) Slot.unset).toArray = ls at hl ⊢
  have hl : lv_has ls 5 [(0, .ref (gA G 0)), (1, .int (x)), (2, .int (bi w)), (3, .ref (gA G 53))] := hl
  refine lv_aload_n S.1 S.2.1 dL_setUp_0 rfl (lv_at hl 3 rfl) ?_
  refine lv_iconst (v := nI 0) S.1 S.2.1 dL_setUp_1 (by decide) ?_
  refine lv_aload_n S.1 S.2.1 dL_setUp_2 rfl (lv_at hl 0 rfl) ?_
  refine lv_iload_n S.1 S.2.1 dL_setUp_3 rfl (lv_at hl 1 rfl) ?_
  refine lv_iload_n S.1 S.2.1 dL_setUp_4 rfl (lv_at hl 2 rfl) ?_
  refine x_call (vx_runV (As := [.int (x), .int (bi w)]) (rest := [.int (nI 0), .ref (gA G 53)]) S (k_X7_setUp_X1 l hst G σ μ o x w hx) (cwV 2 S.2.2.2.2 gL_setUp_X7_setUp rfl rfl rfl ⟨rfl, hy_X7_setUp⟩ ⟨Nat.le_of_ble_eq_true rfl, Nat.le_of_ble_eq_true rfl⟩) (wPc_V (q := (RX7, TX7, 7)) Z (by decide) rfl rfl) rfl rfl hl.1 rfl (lv_room (Nat.le_of_ble_eq_true rfl)) dL_setUp_5 ⟨Nat.le_of_ble_eq_true rfl, Nat.le_of_ble_eq_true rfl⟩) (fun _ _ _ h => h) Z (fun ce q9 H locs Z h1 h2 h3 => ?_)
  refine vx_catch (name := "java/lang/IndexOutOfBoundsException") S.2.2.2.1 [] ⟨0, 10, 13, 13⟩ [] (by rw [htab]; rfl) (fun z h => absurd h List.not_mem_nil) rfl (by decide) (S.2.2.2.2 _ m_L_setUp_c13) (ca_use Z n_caA) h1 h2 h3 ?_
  refine lv_astore (lv' := [(4, .ref (q9)), (0, .ref (gA G 0)), (1, .int (x)), (2, .int (bi w)), (3, .ref (gA G 53))]) S.1 S.2.1 dL_setUp_13 hl (by decide) rfl (fun ls hl => ?_)
  refine lv_iconst (v := nI 1) S.1 S.2.1 dL_setUp_15 (by decide) ?_
  refine W.widen (k := 4) (n := 34) (by decide) (by decide) ?_
  rw [hQ]
  exact W.iret (v := nI 1) S.1 S.2.1 hret (fun _ hT9 hW => ⟨⟨_, (σ, μ, o), rfl, hpost, wZ_I Z hT9 hW⟩, Z.2.2.2.2.F hT9⟩) Z.2.2.2.2.2.2 dL_setUp_16

set_option maxHeartbeats 4000000 in
set_option maxRecDepth 100000 in
theorem kL_setUp_t (l : Launch) (hst : l.stackTraces = false) (G : wG) (σ : cS) (μ : mS) (o : Nat → Int64) (i : Nat) (L : Nat → List Ch) (MS : mS) (MR : Int32) (hi : i < 3) (hHI : HI G σ L) (hokL : ∀ cc ∈ L i, okC cc) (hpost : ∀ ns, (sc ns (cuS σ i (L i)) ∧ HI G ns (va_up L i [])) → LQ G μ MS MR (nI 0) (ns, μ, vp_updL o 0 (nI ((L i).length)).toInt64)) : Met l yL_setUp wsL_setUp rmL (wPc G σ μ o [.ref (gA G 0), .int (nI i), .int (bi true), .ref (gA G 53)]) (QLP G μ MS MR) 4 34 (gP G) := by
  refine m_ofWH (hh := [(0, 10, 13, 13)]) (cc := cL_setUp) (maxL := 5) (ret := (some .int)) (by decide) rfl ?_
  intro p e s m args below meth c s₁ B hml htab hv
  obtain ⟨hargs, hI⟩ := hv
  have S : CallFix p m c cL_setUp 5 s args wsL_setUp RL := ⟨B.exec, B.bytes, hml, findClass_of_methodNamed B.named, atoms_spec (ws := wsL_setUp) B.pre⟩
  have hret := B.returns
  have hlocks := B.notSynchronized
  have Z := wZ_0 hI
  clear hI
  obtain ⟨Q, hQ⟩ : ∃ Q, Q = MQ below (QLP G μ MS MR) args s 4 34 (gP G) := ⟨_, rfl⟩
  rw [← hQ]
  have hl := lv_entry [.ref (gA G 0), .int (nI i), .int (bi true), .ref (gA G 53)] (n := 5) (Nat.le_of_ble_eq_true rfl)
  rw [show entryFrame m args 5 = entryFrame m ([.ref (gA G 0), .int (nI i), .int (bi true), .ref (gA G 53)] : List Value).toArray 5 from by rw [hargs], lg_entry_eq]
  generalize (lg_sl [.ref (gA G 0), .int (nI i), .int (bi true), .ref (gA G 53)] ++ List.replicate (5 - (lg_sl [.ref (gA G 0), .int (nI i), .int (bi true), .ref (gA G 53)]).length) Slot.unset).toArray = ls at hl ⊢
  have hl : lv_has ls 5 [(0, .ref (gA G 0)), (1, .int (nI i)), (2, .int (bi true)), (3, .ref (gA G 53))] := hl
  refine lv_aload_n S.1 S.2.1 dL_setUp_0 rfl (lv_at hl 3 rfl) ?_
  refine lv_iconst (v := nI 0) S.1 S.2.1 dL_setUp_1 (by decide) ?_
  refine lv_aload_n S.1 S.2.1 dL_setUp_2 rfl (lv_at hl 0 rfl) ?_
  refine lv_iload_n S.1 S.2.1 dL_setUp_3 rfl (lv_at hl 1 rfl) ?_
  refine lv_iload_n S.1 S.2.1 dL_setUp_4 rfl (lv_at hl 2 rfl) ?_
  refine va_calli (va_runV (As := [.int (nI i), .int (bi true)]) (rest := [.int (nI 0), .ref (gA G 53)]) S (k_X7_setUp_t l G σ μ o i L hi hHI hokL) (cwV 2 S.2.2.2.2 gL_setUp_X7_setUp rfl rfl rfl ⟨rfl, hy_X7_setUp⟩ ⟨Nat.le_of_ble_eq_true rfl, Nat.le_of_ble_eq_true rfl⟩) (wPc_V (q := (RX7, TX7, 7)) Z (by decide) rfl rfl) rfl rfl hl.1 rfl (lv_room (Nat.le_of_ble_eq_true rfl)) dL_setUp_5 ⟨Nat.le_of_ble_eq_true rfl, Nat.le_of_ble_eq_true rfl⟩) Z.2.2.2.2 (fun _ _ h => h) (fun _ h => h) (fun r_1 u_2 T9 H1 locs1 hT9 hvm hw hB hz hk9 hS => ?_)
  obtain ⟨τ_3, μ9⟩ := u_2
  obtain ⟨hr9, hm9, hp9⟩ := hw
  have hm9 : μ = μ9 := hm9.symm
  subst hm9
  have hp_4 : sc τ_3 (cuS σ i (L i)) ∧ HI G τ_3 (va_up L i []) := hp9
  clear hp9
  rw [hr9]; clear hr9 r_1
  have Z : wZ G (τ_3) (μ) o s H1 locs1 := wZ_callP Z hB hT9 hS
  clear hB hT9 hS hk9 hz hvm T9
  revert Z; generalize H1 = H; generalize locs1 = locs; intro Z
  refine W.widen (k := 0) (n := 0) (by first | decide | omega) (by first | decide | omega) ?_
  refine lv_i2l (v := (nI ((L i).length)).toInt64) S.1 S.2.1 dL_setUp_8 rfl ?_
  refine r_last S Z dL_setUp_9 (fun H locs Z => ?_)
  refine lv_goto (tgt := 17) S.1 S.2.1 dL_setUp_10 (by decide) ?_
  refine lv_iconst (v := nI 0) S.1 S.2.1 dL_setUp_17 (by decide) ?_
  refine W.widen (k := 4) (n := 34) (by decide) (by decide) ?_
  rw [hQ]
  exact W.iret (v := nI 0) S.1 S.2.1 hret (fun _ hT9 hW => ⟨⟨_, (τ_3, μ, vp_updL o 0 ((nI ((L i).length)).toInt64)), rfl, (hpost _ hp_4), wZ_I Z hT9 hW⟩, Z.2.2.2.2.F hT9⟩) Z.2.2.2.2.2.2 dL_setUp_18

set_option maxHeartbeats 4000000 in
set_option maxRecDepth 100000 in
theorem kL_setUp_f (l : Launch) (hst : l.stackTraces = false) (G : wG) (σ : cS) (μ : mS) (o : Nat → Int64) (i : Nat) (MS : mS) (MR : Int32) (hi : i < 3) (hpost : LQ G μ MS MR (nI 0) (cU' σ i false, μ, vp_updL o 0 (nI (0)).toInt64)) : Met l yL_setUp wsL_setUp rmL (wPc G σ μ o [.ref (gA G 0), .int (nI i), .int (bi false), .ref (gA G 53)]) (QLP G μ MS MR) 4 34 (gP G) := by
  refine m_ofWH (hh := [(0, 10, 13, 13)]) (cc := cL_setUp) (maxL := 5) (ret := (some .int)) (by decide) rfl ?_
  intro p e s m args below meth c s₁ B hml htab hv
  obtain ⟨hargs, hI⟩ := hv
  have S : CallFix p m c cL_setUp 5 s args wsL_setUp RL := ⟨B.exec, B.bytes, hml, findClass_of_methodNamed B.named, atoms_spec (ws := wsL_setUp) B.pre⟩
  have hret := B.returns
  have hlocks := B.notSynchronized
  have Z := wZ_0 hI
  clear hI
  obtain ⟨Q, hQ⟩ : ∃ Q, Q = MQ below (QLP G μ MS MR) args s 4 34 (gP G) := ⟨_, rfl⟩
  rw [← hQ]
  have hl := lv_entry [.ref (gA G 0), .int (nI i), .int (bi false), .ref (gA G 53)] (n := 5) (Nat.le_of_ble_eq_true rfl)
  rw [show entryFrame m args 5 = entryFrame m ([.ref (gA G 0), .int (nI i), .int (bi false), .ref (gA G 53)] : List Value).toArray 5 from by rw [hargs], lg_entry_eq]
  generalize (lg_sl [.ref (gA G 0), .int (nI i), .int (bi false), .ref (gA G 53)] ++ List.replicate (5 - (lg_sl [.ref (gA G 0), .int (nI i), .int (bi false), .ref (gA G 53)]).length) Slot.unset).toArray = ls at hl ⊢
  have hl : lv_has ls 5 [(0, .ref (gA G 0)), (1, .int (nI i)), (2, .int (bi false)), (3, .ref (gA G 53))] := hl
  refine lv_aload_n S.1 S.2.1 dL_setUp_0 rfl (lv_at hl 3 rfl) ?_
  refine lv_iconst (v := nI 0) S.1 S.2.1 dL_setUp_1 (by decide) ?_
  refine lv_aload_n S.1 S.2.1 dL_setUp_2 rfl (lv_at hl 0 rfl) ?_
  refine lv_iload_n S.1 S.2.1 dL_setUp_3 rfl (lv_at hl 1 rfl) ?_
  refine lv_iload_n S.1 S.2.1 dL_setUp_4 rfl (lv_at hl 2 rfl) ?_
  refine va_calli (va_runV (As := [.int (nI i), .int (bi false)]) (rest := [.int (nI 0), .ref (gA G 53)]) S (k_X7_setUp_f l G σ μ o i hi) (cwV 2 S.2.2.2.2 gL_setUp_X7_setUp rfl rfl rfl ⟨rfl, hy_X7_setUp⟩ ⟨Nat.le_of_ble_eq_true rfl, Nat.le_of_ble_eq_true rfl⟩) (wPc_V (q := (RX7, TX7, 7)) Z (by decide) rfl rfl) rfl rfl hl.1 rfl (lv_room (Nat.le_of_ble_eq_true rfl)) dL_setUp_5 ⟨Nat.le_of_ble_eq_true rfl, Nat.le_of_ble_eq_true rfl⟩) Z.2.2.2.2 (fun _ _ h => h) (fun _ h => h) (fun r_1 u_2 T9 H1 locs1 hT9 hvm hw hB hz hk9 hS => ?_)
  obtain ⟨hr9, rfl⟩ := hw
  rw [hr9]; clear hr9 r_1
  have Z : wZ G (cU' σ i false) (μ) o s H1 locs1 := wZ_callP Z hB hT9 hS
  clear hB hT9 hS hk9 hz hvm T9
  revert Z; generalize H1 = H; generalize locs1 = locs; intro Z
  refine W.widen (k := 0) (n := 0) (by first | decide | omega) (by first | decide | omega) ?_
  refine lv_i2l (v := (nI 0).toInt64) S.1 S.2.1 dL_setUp_8 rfl ?_
  refine r_last S Z dL_setUp_9 (fun H locs Z => ?_)
  refine lv_goto (tgt := 17) S.1 S.2.1 dL_setUp_10 (by decide) ?_
  refine lv_iconst (v := nI 0) S.1 S.2.1 dL_setUp_17 (by decide) ?_
  have e9 : vp_updL o 0 ((nI 0).toInt64) = vp_updL o 0 (nI (0)).toInt64 := by first | rfl | (simp only []; rfl)
  rw [e9] at Z
  refine W.widen (k := 4) (n := 34) (by decide) (by decide) ?_
  rw [hQ]
  exact W.iret (v := nI 0) S.1 S.2.1 hret (fun _ hT9 hW => ⟨⟨_, (cU' σ i false, μ, vp_updL o 0 (nI (0)).toInt64), rfl, hpost, wZ_I Z hT9 hW⟩, Z.2.2.2.2.F hT9⟩) Z.2.2.2.2.2.2 dL_setUp_18

theorem m_L_loseHints_c13 : Cond.classLink RL 13 "java/lang/IndexOutOfBoundsException" ∈ wsL_loseHints := by decide +kernel
set_option maxHeartbeats 4000000 in
set_option maxRecDepth 100000 in
theorem kL_loseHints_X1 (l : Launch) (hst : l.stackTraces = false) (G : wG) (σ : cS) (μ : mS) (o : Nat → Int64) (x : Int32) (MS : mS) (MR : Int32) (hx : wi x (nI 2) = false) (hpost : LQ G μ MS MR (nI 1) (σ, μ, o)) : Met l yL_loseHints wsL_loseHints rmL (wPc G σ μ o [.ref (gA G 0), .int (x), .ref (gA G 53)]) (QLP G μ MS MR) 4 34 (gP G) := by
  refine m_ofWH (hh := [(0, 9, 12, 13)]) (cc := cL_loseHints) (maxL := 4) (ret := (some .int)) (by decide) rfl ?_
  intro p e s m args below meth c s₁ B hml htab hv
  obtain ⟨hargs, hI⟩ := hv
  have S : CallFix p m c cL_loseHints 4 s args wsL_loseHints RL := ⟨B.exec, B.bytes, hml, findClass_of_methodNamed B.named, atoms_spec (ws := wsL_loseHints) B.pre⟩
  have hret := B.returns
  have hlocks := B.notSynchronized
  have Z := wZ_0 hI
  clear hI
  obtain ⟨Q, hQ⟩ : ∃ Q, Q = MQ below (QLP G μ MS MR) args s 4 34 (gP G) := ⟨_, rfl⟩
  rw [← hQ]
  have hl := lv_entry [.ref (gA G 0), .int (x), .ref (gA G 53)] (n := 4) (Nat.le_of_ble_eq_true rfl)
  rw [show entryFrame m args 4 = entryFrame m ([.ref (gA G 0), .int (x), .ref (gA G 53)] : List Value).toArray 4 from by rw [hargs], lg_entry_eq]
  generalize (lg_sl [.ref (gA G 0), .int (x), .ref (gA G 53)] ++ List.replicate (4 - (lg_sl [.ref (gA G 0), .int (x), .ref (gA G 53)]).length) Slot.unset).toArray = ls at hl ⊢
  have hl : lv_has ls 4 [(0, .ref (gA G 0)), (1, .int (x)), (2, .ref (gA G 53))] := hl
  refine lv_aload_n S.1 S.2.1 dL_loseHints_0 rfl (lv_at hl 2 rfl) ?_
  refine lv_iconst (v := nI 0) S.1 S.2.1 dL_loseHints_1 (by decide) ?_
  refine lv_aload_n S.1 S.2.1 dL_loseHints_2 rfl (lv_at hl 0 rfl) ?_
  refine lv_iload_n S.1 S.2.1 dL_loseHints_3 rfl (lv_at hl 1 rfl) ?_
  refine x_call (vx_runV (As := [.int (x)]) (rest := [.int (nI 0), .ref (gA G 53)]) S (k_X7_loseHints_X1 l hst G σ μ o x hx) (cwV 1 S.2.2.2.2 gL_loseHints_X7_loseHints rfl rfl rfl ⟨rfl, hy_X7_loseHints⟩ ⟨Nat.le_of_ble_eq_true rfl, Nat.le_of_ble_eq_true rfl⟩) (wPc_V (q := (RX7, TX7, 7)) Z (by decide) rfl rfl) rfl rfl hl.1 rfl (lv_room (Nat.le_of_ble_eq_true rfl)) dL_loseHints_4 ⟨Nat.le_of_ble_eq_true rfl, Nat.le_of_ble_eq_true rfl⟩) (fun _ _ _ h => h) Z (fun ce q9 H locs Z h1 h2 h3 => ?_)
  refine vx_catch (name := "java/lang/IndexOutOfBoundsException") S.2.2.2.1 [] ⟨0, 9, 12, 13⟩ [] (by rw [htab]; rfl) (fun z h => absurd h List.not_mem_nil) rfl (by decide) (S.2.2.2.2 _ m_L_loseHints_c13) (ca_use Z n_caA) h1 h2 h3 ?_
  refine lv_astore_n (lv' := [(3, .ref (q9)), (0, .ref (gA G 0)), (1, .int (x)), (2, .ref (gA G 53))]) S.1 S.2.1 dL_loseHints_12 rfl hl (by decide) rfl (fun ls hl => ?_)
  refine lv_iconst (v := nI 1) S.1 S.2.1 dL_loseHints_13 (by decide) ?_
  refine W.widen (k := 4) (n := 34) (by decide) (by decide) ?_
  rw [hQ]
  exact W.iret (v := nI 1) S.1 S.2.1 hret (fun _ hT9 hW => ⟨⟨_, (σ, μ, o), rfl, hpost, wZ_I Z hT9 hW⟩, Z.2.2.2.2.F hT9⟩) Z.2.2.2.2.2.2 dL_loseHints_14

set_option maxHeartbeats 4000000 in
set_option maxRecDepth 100000 in
theorem kL_loseHints (l : Launch) (hst : l.stackTraces = false) (G : wG) (σ : cS) (μ : mS) (o : Nat → Int64) (i : Nat) (L : Nat → List Ch) (MS : mS) (MR : Int32) (hi : i < 3) (hHI : HI G σ L) (hpost : ∀ ns, (sc ns σ ∧ HI G ns (va_up L i [])) → LQ G μ MS MR (nI 0) (ns, μ, vp_updL o 0 (nI ((L i).length)).toInt64)) : Met l yL_loseHints wsL_loseHints rmL (wPc G σ μ o [.ref (gA G 0), .int (nI i), .ref (gA G 53)]) (QLP G μ MS MR) 4 34 (gP G) := by
  refine m_ofWH (hh := [(0, 9, 12, 13)]) (cc := cL_loseHints) (maxL := 4) (ret := (some .int)) (by decide) rfl ?_
  intro p e s m args below meth c s₁ B hml htab hv
  obtain ⟨hargs, hI⟩ := hv
  have S : CallFix p m c cL_loseHints 4 s args wsL_loseHints RL := ⟨B.exec, B.bytes, hml, findClass_of_methodNamed B.named, atoms_spec (ws := wsL_loseHints) B.pre⟩
  have hret := B.returns
  have hlocks := B.notSynchronized
  have Z := wZ_0 hI
  clear hI
  obtain ⟨Q, hQ⟩ : ∃ Q, Q = MQ below (QLP G μ MS MR) args s 4 34 (gP G) := ⟨_, rfl⟩
  rw [← hQ]
  have hl := lv_entry [.ref (gA G 0), .int (nI i), .ref (gA G 53)] (n := 4) (Nat.le_of_ble_eq_true rfl)
  rw [show entryFrame m args 4 = entryFrame m ([.ref (gA G 0), .int (nI i), .ref (gA G 53)] : List Value).toArray 4 from by rw [hargs], lg_entry_eq]
  generalize (lg_sl [.ref (gA G 0), .int (nI i), .ref (gA G 53)] ++ List.replicate (4 - (lg_sl [.ref (gA G 0), .int (nI i), .ref (gA G 53)]).length) Slot.unset).toArray = ls at hl ⊢
  have hl : lv_has ls 4 [(0, .ref (gA G 0)), (1, .int (nI i)), (2, .ref (gA G 53))] := hl
  refine lv_aload_n S.1 S.2.1 dL_loseHints_0 rfl (lv_at hl 2 rfl) ?_
  refine lv_iconst (v := nI 0) S.1 S.2.1 dL_loseHints_1 (by decide) ?_
  refine lv_aload_n S.1 S.2.1 dL_loseHints_2 rfl (lv_at hl 0 rfl) ?_
  refine lv_iload_n S.1 S.2.1 dL_loseHints_3 rfl (lv_at hl 1 rfl) ?_
  refine va_calli (va_runV (As := [.int (nI i)]) (rest := [.int (nI 0), .ref (gA G 53)]) S (k_X7_loseHints l G σ μ o i L hi hHI) (cwV 1 S.2.2.2.2 gL_loseHints_X7_loseHints rfl rfl rfl ⟨rfl, hy_X7_loseHints⟩ ⟨Nat.le_of_ble_eq_true rfl, Nat.le_of_ble_eq_true rfl⟩) (wPc_V (q := (RX7, TX7, 7)) Z (by decide) rfl rfl) rfl rfl hl.1 rfl (lv_room (Nat.le_of_ble_eq_true rfl)) dL_loseHints_4 ⟨Nat.le_of_ble_eq_true rfl, Nat.le_of_ble_eq_true rfl⟩) Z.2.2.2.2 (fun _ _ h => h) (fun _ h => h) (fun r_1 u_2 T9 H1 locs1 hT9 hvm hw hB hz hk9 hS => ?_)
  obtain ⟨τ_3, μ9⟩ := u_2
  obtain ⟨hr9, hm9, hp9⟩ := hw
  have hm9 : μ = μ9 := hm9.symm
  subst hm9
  have hp_4 : sc τ_3 σ ∧ HI G τ_3 (va_up L i []) := hp9
  clear hp9
  rw [hr9]; clear hr9 r_1
  have Z : wZ G (τ_3) (μ) o s H1 locs1 := wZ_callP Z hB hT9 hS
  clear hB hT9 hS hk9 hz hvm T9
  revert Z; generalize H1 = H; generalize locs1 = locs; intro Z
  refine W.widen (k := 0) (n := 0) (by first | decide | omega) (by first | decide | omega) ?_
  refine lv_i2l (v := (nI ((L i).length)).toInt64) S.1 S.2.1 dL_loseHints_7 rfl ?_
  refine r_last S Z dL_loseHints_8 (fun H locs Z => ?_)
  refine lv_goto (tgt := 15) S.1 S.2.1 dL_loseHints_9 (by decide) ?_
  refine lv_iconst (v := nI 0) S.1 S.2.1 dL_loseHints_15 (by decide) ?_
  refine W.widen (k := 4) (n := 34) (by decide) (by decide) ?_
  rw [hQ]
  exact W.iret (v := nI 0) S.1 S.2.1 hret (fun _ hT9 hW => ⟨⟨_, (τ_3, μ, vp_updL o 0 ((nI ((L i).length)).toInt64)), rfl, (hpost _ hp_4), wZ_I Z hT9 hW⟩, Z.2.2.2.2.F hT9⟩) Z.2.2.2.2.2.2 dL_loseHints_16

set_option maxHeartbeats 4000000 in
set_option maxRecDepth 100000 in
theorem kL_pass (l : Launch) (hst : l.stackTraces = false) (G : wG) (σ : cS) (μ : mS) (o : Nat → Int64) (a : Nat) (MS : mS) (MR : Int32) (ha : 1 ≤ a) (hb : a ≤ 100) (hd : ¬ (nI 10000 < cV σ 4 + nI a)) (hpost : LQ G μ MS MR (nI 0) (cV' σ 4 (cV σ 4 + nI a), μ, vp_updL o 0 (cV σ 4 + nI a).toInt64)) : Met l yL_pass wsL_pass rmL (wPc G σ μ o [.ref (gA G 0), .int (nI a), .ref (gA G 53)]) (QLP G μ MS MR) 4 34 (gP G) := by
  refine m_ofWH (hh := [(0, 9, 12, 15), (0, 9, 15, 31)]) (cc := cL_pass) (maxL := 4) (ret := (some .int)) (by decide) rfl ?_
  intro p e s m args below meth c s₁ B hml htab hv
  obtain ⟨hargs, hI⟩ := hv
  have S : CallFix p m c cL_pass 4 s args wsL_pass RL := ⟨B.exec, B.bytes, hml, findClass_of_methodNamed B.named, atoms_spec (ws := wsL_pass) B.pre⟩
  have hret := B.returns
  have hlocks := B.notSynchronized
  have Z := wZ_0 hI
  clear hI
  obtain ⟨Q, hQ⟩ : ∃ Q, Q = MQ below (QLP G μ MS MR) args s 4 34 (gP G) := ⟨_, rfl⟩
  rw [← hQ]
  have hl := lv_entry [.ref (gA G 0), .int (nI a), .ref (gA G 53)] (n := 4) (Nat.le_of_ble_eq_true rfl)
  rw [show entryFrame m args 4 = entryFrame m ([.ref (gA G 0), .int (nI a), .ref (gA G 53)] : List Value).toArray 4 from by rw [hargs], lg_entry_eq]
  generalize (lg_sl [.ref (gA G 0), .int (nI a), .ref (gA G 53)] ++ List.replicate (4 - (lg_sl [.ref (gA G 0), .int (nI a), .ref (gA G 53)]).length) Slot.unset).toArray = ls at hl ⊢
  have hl : lv_has ls 4 [(0, .ref (gA G 0)), (1, .int (nI a)), (2, .ref (gA G 53))] := hl
  refine lv_aload_n S.1 S.2.1 dL_pass_0 rfl (lv_at hl 2 rfl) ?_
  refine lv_iconst (v := nI 0) S.1 S.2.1 dL_pass_1 (by decide) ?_
  refine lv_aload_n S.1 S.2.1 dL_pass_2 rfl (lv_at hl 0 rfl) ?_
  refine lv_iload_n S.1 S.2.1 dL_pass_3 rfl (lv_at hl 1 rfl) ?_
  refine va_calli (va_runV (As := [.int (nI a)]) (rest := [.int (nI 0), .ref (gA G 53)]) S (k_X7_pass l G σ μ o a ha hb hd) (cwV 1 S.2.2.2.2 gL_pass_X7_pass rfl rfl rfl ⟨rfl, hy_X7_pass⟩ ⟨Nat.le_of_ble_eq_true rfl, Nat.le_of_ble_eq_true rfl⟩) (wPc_V (q := (RX7, TX7, 7)) Z (by decide) rfl rfl) rfl rfl hl.1 rfl (lv_room (Nat.le_of_ble_eq_true rfl)) dL_pass_4 ⟨Nat.le_of_ble_eq_true rfl, Nat.le_of_ble_eq_true rfl⟩) Z.2.2.2.2 (fun _ _ h => h) (fun _ h => h) (fun r_1 u_2 T9 H1 locs1 hT9 hvm hw hB hz hk9 hS => ?_)
  obtain ⟨hr9, rfl⟩ := hw
  rw [hr9]; clear hr9 r_1
  have Z : wZ G (cV' σ 4 (cV σ 4 + nI a)) (μ) o s H1 locs1 := wZ_callP Z hB hT9 hS
  clear hB hT9 hS hk9 hz hvm T9
  revert Z; generalize H1 = H; generalize locs1 = locs; intro Z
  refine W.widen (k := 0) (n := 0) (by first | decide | omega) (by first | decide | omega) ?_
  refine lv_i2l (v := (cV σ 4 + nI a).toInt64) S.1 S.2.1 dL_pass_7 rfl ?_
  refine r_last S Z dL_pass_8 (fun H locs Z => ?_)
  refine lv_goto (tgt := 18) S.1 S.2.1 dL_pass_9 (by decide) ?_
  refine lv_iconst (v := nI 0) S.1 S.2.1 dL_pass_18 (by decide) ?_
  refine W.widen (k := 4) (n := 34) (by decide) (by decide) ?_
  rw [hQ]
  exact W.iret (v := nI 0) S.1 S.2.1 hret (fun _ hT9 hW => ⟨⟨_, (cV' σ 4 (cV σ 4 + nI a), μ, vp_updL o 0 ((cV σ 4 + nI a).toInt64)), rfl, hpost, wZ_I Z hT9 hW⟩, Z.2.2.2.2.F hT9⟩) Z.2.2.2.2.2.2 dL_pass_19

theorem m_L_pass_c15 : Cond.classLink RL 15 "java/lang/IllegalArgumentException" ∈ wsL_pass := by decide +kernel
set_option maxHeartbeats 4000000 in
set_option maxRecDepth 100000 in
theorem kL_pass_X1 (l : Launch) (hst : l.stackTraces = false) (G : wG) (σ : cS) (μ : mS) (o : Nat → Int64) (x : Int32) (MS : mS) (MR : Int32) (hx : x < nI 1 ∨ nI 100 < x) (hpost : LQ G μ MS MR (nI 1) (σ, μ, o)) : Met l yL_pass wsL_pass rmL (wPc G σ μ o [.ref (gA G 0), .int (x), .ref (gA G 53)]) (QLP G μ MS MR) 4 34 (gP G) := by
  refine m_ofWH (hh := [(0, 9, 12, 15), (0, 9, 15, 31)]) (cc := cL_pass) (maxL := 4) (ret := (some .int)) (by decide) rfl ?_
  intro p e s m args below meth c s₁ B hml htab hv
  obtain ⟨hargs, hI⟩ := hv
  have S : CallFix p m c cL_pass 4 s args wsL_pass RL := ⟨B.exec, B.bytes, hml, findClass_of_methodNamed B.named, atoms_spec (ws := wsL_pass) B.pre⟩
  have hret := B.returns
  have hlocks := B.notSynchronized
  have Z := wZ_0 hI
  clear hI
  obtain ⟨Q, hQ⟩ : ∃ Q, Q = MQ below (QLP G μ MS MR) args s 4 34 (gP G) := ⟨_, rfl⟩
  rw [← hQ]
  have hl := lv_entry [.ref (gA G 0), .int (x), .ref (gA G 53)] (n := 4) (Nat.le_of_ble_eq_true rfl)
  rw [show entryFrame m args 4 = entryFrame m ([.ref (gA G 0), .int (x), .ref (gA G 53)] : List Value).toArray 4 from by rw [hargs], lg_entry_eq]
  generalize (lg_sl [.ref (gA G 0), .int (x), .ref (gA G 53)] ++ List.replicate (4 - (lg_sl [.ref (gA G 0), .int (x), .ref (gA G 53)]).length) Slot.unset).toArray = ls at hl ⊢
  have hl : lv_has ls 4 [(0, .ref (gA G 0)), (1, .int (x)), (2, .ref (gA G 53))] := hl
  refine lv_aload_n S.1 S.2.1 dL_pass_0 rfl (lv_at hl 2 rfl) ?_
  refine lv_iconst (v := nI 0) S.1 S.2.1 dL_pass_1 (by decide) ?_
  refine lv_aload_n S.1 S.2.1 dL_pass_2 rfl (lv_at hl 0 rfl) ?_
  refine lv_iload_n S.1 S.2.1 dL_pass_3 rfl (lv_at hl 1 rfl) ?_
  refine x_call (vx_runV (As := [.int (x)]) (rest := [.int (nI 0), .ref (gA G 53)]) S (k_X7_pass_X1 l hst G σ μ o x hx) (cwV 1 S.2.2.2.2 gL_pass_X7_pass rfl rfl rfl ⟨rfl, hy_X7_pass⟩ ⟨Nat.le_of_ble_eq_true rfl, Nat.le_of_ble_eq_true rfl⟩) (wPc_V (q := (RX7, TX7, 7)) Z (by decide) rfl rfl) rfl rfl hl.1 rfl (lv_room (Nat.le_of_ble_eq_true rfl)) dL_pass_4 ⟨Nat.le_of_ble_eq_true rfl, Nat.le_of_ble_eq_true rfl⟩) (fun _ _ _ h => h) Z (fun ce q9 H locs Z h1 h2 h3 => ?_)
  refine vx_catch (name := "java/lang/IllegalArgumentException") S.2.2.2.1 [] ⟨0, 9, 12, 15⟩ [⟨0, 9, 15, 31⟩] (by rw [htab]; rfl) (fun z h => absurd h List.not_mem_nil) rfl (by decide) (S.2.2.2.2 _ m_L_pass_c15) (ca_use Z n_caB) h1 h2 h3 ?_
  refine lv_astore_n (lv' := [(3, .ref (q9)), (0, .ref (gA G 0)), (1, .int (x)), (2, .ref (gA G 53))]) S.1 S.2.1 dL_pass_12 rfl hl (by decide) rfl (fun ls hl => ?_)
  refine lv_iconst (v := nI 1) S.1 S.2.1 dL_pass_13 (by decide) ?_
  refine W.widen (k := 4) (n := 34) (by decide) (by decide) ?_
  rw [hQ]
  exact W.iret (v := nI 1) S.1 S.2.1 hret (fun _ hT9 hW => ⟨⟨_, (σ, μ, o), rfl, hpost, wZ_I Z hT9 hW⟩, Z.2.2.2.2.F hT9⟩) Z.2.2.2.2.2.2 dL_pass_14

theorem m_L_pass_c31 : Cond.classLink RL 31 "java/lang/IllegalStateException" ∈ wsL_pass := by decide +kernel
set_option maxHeartbeats 4000000 in
set_option maxRecDepth 100000 in
theorem kL_pass_X2 (l : Launch) (hst : l.stackTraces = false) (G : wG) (σ : cS) (μ : mS) (o : Nat → Int64) (a : Nat) (MS : mS) (MR : Int32) (ha : 1 ≤ a) (hb : a ≤ 100) (hd : nI 10000 < cV σ 4 + nI a) (hpost : LQ G μ MS MR (nI 2) (σ, μ, o)) : Met l yL_pass wsL_pass rmL (wPc G σ μ o [.ref (gA G 0), .int (nI a), .ref (gA G 53)]) (QLP G μ MS MR) 4 34 (gP G) := by
  refine m_ofWH (hh := [(0, 9, 12, 15), (0, 9, 15, 31)]) (cc := cL_pass) (maxL := 4) (ret := (some .int)) (by decide) rfl ?_
  intro p e s m args below meth c s₁ B hml htab hv
  obtain ⟨hargs, hI⟩ := hv
  have S : CallFix p m c cL_pass 4 s args wsL_pass RL := ⟨B.exec, B.bytes, hml, findClass_of_methodNamed B.named, atoms_spec (ws := wsL_pass) B.pre⟩
  have hret := B.returns
  have hlocks := B.notSynchronized
  have Z := wZ_0 hI
  clear hI
  obtain ⟨Q, hQ⟩ : ∃ Q, Q = MQ below (QLP G μ MS MR) args s 4 34 (gP G) := ⟨_, rfl⟩
  rw [← hQ]
  have hl := lv_entry [.ref (gA G 0), .int (nI a), .ref (gA G 53)] (n := 4) (Nat.le_of_ble_eq_true rfl)
  rw [show entryFrame m args 4 = entryFrame m ([.ref (gA G 0), .int (nI a), .ref (gA G 53)] : List Value).toArray 4 from by rw [hargs], lg_entry_eq]
  generalize (lg_sl [.ref (gA G 0), .int (nI a), .ref (gA G 53)] ++ List.replicate (4 - (lg_sl [.ref (gA G 0), .int (nI a), .ref (gA G 53)]).length) Slot.unset).toArray = ls at hl ⊢
  have hl : lv_has ls 4 [(0, .ref (gA G 0)), (1, .int (nI a)), (2, .ref (gA G 53))] := hl
  refine lv_aload_n S.1 S.2.1 dL_pass_0 rfl (lv_at hl 2 rfl) ?_
  refine lv_iconst (v := nI 0) S.1 S.2.1 dL_pass_1 (by decide) ?_
  refine lv_aload_n S.1 S.2.1 dL_pass_2 rfl (lv_at hl 0 rfl) ?_
  refine lv_iload_n S.1 S.2.1 dL_pass_3 rfl (lv_at hl 1 rfl) ?_
  refine x_call (vx_runV (As := [.int (nI a)]) (rest := [.int (nI 0), .ref (gA G 53)]) S (k_X7_pass_X2 l hst G σ μ o a ha hb hd) (cwV 1 S.2.2.2.2 gL_pass_X7_pass rfl rfl rfl ⟨rfl, hy_X7_pass⟩ ⟨Nat.le_of_ble_eq_true rfl, Nat.le_of_ble_eq_true rfl⟩) (wPc_V (q := (RX7, TX7, 7)) Z (by decide) rfl rfl) rfl rfl hl.1 rfl (lv_room (Nat.le_of_ble_eq_true rfl)) dL_pass_4 ⟨Nat.le_of_ble_eq_true rfl, Nat.le_of_ble_eq_true rfl⟩) (fun _ _ _ h => h) Z (fun ce q9 H locs Z h1 h2 h3 => ?_)
  refine vx_catch (name := "java/lang/IllegalStateException") S.2.2.2.1 [⟨0, 9, 12, 15⟩] ⟨0, 9, 15, 31⟩ [] (by rw [htab]; rfl) (pass_1 (by decide) (S.2.2.2.2 _ m_L_pass_c15) (nc_CB Z)) rfl (by decide) (S.2.2.2.2 _ m_L_pass_c31) (ca_use Z n_caC) h1 h2 h3 ?_
  refine lv_astore_n (lv' := [(3, .ref (q9)), (0, .ref (gA G 0)), (1, .int (nI a)), (2, .ref (gA G 53))]) S.1 S.2.1 dL_pass_15 rfl hl (by decide) rfl (fun ls hl => ?_)
  refine lv_iconst (v := nI 2) S.1 S.2.1 dL_pass_16 (by decide) ?_
  refine W.widen (k := 4) (n := 34) (by decide) (by decide) ?_
  rw [hQ]
  exact W.iret (v := nI 2) S.1 S.2.1 hret (fun _ hT9 hW => ⟨⟨_, (σ, μ, o), rfl, hpost, wZ_I Z hT9 hW⟩, Z.2.2.2.2.F hT9⟩) Z.2.2.2.2.2.2 dL_pass_17

set_option maxHeartbeats 4000000 in
set_option maxRecDepth 100000 in
theorem kL_setGrace (l : Launch) (hst : l.stackTraces = false) (G : wG) (σ : cS) (μ : mS) (o : Nat → Int64) (g : Nat) (MS : mS) (MR : Int32) (hg : g ≤ 1000) (hpost : LQ G μ MS MR (nI 0) (cV' σ 5 (nI g), μ, vp_updL o 0 (cV σ 5).toInt64)) : Met l yL_setGrace wsL_setGrace rmL (wPc G σ μ o [.ref (gA G 0), .int (nI g), .ref (gA G 53)]) (QLP G μ MS MR) 4 34 (gP G) := by
  refine m_ofWH (hh := [(0, 9, 12, 15)]) (cc := cL_setGrace) (maxL := 4) (ret := (some .int)) (by decide) rfl ?_
  intro p e s m args below meth c s₁ B hml htab hv
  obtain ⟨hargs, hI⟩ := hv
  have S : CallFix p m c cL_setGrace 4 s args wsL_setGrace RL := ⟨B.exec, B.bytes, hml, findClass_of_methodNamed B.named, atoms_spec (ws := wsL_setGrace) B.pre⟩
  have hret := B.returns
  have hlocks := B.notSynchronized
  have Z := wZ_0 hI
  clear hI
  obtain ⟨Q, hQ⟩ : ∃ Q, Q = MQ below (QLP G μ MS MR) args s 4 34 (gP G) := ⟨_, rfl⟩
  rw [← hQ]
  have hl := lv_entry [.ref (gA G 0), .int (nI g), .ref (gA G 53)] (n := 4) (Nat.le_of_ble_eq_true rfl)
  rw [show entryFrame m args 4 = entryFrame m ([.ref (gA G 0), .int (nI g), .ref (gA G 53)] : List Value).toArray 4 from by rw [hargs], lg_entry_eq]
  generalize (lg_sl [.ref (gA G 0), .int (nI g), .ref (gA G 53)] ++ List.replicate (4 - (lg_sl [.ref (gA G 0), .int (nI g), .ref (gA G 53)]).length) Slot.unset).toArray = ls at hl ⊢
  have hl : lv_has ls 4 [(0, .ref (gA G 0)), (1, .int (nI g)), (2, .ref (gA G 53))] := hl
  refine lv_aload_n S.1 S.2.1 dL_setGrace_0 rfl (lv_at hl 2 rfl) ?_
  refine lv_iconst (v := nI 0) S.1 S.2.1 dL_setGrace_1 (by decide) ?_
  refine lv_aload_n S.1 S.2.1 dL_setGrace_2 rfl (lv_at hl 0 rfl) ?_
  refine lv_iload_n S.1 S.2.1 dL_setGrace_3 rfl (lv_at hl 1 rfl) ?_
  refine va_calli (va_runV (As := [.int (nI g)]) (rest := [.int (nI 0), .ref (gA G 53)]) S (k_X7_setGrace l G σ μ o g hg) (cwV 1 S.2.2.2.2 gL_setGrace_X7_setGrace rfl rfl rfl ⟨rfl, hy_X7_setGrace⟩ ⟨Nat.le_of_ble_eq_true rfl, Nat.le_of_ble_eq_true rfl⟩) (wPc_V (q := (RX7, TX7, 7)) Z (by decide) rfl rfl) rfl rfl hl.1 rfl (lv_room (Nat.le_of_ble_eq_true rfl)) dL_setGrace_4 ⟨Nat.le_of_ble_eq_true rfl, Nat.le_of_ble_eq_true rfl⟩) Z.2.2.2.2 (fun _ _ h => h) (fun _ h => h) (fun r_1 u_2 T9 H1 locs1 hT9 hvm hw hB hz hk9 hS => ?_)
  obtain ⟨hr9, rfl⟩ := hw
  rw [hr9]; clear hr9 r_1
  have Z : wZ G (cV' σ 5 (nI g)) (μ) o s H1 locs1 := wZ_callP Z hB hT9 hS
  clear hB hT9 hS hk9 hz hvm T9
  revert Z; generalize H1 = H; generalize locs1 = locs; intro Z
  refine W.widen (k := 0) (n := 0) (by first | decide | omega) (by first | decide | omega) ?_
  refine lv_i2l (v := (cV σ 5).toInt64) S.1 S.2.1 dL_setGrace_7 rfl ?_
  refine r_last S Z dL_setGrace_8 (fun H locs Z => ?_)
  refine lv_goto (tgt := 15) S.1 S.2.1 dL_setGrace_9 (by decide) ?_
  refine lv_iconst (v := nI 0) S.1 S.2.1 dL_setGrace_15 (by decide) ?_
  refine W.widen (k := 4) (n := 34) (by decide) (by decide) ?_
  rw [hQ]
  exact W.iret (v := nI 0) S.1 S.2.1 hret (fun _ hT9 hW => ⟨⟨_, (cV' σ 5 (nI g), μ, vp_updL o 0 ((cV σ 5).toInt64)), rfl, hpost, wZ_I Z hT9 hW⟩, Z.2.2.2.2.F hT9⟩) Z.2.2.2.2.2.2 dL_setGrace_16

theorem m_L_setGrace_c15 : Cond.classLink RL 15 "java/lang/IllegalArgumentException" ∈ wsL_setGrace := by decide +kernel
set_option maxHeartbeats 4000000 in
set_option maxRecDepth 100000 in
theorem kL_setGrace_X1 (l : Launch) (hst : l.stackTraces = false) (G : wG) (σ : cS) (μ : mS) (o : Nat → Int64) (x : Int32) (MS : mS) (MR : Int32) (hx : wi x (nI 1000) = false) (hpost : LQ G μ MS MR (nI 1) (σ, μ, o)) : Met l yL_setGrace wsL_setGrace rmL (wPc G σ μ o [.ref (gA G 0), .int (x), .ref (gA G 53)]) (QLP G μ MS MR) 4 34 (gP G) := by
  refine m_ofWH (hh := [(0, 9, 12, 15)]) (cc := cL_setGrace) (maxL := 4) (ret := (some .int)) (by decide) rfl ?_
  intro p e s m args below meth c s₁ B hml htab hv
  obtain ⟨hargs, hI⟩ := hv
  have S : CallFix p m c cL_setGrace 4 s args wsL_setGrace RL := ⟨B.exec, B.bytes, hml, findClass_of_methodNamed B.named, atoms_spec (ws := wsL_setGrace) B.pre⟩
  have hret := B.returns
  have hlocks := B.notSynchronized
  have Z := wZ_0 hI
  clear hI
  obtain ⟨Q, hQ⟩ : ∃ Q, Q = MQ below (QLP G μ MS MR) args s 4 34 (gP G) := ⟨_, rfl⟩
  rw [← hQ]
  have hl := lv_entry [.ref (gA G 0), .int (x), .ref (gA G 53)] (n := 4) (Nat.le_of_ble_eq_true rfl)
  rw [show entryFrame m args 4 = entryFrame m ([.ref (gA G 0), .int (x), .ref (gA G 53)] : List Value).toArray 4 from by rw [hargs], lg_entry_eq]
  generalize (lg_sl [.ref (gA G 0), .int (x), .ref (gA G 53)] ++ List.replicate (4 - (lg_sl [.ref (gA G 0), .int (x), .ref (gA G 53)]).length) Slot.unset).toArray = ls at hl ⊢
  have hl : lv_has ls 4 [(0, .ref (gA G 0)), (1, .int (x)), (2, .ref (gA G 53))] := hl
  refine lv_aload_n S.1 S.2.1 dL_setGrace_0 rfl (lv_at hl 2 rfl) ?_
  refine lv_iconst (v := nI 0) S.1 S.2.1 dL_setGrace_1 (by decide) ?_
  refine lv_aload_n S.1 S.2.1 dL_setGrace_2 rfl (lv_at hl 0 rfl) ?_
  refine lv_iload_n S.1 S.2.1 dL_setGrace_3 rfl (lv_at hl 1 rfl) ?_
  refine x_call (vx_runV (As := [.int (x)]) (rest := [.int (nI 0), .ref (gA G 53)]) S (k_X7_setGrace_X1 l hst G σ μ o x hx) (cwV 1 S.2.2.2.2 gL_setGrace_X7_setGrace rfl rfl rfl ⟨rfl, hy_X7_setGrace⟩ ⟨Nat.le_of_ble_eq_true rfl, Nat.le_of_ble_eq_true rfl⟩) (wPc_V (q := (RX7, TX7, 7)) Z (by decide) rfl rfl) rfl rfl hl.1 rfl (lv_room (Nat.le_of_ble_eq_true rfl)) dL_setGrace_4 ⟨Nat.le_of_ble_eq_true rfl, Nat.le_of_ble_eq_true rfl⟩) (fun _ _ _ h => h) Z (fun ce q9 H locs Z h1 h2 h3 => ?_)
  refine vx_catch (name := "java/lang/IllegalArgumentException") S.2.2.2.1 [] ⟨0, 9, 12, 15⟩ [] (by rw [htab]; rfl) (fun z h => absurd h List.not_mem_nil) rfl (by decide) (S.2.2.2.2 _ m_L_setGrace_c15) (ca_use Z n_caB) h1 h2 h3 ?_
  refine lv_astore_n (lv' := [(3, .ref (q9)), (0, .ref (gA G 0)), (1, .int (x)), (2, .ref (gA G 53))]) S.1 S.2.1 dL_setGrace_12 rfl hl (by decide) rfl (fun ls hl => ?_)
  refine lv_iconst (v := nI 1) S.1 S.2.1 dL_setGrace_13 (by decide) ?_
  refine W.widen (k := 4) (n := 34) (by decide) (by decide) ?_
  rw [hQ]
  exact W.iret (v := nI 1) S.1 S.2.1 hret (fun _ hT9 hW => ⟨⟨_, (σ, μ, o), rfl, hpost, wZ_I Z hT9 hW⟩, Z.2.2.2.2.F hT9⟩) Z.2.2.2.2.2.2 dL_setGrace_14

set_option maxHeartbeats 4000000 in
set_option maxRecDepth 100000 in
theorem kL_read (l : Launch) (hst : l.stackTraces = false) (G : wG) (σ : cS) (μ : mS) (o : Nat → Int64) (i : Nat) (j : Nat) (row : Nat) (col : Nat) (MS : mS) (MR : Int32) (hi : i < 3) (hj : j < 3) (hrow : row < 16) (hcol : col < 4) (hij : i ≠ j) (hui : cU σ i = true) (huj : cU σ j = true) (hpost : LQ G μ MS MR (nI 0) (rdK σ i j row col, μ, vp_updL o 0 (visV (rdK σ i j row col) i row col (cV (rdK σ i j row col) 4)).toInt64)) : Met l yL_read wsL_read rmL (wPc G σ μ o [.ref (gA G 0), .int (nI i), .int (nI j), .int (nI row), .int (nI col), .ref (gA G 53)]) (QLP G μ MS MR) 4 34 (gP G) := by
  refine m_ofWH (hh := [(0, 14, 17, 13), (0, 14, 21, 15), (0, 14, 25, 31)]) (cc := cL_read) (maxL := 7) (ret := (some .int)) (by decide) rfl ?_
  intro p e s m args below meth c s₁ B hml htab hv
  obtain ⟨hargs, hI⟩ := hv
  have S : CallFix p m c cL_read 7 s args wsL_read RL := ⟨B.exec, B.bytes, hml, findClass_of_methodNamed B.named, atoms_spec (ws := wsL_read) B.pre⟩
  have hret := B.returns
  have hlocks := B.notSynchronized
  have Z := wZ_0 hI
  clear hI
  obtain ⟨Q, hQ⟩ : ∃ Q, Q = MQ below (QLP G μ MS MR) args s 4 34 (gP G) := ⟨_, rfl⟩
  rw [← hQ]
  have hl := lv_entry [.ref (gA G 0), .int (nI i), .int (nI j), .int (nI row), .int (nI col), .ref (gA G 53)] (n := 7) (Nat.le_of_ble_eq_true rfl)
  rw [show entryFrame m args 7 = entryFrame m ([.ref (gA G 0), .int (nI i), .int (nI j), .int (nI row), .int (nI col), .ref (gA G 53)] : List Value).toArray 7 from by rw [hargs], lg_entry_eq]
  generalize (lg_sl [.ref (gA G 0), .int (nI i), .int (nI j), .int (nI row), .int (nI col), .ref (gA G 53)] ++ List.replicate (7 - (lg_sl [.ref (gA G 0), .int (nI i), .int (nI j), .int (nI row), .int (nI col), .ref (gA G 53)]).length) Slot.unset).toArray = ls at hl ⊢
  have hl : lv_has ls 7 [(0, .ref (gA G 0)), (1, .int (nI i)), (2, .int (nI j)), (3, .int (nI row)), (4, .int (nI col)), (5, .ref (gA G 53))] := hl
  refine lv_aload S.1 S.2.1 dL_read_0 (lv_at hl 5 rfl) ?_
  refine lv_iconst (v := nI 0) S.1 S.2.1 dL_read_2 (by decide) ?_
  refine lv_aload_n S.1 S.2.1 dL_read_3 rfl (lv_at hl 0 rfl) ?_
  refine lv_iload_n S.1 S.2.1 dL_read_4 rfl (lv_at hl 1 rfl) ?_
  refine lv_iload_n S.1 S.2.1 dL_read_5 rfl (lv_at hl 2 rfl) ?_
  refine lv_iload_n S.1 S.2.1 dL_read_6 rfl (lv_at hl 3 rfl) ?_
  refine lv_iload S.1 S.2.1 dL_read_7 (lv_at hl 4 rfl) ?_
  refine va_calli (va_runV (As := [.int (nI i), .int (nI j), .int (nI row), .int (nI col)]) (rest := [.int (nI 0), .ref (gA G 53)]) S (k_X7_read l G σ μ o i j row col hi hj hrow hcol hij hui huj) (cwV 4 S.2.2.2.2 gL_read_X7_read rfl rfl rfl ⟨rfl, hy_X7_read⟩ ⟨Nat.le_of_ble_eq_true rfl, Nat.le_of_ble_eq_true rfl⟩) (wPc_V (q := (RX7, TX7, 7)) Z (by decide) rfl rfl) rfl rfl hl.1 rfl (lv_room (Nat.le_of_ble_eq_true rfl)) dL_read_9 ⟨Nat.le_of_ble_eq_true rfl, Nat.le_of_ble_eq_true rfl⟩) Z.2.2.2.2 (fun _ _ h => h) (fun _ h => h) (fun r_1 u_2 T9 H1 locs1 hT9 hvm hw hB hz hk9 hS => ?_)
  obtain ⟨hr9, rfl⟩ := hw
  rw [hr9]; clear hr9 r_1
  have Z : wZ G (rdK σ i j row col) (μ) o s H1 locs1 := wZ_callP Z hB hT9 hS
  clear hB hT9 hS hk9 hz hvm T9
  revert Z; generalize H1 = H; generalize locs1 = locs; intro Z
  refine W.widen (k := 0) (n := 0) (by first | decide | omega) (by first | decide | omega) ?_
  refine lv_i2l (v := (visV (rdK σ i j row col) i row col (cV (rdK σ i j row col) 4)).toInt64) S.1 S.2.1 dL_read_12 rfl ?_
  refine r_last S Z dL_read_13 (fun H locs Z => ?_)
  refine lv_goto (tgt := 29) S.1 S.2.1 dL_read_14 (by decide) ?_
  refine lv_iconst (v := nI 0) S.1 S.2.1 dL_read_29 (by decide) ?_
  refine W.widen (k := 4) (n := 34) (by decide) (by decide) ?_
  rw [hQ]
  exact W.iret (v := nI 0) S.1 S.2.1 hret (fun _ hT9 hW => ⟨⟨_, (rdK σ i j row col, μ, vp_updL o 0 ((visV (rdK σ i j row col) i row col (cV (rdK σ i j row col) 4)).toInt64)), rfl, hpost, wZ_I Z hT9 hW⟩, Z.2.2.2.2.F hT9⟩) Z.2.2.2.2.2.2 dL_read_30

theorem m_L_read_c13 : Cond.classLink RL 13 "java/lang/IndexOutOfBoundsException" ∈ wsL_read := by decide +kernel
set_option maxHeartbeats 4000000 in
set_option maxRecDepth 100000 in
theorem kL_read_X1 (l : Launch) (hst : l.stackTraces = false) (G : wG) (σ : cS) (μ : mS) (o : Nat → Int64) (x : Int32) (y : Int32) (z : Int32) (w : Int32) (MS : mS) (MR : Int32) (hx : wi x (nI 2) = false) (hpost : LQ G μ MS MR (nI 1) (σ, μ, o)) : Met l yL_read wsL_read rmL (wPc G σ μ o [.ref (gA G 0), .int (x), .int (y), .int (z), .int (w), .ref (gA G 53)]) (QLP G μ MS MR) 4 34 (gP G) := by
  refine m_ofWH (hh := [(0, 14, 17, 13), (0, 14, 21, 15), (0, 14, 25, 31)]) (cc := cL_read) (maxL := 7) (ret := (some .int)) (by decide) rfl ?_
  intro p e s m args below meth c s₁ B hml htab hv
  obtain ⟨hargs, hI⟩ := hv
  have S : CallFix p m c cL_read 7 s args wsL_read RL := ⟨B.exec, B.bytes, hml, findClass_of_methodNamed B.named, atoms_spec (ws := wsL_read) B.pre⟩
  have hret := B.returns
  have hlocks := B.notSynchronized
  have Z := wZ_0 hI
  clear hI
  obtain ⟨Q, hQ⟩ : ∃ Q, Q = MQ below (QLP G μ MS MR) args s 4 34 (gP G) := ⟨_, rfl⟩
  rw [← hQ]
  have hl := lv_entry [.ref (gA G 0), .int (x), .int (y), .int (z), .int (w), .ref (gA G 53)] (n := 7) (Nat.le_of_ble_eq_true rfl)
  rw [show entryFrame m args 7 = entryFrame m ([.ref (gA G 0), .int (x), .int (y), .int (z), .int (w), .ref (gA G 53)] : List Value).toArray 7 from by rw [hargs], lg_entry_eq]
  generalize (lg_sl [.ref (gA G 0), .int (x), .int (y), .int (z), .int (w), .ref (gA G 53)] ++ List.replicate (7 - (lg_sl [.ref (gA G 0), .int (x), .int (y), .int (z), .int (w), .ref (gA G 53)]).length) Slot.unset).toArray = ls at hl ⊢
  have hl : lv_has ls 7 [(0, .ref (gA G 0)), (1, .int (x)), (2, .int (y)), (3, .int (z)), (4, .int (w)), (5, .ref (gA G 53))] := hl
  refine lv_aload S.1 S.2.1 dL_read_0 (lv_at hl 5 rfl) ?_
  refine lv_iconst (v := nI 0) S.1 S.2.1 dL_read_2 (by decide) ?_
  refine lv_aload_n S.1 S.2.1 dL_read_3 rfl (lv_at hl 0 rfl) ?_
  refine lv_iload_n S.1 S.2.1 dL_read_4 rfl (lv_at hl 1 rfl) ?_
  refine lv_iload_n S.1 S.2.1 dL_read_5 rfl (lv_at hl 2 rfl) ?_
  refine lv_iload_n S.1 S.2.1 dL_read_6 rfl (lv_at hl 3 rfl) ?_
  refine lv_iload S.1 S.2.1 dL_read_7 (lv_at hl 4 rfl) ?_
  refine x_call (vx_runV (As := [.int (x), .int (y), .int (z), .int (w)]) (rest := [.int (nI 0), .ref (gA G 53)]) S (k_X7_read_X1 l hst G σ μ o x y z w hx) (cwV 4 S.2.2.2.2 gL_read_X7_read rfl rfl rfl ⟨rfl, hy_X7_read⟩ ⟨Nat.le_of_ble_eq_true rfl, Nat.le_of_ble_eq_true rfl⟩) (wPc_V (q := (RX7, TX7, 7)) Z (by decide) rfl rfl) rfl rfl hl.1 rfl (lv_room (Nat.le_of_ble_eq_true rfl)) dL_read_9 ⟨Nat.le_of_ble_eq_true rfl, Nat.le_of_ble_eq_true rfl⟩) (fun _ _ _ h => h) Z (fun ce q9 H locs Z h1 h2 h3 => ?_)
  refine vx_catch (name := "java/lang/IndexOutOfBoundsException") S.2.2.2.1 [] ⟨0, 14, 17, 13⟩ [⟨0, 14, 21, 15⟩, ⟨0, 14, 25, 31⟩] (by rw [htab]; rfl) (fun z h => absurd h List.not_mem_nil) rfl (by decide) (S.2.2.2.2 _ m_L_read_c13) (ca_use Z n_caA) h1 h2 h3 ?_
  refine lv_astore (lv' := [(6, .ref (q9)), (0, .ref (gA G 0)), (1, .int (x)), (2, .int (y)), (3, .int (z)), (4, .int (w)), (5, .ref (gA G 53))]) S.1 S.2.1 dL_read_17 hl (by decide) rfl (fun ls hl => ?_)
  refine lv_iconst (v := nI 1) S.1 S.2.1 dL_read_19 (by decide) ?_
  refine W.widen (k := 4) (n := 34) (by decide) (by decide) ?_
  rw [hQ]
  exact W.iret (v := nI 1) S.1 S.2.1 hret (fun _ hT9 hW => ⟨⟨_, (σ, μ, o), rfl, hpost, wZ_I Z hT9 hW⟩, Z.2.2.2.2.F hT9⟩) Z.2.2.2.2.2.2 dL_read_20

set_option maxHeartbeats 4000000 in
set_option maxRecDepth 100000 in
theorem kL_read_X2 (l : Launch) (hst : l.stackTraces = false) (G : wG) (σ : cS) (μ : mS) (o : Nat → Int64) (i : Nat) (x : Int32) (z : Int32) (w : Int32) (MS : mS) (MR : Int32) (hi : i < 3) (hx : wi x (nI 2) = false) (hpost : LQ G μ MS MR (nI 1) (σ, μ, o)) : Met l yL_read wsL_read rmL (wPc G σ μ o [.ref (gA G 0), .int (nI i), .int (x), .int (z), .int (w), .ref (gA G 53)]) (QLP G μ MS MR) 4 34 (gP G) := by
  refine m_ofWH (hh := [(0, 14, 17, 13), (0, 14, 21, 15), (0, 14, 25, 31)]) (cc := cL_read) (maxL := 7) (ret := (some .int)) (by decide) rfl ?_
  intro p e s m args below meth c s₁ B hml htab hv
  obtain ⟨hargs, hI⟩ := hv
  have S : CallFix p m c cL_read 7 s args wsL_read RL := ⟨B.exec, B.bytes, hml, findClass_of_methodNamed B.named, atoms_spec (ws := wsL_read) B.pre⟩
  have hret := B.returns
  have hlocks := B.notSynchronized
  have Z := wZ_0 hI
  clear hI
  obtain ⟨Q, hQ⟩ : ∃ Q, Q = MQ below (QLP G μ MS MR) args s 4 34 (gP G) := ⟨_, rfl⟩
  rw [← hQ]
  have hl := lv_entry [.ref (gA G 0), .int (nI i), .int (x), .int (z), .int (w), .ref (gA G 53)] (n := 7) (Nat.le_of_ble_eq_true rfl)
  rw [show entryFrame m args 7 = entryFrame m ([.ref (gA G 0), .int (nI i), .int (x), .int (z), .int (w), .ref (gA G 53)] : List Value).toArray 7 from by rw [hargs], lg_entry_eq]
  generalize (lg_sl [.ref (gA G 0), .int (nI i), .int (x), .int (z), .int (w), .ref (gA G 53)] ++ List.replicate (7 - (lg_sl [.ref (gA G 0), .int (nI i), .int (x), .int (z), .int (w), .ref (gA G 53)]).length) Slot.unset).toArray = ls at hl ⊢
  have hl : lv_has ls 7 [(0, .ref (gA G 0)), (1, .int (nI i)), (2, .int (x)), (3, .int (z)), (4, .int (w)), (5, .ref (gA G 53))] := hl
  refine lv_aload S.1 S.2.1 dL_read_0 (lv_at hl 5 rfl) ?_
  refine lv_iconst (v := nI 0) S.1 S.2.1 dL_read_2 (by decide) ?_
  refine lv_aload_n S.1 S.2.1 dL_read_3 rfl (lv_at hl 0 rfl) ?_
  refine lv_iload_n S.1 S.2.1 dL_read_4 rfl (lv_at hl 1 rfl) ?_
  refine lv_iload_n S.1 S.2.1 dL_read_5 rfl (lv_at hl 2 rfl) ?_
  refine lv_iload_n S.1 S.2.1 dL_read_6 rfl (lv_at hl 3 rfl) ?_
  refine lv_iload S.1 S.2.1 dL_read_7 (lv_at hl 4 rfl) ?_
  refine x_call (vx_runV (As := [.int (nI i), .int (x), .int (z), .int (w)]) (rest := [.int (nI 0), .ref (gA G 53)]) S (k_X7_read_X2 l hst G σ μ o i x z w hi hx) (cwV 4 S.2.2.2.2 gL_read_X7_read rfl rfl rfl ⟨rfl, hy_X7_read⟩ ⟨Nat.le_of_ble_eq_true rfl, Nat.le_of_ble_eq_true rfl⟩) (wPc_V (q := (RX7, TX7, 7)) Z (by decide) rfl rfl) rfl rfl hl.1 rfl (lv_room (Nat.le_of_ble_eq_true rfl)) dL_read_9 ⟨Nat.le_of_ble_eq_true rfl, Nat.le_of_ble_eq_true rfl⟩) (fun _ _ _ h => h) Z (fun ce q9 H locs Z h1 h2 h3 => ?_)
  refine vx_catch (name := "java/lang/IndexOutOfBoundsException") S.2.2.2.1 [] ⟨0, 14, 17, 13⟩ [⟨0, 14, 21, 15⟩, ⟨0, 14, 25, 31⟩] (by rw [htab]; rfl) (fun z h => absurd h List.not_mem_nil) rfl (by decide) (S.2.2.2.2 _ m_L_read_c13) (ca_use Z n_caA) h1 h2 h3 ?_
  refine lv_astore (lv' := [(6, .ref (q9)), (0, .ref (gA G 0)), (1, .int (nI i)), (2, .int (x)), (3, .int (z)), (4, .int (w)), (5, .ref (gA G 53))]) S.1 S.2.1 dL_read_17 hl (by decide) rfl (fun ls hl => ?_)
  refine lv_iconst (v := nI 1) S.1 S.2.1 dL_read_19 (by decide) ?_
  refine W.widen (k := 4) (n := 34) (by decide) (by decide) ?_
  rw [hQ]
  exact W.iret (v := nI 1) S.1 S.2.1 hret (fun _ hT9 hW => ⟨⟨_, (σ, μ, o), rfl, hpost, wZ_I Z hT9 hW⟩, Z.2.2.2.2.F hT9⟩) Z.2.2.2.2.2.2 dL_read_20

set_option maxHeartbeats 4000000 in
set_option maxRecDepth 100000 in
theorem kL_read_X3 (l : Launch) (hst : l.stackTraces = false) (G : wG) (σ : cS) (μ : mS) (o : Nat → Int64) (i : Nat) (j : Nat) (x : Int32) (w : Int32) (MS : mS) (MR : Int32) (hi : i < 3) (hj : j < 3) (hx : wi x (nI 15) = false) (hpost : LQ G μ MS MR (nI 1) (σ, μ, o)) : Met l yL_read wsL_read rmL (wPc G σ μ o [.ref (gA G 0), .int (nI i), .int (nI j), .int (x), .int (w), .ref (gA G 53)]) (QLP G μ MS MR) 4 34 (gP G) := by
  refine m_ofWH (hh := [(0, 14, 17, 13), (0, 14, 21, 15), (0, 14, 25, 31)]) (cc := cL_read) (maxL := 7) (ret := (some .int)) (by decide) rfl ?_
  intro p e s m args below meth c s₁ B hml htab hv
  obtain ⟨hargs, hI⟩ := hv
  have S : CallFix p m c cL_read 7 s args wsL_read RL := ⟨B.exec, B.bytes, hml, findClass_of_methodNamed B.named, atoms_spec (ws := wsL_read) B.pre⟩
  have hret := B.returns
  have hlocks := B.notSynchronized
  have Z := wZ_0 hI
  clear hI
  obtain ⟨Q, hQ⟩ : ∃ Q, Q = MQ below (QLP G μ MS MR) args s 4 34 (gP G) := ⟨_, rfl⟩
  rw [← hQ]
  have hl := lv_entry [.ref (gA G 0), .int (nI i), .int (nI j), .int (x), .int (w), .ref (gA G 53)] (n := 7) (Nat.le_of_ble_eq_true rfl)
  rw [show entryFrame m args 7 = entryFrame m ([.ref (gA G 0), .int (nI i), .int (nI j), .int (x), .int (w), .ref (gA G 53)] : List Value).toArray 7 from by rw [hargs], lg_entry_eq]
  generalize (lg_sl [.ref (gA G 0), .int (nI i), .int (nI j), .int (x), .int (w), .ref (gA G 53)] ++ List.replicate (7 - (lg_sl [.ref (gA G 0), .int (nI i), .int (nI j), .int (x), .int (w), .ref (gA G 53)]).length) Slot.unset).toArray = ls at hl ⊢
  have hl : lv_has ls 7 [(0, .ref (gA G 0)), (1, .int (nI i)), (2, .int (nI j)), (3, .int (x)), (4, .int (w)), (5, .ref (gA G 53))] := hl
  refine lv_aload S.1 S.2.1 dL_read_0 (lv_at hl 5 rfl) ?_
  refine lv_iconst (v := nI 0) S.1 S.2.1 dL_read_2 (by decide) ?_
  refine lv_aload_n S.1 S.2.1 dL_read_3 rfl (lv_at hl 0 rfl) ?_
  refine lv_iload_n S.1 S.2.1 dL_read_4 rfl (lv_at hl 1 rfl) ?_
  refine lv_iload_n S.1 S.2.1 dL_read_5 rfl (lv_at hl 2 rfl) ?_
  refine lv_iload_n S.1 S.2.1 dL_read_6 rfl (lv_at hl 3 rfl) ?_
  refine lv_iload S.1 S.2.1 dL_read_7 (lv_at hl 4 rfl) ?_
  refine x_call (vx_runV (As := [.int (nI i), .int (nI j), .int (x), .int (w)]) (rest := [.int (nI 0), .ref (gA G 53)]) S (k_X7_read_X3 l hst G σ μ o i j x w hi hj hx) (cwV 4 S.2.2.2.2 gL_read_X7_read rfl rfl rfl ⟨rfl, hy_X7_read⟩ ⟨Nat.le_of_ble_eq_true rfl, Nat.le_of_ble_eq_true rfl⟩) (wPc_V (q := (RX7, TX7, 7)) Z (by decide) rfl rfl) rfl rfl hl.1 rfl (lv_room (Nat.le_of_ble_eq_true rfl)) dL_read_9 ⟨Nat.le_of_ble_eq_true rfl, Nat.le_of_ble_eq_true rfl⟩) (fun _ _ _ h => h) Z (fun ce q9 H locs Z h1 h2 h3 => ?_)
  refine vx_catch (name := "java/lang/IndexOutOfBoundsException") S.2.2.2.1 [] ⟨0, 14, 17, 13⟩ [⟨0, 14, 21, 15⟩, ⟨0, 14, 25, 31⟩] (by rw [htab]; rfl) (fun z h => absurd h List.not_mem_nil) rfl (by decide) (S.2.2.2.2 _ m_L_read_c13) (ca_use Z n_caA) h1 h2 h3 ?_
  refine lv_astore (lv' := [(6, .ref (q9)), (0, .ref (gA G 0)), (1, .int (nI i)), (2, .int (nI j)), (3, .int (x)), (4, .int (w)), (5, .ref (gA G 53))]) S.1 S.2.1 dL_read_17 hl (by decide) rfl (fun ls hl => ?_)
  refine lv_iconst (v := nI 1) S.1 S.2.1 dL_read_19 (by decide) ?_
  refine W.widen (k := 4) (n := 34) (by decide) (by decide) ?_
  rw [hQ]
  exact W.iret (v := nI 1) S.1 S.2.1 hret (fun _ hT9 hW => ⟨⟨_, (σ, μ, o), rfl, hpost, wZ_I Z hT9 hW⟩, Z.2.2.2.2.F hT9⟩) Z.2.2.2.2.2.2 dL_read_20

set_option maxHeartbeats 4000000 in
set_option maxRecDepth 100000 in
theorem kL_read_X4 (l : Launch) (hst : l.stackTraces = false) (G : wG) (σ : cS) (μ : mS) (o : Nat → Int64) (i : Nat) (j : Nat) (row : Nat) (x : Int32) (MS : mS) (MR : Int32) (hi : i < 3) (hj : j < 3) (hrow : row < 16) (hx : wi x (nI 3) = false) (hpost : LQ G μ MS MR (nI 1) (σ, μ, o)) : Met l yL_read wsL_read rmL (wPc G σ μ o [.ref (gA G 0), .int (nI i), .int (nI j), .int (nI row), .int (x), .ref (gA G 53)]) (QLP G μ MS MR) 4 34 (gP G) := by
  refine m_ofWH (hh := [(0, 14, 17, 13), (0, 14, 21, 15), (0, 14, 25, 31)]) (cc := cL_read) (maxL := 7) (ret := (some .int)) (by decide) rfl ?_
  intro p e s m args below meth c s₁ B hml htab hv
  obtain ⟨hargs, hI⟩ := hv
  have S : CallFix p m c cL_read 7 s args wsL_read RL := ⟨B.exec, B.bytes, hml, findClass_of_methodNamed B.named, atoms_spec (ws := wsL_read) B.pre⟩
  have hret := B.returns
  have hlocks := B.notSynchronized
  have Z := wZ_0 hI
  clear hI
  obtain ⟨Q, hQ⟩ : ∃ Q, Q = MQ below (QLP G μ MS MR) args s 4 34 (gP G) := ⟨_, rfl⟩
  rw [← hQ]
  have hl := lv_entry [.ref (gA G 0), .int (nI i), .int (nI j), .int (nI row), .int (x), .ref (gA G 53)] (n := 7) (Nat.le_of_ble_eq_true rfl)
  rw [show entryFrame m args 7 = entryFrame m ([.ref (gA G 0), .int (nI i), .int (nI j), .int (nI row), .int (x), .ref (gA G 53)] : List Value).toArray 7 from by rw [hargs], lg_entry_eq]
  generalize (lg_sl [.ref (gA G 0), .int (nI i), .int (nI j), .int (nI row), .int (x), .ref (gA G 53)] ++ List.replicate (7 - (lg_sl [.ref (gA G 0), .int (nI i), .int (nI j), .int (nI row), .int (x), .ref (gA G 53)]).length) Slot.unset).toArray = ls at hl ⊢
  have hl : lv_has ls 7 [(0, .ref (gA G 0)), (1, .int (nI i)), (2, .int (nI j)), (3, .int (nI row)), (4, .int (x)), (5, .ref (gA G 53))] := hl
  refine lv_aload S.1 S.2.1 dL_read_0 (lv_at hl 5 rfl) ?_
  refine lv_iconst (v := nI 0) S.1 S.2.1 dL_read_2 (by decide) ?_
  refine lv_aload_n S.1 S.2.1 dL_read_3 rfl (lv_at hl 0 rfl) ?_
  refine lv_iload_n S.1 S.2.1 dL_read_4 rfl (lv_at hl 1 rfl) ?_
  refine lv_iload_n S.1 S.2.1 dL_read_5 rfl (lv_at hl 2 rfl) ?_
  refine lv_iload_n S.1 S.2.1 dL_read_6 rfl (lv_at hl 3 rfl) ?_
  refine lv_iload S.1 S.2.1 dL_read_7 (lv_at hl 4 rfl) ?_
  refine x_call (vx_runV (As := [.int (nI i), .int (nI j), .int (nI row), .int (x)]) (rest := [.int (nI 0), .ref (gA G 53)]) S (k_X7_read_X4 l hst G σ μ o i j row x hi hj hrow hx) (cwV 4 S.2.2.2.2 gL_read_X7_read rfl rfl rfl ⟨rfl, hy_X7_read⟩ ⟨Nat.le_of_ble_eq_true rfl, Nat.le_of_ble_eq_true rfl⟩) (wPc_V (q := (RX7, TX7, 7)) Z (by decide) rfl rfl) rfl rfl hl.1 rfl (lv_room (Nat.le_of_ble_eq_true rfl)) dL_read_9 ⟨Nat.le_of_ble_eq_true rfl, Nat.le_of_ble_eq_true rfl⟩) (fun _ _ _ h => h) Z (fun ce q9 H locs Z h1 h2 h3 => ?_)
  refine vx_catch (name := "java/lang/IndexOutOfBoundsException") S.2.2.2.1 [] ⟨0, 14, 17, 13⟩ [⟨0, 14, 21, 15⟩, ⟨0, 14, 25, 31⟩] (by rw [htab]; rfl) (fun z h => absurd h List.not_mem_nil) rfl (by decide) (S.2.2.2.2 _ m_L_read_c13) (ca_use Z n_caA) h1 h2 h3 ?_
  refine lv_astore (lv' := [(6, .ref (q9)), (0, .ref (gA G 0)), (1, .int (nI i)), (2, .int (nI j)), (3, .int (nI row)), (4, .int (x)), (5, .ref (gA G 53))]) S.1 S.2.1 dL_read_17 hl (by decide) rfl (fun ls hl => ?_)
  refine lv_iconst (v := nI 1) S.1 S.2.1 dL_read_19 (by decide) ?_
  refine W.widen (k := 4) (n := 34) (by decide) (by decide) ?_
  rw [hQ]
  exact W.iret (v := nI 1) S.1 S.2.1 hret (fun _ hT9 hW => ⟨⟨_, (σ, μ, o), rfl, hpost, wZ_I Z hT9 hW⟩, Z.2.2.2.2.F hT9⟩) Z.2.2.2.2.2.2 dL_read_20

theorem m_L_read_c15 : Cond.classLink RL 15 "java/lang/IllegalArgumentException" ∈ wsL_read := by decide +kernel
set_option maxHeartbeats 4000000 in
set_option maxRecDepth 100000 in
theorem kL_read_X5 (l : Launch) (hst : l.stackTraces = false) (G : wG) (σ : cS) (μ : mS) (o : Nat → Int64) (i : Nat) (j : Nat) (row : Nat) (col : Nat) (MS : mS) (MR : Int32) (hi : i < 3) (hj : j < 3) (hrow : row < 16) (hcol : col < 4) (hij : i = j) (hpost : LQ G μ MS MR (nI 2) (σ, μ, o)) : Met l yL_read wsL_read rmL (wPc G σ μ o [.ref (gA G 0), .int (nI i), .int (nI j), .int (nI row), .int (nI col), .ref (gA G 53)]) (QLP G μ MS MR) 4 34 (gP G) := by
  refine m_ofWH (hh := [(0, 14, 17, 13), (0, 14, 21, 15), (0, 14, 25, 31)]) (cc := cL_read) (maxL := 7) (ret := (some .int)) (by decide) rfl ?_
  intro p e s m args below meth c s₁ B hml htab hv
  obtain ⟨hargs, hI⟩ := hv
  have S : CallFix p m c cL_read 7 s args wsL_read RL := ⟨B.exec, B.bytes, hml, findClass_of_methodNamed B.named, atoms_spec (ws := wsL_read) B.pre⟩
  have hret := B.returns
  have hlocks := B.notSynchronized
  have Z := wZ_0 hI
  clear hI
  obtain ⟨Q, hQ⟩ : ∃ Q, Q = MQ below (QLP G μ MS MR) args s 4 34 (gP G) := ⟨_, rfl⟩
  rw [← hQ]
  have hl := lv_entry [.ref (gA G 0), .int (nI i), .int (nI j), .int (nI row), .int (nI col), .ref (gA G 53)] (n := 7) (Nat.le_of_ble_eq_true rfl)
  rw [show entryFrame m args 7 = entryFrame m ([.ref (gA G 0), .int (nI i), .int (nI j), .int (nI row), .int (nI col), .ref (gA G 53)] : List Value).toArray 7 from by rw [hargs], lg_entry_eq]
  generalize (lg_sl [.ref (gA G 0), .int (nI i), .int (nI j), .int (nI row), .int (nI col), .ref (gA G 53)] ++ List.replicate (7 - (lg_sl [.ref (gA G 0), .int (nI i), .int (nI j), .int (nI row), .int (nI col), .ref (gA G 53)]).length) Slot.unset).toArray = ls at hl ⊢
  have hl : lv_has ls 7 [(0, .ref (gA G 0)), (1, .int (nI i)), (2, .int (nI j)), (3, .int (nI row)), (4, .int (nI col)), (5, .ref (gA G 53))] := hl
  refine lv_aload S.1 S.2.1 dL_read_0 (lv_at hl 5 rfl) ?_
  refine lv_iconst (v := nI 0) S.1 S.2.1 dL_read_2 (by decide) ?_
  refine lv_aload_n S.1 S.2.1 dL_read_3 rfl (lv_at hl 0 rfl) ?_
  refine lv_iload_n S.1 S.2.1 dL_read_4 rfl (lv_at hl 1 rfl) ?_
  refine lv_iload_n S.1 S.2.1 dL_read_5 rfl (lv_at hl 2 rfl) ?_
  refine lv_iload_n S.1 S.2.1 dL_read_6 rfl (lv_at hl 3 rfl) ?_
  refine lv_iload S.1 S.2.1 dL_read_7 (lv_at hl 4 rfl) ?_
  refine x_call (vx_runV (As := [.int (nI i), .int (nI j), .int (nI row), .int (nI col)]) (rest := [.int (nI 0), .ref (gA G 53)]) S (k_X7_read_X5 l hst G σ μ o i j row col hi hj hrow hcol hij) (cwV 4 S.2.2.2.2 gL_read_X7_read rfl rfl rfl ⟨rfl, hy_X7_read⟩ ⟨Nat.le_of_ble_eq_true rfl, Nat.le_of_ble_eq_true rfl⟩) (wPc_V (q := (RX7, TX7, 7)) Z (by decide) rfl rfl) rfl rfl hl.1 rfl (lv_room (Nat.le_of_ble_eq_true rfl)) dL_read_9 ⟨Nat.le_of_ble_eq_true rfl, Nat.le_of_ble_eq_true rfl⟩) (fun _ _ _ h => h) Z (fun ce q9 H locs Z h1 h2 h3 => ?_)
  refine vx_catch (name := "java/lang/IllegalArgumentException") S.2.2.2.1 [⟨0, 14, 17, 13⟩] ⟨0, 14, 21, 15⟩ [⟨0, 14, 25, 31⟩] (by rw [htab]; rfl) (pass_1 (by decide) (S.2.2.2.2 _ m_L_read_c13) (nc_BA Z)) rfl (by decide) (S.2.2.2.2 _ m_L_read_c15) (ca_use Z n_caB) h1 h2 h3 ?_
  refine lv_astore (lv' := [(6, .ref (q9)), (0, .ref (gA G 0)), (1, .int (nI i)), (2, .int (nI j)), (3, .int (nI row)), (4, .int (nI col)), (5, .ref (gA G 53))]) S.1 S.2.1 dL_read_21 hl (by decide) rfl (fun ls hl => ?_)
  refine lv_iconst (v := nI 2) S.1 S.2.1 dL_read_23 (by decide) ?_
  refine W.widen (k := 4) (n := 34) (by decide) (by decide) ?_
  rw [hQ]
  exact W.iret (v := nI 2) S.1 S.2.1 hret (fun _ hT9 hW => ⟨⟨_, (σ, μ, o), rfl, hpost, wZ_I Z hT9 hW⟩, Z.2.2.2.2.F hT9⟩) Z.2.2.2.2.2.2 dL_read_24

theorem m_L_read_c31 : Cond.classLink RL 31 "java/lang/IllegalStateException" ∈ wsL_read := by decide +kernel
set_option maxHeartbeats 4000000 in
set_option maxRecDepth 100000 in
theorem kL_read_X6 (l : Launch) (hst : l.stackTraces = false) (G : wG) (σ : cS) (μ : mS) (o : Nat → Int64) (i : Nat) (j : Nat) (row : Nat) (col : Nat) (MS : mS) (MR : Int32) (hi : i < 3) (hj : j < 3) (hrow : row < 16) (hcol : col < 4) (hij : i ≠ j) (hui : cU σ i = false) (hpost : LQ G μ MS MR (nI 3) (σ, μ, o)) : Met l yL_read wsL_read rmL (wPc G σ μ o [.ref (gA G 0), .int (nI i), .int (nI j), .int (nI row), .int (nI col), .ref (gA G 53)]) (QLP G μ MS MR) 4 34 (gP G) := by
  refine m_ofWH (hh := [(0, 14, 17, 13), (0, 14, 21, 15), (0, 14, 25, 31)]) (cc := cL_read) (maxL := 7) (ret := (some .int)) (by decide) rfl ?_
  intro p e s m args below meth c s₁ B hml htab hv
  obtain ⟨hargs, hI⟩ := hv
  have S : CallFix p m c cL_read 7 s args wsL_read RL := ⟨B.exec, B.bytes, hml, findClass_of_methodNamed B.named, atoms_spec (ws := wsL_read) B.pre⟩
  have hret := B.returns
  have hlocks := B.notSynchronized
  have Z := wZ_0 hI
  clear hI
  obtain ⟨Q, hQ⟩ : ∃ Q, Q = MQ below (QLP G μ MS MR) args s 4 34 (gP G) := ⟨_, rfl⟩
  rw [← hQ]
  have hl := lv_entry [.ref (gA G 0), .int (nI i), .int (nI j), .int (nI row), .int (nI col), .ref (gA G 53)] (n := 7) (Nat.le_of_ble_eq_true rfl)
  rw [show entryFrame m args 7 = entryFrame m ([.ref (gA G 0), .int (nI i), .int (nI j), .int (nI row), .int (nI col), .ref (gA G 53)] : List Value).toArray 7 from by rw [hargs], lg_entry_eq]
  generalize (lg_sl [.ref (gA G 0), .int (nI i), .int (nI j), .int (nI row), .int (nI col), .ref (gA G 53)] ++ List.replicate (7 - (lg_sl [.ref (gA G 0), .int (nI i), .int (nI j), .int (nI row), .int (nI col), .ref (gA G 53)]).length) Slot.unset).toArray = ls at hl ⊢
  have hl : lv_has ls 7 [(0, .ref (gA G 0)), (1, .int (nI i)), (2, .int (nI j)), (3, .int (nI row)), (4, .int (nI col)), (5, .ref (gA G 53))] := hl
  refine lv_aload S.1 S.2.1 dL_read_0 (lv_at hl 5 rfl) ?_
  refine lv_iconst (v := nI 0) S.1 S.2.1 dL_read_2 (by decide) ?_
  refine lv_aload_n S.1 S.2.1 dL_read_3 rfl (lv_at hl 0 rfl) ?_
  refine lv_iload_n S.1 S.2.1 dL_read_4 rfl (lv_at hl 1 rfl) ?_
  refine lv_iload_n S.1 S.2.1 dL_read_5 rfl (lv_at hl 2 rfl) ?_
  refine lv_iload_n S.1 S.2.1 dL_read_6 rfl (lv_at hl 3 rfl) ?_
  refine lv_iload S.1 S.2.1 dL_read_7 (lv_at hl 4 rfl) ?_
  refine x_call (vx_runV (As := [.int (nI i), .int (nI j), .int (nI row), .int (nI col)]) (rest := [.int (nI 0), .ref (gA G 53)]) S (k_X7_read_X6 l hst G σ μ o i j row col hi hj hrow hcol hij hui) (cwV 4 S.2.2.2.2 gL_read_X7_read rfl rfl rfl ⟨rfl, hy_X7_read⟩ ⟨Nat.le_of_ble_eq_true rfl, Nat.le_of_ble_eq_true rfl⟩) (wPc_V (q := (RX7, TX7, 7)) Z (by decide) rfl rfl) rfl rfl hl.1 rfl (lv_room (Nat.le_of_ble_eq_true rfl)) dL_read_9 ⟨Nat.le_of_ble_eq_true rfl, Nat.le_of_ble_eq_true rfl⟩) (fun _ _ _ h => h) Z (fun ce q9 H locs Z h1 h2 h3 => ?_)
  refine vx_catch (name := "java/lang/IllegalStateException") S.2.2.2.1 [⟨0, 14, 17, 13⟩, ⟨0, 14, 21, 15⟩] ⟨0, 14, 25, 31⟩ [] (by rw [htab]; rfl) (pass_2 (by decide) (S.2.2.2.2 _ m_L_read_c13) (nc_CA Z) (by decide) (S.2.2.2.2 _ m_L_read_c15) (nc_CB Z)) rfl (by decide) (S.2.2.2.2 _ m_L_read_c31) (ca_use Z n_caC) h1 h2 h3 ?_
  refine lv_astore (lv' := [(6, .ref (q9)), (0, .ref (gA G 0)), (1, .int (nI i)), (2, .int (nI j)), (3, .int (nI row)), (4, .int (nI col)), (5, .ref (gA G 53))]) S.1 S.2.1 dL_read_25 hl (by decide) rfl (fun ls hl => ?_)
  refine lv_iconst (v := nI 3) S.1 S.2.1 dL_read_27 (by decide) ?_
  refine W.widen (k := 4) (n := 34) (by decide) (by decide) ?_
  rw [hQ]
  exact W.iret (v := nI 3) S.1 S.2.1 hret (fun _ hT9 hW => ⟨⟨_, (σ, μ, o), rfl, hpost, wZ_I Z hT9 hW⟩, Z.2.2.2.2.F hT9⟩) Z.2.2.2.2.2.2 dL_read_28

set_option maxHeartbeats 4000000 in
set_option maxRecDepth 100000 in
theorem kL_read_X7 (l : Launch) (hst : l.stackTraces = false) (G : wG) (σ : cS) (μ : mS) (o : Nat → Int64) (i : Nat) (j : Nat) (row : Nat) (col : Nat) (MS : mS) (MR : Int32) (hi : i < 3) (hj : j < 3) (hrow : row < 16) (hcol : col < 4) (hij : i ≠ j) (hui : cU σ i = true) (huj : cU σ j = false) (hpost : LQ G μ MS MR (nI 3) (σ, μ, o)) : Met l yL_read wsL_read rmL (wPc G σ μ o [.ref (gA G 0), .int (nI i), .int (nI j), .int (nI row), .int (nI col), .ref (gA G 53)]) (QLP G μ MS MR) 4 34 (gP G) := by
  refine m_ofWH (hh := [(0, 14, 17, 13), (0, 14, 21, 15), (0, 14, 25, 31)]) (cc := cL_read) (maxL := 7) (ret := (some .int)) (by decide) rfl ?_
  intro p e s m args below meth c s₁ B hml htab hv
  obtain ⟨hargs, hI⟩ := hv
  have S : CallFix p m c cL_read 7 s args wsL_read RL := ⟨B.exec, B.bytes, hml, findClass_of_methodNamed B.named, atoms_spec (ws := wsL_read) B.pre⟩
  have hret := B.returns
  have hlocks := B.notSynchronized
  have Z := wZ_0 hI
  clear hI
  obtain ⟨Q, hQ⟩ : ∃ Q, Q = MQ below (QLP G μ MS MR) args s 4 34 (gP G) := ⟨_, rfl⟩
  rw [← hQ]
  have hl := lv_entry [.ref (gA G 0), .int (nI i), .int (nI j), .int (nI row), .int (nI col), .ref (gA G 53)] (n := 7) (Nat.le_of_ble_eq_true rfl)
  rw [show entryFrame m args 7 = entryFrame m ([.ref (gA G 0), .int (nI i), .int (nI j), .int (nI row), .int (nI col), .ref (gA G 53)] : List Value).toArray 7 from by rw [hargs], lg_entry_eq]
  generalize (lg_sl [.ref (gA G 0), .int (nI i), .int (nI j), .int (nI row), .int (nI col), .ref (gA G 53)] ++ List.replicate (7 - (lg_sl [.ref (gA G 0), .int (nI i), .int (nI j), .int (nI row), .int (nI col), .ref (gA G 53)]).length) Slot.unset).toArray = ls at hl ⊢
  have hl : lv_has ls 7 [(0, .ref (gA G 0)), (1, .int (nI i)), (2, .int (nI j)), (3, .int (nI row)), (4, .int (nI col)), (5, .ref (gA G 53))] := hl
  refine lv_aload S.1 S.2.1 dL_read_0 (lv_at hl 5 rfl) ?_
  refine lv_iconst (v := nI 0) S.1 S.2.1 dL_read_2 (by decide) ?_
  refine lv_aload_n S.1 S.2.1 dL_read_3 rfl (lv_at hl 0 rfl) ?_
  refine lv_iload_n S.1 S.2.1 dL_read_4 rfl (lv_at hl 1 rfl) ?_
  refine lv_iload_n S.1 S.2.1 dL_read_5 rfl (lv_at hl 2 rfl) ?_
  refine lv_iload_n S.1 S.2.1 dL_read_6 rfl (lv_at hl 3 rfl) ?_
  refine lv_iload S.1 S.2.1 dL_read_7 (lv_at hl 4 rfl) ?_
  refine x_call (vx_runV (As := [.int (nI i), .int (nI j), .int (nI row), .int (nI col)]) (rest := [.int (nI 0), .ref (gA G 53)]) S (k_X7_read_X7 l hst G σ μ o i j row col hi hj hrow hcol hij hui huj) (cwV 4 S.2.2.2.2 gL_read_X7_read rfl rfl rfl ⟨rfl, hy_X7_read⟩ ⟨Nat.le_of_ble_eq_true rfl, Nat.le_of_ble_eq_true rfl⟩) (wPc_V (q := (RX7, TX7, 7)) Z (by decide) rfl rfl) rfl rfl hl.1 rfl (lv_room (Nat.le_of_ble_eq_true rfl)) dL_read_9 ⟨Nat.le_of_ble_eq_true rfl, Nat.le_of_ble_eq_true rfl⟩) (fun _ _ _ h => h) Z (fun ce q9 H locs Z h1 h2 h3 => ?_)
  refine vx_catch (name := "java/lang/IllegalStateException") S.2.2.2.1 [⟨0, 14, 17, 13⟩, ⟨0, 14, 21, 15⟩] ⟨0, 14, 25, 31⟩ [] (by rw [htab]; rfl) (pass_2 (by decide) (S.2.2.2.2 _ m_L_read_c13) (nc_CA Z) (by decide) (S.2.2.2.2 _ m_L_read_c15) (nc_CB Z)) rfl (by decide) (S.2.2.2.2 _ m_L_read_c31) (ca_use Z n_caC) h1 h2 h3 ?_
  refine lv_astore (lv' := [(6, .ref (q9)), (0, .ref (gA G 0)), (1, .int (nI i)), (2, .int (nI j)), (3, .int (nI row)), (4, .int (nI col)), (5, .ref (gA G 53))]) S.1 S.2.1 dL_read_25 hl (by decide) rfl (fun ls hl => ?_)
  refine lv_iconst (v := nI 3) S.1 S.2.1 dL_read_27 (by decide) ?_
  refine W.widen (k := 4) (n := 34) (by decide) (by decide) ?_
  rw [hQ]
  exact W.iret (v := nI 3) S.1 S.2.1 hret (fun _ hT9 hW => ⟨⟨_, (σ, μ, o), rfl, hpost, wZ_I Z hT9 hW⟩, Z.2.2.2.2.F hT9⟩) Z.2.2.2.2.2.2 dL_read_28

set_option maxHeartbeats 4000000 in
set_option maxRecDepth 100000 in
theorem kL_makeAlike (l : Launch) (hst : l.stackTraces = false) (G : wG) (σ : cS) (μ : mS) (o : Nat → Int64) (i : Nat) (j : Nat) (MS : mS) (MR : Int32) (hi : i < 3) (hj : j < 3) (hij : i ≠ j) (hui : cU σ i = true) (huj : cU σ j = true) (hpost : LQ G μ MS MR (nI 0) (makR (cmp σ i j) i j (urn (cmp σ i j) 16) 16, μ, vp_updL o 0 (bitc (urn (cmp σ i j) 16)).toInt64)) : Met l yL_makeAlike wsL_makeAlike rmL (wPc G σ μ o [.ref (gA G 0), .int (nI i), .int (nI j), .ref (gA G 53)]) (QLP G μ MS MR) 4 34 (gP G) := by
  refine m_ofWH (hh := [(0, 10, 13, 13), (0, 10, 17, 15), (0, 10, 21, 31)]) (cc := cL_makeAlike) (maxL := 5) (ret := (some .int)) (by decide) rfl ?_
  intro p e s m args below meth c s₁ B hml htab hv
  obtain ⟨hargs, hI⟩ := hv
  have S : CallFix p m c cL_makeAlike 5 s args wsL_makeAlike RL := ⟨B.exec, B.bytes, hml, findClass_of_methodNamed B.named, atoms_spec (ws := wsL_makeAlike) B.pre⟩
  have hret := B.returns
  have hlocks := B.notSynchronized
  have Z := wZ_0 hI
  clear hI
  obtain ⟨Q, hQ⟩ : ∃ Q, Q = MQ below (QLP G μ MS MR) args s 4 34 (gP G) := ⟨_, rfl⟩
  rw [← hQ]
  have hl := lv_entry [.ref (gA G 0), .int (nI i), .int (nI j), .ref (gA G 53)] (n := 5) (Nat.le_of_ble_eq_true rfl)
  rw [show entryFrame m args 5 = entryFrame m ([.ref (gA G 0), .int (nI i), .int (nI j), .ref (gA G 53)] : List Value).toArray 5 from by rw [hargs], lg_entry_eq]
  generalize (lg_sl [.ref (gA G 0), .int (nI i), .int (nI j), .ref (gA G 53)] ++ List.replicate (5 - (lg_sl [.ref (gA G 0), .int (nI i), .int (nI j), .ref (gA G 53)]).length) Slot.unset).toArray = ls at hl ⊢
  have hl : lv_has ls 5 [(0, .ref (gA G 0)), (1, .int (nI i)), (2, .int (nI j)), (3, .ref (gA G 53))] := hl
  refine lv_aload_n S.1 S.2.1 dL_makeAlike_0 rfl (lv_at hl 3 rfl) ?_
  refine lv_iconst (v := nI 0) S.1 S.2.1 dL_makeAlike_1 (by decide) ?_
  refine lv_aload_n S.1 S.2.1 dL_makeAlike_2 rfl (lv_at hl 0 rfl) ?_
  refine lv_iload_n S.1 S.2.1 dL_makeAlike_3 rfl (lv_at hl 1 rfl) ?_
  refine lv_iload_n S.1 S.2.1 dL_makeAlike_4 rfl (lv_at hl 2 rfl) ?_
  refine va_calli (va_runV (As := [.int (nI i), .int (nI j)]) (rest := [.int (nI 0), .ref (gA G 53)]) S (k_X7_makeAlike l G σ μ o i j hi hj hij hui huj) (cwV 2 S.2.2.2.2 gL_makeAlike_X7_makeAlike rfl rfl rfl ⟨rfl, hy_X7_makeAlike⟩ ⟨Nat.le_of_ble_eq_true rfl, Nat.le_of_ble_eq_true rfl⟩) (wPc_V (q := (RX7, TX7, 7)) Z (by decide) rfl rfl) rfl rfl hl.1 rfl (lv_room (Nat.le_of_ble_eq_true rfl)) dL_makeAlike_5 ⟨Nat.le_of_ble_eq_true rfl, Nat.le_of_ble_eq_true rfl⟩) Z.2.2.2.2 (fun _ _ h => h) (fun _ h => h) (fun r_1 u_2 T9 H1 locs1 hT9 hvm hw hB hz hk9 hS => ?_)
  obtain ⟨hr9, rfl⟩ := hw
  rw [hr9]; clear hr9 r_1
  have Z : wZ G (makR (cmp σ i j) i j (urn (cmp σ i j) 16) 16) (μ) o s H1 locs1 := wZ_callP Z hB hT9 hS
  clear hB hT9 hS hk9 hz hvm T9
  revert Z; generalize H1 = H; generalize locs1 = locs; intro Z
  refine W.widen (k := 0) (n := 0) (by first | decide | omega) (by first | decide | omega) ?_
  refine lv_i2l (v := (bitc (urn (cmp σ i j) 16)).toInt64) S.1 S.2.1 dL_makeAlike_8 rfl ?_
  refine r_last S Z dL_makeAlike_9 (fun H locs Z => ?_)
  refine lv_goto (tgt := 25) S.1 S.2.1 dL_makeAlike_10 (by decide) ?_
  refine lv_iconst (v := nI 0) S.1 S.2.1 dL_makeAlike_25 (by decide) ?_
  refine W.widen (k := 4) (n := 34) (by decide) (by decide) ?_
  rw [hQ]
  exact W.iret (v := nI 0) S.1 S.2.1 hret (fun _ hT9 hW => ⟨⟨_, (makR (cmp σ i j) i j (urn (cmp σ i j) 16) 16, μ, vp_updL o 0 ((bitc (urn (cmp σ i j) 16)).toInt64)), rfl, hpost, wZ_I Z hT9 hW⟩, Z.2.2.2.2.F hT9⟩) Z.2.2.2.2.2.2 dL_makeAlike_26

theorem m_L_makeAlike_c13 : Cond.classLink RL 13 "java/lang/IndexOutOfBoundsException" ∈ wsL_makeAlike := by decide +kernel
set_option maxHeartbeats 4000000 in
set_option maxRecDepth 100000 in
theorem kL_makeAlike_X1 (l : Launch) (hst : l.stackTraces = false) (G : wG) (σ : cS) (μ : mS) (o : Nat → Int64) (x : Int32) (y : Int32) (MS : mS) (MR : Int32) (hx : wi x (nI 2) = false) (hpost : LQ G μ MS MR (nI 1) (σ, μ, o)) : Met l yL_makeAlike wsL_makeAlike rmL (wPc G σ μ o [.ref (gA G 0), .int (x), .int (y), .ref (gA G 53)]) (QLP G μ MS MR) 4 34 (gP G) := by
  refine m_ofWH (hh := [(0, 10, 13, 13), (0, 10, 17, 15), (0, 10, 21, 31)]) (cc := cL_makeAlike) (maxL := 5) (ret := (some .int)) (by decide) rfl ?_
  intro p e s m args below meth c s₁ B hml htab hv
  obtain ⟨hargs, hI⟩ := hv
  have S : CallFix p m c cL_makeAlike 5 s args wsL_makeAlike RL := ⟨B.exec, B.bytes, hml, findClass_of_methodNamed B.named, atoms_spec (ws := wsL_makeAlike) B.pre⟩
  have hret := B.returns
  have hlocks := B.notSynchronized
  have Z := wZ_0 hI
  clear hI
  obtain ⟨Q, hQ⟩ : ∃ Q, Q = MQ below (QLP G μ MS MR) args s 4 34 (gP G) := ⟨_, rfl⟩
  rw [← hQ]
  have hl := lv_entry [.ref (gA G 0), .int (x), .int (y), .ref (gA G 53)] (n := 5) (Nat.le_of_ble_eq_true rfl)
  rw [show entryFrame m args 5 = entryFrame m ([.ref (gA G 0), .int (x), .int (y), .ref (gA G 53)] : List Value).toArray 5 from by rw [hargs], lg_entry_eq]
  generalize (lg_sl [.ref (gA G 0), .int (x), .int (y), .ref (gA G 53)] ++ List.replicate (5 - (lg_sl [.ref (gA G 0), .int (x), .int (y), .ref (gA G 53)]).length) Slot.unset).toArray = ls at hl ⊢
  have hl : lv_has ls 5 [(0, .ref (gA G 0)), (1, .int (x)), (2, .int (y)), (3, .ref (gA G 53))] := hl
  refine lv_aload_n S.1 S.2.1 dL_makeAlike_0 rfl (lv_at hl 3 rfl) ?_
  refine lv_iconst (v := nI 0) S.1 S.2.1 dL_makeAlike_1 (by decide) ?_
  refine lv_aload_n S.1 S.2.1 dL_makeAlike_2 rfl (lv_at hl 0 rfl) ?_
  refine lv_iload_n S.1 S.2.1 dL_makeAlike_3 rfl (lv_at hl 1 rfl) ?_
  refine lv_iload_n S.1 S.2.1 dL_makeAlike_4 rfl (lv_at hl 2 rfl) ?_
  refine x_call (vx_runV (As := [.int (x), .int (y)]) (rest := [.int (nI 0), .ref (gA G 53)]) S (k_X7_makeAlike_X1 l hst G σ μ o x y hx) (cwV 2 S.2.2.2.2 gL_makeAlike_X7_makeAlike rfl rfl rfl ⟨rfl, hy_X7_makeAlike⟩ ⟨Nat.le_of_ble_eq_true rfl, Nat.le_of_ble_eq_true rfl⟩) (wPc_V (q := (RX7, TX7, 7)) Z (by decide) rfl rfl) rfl rfl hl.1 rfl (lv_room (Nat.le_of_ble_eq_true rfl)) dL_makeAlike_5 ⟨Nat.le_of_ble_eq_true rfl, Nat.le_of_ble_eq_true rfl⟩) (fun _ _ _ h => h) Z (fun ce q9 H locs Z h1 h2 h3 => ?_)
  refine vx_catch (name := "java/lang/IndexOutOfBoundsException") S.2.2.2.1 [] ⟨0, 10, 13, 13⟩ [⟨0, 10, 17, 15⟩, ⟨0, 10, 21, 31⟩] (by rw [htab]; rfl) (fun z h => absurd h List.not_mem_nil) rfl (by decide) (S.2.2.2.2 _ m_L_makeAlike_c13) (ca_use Z n_caA) h1 h2 h3 ?_
  refine lv_astore (lv' := [(4, .ref (q9)), (0, .ref (gA G 0)), (1, .int (x)), (2, .int (y)), (3, .ref (gA G 53))]) S.1 S.2.1 dL_makeAlike_13 hl (by decide) rfl (fun ls hl => ?_)
  refine lv_iconst (v := nI 1) S.1 S.2.1 dL_makeAlike_15 (by decide) ?_
  refine W.widen (k := 4) (n := 34) (by decide) (by decide) ?_
  rw [hQ]
  exact W.iret (v := nI 1) S.1 S.2.1 hret (fun _ hT9 hW => ⟨⟨_, (σ, μ, o), rfl, hpost, wZ_I Z hT9 hW⟩, Z.2.2.2.2.F hT9⟩) Z.2.2.2.2.2.2 dL_makeAlike_16

set_option maxHeartbeats 4000000 in
set_option maxRecDepth 100000 in
theorem kL_makeAlike_X2 (l : Launch) (hst : l.stackTraces = false) (G : wG) (σ : cS) (μ : mS) (o : Nat → Int64) (i : Nat) (x : Int32) (MS : mS) (MR : Int32) (hi : i < 3) (hx : wi x (nI 2) = false) (hpost : LQ G μ MS MR (nI 1) (σ, μ, o)) : Met l yL_makeAlike wsL_makeAlike rmL (wPc G σ μ o [.ref (gA G 0), .int (nI i), .int (x), .ref (gA G 53)]) (QLP G μ MS MR) 4 34 (gP G) := by
  refine m_ofWH (hh := [(0, 10, 13, 13), (0, 10, 17, 15), (0, 10, 21, 31)]) (cc := cL_makeAlike) (maxL := 5) (ret := (some .int)) (by decide) rfl ?_
  intro p e s m args below meth c s₁ B hml htab hv
  obtain ⟨hargs, hI⟩ := hv
  have S : CallFix p m c cL_makeAlike 5 s args wsL_makeAlike RL := ⟨B.exec, B.bytes, hml, findClass_of_methodNamed B.named, atoms_spec (ws := wsL_makeAlike) B.pre⟩
  have hret := B.returns
  have hlocks := B.notSynchronized
  have Z := wZ_0 hI
  clear hI
  obtain ⟨Q, hQ⟩ : ∃ Q, Q = MQ below (QLP G μ MS MR) args s 4 34 (gP G) := ⟨_, rfl⟩
  rw [← hQ]
  have hl := lv_entry [.ref (gA G 0), .int (nI i), .int (x), .ref (gA G 53)] (n := 5) (Nat.le_of_ble_eq_true rfl)
  rw [show entryFrame m args 5 = entryFrame m ([.ref (gA G 0), .int (nI i), .int (x), .ref (gA G 53)] : List Value).toArray 5 from by rw [hargs], lg_entry_eq]
  generalize (lg_sl [.ref (gA G 0), .int (nI i), .int (x), .ref (gA G 53)] ++ List.replicate (5 - (lg_sl [.ref (gA G 0), .int (nI i), .int (x), .ref (gA G 53)]).length) Slot.unset).toArray = ls at hl ⊢
  have hl : lv_has ls 5 [(0, .ref (gA G 0)), (1, .int (nI i)), (2, .int (x)), (3, .ref (gA G 53))] := hl
  refine lv_aload_n S.1 S.2.1 dL_makeAlike_0 rfl (lv_at hl 3 rfl) ?_
  refine lv_iconst (v := nI 0) S.1 S.2.1 dL_makeAlike_1 (by decide) ?_
  refine lv_aload_n S.1 S.2.1 dL_makeAlike_2 rfl (lv_at hl 0 rfl) ?_
  refine lv_iload_n S.1 S.2.1 dL_makeAlike_3 rfl (lv_at hl 1 rfl) ?_
  refine lv_iload_n S.1 S.2.1 dL_makeAlike_4 rfl (lv_at hl 2 rfl) ?_
  refine x_call (vx_runV (As := [.int (nI i), .int (x)]) (rest := [.int (nI 0), .ref (gA G 53)]) S (k_X7_makeAlike_X2 l hst G σ μ o i x hi hx) (cwV 2 S.2.2.2.2 gL_makeAlike_X7_makeAlike rfl rfl rfl ⟨rfl, hy_X7_makeAlike⟩ ⟨Nat.le_of_ble_eq_true rfl, Nat.le_of_ble_eq_true rfl⟩) (wPc_V (q := (RX7, TX7, 7)) Z (by decide) rfl rfl) rfl rfl hl.1 rfl (lv_room (Nat.le_of_ble_eq_true rfl)) dL_makeAlike_5 ⟨Nat.le_of_ble_eq_true rfl, Nat.le_of_ble_eq_true rfl⟩) (fun _ _ _ h => h) Z (fun ce q9 H locs Z h1 h2 h3 => ?_)
  refine vx_catch (name := "java/lang/IndexOutOfBoundsException") S.2.2.2.1 [] ⟨0, 10, 13, 13⟩ [⟨0, 10, 17, 15⟩, ⟨0, 10, 21, 31⟩] (by rw [htab]; rfl) (fun z h => absurd h List.not_mem_nil) rfl (by decide) (S.2.2.2.2 _ m_L_makeAlike_c13) (ca_use Z n_caA) h1 h2 h3 ?_
  refine lv_astore (lv' := [(4, .ref (q9)), (0, .ref (gA G 0)), (1, .int (nI i)), (2, .int (x)), (3, .ref (gA G 53))]) S.1 S.2.1 dL_makeAlike_13 hl (by decide) rfl (fun ls hl => ?_)
  refine lv_iconst (v := nI 1) S.1 S.2.1 dL_makeAlike_15 (by decide) ?_
  refine W.widen (k := 4) (n := 34) (by decide) (by decide) ?_
  rw [hQ]
  exact W.iret (v := nI 1) S.1 S.2.1 hret (fun _ hT9 hW => ⟨⟨_, (σ, μ, o), rfl, hpost, wZ_I Z hT9 hW⟩, Z.2.2.2.2.F hT9⟩) Z.2.2.2.2.2.2 dL_makeAlike_16

theorem m_L_makeAlike_c15 : Cond.classLink RL 15 "java/lang/IllegalArgumentException" ∈ wsL_makeAlike := by decide +kernel
set_option maxHeartbeats 4000000 in
set_option maxRecDepth 100000 in
theorem kL_makeAlike_X3 (l : Launch) (hst : l.stackTraces = false) (G : wG) (σ : cS) (μ : mS) (o : Nat → Int64) (i : Nat) (j : Nat) (MS : mS) (MR : Int32) (hi : i < 3) (hj : j < 3) (hij : i = j) (hpost : LQ G μ MS MR (nI 2) (σ, μ, o)) : Met l yL_makeAlike wsL_makeAlike rmL (wPc G σ μ o [.ref (gA G 0), .int (nI i), .int (nI j), .ref (gA G 53)]) (QLP G μ MS MR) 4 34 (gP G) := by
  refine m_ofWH (hh := [(0, 10, 13, 13), (0, 10, 17, 15), (0, 10, 21, 31)]) (cc := cL_makeAlike) (maxL := 5) (ret := (some .int)) (by decide) rfl ?_
  intro p e s m args below meth c s₁ B hml htab hv
  obtain ⟨hargs, hI⟩ := hv
  have S : CallFix p m c cL_makeAlike 5 s args wsL_makeAlike RL := ⟨B.exec, B.bytes, hml, findClass_of_methodNamed B.named, atoms_spec (ws := wsL_makeAlike) B.pre⟩
  have hret := B.returns
  have hlocks := B.notSynchronized
  have Z := wZ_0 hI
  clear hI
  obtain ⟨Q, hQ⟩ : ∃ Q, Q = MQ below (QLP G μ MS MR) args s 4 34 (gP G) := ⟨_, rfl⟩
  rw [← hQ]
  have hl := lv_entry [.ref (gA G 0), .int (nI i), .int (nI j), .ref (gA G 53)] (n := 5) (Nat.le_of_ble_eq_true rfl)
  rw [show entryFrame m args 5 = entryFrame m ([.ref (gA G 0), .int (nI i), .int (nI j), .ref (gA G 53)] : List Value).toArray 5 from by rw [hargs], lg_entry_eq]
  generalize (lg_sl [.ref (gA G 0), .int (nI i), .int (nI j), .ref (gA G 53)] ++ List.replicate (5 - (lg_sl [.ref (gA G 0), .int (nI i), .int (nI j), .ref (gA G 53)]).length) Slot.unset).toArray = ls at hl ⊢
  have hl : lv_has ls 5 [(0, .ref (gA G 0)), (1, .int (nI i)), (2, .int (nI j)), (3, .ref (gA G 53))] := hl
  refine lv_aload_n S.1 S.2.1 dL_makeAlike_0 rfl (lv_at hl 3 rfl) ?_
  refine lv_iconst (v := nI 0) S.1 S.2.1 dL_makeAlike_1 (by decide) ?_
  refine lv_aload_n S.1 S.2.1 dL_makeAlike_2 rfl (lv_at hl 0 rfl) ?_
  refine lv_iload_n S.1 S.2.1 dL_makeAlike_3 rfl (lv_at hl 1 rfl) ?_
  refine lv_iload_n S.1 S.2.1 dL_makeAlike_4 rfl (lv_at hl 2 rfl) ?_
  refine x_call (vx_runV (As := [.int (nI i), .int (nI j)]) (rest := [.int (nI 0), .ref (gA G 53)]) S (k_X7_makeAlike_X3 l hst G σ μ o i j hi hj hij) (cwV 2 S.2.2.2.2 gL_makeAlike_X7_makeAlike rfl rfl rfl ⟨rfl, hy_X7_makeAlike⟩ ⟨Nat.le_of_ble_eq_true rfl, Nat.le_of_ble_eq_true rfl⟩) (wPc_V (q := (RX7, TX7, 7)) Z (by decide) rfl rfl) rfl rfl hl.1 rfl (lv_room (Nat.le_of_ble_eq_true rfl)) dL_makeAlike_5 ⟨Nat.le_of_ble_eq_true rfl, Nat.le_of_ble_eq_true rfl⟩) (fun _ _ _ h => h) Z (fun ce q9 H locs Z h1 h2 h3 => ?_)
  refine vx_catch (name := "java/lang/IllegalArgumentException") S.2.2.2.1 [⟨0, 10, 13, 13⟩] ⟨0, 10, 17, 15⟩ [⟨0, 10, 21, 31⟩] (by rw [htab]; rfl) (pass_1 (by decide) (S.2.2.2.2 _ m_L_makeAlike_c13) (nc_BA Z)) rfl (by decide) (S.2.2.2.2 _ m_L_makeAlike_c15) (ca_use Z n_caB) h1 h2 h3 ?_
  refine lv_astore (lv' := [(4, .ref (q9)), (0, .ref (gA G 0)), (1, .int (nI i)), (2, .int (nI j)), (3, .ref (gA G 53))]) S.1 S.2.1 dL_makeAlike_17 hl (by decide) rfl (fun ls hl => ?_)
  refine lv_iconst (v := nI 2) S.1 S.2.1 dL_makeAlike_19 (by decide) ?_
  refine W.widen (k := 4) (n := 34) (by decide) (by decide) ?_
  rw [hQ]
  exact W.iret (v := nI 2) S.1 S.2.1 hret (fun _ hT9 hW => ⟨⟨_, (σ, μ, o), rfl, hpost, wZ_I Z hT9 hW⟩, Z.2.2.2.2.F hT9⟩) Z.2.2.2.2.2.2 dL_makeAlike_20

theorem m_L_makeAlike_c31 : Cond.classLink RL 31 "java/lang/IllegalStateException" ∈ wsL_makeAlike := by decide +kernel
set_option maxHeartbeats 4000000 in
set_option maxRecDepth 100000 in
theorem kL_makeAlike_X4 (l : Launch) (hst : l.stackTraces = false) (G : wG) (σ : cS) (μ : mS) (o : Nat → Int64) (i : Nat) (j : Nat) (MS : mS) (MR : Int32) (hi : i < 3) (hj : j < 3) (hij : i ≠ j) (hui : cU σ i = false) (hpost : LQ G μ MS MR (nI 3) (σ, μ, o)) : Met l yL_makeAlike wsL_makeAlike rmL (wPc G σ μ o [.ref (gA G 0), .int (nI i), .int (nI j), .ref (gA G 53)]) (QLP G μ MS MR) 4 34 (gP G) := by
  refine m_ofWH (hh := [(0, 10, 13, 13), (0, 10, 17, 15), (0, 10, 21, 31)]) (cc := cL_makeAlike) (maxL := 5) (ret := (some .int)) (by decide) rfl ?_
  intro p e s m args below meth c s₁ B hml htab hv
  obtain ⟨hargs, hI⟩ := hv
  have S : CallFix p m c cL_makeAlike 5 s args wsL_makeAlike RL := ⟨B.exec, B.bytes, hml, findClass_of_methodNamed B.named, atoms_spec (ws := wsL_makeAlike) B.pre⟩
  have hret := B.returns
  have hlocks := B.notSynchronized
  have Z := wZ_0 hI
  clear hI
  obtain ⟨Q, hQ⟩ : ∃ Q, Q = MQ below (QLP G μ MS MR) args s 4 34 (gP G) := ⟨_, rfl⟩
  rw [← hQ]
  have hl := lv_entry [.ref (gA G 0), .int (nI i), .int (nI j), .ref (gA G 53)] (n := 5) (Nat.le_of_ble_eq_true rfl)
  rw [show entryFrame m args 5 = entryFrame m ([.ref (gA G 0), .int (nI i), .int (nI j), .ref (gA G 53)] : List Value).toArray 5 from by rw [hargs], lg_entry_eq]
  generalize (lg_sl [.ref (gA G 0), .int (nI i), .int (nI j), .ref (gA G 53)] ++ List.replicate (5 - (lg_sl [.ref (gA G 0), .int (nI i), .int (nI j), .ref (gA G 53)]).length) Slot.unset).toArray = ls at hl ⊢
  have hl : lv_has ls 5 [(0, .ref (gA G 0)), (1, .int (nI i)), (2, .int (nI j)), (3, .ref (gA G 53))] := hl
  refine lv_aload_n S.1 S.2.1 dL_makeAlike_0 rfl (lv_at hl 3 rfl) ?_
  refine lv_iconst (v := nI 0) S.1 S.2.1 dL_makeAlike_1 (by decide) ?_
  refine lv_aload_n S.1 S.2.1 dL_makeAlike_2 rfl (lv_at hl 0 rfl) ?_
  refine lv_iload_n S.1 S.2.1 dL_makeAlike_3 rfl (lv_at hl 1 rfl) ?_
  refine lv_iload_n S.1 S.2.1 dL_makeAlike_4 rfl (lv_at hl 2 rfl) ?_
  refine x_call (vx_runV (As := [.int (nI i), .int (nI j)]) (rest := [.int (nI 0), .ref (gA G 53)]) S (k_X7_makeAlike_X4 l hst G σ μ o i j hi hj hij hui) (cwV 2 S.2.2.2.2 gL_makeAlike_X7_makeAlike rfl rfl rfl ⟨rfl, hy_X7_makeAlike⟩ ⟨Nat.le_of_ble_eq_true rfl, Nat.le_of_ble_eq_true rfl⟩) (wPc_V (q := (RX7, TX7, 7)) Z (by decide) rfl rfl) rfl rfl hl.1 rfl (lv_room (Nat.le_of_ble_eq_true rfl)) dL_makeAlike_5 ⟨Nat.le_of_ble_eq_true rfl, Nat.le_of_ble_eq_true rfl⟩) (fun _ _ _ h => h) Z (fun ce q9 H locs Z h1 h2 h3 => ?_)
  refine vx_catch (name := "java/lang/IllegalStateException") S.2.2.2.1 [⟨0, 10, 13, 13⟩, ⟨0, 10, 17, 15⟩] ⟨0, 10, 21, 31⟩ [] (by rw [htab]; rfl) (pass_2 (by decide) (S.2.2.2.2 _ m_L_makeAlike_c13) (nc_CA Z) (by decide) (S.2.2.2.2 _ m_L_makeAlike_c15) (nc_CB Z)) rfl (by decide) (S.2.2.2.2 _ m_L_makeAlike_c31) (ca_use Z n_caC) h1 h2 h3 ?_
  refine lv_astore (lv' := [(4, .ref (q9)), (0, .ref (gA G 0)), (1, .int (nI i)), (2, .int (nI j)), (3, .ref (gA G 53))]) S.1 S.2.1 dL_makeAlike_21 hl (by decide) rfl (fun ls hl => ?_)
  refine lv_iconst (v := nI 3) S.1 S.2.1 dL_makeAlike_23 (by decide) ?_
  refine W.widen (k := 4) (n := 34) (by decide) (by decide) ?_
  rw [hQ]
  exact W.iret (v := nI 3) S.1 S.2.1 hret (fun _ hT9 hW => ⟨⟨_, (σ, μ, o), rfl, hpost, wZ_I Z hT9 hW⟩, Z.2.2.2.2.F hT9⟩) Z.2.2.2.2.2.2 dL_makeAlike_24

set_option maxHeartbeats 4000000 in
set_option maxRecDepth 100000 in
theorem kL_makeAlike_X5 (l : Launch) (hst : l.stackTraces = false) (G : wG) (σ : cS) (μ : mS) (o : Nat → Int64) (i : Nat) (j : Nat) (MS : mS) (MR : Int32) (hi : i < 3) (hj : j < 3) (hij : i ≠ j) (hui : cU σ i = true) (huj : cU σ j = false) (hpost : LQ G μ MS MR (nI 3) (σ, μ, o)) : Met l yL_makeAlike wsL_makeAlike rmL (wPc G σ μ o [.ref (gA G 0), .int (nI i), .int (nI j), .ref (gA G 53)]) (QLP G μ MS MR) 4 34 (gP G) := by
  refine m_ofWH (hh := [(0, 10, 13, 13), (0, 10, 17, 15), (0, 10, 21, 31)]) (cc := cL_makeAlike) (maxL := 5) (ret := (some .int)) (by decide) rfl ?_
  intro p e s m args below meth c s₁ B hml htab hv
  obtain ⟨hargs, hI⟩ := hv
  have S : CallFix p m c cL_makeAlike 5 s args wsL_makeAlike RL := ⟨B.exec, B.bytes, hml, findClass_of_methodNamed B.named, atoms_spec (ws := wsL_makeAlike) B.pre⟩
  have hret := B.returns
  have hlocks := B.notSynchronized
  have Z := wZ_0 hI
  clear hI
  obtain ⟨Q, hQ⟩ : ∃ Q, Q = MQ below (QLP G μ MS MR) args s 4 34 (gP G) := ⟨_, rfl⟩
  rw [← hQ]
  have hl := lv_entry [.ref (gA G 0), .int (nI i), .int (nI j), .ref (gA G 53)] (n := 5) (Nat.le_of_ble_eq_true rfl)
  rw [show entryFrame m args 5 = entryFrame m ([.ref (gA G 0), .int (nI i), .int (nI j), .ref (gA G 53)] : List Value).toArray 5 from by rw [hargs], lg_entry_eq]
  generalize (lg_sl [.ref (gA G 0), .int (nI i), .int (nI j), .ref (gA G 53)] ++ List.replicate (5 - (lg_sl [.ref (gA G 0), .int (nI i), .int (nI j), .ref (gA G 53)]).length) Slot.unset).toArray = ls at hl ⊢
  have hl : lv_has ls 5 [(0, .ref (gA G 0)), (1, .int (nI i)), (2, .int (nI j)), (3, .ref (gA G 53))] := hl
  refine lv_aload_n S.1 S.2.1 dL_makeAlike_0 rfl (lv_at hl 3 rfl) ?_
  refine lv_iconst (v := nI 0) S.1 S.2.1 dL_makeAlike_1 (by decide) ?_
  refine lv_aload_n S.1 S.2.1 dL_makeAlike_2 rfl (lv_at hl 0 rfl) ?_
  refine lv_iload_n S.1 S.2.1 dL_makeAlike_3 rfl (lv_at hl 1 rfl) ?_
  refine lv_iload_n S.1 S.2.1 dL_makeAlike_4 rfl (lv_at hl 2 rfl) ?_
  refine x_call (vx_runV (As := [.int (nI i), .int (nI j)]) (rest := [.int (nI 0), .ref (gA G 53)]) S (k_X7_makeAlike_X5 l hst G σ μ o i j hi hj hij hui huj) (cwV 2 S.2.2.2.2 gL_makeAlike_X7_makeAlike rfl rfl rfl ⟨rfl, hy_X7_makeAlike⟩ ⟨Nat.le_of_ble_eq_true rfl, Nat.le_of_ble_eq_true rfl⟩) (wPc_V (q := (RX7, TX7, 7)) Z (by decide) rfl rfl) rfl rfl hl.1 rfl (lv_room (Nat.le_of_ble_eq_true rfl)) dL_makeAlike_5 ⟨Nat.le_of_ble_eq_true rfl, Nat.le_of_ble_eq_true rfl⟩) (fun _ _ _ h => h) Z (fun ce q9 H locs Z h1 h2 h3 => ?_)
  refine vx_catch (name := "java/lang/IllegalStateException") S.2.2.2.1 [⟨0, 10, 13, 13⟩, ⟨0, 10, 17, 15⟩] ⟨0, 10, 21, 31⟩ [] (by rw [htab]; rfl) (pass_2 (by decide) (S.2.2.2.2 _ m_L_makeAlike_c13) (nc_CA Z) (by decide) (S.2.2.2.2 _ m_L_makeAlike_c15) (nc_CB Z)) rfl (by decide) (S.2.2.2.2 _ m_L_makeAlike_c31) (ca_use Z n_caC) h1 h2 h3 ?_
  refine lv_astore (lv' := [(4, .ref (q9)), (0, .ref (gA G 0)), (1, .int (nI i)), (2, .int (nI j)), (3, .ref (gA G 53))]) S.1 S.2.1 dL_makeAlike_21 hl (by decide) rfl (fun ls hl => ?_)
  refine lv_iconst (v := nI 3) S.1 S.2.1 dL_makeAlike_23 (by decide) ?_
  refine W.widen (k := 4) (n := 34) (by decide) (by decide) ?_
  rw [hQ]
  exact W.iret (v := nI 3) S.1 S.2.1 hret (fun _ hT9 hW => ⟨⟨_, (σ, μ, o), rfl, hpost, wZ_I Z hT9 hW⟩, Z.2.2.2.2.F hT9⟩) Z.2.2.2.2.2.2 dL_makeAlike_24

theorem m_L_clean_c13 : Cond.classLink RL 13 "java/lang/IndexOutOfBoundsException" ∈ wsL_clean := by decide +kernel
set_option maxHeartbeats 4000000 in
set_option maxRecDepth 100000 in
theorem kL_clean_X1 (l : Launch) (hst : l.stackTraces = false) (G : wG) (σ : cS) (μ : mS) (o : Nat → Int64) (x : Int32) (MS : mS) (MR : Int32) (hx : wi x (nI 2) = false) (hpost : LQ G μ MS MR (nI 1) (σ, μ, o)) : Met l yL_clean wsL_clean rmL (wPc G σ μ o [.ref (gA G 0), .int (x), .ref (gA G 53)]) (QLP G μ MS MR) 4 34 (gP G) := by
  refine m_ofWH (hh := [(0, 9, 12, 13), (0, 9, 15, 31)]) (cc := cL_clean) (maxL := 4) (ret := (some .int)) (by decide) rfl ?_
  intro p e s m args below meth c s₁ B hml htab hv
  obtain ⟨hargs, hI⟩ := hv
  have S : CallFix p m c cL_clean 4 s args wsL_clean RL := ⟨B.exec, B.bytes, hml, findClass_of_methodNamed B.named, atoms_spec (ws := wsL_clean) B.pre⟩
  have hret := B.returns
  have hlocks := B.notSynchronized
  have Z := wZ_0 hI
  clear hI
  obtain ⟨Q, hQ⟩ : ∃ Q, Q = MQ below (QLP G μ MS MR) args s 4 34 (gP G) := ⟨_, rfl⟩
  rw [← hQ]
  have hl := lv_entry [.ref (gA G 0), .int (x), .ref (gA G 53)] (n := 4) (Nat.le_of_ble_eq_true rfl)
  rw [show entryFrame m args 4 = entryFrame m ([.ref (gA G 0), .int (x), .ref (gA G 53)] : List Value).toArray 4 from by rw [hargs], lg_entry_eq]
  generalize (lg_sl [.ref (gA G 0), .int (x), .ref (gA G 53)] ++ List.replicate (4 - (lg_sl [.ref (gA G 0), .int (x), .ref (gA G 53)]).length) Slot.unset).toArray = ls at hl ⊢
  have hl : lv_has ls 4 [(0, .ref (gA G 0)), (1, .int (x)), (2, .ref (gA G 53))] := hl
  refine lv_aload_n S.1 S.2.1 dL_clean_0 rfl (lv_at hl 2 rfl) ?_
  refine lv_iconst (v := nI 0) S.1 S.2.1 dL_clean_1 (by decide) ?_
  refine lv_aload_n S.1 S.2.1 dL_clean_2 rfl (lv_at hl 0 rfl) ?_
  refine lv_iload_n S.1 S.2.1 dL_clean_3 rfl (lv_at hl 1 rfl) ?_
  refine x_call (vx_runV (As := [.int (x)]) (rest := [.int (nI 0), .ref (gA G 53)]) S (k_X7_clean_X1 l hst G σ μ o x hx) (cwV 1 S.2.2.2.2 gL_clean_X7_clean rfl rfl rfl ⟨rfl, hy_X7_clean⟩ ⟨Nat.le_of_ble_eq_true rfl, Nat.le_of_ble_eq_true rfl⟩) (wPc_V (q := (RX7, TX7, 7)) Z (by decide) rfl rfl) rfl rfl hl.1 rfl (lv_room (Nat.le_of_ble_eq_true rfl)) dL_clean_4 ⟨Nat.le_of_ble_eq_true rfl, Nat.le_of_ble_eq_true rfl⟩) (fun _ _ _ h => h) Z (fun ce q9 H locs Z h1 h2 h3 => ?_)
  refine vx_catch (name := "java/lang/IndexOutOfBoundsException") S.2.2.2.1 [] ⟨0, 9, 12, 13⟩ [⟨0, 9, 15, 31⟩] (by rw [htab]; rfl) (fun z h => absurd h List.not_mem_nil) rfl (by decide) (S.2.2.2.2 _ m_L_clean_c13) (ca_use Z n_caA) h1 h2 h3 ?_
  refine lv_astore_n (lv' := [(3, .ref (q9)), (0, .ref (gA G 0)), (1, .int (x)), (2, .ref (gA G 53))]) S.1 S.2.1 dL_clean_12 rfl hl (by decide) rfl (fun ls hl => ?_)
  refine lv_iconst (v := nI 1) S.1 S.2.1 dL_clean_13 (by decide) ?_
  refine W.widen (k := 4) (n := 34) (by decide) (by decide) ?_
  rw [hQ]
  exact W.iret (v := nI 1) S.1 S.2.1 hret (fun _ hT9 hW => ⟨⟨_, (σ, μ, o), rfl, hpost, wZ_I Z hT9 hW⟩, Z.2.2.2.2.F hT9⟩) Z.2.2.2.2.2.2 dL_clean_14

theorem m_L_clean_c31 : Cond.classLink RL 31 "java/lang/IllegalStateException" ∈ wsL_clean := by decide +kernel
set_option maxHeartbeats 4000000 in
set_option maxRecDepth 100000 in
theorem kL_clean_X2 (l : Launch) (hst : l.stackTraces = false) (G : wG) (σ : cS) (μ : mS) (o : Nat → Int64) (i : Nat) (MS : mS) (MR : Int32) (hi : i < 3) (hu : cU σ i = false) (hpost : LQ G μ MS MR (nI 2) (σ, μ, o)) : Met l yL_clean wsL_clean rmL (wPc G σ μ o [.ref (gA G 0), .int (nI i), .ref (gA G 53)]) (QLP G μ MS MR) 4 34 (gP G) := by
  refine m_ofWH (hh := [(0, 9, 12, 13), (0, 9, 15, 31)]) (cc := cL_clean) (maxL := 4) (ret := (some .int)) (by decide) rfl ?_
  intro p e s m args below meth c s₁ B hml htab hv
  obtain ⟨hargs, hI⟩ := hv
  have S : CallFix p m c cL_clean 4 s args wsL_clean RL := ⟨B.exec, B.bytes, hml, findClass_of_methodNamed B.named, atoms_spec (ws := wsL_clean) B.pre⟩
  have hret := B.returns
  have hlocks := B.notSynchronized
  have Z := wZ_0 hI
  clear hI
  obtain ⟨Q, hQ⟩ : ∃ Q, Q = MQ below (QLP G μ MS MR) args s 4 34 (gP G) := ⟨_, rfl⟩
  rw [← hQ]
  have hl := lv_entry [.ref (gA G 0), .int (nI i), .ref (gA G 53)] (n := 4) (Nat.le_of_ble_eq_true rfl)
  rw [show entryFrame m args 4 = entryFrame m ([.ref (gA G 0), .int (nI i), .ref (gA G 53)] : List Value).toArray 4 from by rw [hargs], lg_entry_eq]
  generalize (lg_sl [.ref (gA G 0), .int (nI i), .ref (gA G 53)] ++ List.replicate (4 - (lg_sl [.ref (gA G 0), .int (nI i), .ref (gA G 53)]).length) Slot.unset).toArray = ls at hl ⊢
  have hl : lv_has ls 4 [(0, .ref (gA G 0)), (1, .int (nI i)), (2, .ref (gA G 53))] := hl
  refine lv_aload_n S.1 S.2.1 dL_clean_0 rfl (lv_at hl 2 rfl) ?_
  refine lv_iconst (v := nI 0) S.1 S.2.1 dL_clean_1 (by decide) ?_
  refine lv_aload_n S.1 S.2.1 dL_clean_2 rfl (lv_at hl 0 rfl) ?_
  refine lv_iload_n S.1 S.2.1 dL_clean_3 rfl (lv_at hl 1 rfl) ?_
  refine x_call (vx_runV (As := [.int (nI i)]) (rest := [.int (nI 0), .ref (gA G 53)]) S (k_X7_clean_X2 l hst G σ μ o i hi hu) (cwV 1 S.2.2.2.2 gL_clean_X7_clean rfl rfl rfl ⟨rfl, hy_X7_clean⟩ ⟨Nat.le_of_ble_eq_true rfl, Nat.le_of_ble_eq_true rfl⟩) (wPc_V (q := (RX7, TX7, 7)) Z (by decide) rfl rfl) rfl rfl hl.1 rfl (lv_room (Nat.le_of_ble_eq_true rfl)) dL_clean_4 ⟨Nat.le_of_ble_eq_true rfl, Nat.le_of_ble_eq_true rfl⟩) (fun _ _ _ h => h) Z (fun ce q9 H locs Z h1 h2 h3 => ?_)
  refine vx_catch (name := "java/lang/IllegalStateException") S.2.2.2.1 [⟨0, 9, 12, 13⟩] ⟨0, 9, 15, 31⟩ [] (by rw [htab]; rfl) (pass_1 (by decide) (S.2.2.2.2 _ m_L_clean_c13) (nc_CA Z)) rfl (by decide) (S.2.2.2.2 _ m_L_clean_c31) (ca_use Z n_caC) h1 h2 h3 ?_
  refine lv_astore_n (lv' := [(3, .ref (q9)), (0, .ref (gA G 0)), (1, .int (nI i)), (2, .ref (gA G 53))]) S.1 S.2.1 dL_clean_15 rfl hl (by decide) rfl (fun ls hl => ?_)
  refine lv_iconst (v := nI 2) S.1 S.2.1 dL_clean_16 (by decide) ?_
  refine W.widen (k := 4) (n := 34) (by decide) (by decide) ?_
  rw [hQ]
  exact W.iret (v := nI 2) S.1 S.2.1 hret (fun _ hT9 hW => ⟨⟨_, (σ, μ, o), rfl, hpost, wZ_I Z hT9 hW⟩, Z.2.2.2.2.F hT9⟩) Z.2.2.2.2.2.2 dL_clean_17

set_option maxHeartbeats 4000000 in
set_option maxRecDepth 100000 in
theorem kL_isUp (l : Launch) (hst : l.stackTraces = false) (G : wG) (σ : cS) (μ : mS) (o : Nat → Int64) (i : Nat) (MS : mS) (MR : Int32) (hi : i < 3) (hpost : LQ G μ MS MR (nI 0) (σ, μ, vp_updL o 0 (bi (cU σ i)).toInt64)) : Met l yL_isUp wsL_isUp rmL (wPc G σ μ o [.ref (gA G 0), .int (nI i), .ref (gA G 53)]) (QLP G μ MS MR) 4 34 (gP G) := by
  refine m_ofWH (hh := [(0, 16, 19, 13)]) (cc := cL_isUp) (maxL := 4) (ret := (some .int)) (by decide) rfl ?_
  intro p e s m args below meth c s₁ B hml htab hv
  obtain ⟨hargs, hI⟩ := hv
  have S : CallFix p m c cL_isUp 4 s args wsL_isUp RL := ⟨B.exec, B.bytes, hml, findClass_of_methodNamed B.named, atoms_spec (ws := wsL_isUp) B.pre⟩
  have hret := B.returns
  have hlocks := B.notSynchronized
  have Z := wZ_0 hI
  clear hI
  obtain ⟨Q, hQ⟩ : ∃ Q, Q = MQ below (QLP G μ MS MR) args s 4 34 (gP G) := ⟨_, rfl⟩
  rw [← hQ]
  have hl := lv_entry [.ref (gA G 0), .int (nI i), .ref (gA G 53)] (n := 4) (Nat.le_of_ble_eq_true rfl)
  rw [show entryFrame m args 4 = entryFrame m ([.ref (gA G 0), .int (nI i), .ref (gA G 53)] : List Value).toArray 4 from by rw [hargs], lg_entry_eq]
  generalize (lg_sl [.ref (gA G 0), .int (nI i), .ref (gA G 53)] ++ List.replicate (4 - (lg_sl [.ref (gA G 0), .int (nI i), .ref (gA G 53)]).length) Slot.unset).toArray = ls at hl ⊢
  have hl : lv_has ls 4 [(0, .ref (gA G 0)), (1, .int (nI i)), (2, .ref (gA G 53))] := hl
  refine lv_aload_n S.1 S.2.1 dL_isUp_0 rfl (lv_at hl 2 rfl) ?_
  refine lv_iconst (v := nI 0) S.1 S.2.1 dL_isUp_1 (by decide) ?_
  refine lv_aload_n S.1 S.2.1 dL_isUp_2 rfl (lv_at hl 0 rfl) ?_
  refine lv_iload_n S.1 S.2.1 dL_isUp_3 rfl (lv_at hl 1 rfl) ?_
  refine vp_callSi (va_runV (As := [.int (nI i)]) (rest := [.int (nI 0), .ref (gA G 53)]) S (k_X7_isUp l G σ μ o i hi) (cwV 1 S.2.2.2.2 gL_isUp_X7_isUp rfl rfl rfl ⟨rfl, hy_X7_isUp⟩ ⟨Nat.le_of_ble_eq_true rfl, Nat.le_of_ble_eq_true rfl⟩) (wPc_V (q := (RX7, TX7, 7)) Z (by decide) rfl rfl) rfl rfl hl.1 rfl (lv_room (Nat.le_of_ble_eq_true rfl)) dL_isUp_4 ⟨Nat.le_of_ble_eq_true rfl, Nat.le_of_ble_eq_true rfl⟩).run (fun r_1 h_2 => ?_)
  rw [h_2]; clear h_2 r_1
  refine r_if_eqB S (tgt := 14) dL_isUp_7 (by decide) (fun c_3 => ?_) (fun c_3 => ?_)
  · skip
    refine lv_lconst (v := 0) S.1 S.2.1 dL_isUp_14 rfl ?_
    refine r_last S Z dL_isUp_15 (fun H locs Z => ?_)
    refine lv_goto (tgt := 22) S.1 S.2.1 dL_isUp_16 (by decide) ?_
    refine lv_iconst (v := nI 0) S.1 S.2.1 dL_isUp_22 (by decide) ?_
    have e9 : vp_updL o 0 (0) = vp_updL o 0 (bi (cU σ i)).toInt64 := by first | rfl | (simp only [c_3]; rfl)
    rw [e9] at Z
    refine W.widen (k := 4) (n := 34) (by decide) (by decide) ?_
    rw [hQ]
    exact W.iret (v := nI 0) S.1 S.2.1 hret (fun _ hT9 hW => ⟨⟨_, (σ, μ, vp_updL o 0 (bi (cU σ i)).toInt64), rfl, hpost, wZ_I Z hT9 hW⟩, Z.2.2.2.2.F hT9⟩) Z.2.2.2.2.2.2 dL_isUp_23
  · skip
    refine lv_lconst (v := 1) S.1 S.2.1 dL_isUp_10 rfl ?_
    refine lv_goto (tgt := 15) S.1 S.2.1 dL_isUp_11 (by decide) ?_
    refine r_last S Z dL_isUp_15 (fun H locs Z => ?_)
    refine lv_goto (tgt := 22) S.1 S.2.1 dL_isUp_16 (by decide) ?_
    refine lv_iconst (v := nI 0) S.1 S.2.1 dL_isUp_22 (by decide) ?_
    have e9 : vp_updL o 0 (1) = vp_updL o 0 (bi (cU σ i)).toInt64 := by first | rfl | (simp only [c_3]; rfl)
    rw [e9] at Z
    refine W.widen (k := 4) (n := 34) (by decide) (by decide) ?_
    rw [hQ]
    exact W.iret (v := nI 0) S.1 S.2.1 hret (fun _ hT9 hW => ⟨⟨_, (σ, μ, vp_updL o 0 (bi (cU σ i)).toInt64), rfl, hpost, wZ_I Z hT9 hW⟩, Z.2.2.2.2.F hT9⟩) Z.2.2.2.2.2.2 dL_isUp_23

theorem m_L_isUp_c13 : Cond.classLink RL 13 "java/lang/IndexOutOfBoundsException" ∈ wsL_isUp := by decide +kernel
set_option maxHeartbeats 4000000 in
set_option maxRecDepth 100000 in
theorem kL_isUp_X1 (l : Launch) (hst : l.stackTraces = false) (G : wG) (σ : cS) (μ : mS) (o : Nat → Int64) (x : Int32) (MS : mS) (MR : Int32) (hx : wi x (nI 2) = false) (hpost : LQ G μ MS MR (nI 1) (σ, μ, o)) : Met l yL_isUp wsL_isUp rmL (wPc G σ μ o [.ref (gA G 0), .int (x), .ref (gA G 53)]) (QLP G μ MS MR) 4 34 (gP G) := by
  refine m_ofWH (hh := [(0, 16, 19, 13)]) (cc := cL_isUp) (maxL := 4) (ret := (some .int)) (by decide) rfl ?_
  intro p e s m args below meth c s₁ B hml htab hv
  obtain ⟨hargs, hI⟩ := hv
  have S : CallFix p m c cL_isUp 4 s args wsL_isUp RL := ⟨B.exec, B.bytes, hml, findClass_of_methodNamed B.named, atoms_spec (ws := wsL_isUp) B.pre⟩
  have hret := B.returns
  have hlocks := B.notSynchronized
  have Z := wZ_0 hI
  clear hI
  obtain ⟨Q, hQ⟩ : ∃ Q, Q = MQ below (QLP G μ MS MR) args s 4 34 (gP G) := ⟨_, rfl⟩
  rw [← hQ]
  have hl := lv_entry [.ref (gA G 0), .int (x), .ref (gA G 53)] (n := 4) (Nat.le_of_ble_eq_true rfl)
  rw [show entryFrame m args 4 = entryFrame m ([.ref (gA G 0), .int (x), .ref (gA G 53)] : List Value).toArray 4 from by rw [hargs], lg_entry_eq]
  generalize (lg_sl [.ref (gA G 0), .int (x), .ref (gA G 53)] ++ List.replicate (4 - (lg_sl [.ref (gA G 0), .int (x), .ref (gA G 53)]).length) Slot.unset).toArray = ls at hl ⊢
  have hl : lv_has ls 4 [(0, .ref (gA G 0)), (1, .int (x)), (2, .ref (gA G 53))] := hl
  refine lv_aload_n S.1 S.2.1 dL_isUp_0 rfl (lv_at hl 2 rfl) ?_
  refine lv_iconst (v := nI 0) S.1 S.2.1 dL_isUp_1 (by decide) ?_
  refine lv_aload_n S.1 S.2.1 dL_isUp_2 rfl (lv_at hl 0 rfl) ?_
  refine lv_iload_n S.1 S.2.1 dL_isUp_3 rfl (lv_at hl 1 rfl) ?_
  refine x_call (vx_runV (As := [.int (x)]) (rest := [.int (nI 0), .ref (gA G 53)]) S (k_X7_isUp_X1 l hst G σ μ o x hx) (cwV 1 S.2.2.2.2 gL_isUp_X7_isUp rfl rfl rfl ⟨rfl, hy_X7_isUp⟩ ⟨Nat.le_of_ble_eq_true rfl, Nat.le_of_ble_eq_true rfl⟩) (wPc_V (q := (RX7, TX7, 7)) Z (by decide) rfl rfl) rfl rfl hl.1 rfl (lv_room (Nat.le_of_ble_eq_true rfl)) dL_isUp_4 ⟨Nat.le_of_ble_eq_true rfl, Nat.le_of_ble_eq_true rfl⟩) (fun _ _ _ h => h) Z (fun ce q9 H locs Z h1 h2 h3 => ?_)
  refine vx_catch (name := "java/lang/IndexOutOfBoundsException") S.2.2.2.1 [] ⟨0, 16, 19, 13⟩ [] (by rw [htab]; rfl) (fun z h => absurd h List.not_mem_nil) rfl (by decide) (S.2.2.2.2 _ m_L_isUp_c13) (ca_use Z n_caA) h1 h2 h3 ?_
  refine lv_astore_n (lv' := [(3, .ref (q9)), (0, .ref (gA G 0)), (1, .int (x)), (2, .ref (gA G 53))]) S.1 S.2.1 dL_isUp_19 rfl hl (by decide) rfl (fun ls hl => ?_)
  refine lv_iconst (v := nI 1) S.1 S.2.1 dL_isUp_20 (by decide) ?_
  refine W.widen (k := 4) (n := 34) (by decide) (by decide) ?_
  rw [hQ]
  exact W.iret (v := nI 1) S.1 S.2.1 hret (fun _ hT9 hW => ⟨⟨_, (σ, μ, o), rfl, hpost, wZ_I Z hT9 hW⟩, Z.2.2.2.2.F hT9⟩) Z.2.2.2.2.2.2 dL_isUp_21

set_option maxHeartbeats 4000000 in
set_option maxRecDepth 100000 in
theorem kL_hints (l : Launch) (hst : l.stackTraces = false) (G : wG) (σ : cS) (μ : mS) (o : Nat → Int64) (i : Nat) (MS : mS) (MR : Int32) (hi : i < 3) (hpost : LQ G μ MS MR (nI 0) (σ, μ, vp_updL o 0 (nI (cL σ i)).toInt64)) : Met l yL_hints wsL_hints rmL (wPc G σ μ o [.ref (gA G 0), .int (nI i), .ref (gA G 53)]) (QLP G μ MS MR) 4 34 (gP G) := by
  refine m_ofWH (hh := [(0, 9, 12, 13)]) (cc := cL_hints) (maxL := 4) (ret := (some .int)) (by decide) rfl ?_
  intro p e s m args below meth c s₁ B hml htab hv
  obtain ⟨hargs, hI⟩ := hv
  have S : CallFix p m c cL_hints 4 s args wsL_hints RL := ⟨B.exec, B.bytes, hml, findClass_of_methodNamed B.named, atoms_spec (ws := wsL_hints) B.pre⟩
  have hret := B.returns
  have hlocks := B.notSynchronized
  have Z := wZ_0 hI
  clear hI
  obtain ⟨Q, hQ⟩ : ∃ Q, Q = MQ below (QLP G μ MS MR) args s 4 34 (gP G) := ⟨_, rfl⟩
  rw [← hQ]
  have hl := lv_entry [.ref (gA G 0), .int (nI i), .ref (gA G 53)] (n := 4) (Nat.le_of_ble_eq_true rfl)
  rw [show entryFrame m args 4 = entryFrame m ([.ref (gA G 0), .int (nI i), .ref (gA G 53)] : List Value).toArray 4 from by rw [hargs], lg_entry_eq]
  generalize (lg_sl [.ref (gA G 0), .int (nI i), .ref (gA G 53)] ++ List.replicate (4 - (lg_sl [.ref (gA G 0), .int (nI i), .ref (gA G 53)]).length) Slot.unset).toArray = ls at hl ⊢
  have hl : lv_has ls 4 [(0, .ref (gA G 0)), (1, .int (nI i)), (2, .ref (gA G 53))] := hl
  refine lv_aload_n S.1 S.2.1 dL_hints_0 rfl (lv_at hl 2 rfl) ?_
  refine lv_iconst (v := nI 0) S.1 S.2.1 dL_hints_1 (by decide) ?_
  refine lv_aload_n S.1 S.2.1 dL_hints_2 rfl (lv_at hl 0 rfl) ?_
  refine lv_iload_n S.1 S.2.1 dL_hints_3 rfl (lv_at hl 1 rfl) ?_
  refine vp_callSi (va_runV (As := [.int (nI i)]) (rest := [.int (nI 0), .ref (gA G 53)]) S (k_X7_hints l G σ μ o i hi) (cwV 1 S.2.2.2.2 gL_hints_X7_hints rfl rfl rfl ⟨rfl, hy_X7_hints⟩ ⟨Nat.le_of_ble_eq_true rfl, Nat.le_of_ble_eq_true rfl⟩) (wPc_V (q := (RX7, TX7, 7)) Z (by decide) rfl rfl) rfl rfl hl.1 rfl (lv_room (Nat.le_of_ble_eq_true rfl)) dL_hints_4 ⟨Nat.le_of_ble_eq_true rfl, Nat.le_of_ble_eq_true rfl⟩).run (fun r_1 h_2 => ?_)
  rw [h_2]; clear h_2 r_1
  refine lv_i2l (v := (nI (cL σ i)).toInt64) S.1 S.2.1 dL_hints_7 rfl ?_
  refine r_last S Z dL_hints_8 (fun H locs Z => ?_)
  refine lv_goto (tgt := 15) S.1 S.2.1 dL_hints_9 (by decide) ?_
  refine lv_iconst (v := nI 0) S.1 S.2.1 dL_hints_15 (by decide) ?_
  refine W.widen (k := 4) (n := 34) (by decide) (by decide) ?_
  rw [hQ]
  exact W.iret (v := nI 0) S.1 S.2.1 hret (fun _ hT9 hW => ⟨⟨_, (σ, μ, vp_updL o 0 ((nI (cL σ i)).toInt64)), rfl, hpost, wZ_I Z hT9 hW⟩, Z.2.2.2.2.F hT9⟩) Z.2.2.2.2.2.2 dL_hints_16

theorem m_L_hints_c13 : Cond.classLink RL 13 "java/lang/IndexOutOfBoundsException" ∈ wsL_hints := by decide +kernel
set_option maxHeartbeats 4000000 in
set_option maxRecDepth 100000 in
theorem kL_hints_X1 (l : Launch) (hst : l.stackTraces = false) (G : wG) (σ : cS) (μ : mS) (o : Nat → Int64) (x : Int32) (MS : mS) (MR : Int32) (hx : wi x (nI 2) = false) (hpost : LQ G μ MS MR (nI 1) (σ, μ, o)) : Met l yL_hints wsL_hints rmL (wPc G σ μ o [.ref (gA G 0), .int (x), .ref (gA G 53)]) (QLP G μ MS MR) 4 34 (gP G) := by
  refine m_ofWH (hh := [(0, 9, 12, 13)]) (cc := cL_hints) (maxL := 4) (ret := (some .int)) (by decide) rfl ?_
  intro p e s m args below meth c s₁ B hml htab hv
  obtain ⟨hargs, hI⟩ := hv
  have S : CallFix p m c cL_hints 4 s args wsL_hints RL := ⟨B.exec, B.bytes, hml, findClass_of_methodNamed B.named, atoms_spec (ws := wsL_hints) B.pre⟩
  have hret := B.returns
  have hlocks := B.notSynchronized
  have Z := wZ_0 hI
  clear hI
  obtain ⟨Q, hQ⟩ : ∃ Q, Q = MQ below (QLP G μ MS MR) args s 4 34 (gP G) := ⟨_, rfl⟩
  rw [← hQ]
  have hl := lv_entry [.ref (gA G 0), .int (x), .ref (gA G 53)] (n := 4) (Nat.le_of_ble_eq_true rfl)
  rw [show entryFrame m args 4 = entryFrame m ([.ref (gA G 0), .int (x), .ref (gA G 53)] : List Value).toArray 4 from by rw [hargs], lg_entry_eq]
  generalize (lg_sl [.ref (gA G 0), .int (x), .ref (gA G 53)] ++ List.replicate (4 - (lg_sl [.ref (gA G 0), .int (x), .ref (gA G 53)]).length) Slot.unset).toArray = ls at hl ⊢
  have hl : lv_has ls 4 [(0, .ref (gA G 0)), (1, .int (x)), (2, .ref (gA G 53))] := hl
  refine lv_aload_n S.1 S.2.1 dL_hints_0 rfl (lv_at hl 2 rfl) ?_
  refine lv_iconst (v := nI 0) S.1 S.2.1 dL_hints_1 (by decide) ?_
  refine lv_aload_n S.1 S.2.1 dL_hints_2 rfl (lv_at hl 0 rfl) ?_
  refine lv_iload_n S.1 S.2.1 dL_hints_3 rfl (lv_at hl 1 rfl) ?_
  refine x_call (vx_runV (As := [.int (x)]) (rest := [.int (nI 0), .ref (gA G 53)]) S (k_X7_hints_X1 l hst G σ μ o x hx) (cwV 1 S.2.2.2.2 gL_hints_X7_hints rfl rfl rfl ⟨rfl, hy_X7_hints⟩ ⟨Nat.le_of_ble_eq_true rfl, Nat.le_of_ble_eq_true rfl⟩) (wPc_V (q := (RX7, TX7, 7)) Z (by decide) rfl rfl) rfl rfl hl.1 rfl (lv_room (Nat.le_of_ble_eq_true rfl)) dL_hints_4 ⟨Nat.le_of_ble_eq_true rfl, Nat.le_of_ble_eq_true rfl⟩) (fun _ _ _ h => h) Z (fun ce q9 H locs Z h1 h2 h3 => ?_)
  refine vx_catch (name := "java/lang/IndexOutOfBoundsException") S.2.2.2.1 [] ⟨0, 9, 12, 13⟩ [] (by rw [htab]; rfl) (fun z h => absurd h List.not_mem_nil) rfl (by decide) (S.2.2.2.2 _ m_L_hints_c13) (ca_use Z n_caA) h1 h2 h3 ?_
  refine lv_astore_n (lv' := [(3, .ref (q9)), (0, .ref (gA G 0)), (1, .int (x)), (2, .ref (gA G 53))]) S.1 S.2.1 dL_hints_12 rfl hl (by decide) rfl (fun ls hl => ?_)
  refine lv_iconst (v := nI 1) S.1 S.2.1 dL_hints_13 (by decide) ?_
  refine W.widen (k := 4) (n := 34) (by decide) (by decide) ?_
  rw [hQ]
  exact W.iret (v := nI 1) S.1 S.2.1 hret (fun _ hT9 hW => ⟨⟨_, (σ, μ, o), rfl, hpost, wZ_I Z hT9 hW⟩, Z.2.2.2.2.F hT9⟩) Z.2.2.2.2.2.2 dL_hints_14

set_option maxHeartbeats 4000000 in
set_option maxRecDepth 100000 in
theorem kL_valueAt (l : Launch) (hst : l.stackTraces = false) (G : wG) (σ : cS) (μ : mS) (o : Nat → Int64) (i : Nat) (row : Nat) (col : Nat) (MS : mS) (MR : Int32) (hi : i < 3) (hrow : row < 16) (hcol : col < 4) (hpost : LQ G μ MS MR (nI 0) (σ, μ, vp_updL o 0 (visV σ i row col (cV σ 4)).toInt64)) : Met l yL_valueAt wsL_valueAt rmL (wPc G σ μ o [.ref (gA G 0), .int (nI i), .int (nI row), .int (nI col), .ref (gA G 53)]) (QLP G μ MS MR) 4 34 (gP G) := by
  refine m_ofWH (hh := [(0, 12, 15, 13)]) (cc := cL_valueAt) (maxL := 6) (ret := (some .int)) (by decide) rfl ?_
  intro p e s m args below meth c s₁ B hml htab hv
  obtain ⟨hargs, hI⟩ := hv
  have S : CallFix p m c cL_valueAt 6 s args wsL_valueAt RL := ⟨B.exec, B.bytes, hml, findClass_of_methodNamed B.named, atoms_spec (ws := wsL_valueAt) B.pre⟩
  have hret := B.returns
  have hlocks := B.notSynchronized
  have Z := wZ_0 hI
  clear hI
  obtain ⟨Q, hQ⟩ : ∃ Q, Q = MQ below (QLP G μ MS MR) args s 4 34 (gP G) := ⟨_, rfl⟩
  rw [← hQ]
  have hl := lv_entry [.ref (gA G 0), .int (nI i), .int (nI row), .int (nI col), .ref (gA G 53)] (n := 6) (Nat.le_of_ble_eq_true rfl)
  rw [show entryFrame m args 6 = entryFrame m ([.ref (gA G 0), .int (nI i), .int (nI row), .int (nI col), .ref (gA G 53)] : List Value).toArray 6 from by rw [hargs], lg_entry_eq]
  generalize (lg_sl [.ref (gA G 0), .int (nI i), .int (nI row), .int (nI col), .ref (gA G 53)] ++ List.replicate (6 - (lg_sl [.ref (gA G 0), .int (nI i), .int (nI row), .int (nI col), .ref (gA G 53)]).length) Slot.unset).toArray = ls at hl ⊢
  have hl : lv_has ls 6 [(0, .ref (gA G 0)), (1, .int (nI i)), (2, .int (nI row)), (3, .int (nI col)), (4, .ref (gA G 53))] := hl
  refine lv_aload S.1 S.2.1 dL_valueAt_0 (lv_at hl 4 rfl) ?_
  refine lv_iconst (v := nI 0) S.1 S.2.1 dL_valueAt_2 (by decide) ?_
  refine lv_aload_n S.1 S.2.1 dL_valueAt_3 rfl (lv_at hl 0 rfl) ?_
  refine lv_iload_n S.1 S.2.1 dL_valueAt_4 rfl (lv_at hl 1 rfl) ?_
  refine lv_iload_n S.1 S.2.1 dL_valueAt_5 rfl (lv_at hl 2 rfl) ?_
  refine lv_iload_n S.1 S.2.1 dL_valueAt_6 rfl (lv_at hl 3 rfl) ?_
  refine vp_callSi (va_runV (As := [.int (nI i), .int (nI row), .int (nI col)]) (rest := [.int (nI 0), .ref (gA G 53)]) S (k_X7_valueAt l G σ μ o i row col hi hrow hcol) (cwV 3 S.2.2.2.2 gL_valueAt_X7_valueAt rfl rfl rfl ⟨rfl, hy_X7_valueAt⟩ ⟨Nat.le_of_ble_eq_true rfl, Nat.le_of_ble_eq_true rfl⟩) (wPc_V (q := (RX7, TX7, 7)) Z (by decide) rfl rfl) rfl rfl hl.1 rfl (lv_room (Nat.le_of_ble_eq_true rfl)) dL_valueAt_7 ⟨Nat.le_of_ble_eq_true rfl, Nat.le_of_ble_eq_true rfl⟩).run (fun r_1 h_2 => ?_)
  rw [h_2]; clear h_2 r_1
  refine lv_i2l (v := (visV σ i row col (cV σ 4)).toInt64) S.1 S.2.1 dL_valueAt_10 rfl ?_
  refine r_last S Z dL_valueAt_11 (fun H locs Z => ?_)
  refine lv_goto (tgt := 19) S.1 S.2.1 dL_valueAt_12 (by decide) ?_
  refine lv_iconst (v := nI 0) S.1 S.2.1 dL_valueAt_19 (by decide) ?_
  refine W.widen (k := 4) (n := 34) (by decide) (by decide) ?_
  rw [hQ]
  exact W.iret (v := nI 0) S.1 S.2.1 hret (fun _ hT9 hW => ⟨⟨_, (σ, μ, vp_updL o 0 ((visV σ i row col (cV σ 4)).toInt64)), rfl, hpost, wZ_I Z hT9 hW⟩, Z.2.2.2.2.F hT9⟩) Z.2.2.2.2.2.2 dL_valueAt_20

theorem m_L_valueAt_c13 : Cond.classLink RL 13 "java/lang/IndexOutOfBoundsException" ∈ wsL_valueAt := by decide +kernel
set_option maxHeartbeats 4000000 in
set_option maxRecDepth 100000 in
theorem kL_valueAt_X1 (l : Launch) (hst : l.stackTraces = false) (G : wG) (σ : cS) (μ : mS) (o : Nat → Int64) (x : Int32) (y : Int32) (z : Int32) (MS : mS) (MR : Int32) (hx : wi x (nI 2) = false) (hpost : LQ G μ MS MR (nI 1) (σ, μ, o)) : Met l yL_valueAt wsL_valueAt rmL (wPc G σ μ o [.ref (gA G 0), .int (x), .int (y), .int (z), .ref (gA G 53)]) (QLP G μ MS MR) 4 34 (gP G) := by
  refine m_ofWH (hh := [(0, 12, 15, 13)]) (cc := cL_valueAt) (maxL := 6) (ret := (some .int)) (by decide) rfl ?_
  intro p e s m args below meth c s₁ B hml htab hv
  obtain ⟨hargs, hI⟩ := hv
  have S : CallFix p m c cL_valueAt 6 s args wsL_valueAt RL := ⟨B.exec, B.bytes, hml, findClass_of_methodNamed B.named, atoms_spec (ws := wsL_valueAt) B.pre⟩
  have hret := B.returns
  have hlocks := B.notSynchronized
  have Z := wZ_0 hI
  clear hI
  obtain ⟨Q, hQ⟩ : ∃ Q, Q = MQ below (QLP G μ MS MR) args s 4 34 (gP G) := ⟨_, rfl⟩
  rw [← hQ]
  have hl := lv_entry [.ref (gA G 0), .int (x), .int (y), .int (z), .ref (gA G 53)] (n := 6) (Nat.le_of_ble_eq_true rfl)
  rw [show entryFrame m args 6 = entryFrame m ([.ref (gA G 0), .int (x), .int (y), .int (z), .ref (gA G 53)] : List Value).toArray 6 from by rw [hargs], lg_entry_eq]
  generalize (lg_sl [.ref (gA G 0), .int (x), .int (y), .int (z), .ref (gA G 53)] ++ List.replicate (6 - (lg_sl [.ref (gA G 0), .int (x), .int (y), .int (z), .ref (gA G 53)]).length) Slot.unset).toArray = ls at hl ⊢
  have hl : lv_has ls 6 [(0, .ref (gA G 0)), (1, .int (x)), (2, .int (y)), (3, .int (z)), (4, .ref (gA G 53))] := hl
  refine lv_aload S.1 S.2.1 dL_valueAt_0 (lv_at hl 4 rfl) ?_
  refine lv_iconst (v := nI 0) S.1 S.2.1 dL_valueAt_2 (by decide) ?_
  refine lv_aload_n S.1 S.2.1 dL_valueAt_3 rfl (lv_at hl 0 rfl) ?_
  refine lv_iload_n S.1 S.2.1 dL_valueAt_4 rfl (lv_at hl 1 rfl) ?_
  refine lv_iload_n S.1 S.2.1 dL_valueAt_5 rfl (lv_at hl 2 rfl) ?_
  refine lv_iload_n S.1 S.2.1 dL_valueAt_6 rfl (lv_at hl 3 rfl) ?_
  refine x_call (vx_runV (As := [.int (x), .int (y), .int (z)]) (rest := [.int (nI 0), .ref (gA G 53)]) S (k_X7_valueAt_X1 l hst G σ μ o x y z hx) (cwV 3 S.2.2.2.2 gL_valueAt_X7_valueAt rfl rfl rfl ⟨rfl, hy_X7_valueAt⟩ ⟨Nat.le_of_ble_eq_true rfl, Nat.le_of_ble_eq_true rfl⟩) (wPc_V (q := (RX7, TX7, 7)) Z (by decide) rfl rfl) rfl rfl hl.1 rfl (lv_room (Nat.le_of_ble_eq_true rfl)) dL_valueAt_7 ⟨Nat.le_of_ble_eq_true rfl, Nat.le_of_ble_eq_true rfl⟩) (fun _ _ _ h => h) Z (fun ce q9 H locs Z h1 h2 h3 => ?_)
  refine vx_catch (name := "java/lang/IndexOutOfBoundsException") S.2.2.2.1 [] ⟨0, 12, 15, 13⟩ [] (by rw [htab]; rfl) (fun z h => absurd h List.not_mem_nil) rfl (by decide) (S.2.2.2.2 _ m_L_valueAt_c13) (ca_use Z n_caA) h1 h2 h3 ?_
  refine lv_astore (lv' := [(5, .ref (q9)), (0, .ref (gA G 0)), (1, .int (x)), (2, .int (y)), (3, .int (z)), (4, .ref (gA G 53))]) S.1 S.2.1 dL_valueAt_15 hl (by decide) rfl (fun ls hl => ?_)
  refine lv_iconst (v := nI 1) S.1 S.2.1 dL_valueAt_17 (by decide) ?_
  refine W.widen (k := 4) (n := 34) (by decide) (by decide) ?_
  rw [hQ]
  exact W.iret (v := nI 1) S.1 S.2.1 hret (fun _ hT9 hW => ⟨⟨_, (σ, μ, o), rfl, hpost, wZ_I Z hT9 hW⟩, Z.2.2.2.2.F hT9⟩) Z.2.2.2.2.2.2 dL_valueAt_18

set_option maxHeartbeats 4000000 in
set_option maxRecDepth 100000 in
theorem kL_valueAt_X2 (l : Launch) (hst : l.stackTraces = false) (G : wG) (σ : cS) (μ : mS) (o : Nat → Int64) (i : Nat) (x : Int32) (y : Int32) (MS : mS) (MR : Int32) (hi : i < 3) (hx : wi x (nI 15) = false) (hpost : LQ G μ MS MR (nI 1) (σ, μ, o)) : Met l yL_valueAt wsL_valueAt rmL (wPc G σ μ o [.ref (gA G 0), .int (nI i), .int (x), .int (y), .ref (gA G 53)]) (QLP G μ MS MR) 4 34 (gP G) := by
  refine m_ofWH (hh := [(0, 12, 15, 13)]) (cc := cL_valueAt) (maxL := 6) (ret := (some .int)) (by decide) rfl ?_
  intro p e s m args below meth c s₁ B hml htab hv
  obtain ⟨hargs, hI⟩ := hv
  have S : CallFix p m c cL_valueAt 6 s args wsL_valueAt RL := ⟨B.exec, B.bytes, hml, findClass_of_methodNamed B.named, atoms_spec (ws := wsL_valueAt) B.pre⟩
  have hret := B.returns
  have hlocks := B.notSynchronized
  have Z := wZ_0 hI
  clear hI
  obtain ⟨Q, hQ⟩ : ∃ Q, Q = MQ below (QLP G μ MS MR) args s 4 34 (gP G) := ⟨_, rfl⟩
  rw [← hQ]
  have hl := lv_entry [.ref (gA G 0), .int (nI i), .int (x), .int (y), .ref (gA G 53)] (n := 6) (Nat.le_of_ble_eq_true rfl)
  rw [show entryFrame m args 6 = entryFrame m ([.ref (gA G 0), .int (nI i), .int (x), .int (y), .ref (gA G 53)] : List Value).toArray 6 from by rw [hargs], lg_entry_eq]
  generalize (lg_sl [.ref (gA G 0), .int (nI i), .int (x), .int (y), .ref (gA G 53)] ++ List.replicate (6 - (lg_sl [.ref (gA G 0), .int (nI i), .int (x), .int (y), .ref (gA G 53)]).length) Slot.unset).toArray = ls at hl ⊢
  have hl : lv_has ls 6 [(0, .ref (gA G 0)), (1, .int (nI i)), (2, .int (x)), (3, .int (y)), (4, .ref (gA G 53))] := hl
  refine lv_aload S.1 S.2.1 dL_valueAt_0 (lv_at hl 4 rfl) ?_
  refine lv_iconst (v := nI 0) S.1 S.2.1 dL_valueAt_2 (by decide) ?_
  refine lv_aload_n S.1 S.2.1 dL_valueAt_3 rfl (lv_at hl 0 rfl) ?_
  refine lv_iload_n S.1 S.2.1 dL_valueAt_4 rfl (lv_at hl 1 rfl) ?_
  refine lv_iload_n S.1 S.2.1 dL_valueAt_5 rfl (lv_at hl 2 rfl) ?_
  refine lv_iload_n S.1 S.2.1 dL_valueAt_6 rfl (lv_at hl 3 rfl) ?_
  refine x_call (vx_runV (As := [.int (nI i), .int (x), .int (y)]) (rest := [.int (nI 0), .ref (gA G 53)]) S (k_X7_valueAt_X2 l hst G σ μ o i x y hi hx) (cwV 3 S.2.2.2.2 gL_valueAt_X7_valueAt rfl rfl rfl ⟨rfl, hy_X7_valueAt⟩ ⟨Nat.le_of_ble_eq_true rfl, Nat.le_of_ble_eq_true rfl⟩) (wPc_V (q := (RX7, TX7, 7)) Z (by decide) rfl rfl) rfl rfl hl.1 rfl (lv_room (Nat.le_of_ble_eq_true rfl)) dL_valueAt_7 ⟨Nat.le_of_ble_eq_true rfl, Nat.le_of_ble_eq_true rfl⟩) (fun _ _ _ h => h) Z (fun ce q9 H locs Z h1 h2 h3 => ?_)
  refine vx_catch (name := "java/lang/IndexOutOfBoundsException") S.2.2.2.1 [] ⟨0, 12, 15, 13⟩ [] (by rw [htab]; rfl) (fun z h => absurd h List.not_mem_nil) rfl (by decide) (S.2.2.2.2 _ m_L_valueAt_c13) (ca_use Z n_caA) h1 h2 h3 ?_
  refine lv_astore (lv' := [(5, .ref (q9)), (0, .ref (gA G 0)), (1, .int (nI i)), (2, .int (x)), (3, .int (y)), (4, .ref (gA G 53))]) S.1 S.2.1 dL_valueAt_15 hl (by decide) rfl (fun ls hl => ?_)
  refine lv_iconst (v := nI 1) S.1 S.2.1 dL_valueAt_17 (by decide) ?_
  refine W.widen (k := 4) (n := 34) (by decide) (by decide) ?_
  rw [hQ]
  exact W.iret (v := nI 1) S.1 S.2.1 hret (fun _ hT9 hW => ⟨⟨_, (σ, μ, o), rfl, hpost, wZ_I Z hT9 hW⟩, Z.2.2.2.2.F hT9⟩) Z.2.2.2.2.2.2 dL_valueAt_18

set_option maxHeartbeats 4000000 in
set_option maxRecDepth 100000 in
theorem kL_valueAt_X3 (l : Launch) (hst : l.stackTraces = false) (G : wG) (σ : cS) (μ : mS) (o : Nat → Int64) (i : Nat) (row : Nat) (x : Int32) (MS : mS) (MR : Int32) (hi : i < 3) (hrow : row < 16) (hx : wi x (nI 3) = false) (hpost : LQ G μ MS MR (nI 1) (σ, μ, o)) : Met l yL_valueAt wsL_valueAt rmL (wPc G σ μ o [.ref (gA G 0), .int (nI i), .int (nI row), .int (x), .ref (gA G 53)]) (QLP G μ MS MR) 4 34 (gP G) := by
  refine m_ofWH (hh := [(0, 12, 15, 13)]) (cc := cL_valueAt) (maxL := 6) (ret := (some .int)) (by decide) rfl ?_
  intro p e s m args below meth c s₁ B hml htab hv
  obtain ⟨hargs, hI⟩ := hv
  have S : CallFix p m c cL_valueAt 6 s args wsL_valueAt RL := ⟨B.exec, B.bytes, hml, findClass_of_methodNamed B.named, atoms_spec (ws := wsL_valueAt) B.pre⟩
  have hret := B.returns
  have hlocks := B.notSynchronized
  have Z := wZ_0 hI
  clear hI
  obtain ⟨Q, hQ⟩ : ∃ Q, Q = MQ below (QLP G μ MS MR) args s 4 34 (gP G) := ⟨_, rfl⟩
  rw [← hQ]
  have hl := lv_entry [.ref (gA G 0), .int (nI i), .int (nI row), .int (x), .ref (gA G 53)] (n := 6) (Nat.le_of_ble_eq_true rfl)
  rw [show entryFrame m args 6 = entryFrame m ([.ref (gA G 0), .int (nI i), .int (nI row), .int (x), .ref (gA G 53)] : List Value).toArray 6 from by rw [hargs], lg_entry_eq]
  generalize (lg_sl [.ref (gA G 0), .int (nI i), .int (nI row), .int (x), .ref (gA G 53)] ++ List.replicate (6 - (lg_sl [.ref (gA G 0), .int (nI i), .int (nI row), .int (x), .ref (gA G 53)]).length) Slot.unset).toArray = ls at hl ⊢
  have hl : lv_has ls 6 [(0, .ref (gA G 0)), (1, .int (nI i)), (2, .int (nI row)), (3, .int (x)), (4, .ref (gA G 53))] := hl
  refine lv_aload S.1 S.2.1 dL_valueAt_0 (lv_at hl 4 rfl) ?_
  refine lv_iconst (v := nI 0) S.1 S.2.1 dL_valueAt_2 (by decide) ?_
  refine lv_aload_n S.1 S.2.1 dL_valueAt_3 rfl (lv_at hl 0 rfl) ?_
  refine lv_iload_n S.1 S.2.1 dL_valueAt_4 rfl (lv_at hl 1 rfl) ?_
  refine lv_iload_n S.1 S.2.1 dL_valueAt_5 rfl (lv_at hl 2 rfl) ?_
  refine lv_iload_n S.1 S.2.1 dL_valueAt_6 rfl (lv_at hl 3 rfl) ?_
  refine x_call (vx_runV (As := [.int (nI i), .int (nI row), .int (x)]) (rest := [.int (nI 0), .ref (gA G 53)]) S (k_X7_valueAt_X3 l hst G σ μ o i row x hi hrow hx) (cwV 3 S.2.2.2.2 gL_valueAt_X7_valueAt rfl rfl rfl ⟨rfl, hy_X7_valueAt⟩ ⟨Nat.le_of_ble_eq_true rfl, Nat.le_of_ble_eq_true rfl⟩) (wPc_V (q := (RX7, TX7, 7)) Z (by decide) rfl rfl) rfl rfl hl.1 rfl (lv_room (Nat.le_of_ble_eq_true rfl)) dL_valueAt_7 ⟨Nat.le_of_ble_eq_true rfl, Nat.le_of_ble_eq_true rfl⟩) (fun _ _ _ h => h) Z (fun ce q9 H locs Z h1 h2 h3 => ?_)
  refine vx_catch (name := "java/lang/IndexOutOfBoundsException") S.2.2.2.1 [] ⟨0, 12, 15, 13⟩ [] (by rw [htab]; rfl) (fun z h => absurd h List.not_mem_nil) rfl (by decide) (S.2.2.2.2 _ m_L_valueAt_c13) (ca_use Z n_caA) h1 h2 h3 ?_
  refine lv_astore (lv' := [(5, .ref (q9)), (0, .ref (gA G 0)), (1, .int (nI i)), (2, .int (nI row)), (3, .int (x)), (4, .ref (gA G 53))]) S.1 S.2.1 dL_valueAt_15 hl (by decide) rfl (fun ls hl => ?_)
  refine lv_iconst (v := nI 1) S.1 S.2.1 dL_valueAt_17 (by decide) ?_
  refine W.widen (k := 4) (n := 34) (by decide) (by decide) ?_
  rw [hQ]
  exact W.iret (v := nI 1) S.1 S.2.1 hret (fun _ hT9 hW => ⟨⟨_, (σ, μ, o), rfl, hpost, wZ_I Z hT9 hW⟩, Z.2.2.2.2.F hT9⟩) Z.2.2.2.2.2.2 dL_valueAt_18

set_option maxHeartbeats 4000000 in
set_option maxRecDepth 100000 in
theorem kL_stampAt (l : Launch) (hst : l.stackTraces = false) (G : wG) (σ : cS) (μ : mS) (o : Nat → Int64) (i : Nat) (row : Nat) (col : Nat) (MS : mS) (MR : Int32) (hi : i < 3) (hrow : row < 16) (hcol : col < 4) (hpost : LQ G μ MS MR (nI 0) (σ, μ, vp_updL o 0 (cI σ (15 + 6 * i + 1) (row * 4 + col)).toInt64)) : Met l yL_stampAt wsL_stampAt rmL (wPc G σ μ o [.ref (gA G 0), .int (nI i), .int (nI row), .int (nI col), .ref (gA G 53)]) (QLP G μ MS MR) 4 34 (gP G) := by
  refine m_ofWH (hh := [(0, 12, 15, 13)]) (cc := cL_stampAt) (maxL := 6) (ret := (some .int)) (by decide) rfl ?_
  intro p e s m args below meth c s₁ B hml htab hv
  obtain ⟨hargs, hI⟩ := hv
  have S : CallFix p m c cL_stampAt 6 s args wsL_stampAt RL := ⟨B.exec, B.bytes, hml, findClass_of_methodNamed B.named, atoms_spec (ws := wsL_stampAt) B.pre⟩
  have hret := B.returns
  have hlocks := B.notSynchronized
  have Z := wZ_0 hI
  clear hI
  obtain ⟨Q, hQ⟩ : ∃ Q, Q = MQ below (QLP G μ MS MR) args s 4 34 (gP G) := ⟨_, rfl⟩
  rw [← hQ]
  have hl := lv_entry [.ref (gA G 0), .int (nI i), .int (nI row), .int (nI col), .ref (gA G 53)] (n := 6) (Nat.le_of_ble_eq_true rfl)
  rw [show entryFrame m args 6 = entryFrame m ([.ref (gA G 0), .int (nI i), .int (nI row), .int (nI col), .ref (gA G 53)] : List Value).toArray 6 from by rw [hargs], lg_entry_eq]
  generalize (lg_sl [.ref (gA G 0), .int (nI i), .int (nI row), .int (nI col), .ref (gA G 53)] ++ List.replicate (6 - (lg_sl [.ref (gA G 0), .int (nI i), .int (nI row), .int (nI col), .ref (gA G 53)]).length) Slot.unset).toArray = ls at hl ⊢
  have hl : lv_has ls 6 [(0, .ref (gA G 0)), (1, .int (nI i)), (2, .int (nI row)), (3, .int (nI col)), (4, .ref (gA G 53))] := hl
  refine lv_aload S.1 S.2.1 dL_stampAt_0 (lv_at hl 4 rfl) ?_
  refine lv_iconst (v := nI 0) S.1 S.2.1 dL_stampAt_2 (by decide) ?_
  refine lv_aload_n S.1 S.2.1 dL_stampAt_3 rfl (lv_at hl 0 rfl) ?_
  refine lv_iload_n S.1 S.2.1 dL_stampAt_4 rfl (lv_at hl 1 rfl) ?_
  refine lv_iload_n S.1 S.2.1 dL_stampAt_5 rfl (lv_at hl 2 rfl) ?_
  refine lv_iload_n S.1 S.2.1 dL_stampAt_6 rfl (lv_at hl 3 rfl) ?_
  refine vp_callSi (va_runV (As := [.int (nI i), .int (nI row), .int (nI col)]) (rest := [.int (nI 0), .ref (gA G 53)]) S (k_X7_stampAt l G σ μ o i row col hi hrow hcol) (cwV 3 S.2.2.2.2 gL_stampAt_X7_stampAt rfl rfl rfl ⟨rfl, hy_X7_stampAt⟩ ⟨Nat.le_of_ble_eq_true rfl, Nat.le_of_ble_eq_true rfl⟩) (wPc_V (q := (RX7, TX7, 7)) Z (by decide) rfl rfl) rfl rfl hl.1 rfl (lv_room (Nat.le_of_ble_eq_true rfl)) dL_stampAt_7 ⟨Nat.le_of_ble_eq_true rfl, Nat.le_of_ble_eq_true rfl⟩).run (fun r_1 h_2 => ?_)
  rw [h_2]; clear h_2 r_1
  refine lv_i2l (v := (cI σ (15 + 6 * i + 1) (row * 4 + col)).toInt64) S.1 S.2.1 dL_stampAt_10 rfl ?_
  refine r_last S Z dL_stampAt_11 (fun H locs Z => ?_)
  refine lv_goto (tgt := 19) S.1 S.2.1 dL_stampAt_12 (by decide) ?_
  refine lv_iconst (v := nI 0) S.1 S.2.1 dL_stampAt_19 (by decide) ?_
  refine W.widen (k := 4) (n := 34) (by decide) (by decide) ?_
  rw [hQ]
  exact W.iret (v := nI 0) S.1 S.2.1 hret (fun _ hT9 hW => ⟨⟨_, (σ, μ, vp_updL o 0 ((cI σ (15 + 6 * i + 1) (row * 4 + col)).toInt64)), rfl, hpost, wZ_I Z hT9 hW⟩, Z.2.2.2.2.F hT9⟩) Z.2.2.2.2.2.2 dL_stampAt_20

theorem m_L_stampAt_c13 : Cond.classLink RL 13 "java/lang/IndexOutOfBoundsException" ∈ wsL_stampAt := by decide +kernel
set_option maxHeartbeats 4000000 in
set_option maxRecDepth 100000 in
theorem kL_stampAt_X1 (l : Launch) (hst : l.stackTraces = false) (G : wG) (σ : cS) (μ : mS) (o : Nat → Int64) (x : Int32) (y : Int32) (z : Int32) (MS : mS) (MR : Int32) (hx : wi x (nI 2) = false) (hpost : LQ G μ MS MR (nI 1) (σ, μ, o)) : Met l yL_stampAt wsL_stampAt rmL (wPc G σ μ o [.ref (gA G 0), .int (x), .int (y), .int (z), .ref (gA G 53)]) (QLP G μ MS MR) 4 34 (gP G) := by
  refine m_ofWH (hh := [(0, 12, 15, 13)]) (cc := cL_stampAt) (maxL := 6) (ret := (some .int)) (by decide) rfl ?_
  intro p e s m args below meth c s₁ B hml htab hv
  obtain ⟨hargs, hI⟩ := hv
  have S : CallFix p m c cL_stampAt 6 s args wsL_stampAt RL := ⟨B.exec, B.bytes, hml, findClass_of_methodNamed B.named, atoms_spec (ws := wsL_stampAt) B.pre⟩
  have hret := B.returns
  have hlocks := B.notSynchronized
  have Z := wZ_0 hI
  clear hI
  obtain ⟨Q, hQ⟩ : ∃ Q, Q = MQ below (QLP G μ MS MR) args s 4 34 (gP G) := ⟨_, rfl⟩
  rw [← hQ]
  have hl := lv_entry [.ref (gA G 0), .int (x), .int (y), .int (z), .ref (gA G 53)] (n := 6) (Nat.le_of_ble_eq_true rfl)
  rw [show entryFrame m args 6 = entryFrame m ([.ref (gA G 0), .int (x), .int (y), .int (z), .ref (gA G 53)] : List Value).toArray 6 from by rw [hargs], lg_entry_eq]
  generalize (lg_sl [.ref (gA G 0), .int (x), .int (y), .int (z), .ref (gA G 53)] ++ List.replicate (6 - (lg_sl [.ref (gA G 0), .int (x), .int (y), .int (z), .ref (gA G 53)]).length) Slot.unset).toArray = ls at hl ⊢
  have hl : lv_has ls 6 [(0, .ref (gA G 0)), (1, .int (x)), (2, .int (y)), (3, .int (z)), (4, .ref (gA G 53))] := hl
  refine lv_aload S.1 S.2.1 dL_stampAt_0 (lv_at hl 4 rfl) ?_
  refine lv_iconst (v := nI 0) S.1 S.2.1 dL_stampAt_2 (by decide) ?_
  refine lv_aload_n S.1 S.2.1 dL_stampAt_3 rfl (lv_at hl 0 rfl) ?_
  refine lv_iload_n S.1 S.2.1 dL_stampAt_4 rfl (lv_at hl 1 rfl) ?_
  refine lv_iload_n S.1 S.2.1 dL_stampAt_5 rfl (lv_at hl 2 rfl) ?_
  refine lv_iload_n S.1 S.2.1 dL_stampAt_6 rfl (lv_at hl 3 rfl) ?_
  refine x_call (vx_runV (As := [.int (x), .int (y), .int (z)]) (rest := [.int (nI 0), .ref (gA G 53)]) S (k_X7_stampAt_X1 l hst G σ μ o x y z hx) (cwV 3 S.2.2.2.2 gL_stampAt_X7_stampAt rfl rfl rfl ⟨rfl, hy_X7_stampAt⟩ ⟨Nat.le_of_ble_eq_true rfl, Nat.le_of_ble_eq_true rfl⟩) (wPc_V (q := (RX7, TX7, 7)) Z (by decide) rfl rfl) rfl rfl hl.1 rfl (lv_room (Nat.le_of_ble_eq_true rfl)) dL_stampAt_7 ⟨Nat.le_of_ble_eq_true rfl, Nat.le_of_ble_eq_true rfl⟩) (fun _ _ _ h => h) Z (fun ce q9 H locs Z h1 h2 h3 => ?_)
  refine vx_catch (name := "java/lang/IndexOutOfBoundsException") S.2.2.2.1 [] ⟨0, 12, 15, 13⟩ [] (by rw [htab]; rfl) (fun z h => absurd h List.not_mem_nil) rfl (by decide) (S.2.2.2.2 _ m_L_stampAt_c13) (ca_use Z n_caA) h1 h2 h3 ?_
  refine lv_astore (lv' := [(5, .ref (q9)), (0, .ref (gA G 0)), (1, .int (x)), (2, .int (y)), (3, .int (z)), (4, .ref (gA G 53))]) S.1 S.2.1 dL_stampAt_15 hl (by decide) rfl (fun ls hl => ?_)
  refine lv_iconst (v := nI 1) S.1 S.2.1 dL_stampAt_17 (by decide) ?_
  refine W.widen (k := 4) (n := 34) (by decide) (by decide) ?_
  rw [hQ]
  exact W.iret (v := nI 1) S.1 S.2.1 hret (fun _ hT9 hW => ⟨⟨_, (σ, μ, o), rfl, hpost, wZ_I Z hT9 hW⟩, Z.2.2.2.2.F hT9⟩) Z.2.2.2.2.2.2 dL_stampAt_18

set_option maxHeartbeats 4000000 in
set_option maxRecDepth 100000 in
theorem kL_stampAt_X2 (l : Launch) (hst : l.stackTraces = false) (G : wG) (σ : cS) (μ : mS) (o : Nat → Int64) (i : Nat) (x : Int32) (y : Int32) (MS : mS) (MR : Int32) (hi : i < 3) (hx : wi x (nI 15) = false) (hpost : LQ G μ MS MR (nI 1) (σ, μ, o)) : Met l yL_stampAt wsL_stampAt rmL (wPc G σ μ o [.ref (gA G 0), .int (nI i), .int (x), .int (y), .ref (gA G 53)]) (QLP G μ MS MR) 4 34 (gP G) := by
  refine m_ofWH (hh := [(0, 12, 15, 13)]) (cc := cL_stampAt) (maxL := 6) (ret := (some .int)) (by decide) rfl ?_
  intro p e s m args below meth c s₁ B hml htab hv
  obtain ⟨hargs, hI⟩ := hv
  have S : CallFix p m c cL_stampAt 6 s args wsL_stampAt RL := ⟨B.exec, B.bytes, hml, findClass_of_methodNamed B.named, atoms_spec (ws := wsL_stampAt) B.pre⟩
  have hret := B.returns
  have hlocks := B.notSynchronized
  have Z := wZ_0 hI
  clear hI
  obtain ⟨Q, hQ⟩ : ∃ Q, Q = MQ below (QLP G μ MS MR) args s 4 34 (gP G) := ⟨_, rfl⟩
  rw [← hQ]
  have hl := lv_entry [.ref (gA G 0), .int (nI i), .int (x), .int (y), .ref (gA G 53)] (n := 6) (Nat.le_of_ble_eq_true rfl)
  rw [show entryFrame m args 6 = entryFrame m ([.ref (gA G 0), .int (nI i), .int (x), .int (y), .ref (gA G 53)] : List Value).toArray 6 from by rw [hargs], lg_entry_eq]
  generalize (lg_sl [.ref (gA G 0), .int (nI i), .int (x), .int (y), .ref (gA G 53)] ++ List.replicate (6 - (lg_sl [.ref (gA G 0), .int (nI i), .int (x), .int (y), .ref (gA G 53)]).length) Slot.unset).toArray = ls at hl ⊢
  have hl : lv_has ls 6 [(0, .ref (gA G 0)), (1, .int (nI i)), (2, .int (x)), (3, .int (y)), (4, .ref (gA G 53))] := hl
  refine lv_aload S.1 S.2.1 dL_stampAt_0 (lv_at hl 4 rfl) ?_
  refine lv_iconst (v := nI 0) S.1 S.2.1 dL_stampAt_2 (by decide) ?_
  refine lv_aload_n S.1 S.2.1 dL_stampAt_3 rfl (lv_at hl 0 rfl) ?_
  refine lv_iload_n S.1 S.2.1 dL_stampAt_4 rfl (lv_at hl 1 rfl) ?_
  refine lv_iload_n S.1 S.2.1 dL_stampAt_5 rfl (lv_at hl 2 rfl) ?_
  refine lv_iload_n S.1 S.2.1 dL_stampAt_6 rfl (lv_at hl 3 rfl) ?_
  refine x_call (vx_runV (As := [.int (nI i), .int (x), .int (y)]) (rest := [.int (nI 0), .ref (gA G 53)]) S (k_X7_stampAt_X2 l hst G σ μ o i x y hi hx) (cwV 3 S.2.2.2.2 gL_stampAt_X7_stampAt rfl rfl rfl ⟨rfl, hy_X7_stampAt⟩ ⟨Nat.le_of_ble_eq_true rfl, Nat.le_of_ble_eq_true rfl⟩) (wPc_V (q := (RX7, TX7, 7)) Z (by decide) rfl rfl) rfl rfl hl.1 rfl (lv_room (Nat.le_of_ble_eq_true rfl)) dL_stampAt_7 ⟨Nat.le_of_ble_eq_true rfl, Nat.le_of_ble_eq_true rfl⟩) (fun _ _ _ h => h) Z (fun ce q9 H locs Z h1 h2 h3 => ?_)
  refine vx_catch (name := "java/lang/IndexOutOfBoundsException") S.2.2.2.1 [] ⟨0, 12, 15, 13⟩ [] (by rw [htab]; rfl) (fun z h => absurd h List.not_mem_nil) rfl (by decide) (S.2.2.2.2 _ m_L_stampAt_c13) (ca_use Z n_caA) h1 h2 h3 ?_
  refine lv_astore (lv' := [(5, .ref (q9)), (0, .ref (gA G 0)), (1, .int (nI i)), (2, .int (x)), (3, .int (y)), (4, .ref (gA G 53))]) S.1 S.2.1 dL_stampAt_15 hl (by decide) rfl (fun ls hl => ?_)
  refine lv_iconst (v := nI 1) S.1 S.2.1 dL_stampAt_17 (by decide) ?_
  refine W.widen (k := 4) (n := 34) (by decide) (by decide) ?_
  rw [hQ]
  exact W.iret (v := nI 1) S.1 S.2.1 hret (fun _ hT9 hW => ⟨⟨_, (σ, μ, o), rfl, hpost, wZ_I Z hT9 hW⟩, Z.2.2.2.2.F hT9⟩) Z.2.2.2.2.2.2 dL_stampAt_18

set_option maxHeartbeats 4000000 in
set_option maxRecDepth 100000 in
theorem kL_stampAt_X3 (l : Launch) (hst : l.stackTraces = false) (G : wG) (σ : cS) (μ : mS) (o : Nat → Int64) (i : Nat) (row : Nat) (x : Int32) (MS : mS) (MR : Int32) (hi : i < 3) (hrow : row < 16) (hx : wi x (nI 3) = false) (hpost : LQ G μ MS MR (nI 1) (σ, μ, o)) : Met l yL_stampAt wsL_stampAt rmL (wPc G σ μ o [.ref (gA G 0), .int (nI i), .int (nI row), .int (x), .ref (gA G 53)]) (QLP G μ MS MR) 4 34 (gP G) := by
  refine m_ofWH (hh := [(0, 12, 15, 13)]) (cc := cL_stampAt) (maxL := 6) (ret := (some .int)) (by decide) rfl ?_
  intro p e s m args below meth c s₁ B hml htab hv
  obtain ⟨hargs, hI⟩ := hv
  have S : CallFix p m c cL_stampAt 6 s args wsL_stampAt RL := ⟨B.exec, B.bytes, hml, findClass_of_methodNamed B.named, atoms_spec (ws := wsL_stampAt) B.pre⟩
  have hret := B.returns
  have hlocks := B.notSynchronized
  have Z := wZ_0 hI
  clear hI
  obtain ⟨Q, hQ⟩ : ∃ Q, Q = MQ below (QLP G μ MS MR) args s 4 34 (gP G) := ⟨_, rfl⟩
  rw [← hQ]
  have hl := lv_entry [.ref (gA G 0), .int (nI i), .int (nI row), .int (x), .ref (gA G 53)] (n := 6) (Nat.le_of_ble_eq_true rfl)
  rw [show entryFrame m args 6 = entryFrame m ([.ref (gA G 0), .int (nI i), .int (nI row), .int (x), .ref (gA G 53)] : List Value).toArray 6 from by rw [hargs], lg_entry_eq]
  generalize (lg_sl [.ref (gA G 0), .int (nI i), .int (nI row), .int (x), .ref (gA G 53)] ++ List.replicate (6 - (lg_sl [.ref (gA G 0), .int (nI i), .int (nI row), .int (x), .ref (gA G 53)]).length) Slot.unset).toArray = ls at hl ⊢
  have hl : lv_has ls 6 [(0, .ref (gA G 0)), (1, .int (nI i)), (2, .int (nI row)), (3, .int (x)), (4, .ref (gA G 53))] := hl
  refine lv_aload S.1 S.2.1 dL_stampAt_0 (lv_at hl 4 rfl) ?_
  refine lv_iconst (v := nI 0) S.1 S.2.1 dL_stampAt_2 (by decide) ?_
  refine lv_aload_n S.1 S.2.1 dL_stampAt_3 rfl (lv_at hl 0 rfl) ?_
  refine lv_iload_n S.1 S.2.1 dL_stampAt_4 rfl (lv_at hl 1 rfl) ?_
  refine lv_iload_n S.1 S.2.1 dL_stampAt_5 rfl (lv_at hl 2 rfl) ?_
  refine lv_iload_n S.1 S.2.1 dL_stampAt_6 rfl (lv_at hl 3 rfl) ?_
  refine x_call (vx_runV (As := [.int (nI i), .int (nI row), .int (x)]) (rest := [.int (nI 0), .ref (gA G 53)]) S (k_X7_stampAt_X3 l hst G σ μ o i row x hi hrow hx) (cwV 3 S.2.2.2.2 gL_stampAt_X7_stampAt rfl rfl rfl ⟨rfl, hy_X7_stampAt⟩ ⟨Nat.le_of_ble_eq_true rfl, Nat.le_of_ble_eq_true rfl⟩) (wPc_V (q := (RX7, TX7, 7)) Z (by decide) rfl rfl) rfl rfl hl.1 rfl (lv_room (Nat.le_of_ble_eq_true rfl)) dL_stampAt_7 ⟨Nat.le_of_ble_eq_true rfl, Nat.le_of_ble_eq_true rfl⟩) (fun _ _ _ h => h) Z (fun ce q9 H locs Z h1 h2 h3 => ?_)
  refine vx_catch (name := "java/lang/IndexOutOfBoundsException") S.2.2.2.1 [] ⟨0, 12, 15, 13⟩ [] (by rw [htab]; rfl) (fun z h => absurd h List.not_mem_nil) rfl (by decide) (S.2.2.2.2 _ m_L_stampAt_c13) (ca_use Z n_caA) h1 h2 h3 ?_
  refine lv_astore (lv' := [(5, .ref (q9)), (0, .ref (gA G 0)), (1, .int (nI i)), (2, .int (nI row)), (3, .int (x)), (4, .ref (gA G 53))]) S.1 S.2.1 dL_stampAt_15 hl (by decide) rfl (fun ls hl => ?_)
  refine lv_iconst (v := nI 1) S.1 S.2.1 dL_stampAt_17 (by decide) ?_
  refine W.widen (k := 4) (n := 34) (by decide) (by decide) ?_
  rw [hQ]
  exact W.iret (v := nI 1) S.1 S.2.1 hret (fun _ hT9 hW => ⟨⟨_, (σ, μ, o), rfl, hpost, wZ_I Z hT9 hW⟩, Z.2.2.2.2.F hT9⟩) Z.2.2.2.2.2.2 dL_stampAt_18

set_option maxHeartbeats 4000000 in
set_option maxRecDepth 100000 in
theorem kL_buriedBy (l : Launch) (hst : l.stackTraces = false) (G : wG) (σ : cS) (μ : mS) (o : Nat → Int64) (i : Nat) (row : Nat) (col : Nat) (MS : mS) (MR : Int32) (hi : i < 3) (hrow : row < 16) (hcol : col < 4) (hpost : LQ G μ MS MR (nI 0) (σ, μ, vp_updL o 0 (gB σ i row col).toInt64)) : Met l yL_buriedBy wsL_buriedBy rmL (wPc G σ μ o [.ref (gA G 0), .int (nI i), .int (nI row), .int (nI col), .ref (gA G 53)]) (QLP G μ MS MR) 4 34 (gP G) := by
  refine m_ofWH (hh := [(0, 12, 15, 13)]) (cc := cL_buriedBy) (maxL := 6) (ret := (some .int)) (by decide) rfl ?_
  intro p e s m args below meth c s₁ B hml htab hv
  obtain ⟨hargs, hI⟩ := hv
  have S : CallFix p m c cL_buriedBy 6 s args wsL_buriedBy RL := ⟨B.exec, B.bytes, hml, findClass_of_methodNamed B.named, atoms_spec (ws := wsL_buriedBy) B.pre⟩
  have hret := B.returns
  have hlocks := B.notSynchronized
  have Z := wZ_0 hI
  clear hI
  obtain ⟨Q, hQ⟩ : ∃ Q, Q = MQ below (QLP G μ MS MR) args s 4 34 (gP G) := ⟨_, rfl⟩
  rw [← hQ]
  have hl := lv_entry [.ref (gA G 0), .int (nI i), .int (nI row), .int (nI col), .ref (gA G 53)] (n := 6) (Nat.le_of_ble_eq_true rfl)
  rw [show entryFrame m args 6 = entryFrame m ([.ref (gA G 0), .int (nI i), .int (nI row), .int (nI col), .ref (gA G 53)] : List Value).toArray 6 from by rw [hargs], lg_entry_eq]
  generalize (lg_sl [.ref (gA G 0), .int (nI i), .int (nI row), .int (nI col), .ref (gA G 53)] ++ List.replicate (6 - (lg_sl [.ref (gA G 0), .int (nI i), .int (nI row), .int (nI col), .ref (gA G 53)]).length) Slot.unset).toArray = ls at hl ⊢
  have hl : lv_has ls 6 [(0, .ref (gA G 0)), (1, .int (nI i)), (2, .int (nI row)), (3, .int (nI col)), (4, .ref (gA G 53))] := hl
  refine lv_aload S.1 S.2.1 dL_buriedBy_0 (lv_at hl 4 rfl) ?_
  refine lv_iconst (v := nI 0) S.1 S.2.1 dL_buriedBy_2 (by decide) ?_
  refine lv_aload_n S.1 S.2.1 dL_buriedBy_3 rfl (lv_at hl 0 rfl) ?_
  refine lv_iload_n S.1 S.2.1 dL_buriedBy_4 rfl (lv_at hl 1 rfl) ?_
  refine lv_iload_n S.1 S.2.1 dL_buriedBy_5 rfl (lv_at hl 2 rfl) ?_
  refine lv_iload_n S.1 S.2.1 dL_buriedBy_6 rfl (lv_at hl 3 rfl) ?_
  refine vp_callSi (va_runV (As := [.int (nI i), .int (nI row), .int (nI col)]) (rest := [.int (nI 0), .ref (gA G 53)]) S (k_X7_buriedBy l G σ μ o i row col hi hrow hcol) (cwV 3 S.2.2.2.2 gL_buriedBy_X7_buriedBy rfl rfl rfl ⟨rfl, hy_X7_buriedBy⟩ ⟨Nat.le_of_ble_eq_true rfl, Nat.le_of_ble_eq_true rfl⟩) (wPc_V (q := (RX7, TX7, 7)) Z (by decide) rfl rfl) rfl rfl hl.1 rfl (lv_room (Nat.le_of_ble_eq_true rfl)) dL_buriedBy_7 ⟨Nat.le_of_ble_eq_true rfl, Nat.le_of_ble_eq_true rfl⟩).run (fun r_1 h_2 => ?_)
  rw [h_2]; clear h_2 r_1
  refine lv_i2l (v := (gB σ i row col).toInt64) S.1 S.2.1 dL_buriedBy_10 rfl ?_
  refine r_last S Z dL_buriedBy_11 (fun H locs Z => ?_)
  refine lv_goto (tgt := 19) S.1 S.2.1 dL_buriedBy_12 (by decide) ?_
  refine lv_iconst (v := nI 0) S.1 S.2.1 dL_buriedBy_19 (by decide) ?_
  refine W.widen (k := 4) (n := 34) (by decide) (by decide) ?_
  rw [hQ]
  exact W.iret (v := nI 0) S.1 S.2.1 hret (fun _ hT9 hW => ⟨⟨_, (σ, μ, vp_updL o 0 ((gB σ i row col).toInt64)), rfl, hpost, wZ_I Z hT9 hW⟩, Z.2.2.2.2.F hT9⟩) Z.2.2.2.2.2.2 dL_buriedBy_20

theorem m_L_buriedBy_c13 : Cond.classLink RL 13 "java/lang/IndexOutOfBoundsException" ∈ wsL_buriedBy := by decide +kernel
set_option maxHeartbeats 4000000 in
set_option maxRecDepth 100000 in
theorem kL_buriedBy_X1 (l : Launch) (hst : l.stackTraces = false) (G : wG) (σ : cS) (μ : mS) (o : Nat → Int64) (x : Int32) (y : Int32) (z : Int32) (MS : mS) (MR : Int32) (hx : wi x (nI 2) = false) (hpost : LQ G μ MS MR (nI 1) (σ, μ, o)) : Met l yL_buriedBy wsL_buriedBy rmL (wPc G σ μ o [.ref (gA G 0), .int (x), .int (y), .int (z), .ref (gA G 53)]) (QLP G μ MS MR) 4 34 (gP G) := by
  refine m_ofWH (hh := [(0, 12, 15, 13)]) (cc := cL_buriedBy) (maxL := 6) (ret := (some .int)) (by decide) rfl ?_
  intro p e s m args below meth c s₁ B hml htab hv
  obtain ⟨hargs, hI⟩ := hv
  have S : CallFix p m c cL_buriedBy 6 s args wsL_buriedBy RL := ⟨B.exec, B.bytes, hml, findClass_of_methodNamed B.named, atoms_spec (ws := wsL_buriedBy) B.pre⟩
  have hret := B.returns
  have hlocks := B.notSynchronized
  have Z := wZ_0 hI
  clear hI
  obtain ⟨Q, hQ⟩ : ∃ Q, Q = MQ below (QLP G μ MS MR) args s 4 34 (gP G) := ⟨_, rfl⟩
  rw [← hQ]
  have hl := lv_entry [.ref (gA G 0), .int (x), .int (y), .int (z), .ref (gA G 53)] (n := 6) (Nat.le_of_ble_eq_true rfl)
  rw [show entryFrame m args 6 = entryFrame m ([.ref (gA G 0), .int (x), .int (y), .int (z), .ref (gA G 53)] : List Value).toArray 6 from by rw [hargs], lg_entry_eq]
  generalize (lg_sl [.ref (gA G 0), .int (x), .int (y), .int (z), .ref (gA G 53)] ++ List.replicate (6 - (lg_sl [.ref (gA G 0), .int (x), .int (y), .int (z), .ref (gA G 53)]).length) Slot.unset).toArray = ls at hl ⊢
  have hl : lv_has ls 6 [(0, .ref (gA G 0)), (1, .int (x)), (2, .int (y)), (3, .int (z)), (4, .ref (gA G 53))] := hl
  refine lv_aload S.1 S.2.1 dL_buriedBy_0 (lv_at hl 4 rfl) ?_
  refine lv_iconst (v := nI 0) S.1 S.2.1 dL_buriedBy_2 (by decide) ?_
  refine lv_aload_n S.1 S.2.1 dL_buriedBy_3 rfl (lv_at hl 0 rfl) ?_
  refine lv_iload_n S.1 S.2.1 dL_buriedBy_4 rfl (lv_at hl 1 rfl) ?_
  refine lv_iload_n S.1 S.2.1 dL_buriedBy_5 rfl (lv_at hl 2 rfl) ?_
  refine lv_iload_n S.1 S.2.1 dL_buriedBy_6 rfl (lv_at hl 3 rfl) ?_
  refine x_call (vx_runV (As := [.int (x), .int (y), .int (z)]) (rest := [.int (nI 0), .ref (gA G 53)]) S (k_X7_buriedBy_X1 l hst G σ μ o x y z hx) (cwV 3 S.2.2.2.2 gL_buriedBy_X7_buriedBy rfl rfl rfl ⟨rfl, hy_X7_buriedBy⟩ ⟨Nat.le_of_ble_eq_true rfl, Nat.le_of_ble_eq_true rfl⟩) (wPc_V (q := (RX7, TX7, 7)) Z (by decide) rfl rfl) rfl rfl hl.1 rfl (lv_room (Nat.le_of_ble_eq_true rfl)) dL_buriedBy_7 ⟨Nat.le_of_ble_eq_true rfl, Nat.le_of_ble_eq_true rfl⟩) (fun _ _ _ h => h) Z (fun ce q9 H locs Z h1 h2 h3 => ?_)
  refine vx_catch (name := "java/lang/IndexOutOfBoundsException") S.2.2.2.1 [] ⟨0, 12, 15, 13⟩ [] (by rw [htab]; rfl) (fun z h => absurd h List.not_mem_nil) rfl (by decide) (S.2.2.2.2 _ m_L_buriedBy_c13) (ca_use Z n_caA) h1 h2 h3 ?_
  refine lv_astore (lv' := [(5, .ref (q9)), (0, .ref (gA G 0)), (1, .int (x)), (2, .int (y)), (3, .int (z)), (4, .ref (gA G 53))]) S.1 S.2.1 dL_buriedBy_15 hl (by decide) rfl (fun ls hl => ?_)
  refine lv_iconst (v := nI 1) S.1 S.2.1 dL_buriedBy_17 (by decide) ?_
  refine W.widen (k := 4) (n := 34) (by decide) (by decide) ?_
  rw [hQ]
  exact W.iret (v := nI 1) S.1 S.2.1 hret (fun _ hT9 hW => ⟨⟨_, (σ, μ, o), rfl, hpost, wZ_I Z hT9 hW⟩, Z.2.2.2.2.F hT9⟩) Z.2.2.2.2.2.2 dL_buriedBy_18

set_option maxHeartbeats 4000000 in
set_option maxRecDepth 100000 in
theorem kL_buriedBy_X2 (l : Launch) (hst : l.stackTraces = false) (G : wG) (σ : cS) (μ : mS) (o : Nat → Int64) (i : Nat) (x : Int32) (y : Int32) (MS : mS) (MR : Int32) (hi : i < 3) (hx : wi x (nI 15) = false) (hpost : LQ G μ MS MR (nI 1) (σ, μ, o)) : Met l yL_buriedBy wsL_buriedBy rmL (wPc G σ μ o [.ref (gA G 0), .int (nI i), .int (x), .int (y), .ref (gA G 53)]) (QLP G μ MS MR) 4 34 (gP G) := by
  refine m_ofWH (hh := [(0, 12, 15, 13)]) (cc := cL_buriedBy) (maxL := 6) (ret := (some .int)) (by decide) rfl ?_
  intro p e s m args below meth c s₁ B hml htab hv
  obtain ⟨hargs, hI⟩ := hv
  have S : CallFix p m c cL_buriedBy 6 s args wsL_buriedBy RL := ⟨B.exec, B.bytes, hml, findClass_of_methodNamed B.named, atoms_spec (ws := wsL_buriedBy) B.pre⟩
  have hret := B.returns
  have hlocks := B.notSynchronized
  have Z := wZ_0 hI
  clear hI
  obtain ⟨Q, hQ⟩ : ∃ Q, Q = MQ below (QLP G μ MS MR) args s 4 34 (gP G) := ⟨_, rfl⟩
  rw [← hQ]
  have hl := lv_entry [.ref (gA G 0), .int (nI i), .int (x), .int (y), .ref (gA G 53)] (n := 6) (Nat.le_of_ble_eq_true rfl)
  rw [show entryFrame m args 6 = entryFrame m ([.ref (gA G 0), .int (nI i), .int (x), .int (y), .ref (gA G 53)] : List Value).toArray 6 from by rw [hargs], lg_entry_eq]
  generalize (lg_sl [.ref (gA G 0), .int (nI i), .int (x), .int (y), .ref (gA G 53)] ++ List.replicate (6 - (lg_sl [.ref (gA G 0), .int (nI i), .int (x), .int (y), .ref (gA G 53)]).length) Slot.unset).toArray = ls at hl ⊢
  have hl : lv_has ls 6 [(0, .ref (gA G 0)), (1, .int (nI i)), (2, .int (x)), (3, .int (y)), (4, .ref (gA G 53))] := hl
  refine lv_aload S.1 S.2.1 dL_buriedBy_0 (lv_at hl 4 rfl) ?_
  refine lv_iconst (v := nI 0) S.1 S.2.1 dL_buriedBy_2 (by decide) ?_
  refine lv_aload_n S.1 S.2.1 dL_buriedBy_3 rfl (lv_at hl 0 rfl) ?_
  refine lv_iload_n S.1 S.2.1 dL_buriedBy_4 rfl (lv_at hl 1 rfl) ?_
  refine lv_iload_n S.1 S.2.1 dL_buriedBy_5 rfl (lv_at hl 2 rfl) ?_
  refine lv_iload_n S.1 S.2.1 dL_buriedBy_6 rfl (lv_at hl 3 rfl) ?_
  refine x_call (vx_runV (As := [.int (nI i), .int (x), .int (y)]) (rest := [.int (nI 0), .ref (gA G 53)]) S (k_X7_buriedBy_X2 l hst G σ μ o i x y hi hx) (cwV 3 S.2.2.2.2 gL_buriedBy_X7_buriedBy rfl rfl rfl ⟨rfl, hy_X7_buriedBy⟩ ⟨Nat.le_of_ble_eq_true rfl, Nat.le_of_ble_eq_true rfl⟩) (wPc_V (q := (RX7, TX7, 7)) Z (by decide) rfl rfl) rfl rfl hl.1 rfl (lv_room (Nat.le_of_ble_eq_true rfl)) dL_buriedBy_7 ⟨Nat.le_of_ble_eq_true rfl, Nat.le_of_ble_eq_true rfl⟩) (fun _ _ _ h => h) Z (fun ce q9 H locs Z h1 h2 h3 => ?_)
  refine vx_catch (name := "java/lang/IndexOutOfBoundsException") S.2.2.2.1 [] ⟨0, 12, 15, 13⟩ [] (by rw [htab]; rfl) (fun z h => absurd h List.not_mem_nil) rfl (by decide) (S.2.2.2.2 _ m_L_buriedBy_c13) (ca_use Z n_caA) h1 h2 h3 ?_
  refine lv_astore (lv' := [(5, .ref (q9)), (0, .ref (gA G 0)), (1, .int (nI i)), (2, .int (x)), (3, .int (y)), (4, .ref (gA G 53))]) S.1 S.2.1 dL_buriedBy_15 hl (by decide) rfl (fun ls hl => ?_)
  refine lv_iconst (v := nI 1) S.1 S.2.1 dL_buriedBy_17 (by decide) ?_
  refine W.widen (k := 4) (n := 34) (by decide) (by decide) ?_
  rw [hQ]
  exact W.iret (v := nI 1) S.1 S.2.1 hret (fun _ hT9 hW => ⟨⟨_, (σ, μ, o), rfl, hpost, wZ_I Z hT9 hW⟩, Z.2.2.2.2.F hT9⟩) Z.2.2.2.2.2.2 dL_buriedBy_18

set_option maxHeartbeats 4000000 in
set_option maxRecDepth 100000 in
theorem kL_buriedBy_X3 (l : Launch) (hst : l.stackTraces = false) (G : wG) (σ : cS) (μ : mS) (o : Nat → Int64) (i : Nat) (row : Nat) (x : Int32) (MS : mS) (MR : Int32) (hi : i < 3) (hrow : row < 16) (hx : wi x (nI 3) = false) (hpost : LQ G μ MS MR (nI 1) (σ, μ, o)) : Met l yL_buriedBy wsL_buriedBy rmL (wPc G σ μ o [.ref (gA G 0), .int (nI i), .int (nI row), .int (x), .ref (gA G 53)]) (QLP G μ MS MR) 4 34 (gP G) := by
  refine m_ofWH (hh := [(0, 12, 15, 13)]) (cc := cL_buriedBy) (maxL := 6) (ret := (some .int)) (by decide) rfl ?_
  intro p e s m args below meth c s₁ B hml htab hv
  obtain ⟨hargs, hI⟩ := hv
  have S : CallFix p m c cL_buriedBy 6 s args wsL_buriedBy RL := ⟨B.exec, B.bytes, hml, findClass_of_methodNamed B.named, atoms_spec (ws := wsL_buriedBy) B.pre⟩
  have hret := B.returns
  have hlocks := B.notSynchronized
  have Z := wZ_0 hI
  clear hI
  obtain ⟨Q, hQ⟩ : ∃ Q, Q = MQ below (QLP G μ MS MR) args s 4 34 (gP G) := ⟨_, rfl⟩
  rw [← hQ]
  have hl := lv_entry [.ref (gA G 0), .int (nI i), .int (nI row), .int (x), .ref (gA G 53)] (n := 6) (Nat.le_of_ble_eq_true rfl)
  rw [show entryFrame m args 6 = entryFrame m ([.ref (gA G 0), .int (nI i), .int (nI row), .int (x), .ref (gA G 53)] : List Value).toArray 6 from by rw [hargs], lg_entry_eq]
  generalize (lg_sl [.ref (gA G 0), .int (nI i), .int (nI row), .int (x), .ref (gA G 53)] ++ List.replicate (6 - (lg_sl [.ref (gA G 0), .int (nI i), .int (nI row), .int (x), .ref (gA G 53)]).length) Slot.unset).toArray = ls at hl ⊢
  have hl : lv_has ls 6 [(0, .ref (gA G 0)), (1, .int (nI i)), (2, .int (nI row)), (3, .int (x)), (4, .ref (gA G 53))] := hl
  refine lv_aload S.1 S.2.1 dL_buriedBy_0 (lv_at hl 4 rfl) ?_
  refine lv_iconst (v := nI 0) S.1 S.2.1 dL_buriedBy_2 (by decide) ?_
  refine lv_aload_n S.1 S.2.1 dL_buriedBy_3 rfl (lv_at hl 0 rfl) ?_
  refine lv_iload_n S.1 S.2.1 dL_buriedBy_4 rfl (lv_at hl 1 rfl) ?_
  refine lv_iload_n S.1 S.2.1 dL_buriedBy_5 rfl (lv_at hl 2 rfl) ?_
  refine lv_iload_n S.1 S.2.1 dL_buriedBy_6 rfl (lv_at hl 3 rfl) ?_
  refine x_call (vx_runV (As := [.int (nI i), .int (nI row), .int (x)]) (rest := [.int (nI 0), .ref (gA G 53)]) S (k_X7_buriedBy_X3 l hst G σ μ o i row x hi hrow hx) (cwV 3 S.2.2.2.2 gL_buriedBy_X7_buriedBy rfl rfl rfl ⟨rfl, hy_X7_buriedBy⟩ ⟨Nat.le_of_ble_eq_true rfl, Nat.le_of_ble_eq_true rfl⟩) (wPc_V (q := (RX7, TX7, 7)) Z (by decide) rfl rfl) rfl rfl hl.1 rfl (lv_room (Nat.le_of_ble_eq_true rfl)) dL_buriedBy_7 ⟨Nat.le_of_ble_eq_true rfl, Nat.le_of_ble_eq_true rfl⟩) (fun _ _ _ h => h) Z (fun ce q9 H locs Z h1 h2 h3 => ?_)
  refine vx_catch (name := "java/lang/IndexOutOfBoundsException") S.2.2.2.1 [] ⟨0, 12, 15, 13⟩ [] (by rw [htab]; rfl) (fun z h => absurd h List.not_mem_nil) rfl (by decide) (S.2.2.2.2 _ m_L_buriedBy_c13) (ca_use Z n_caA) h1 h2 h3 ?_
  refine lv_astore (lv' := [(5, .ref (q9)), (0, .ref (gA G 0)), (1, .int (nI i)), (2, .int (nI row)), (3, .int (x)), (4, .ref (gA G 53))]) S.1 S.2.1 dL_buriedBy_15 hl (by decide) rfl (fun ls hl => ?_)
  refine lv_iconst (v := nI 1) S.1 S.2.1 dL_buriedBy_17 (by decide) ?_
  refine W.widen (k := 4) (n := 34) (by decide) (by decide) ?_
  rw [hQ]
  exact W.iret (v := nI 1) S.1 S.2.1 hret (fun _ hT9 hW => ⟨⟨_, (σ, μ, o), rfl, hpost, wZ_I Z hT9 hW⟩, Z.2.2.2.2.F hT9⟩) Z.2.2.2.2.2.2 dL_buriedBy_18

set_option maxHeartbeats 4000000 in
set_option maxRecDepth 100000 in
theorem kL_tombstones (l : Launch) (hst : l.stackTraces = false) (G : wG) (σ : cS) (μ : mS) (o : Nat → Int64) (i : Nat) (r : Nat) (MS : mS) (MR : Int32) (hi : i < 3) (hr : r < 4) (hpost : LQ G μ MS MR (nI 0) (σ, μ, vp_updL o 0 (nI (cntT σ i (fpl r) (fpl (r + 1) - fpl r))).toInt64)) : Met l yL_tombstones wsL_tombstones rmL (wPc G σ μ o [.ref (gA G 0), .int (nI i), .int (nI r), .ref (gA G 53)]) (QLP G μ MS MR) 4 34 (gP G) := by
  refine m_ofWH (hh := [(0, 10, 13, 13), (0, 10, 17, 15)]) (cc := cL_tombstones) (maxL := 5) (ret := (some .int)) (by decide) rfl ?_
  intro p e s m args below meth c s₁ B hml htab hv
  obtain ⟨hargs, hI⟩ := hv
  have S : CallFix p m c cL_tombstones 5 s args wsL_tombstones RL := ⟨B.exec, B.bytes, hml, findClass_of_methodNamed B.named, atoms_spec (ws := wsL_tombstones) B.pre⟩
  have hret := B.returns
  have hlocks := B.notSynchronized
  have Z := wZ_0 hI
  clear hI
  obtain ⟨Q, hQ⟩ : ∃ Q, Q = MQ below (QLP G μ MS MR) args s 4 34 (gP G) := ⟨_, rfl⟩
  rw [← hQ]
  have hl := lv_entry [.ref (gA G 0), .int (nI i), .int (nI r), .ref (gA G 53)] (n := 5) (Nat.le_of_ble_eq_true rfl)
  rw [show entryFrame m args 5 = entryFrame m ([.ref (gA G 0), .int (nI i), .int (nI r), .ref (gA G 53)] : List Value).toArray 5 from by rw [hargs], lg_entry_eq]
  generalize (lg_sl [.ref (gA G 0), .int (nI i), .int (nI r), .ref (gA G 53)] ++ List.replicate (5 - (lg_sl [.ref (gA G 0), .int (nI i), .int (nI r), .ref (gA G 53)]).length) Slot.unset).toArray = ls at hl ⊢
  have hl : lv_has ls 5 [(0, .ref (gA G 0)), (1, .int (nI i)), (2, .int (nI r)), (3, .ref (gA G 53))] := hl
  refine lv_aload_n S.1 S.2.1 dL_tombstones_0 rfl (lv_at hl 3 rfl) ?_
  refine lv_iconst (v := nI 0) S.1 S.2.1 dL_tombstones_1 (by decide) ?_
  refine lv_aload_n S.1 S.2.1 dL_tombstones_2 rfl (lv_at hl 0 rfl) ?_
  refine lv_iload_n S.1 S.2.1 dL_tombstones_3 rfl (lv_at hl 1 rfl) ?_
  refine lv_iload_n S.1 S.2.1 dL_tombstones_4 rfl (lv_at hl 2 rfl) ?_
  refine vp_callSi (va_runV (As := [.int (nI i), .int (nI r)]) (rest := [.int (nI 0), .ref (gA G 53)]) S (k_X7_tombstones l G σ μ o i r hi hr) (cwV 2 S.2.2.2.2 gL_tombstones_X7_tombstones rfl rfl rfl ⟨rfl, hy_X7_tombstones⟩ ⟨Nat.le_of_ble_eq_true rfl, Nat.le_of_ble_eq_true rfl⟩) (wPc_V (q := (RX7, TX7, 7)) Z (by decide) rfl rfl) rfl rfl hl.1 rfl (lv_room (Nat.le_of_ble_eq_true rfl)) dL_tombstones_5 ⟨Nat.le_of_ble_eq_true rfl, Nat.le_of_ble_eq_true rfl⟩).run (fun r_1 h_2 => ?_)
  rw [h_2]; clear h_2 r_1
  refine lv_i2l (v := (nI (cntT σ i (fpl r) (fpl (r + 1) - fpl r))).toInt64) S.1 S.2.1 dL_tombstones_8 rfl ?_
  refine r_last S Z dL_tombstones_9 (fun H locs Z => ?_)
  refine lv_goto (tgt := 21) S.1 S.2.1 dL_tombstones_10 (by decide) ?_
  refine lv_iconst (v := nI 0) S.1 S.2.1 dL_tombstones_21 (by decide) ?_
  refine W.widen (k := 4) (n := 34) (by decide) (by decide) ?_
  rw [hQ]
  exact W.iret (v := nI 0) S.1 S.2.1 hret (fun _ hT9 hW => ⟨⟨_, (σ, μ, vp_updL o 0 ((nI (cntT σ i (fpl r) (fpl (r + 1) - fpl r))).toInt64)), rfl, hpost, wZ_I Z hT9 hW⟩, Z.2.2.2.2.F hT9⟩) Z.2.2.2.2.2.2 dL_tombstones_22

theorem m_L_tombstones_c13 : Cond.classLink RL 13 "java/lang/IndexOutOfBoundsException" ∈ wsL_tombstones := by decide +kernel
set_option maxHeartbeats 4000000 in
set_option maxRecDepth 100000 in
theorem kL_tombstones_X1 (l : Launch) (hst : l.stackTraces = false) (G : wG) (σ : cS) (μ : mS) (o : Nat → Int64) (x : Int32) (y : Int32) (MS : mS) (MR : Int32) (hx : wi x (nI 2) = false) (hpost : LQ G μ MS MR (nI 1) (σ, μ, o)) : Met l yL_tombstones wsL_tombstones rmL (wPc G σ μ o [.ref (gA G 0), .int (x), .int (y), .ref (gA G 53)]) (QLP G μ MS MR) 4 34 (gP G) := by
  refine m_ofWH (hh := [(0, 10, 13, 13), (0, 10, 17, 15)]) (cc := cL_tombstones) (maxL := 5) (ret := (some .int)) (by decide) rfl ?_
  intro p e s m args below meth c s₁ B hml htab hv
  obtain ⟨hargs, hI⟩ := hv
  have S : CallFix p m c cL_tombstones 5 s args wsL_tombstones RL := ⟨B.exec, B.bytes, hml, findClass_of_methodNamed B.named, atoms_spec (ws := wsL_tombstones) B.pre⟩
  have hret := B.returns
  have hlocks := B.notSynchronized
  have Z := wZ_0 hI
  clear hI
  obtain ⟨Q, hQ⟩ : ∃ Q, Q = MQ below (QLP G μ MS MR) args s 4 34 (gP G) := ⟨_, rfl⟩
  rw [← hQ]
  have hl := lv_entry [.ref (gA G 0), .int (x), .int (y), .ref (gA G 53)] (n := 5) (Nat.le_of_ble_eq_true rfl)
  rw [show entryFrame m args 5 = entryFrame m ([.ref (gA G 0), .int (x), .int (y), .ref (gA G 53)] : List Value).toArray 5 from by rw [hargs], lg_entry_eq]
  generalize (lg_sl [.ref (gA G 0), .int (x), .int (y), .ref (gA G 53)] ++ List.replicate (5 - (lg_sl [.ref (gA G 0), .int (x), .int (y), .ref (gA G 53)]).length) Slot.unset).toArray = ls at hl ⊢
  have hl : lv_has ls 5 [(0, .ref (gA G 0)), (1, .int (x)), (2, .int (y)), (3, .ref (gA G 53))] := hl
  refine lv_aload_n S.1 S.2.1 dL_tombstones_0 rfl (lv_at hl 3 rfl) ?_
  refine lv_iconst (v := nI 0) S.1 S.2.1 dL_tombstones_1 (by decide) ?_
  refine lv_aload_n S.1 S.2.1 dL_tombstones_2 rfl (lv_at hl 0 rfl) ?_
  refine lv_iload_n S.1 S.2.1 dL_tombstones_3 rfl (lv_at hl 1 rfl) ?_
  refine lv_iload_n S.1 S.2.1 dL_tombstones_4 rfl (lv_at hl 2 rfl) ?_
  refine x_call (vx_runV (As := [.int (x), .int (y)]) (rest := [.int (nI 0), .ref (gA G 53)]) S (k_X7_tombstones_X1 l hst G σ μ o x y hx) (cwV 2 S.2.2.2.2 gL_tombstones_X7_tombstones rfl rfl rfl ⟨rfl, hy_X7_tombstones⟩ ⟨Nat.le_of_ble_eq_true rfl, Nat.le_of_ble_eq_true rfl⟩) (wPc_V (q := (RX7, TX7, 7)) Z (by decide) rfl rfl) rfl rfl hl.1 rfl (lv_room (Nat.le_of_ble_eq_true rfl)) dL_tombstones_5 ⟨Nat.le_of_ble_eq_true rfl, Nat.le_of_ble_eq_true rfl⟩) (fun _ _ _ h => h) Z (fun ce q9 H locs Z h1 h2 h3 => ?_)
  refine vx_catch (name := "java/lang/IndexOutOfBoundsException") S.2.2.2.1 [] ⟨0, 10, 13, 13⟩ [⟨0, 10, 17, 15⟩] (by rw [htab]; rfl) (fun z h => absurd h List.not_mem_nil) rfl (by decide) (S.2.2.2.2 _ m_L_tombstones_c13) (ca_use Z n_caA) h1 h2 h3 ?_
  refine lv_astore (lv' := [(4, .ref (q9)), (0, .ref (gA G 0)), (1, .int (x)), (2, .int (y)), (3, .ref (gA G 53))]) S.1 S.2.1 dL_tombstones_13 hl (by decide) rfl (fun ls hl => ?_)
  refine lv_iconst (v := nI 1) S.1 S.2.1 dL_tombstones_15 (by decide) ?_
  refine W.widen (k := 4) (n := 34) (by decide) (by decide) ?_
  rw [hQ]
  exact W.iret (v := nI 1) S.1 S.2.1 hret (fun _ hT9 hW => ⟨⟨_, (σ, μ, o), rfl, hpost, wZ_I Z hT9 hW⟩, Z.2.2.2.2.F hT9⟩) Z.2.2.2.2.2.2 dL_tombstones_16

theorem m_L_tombstones_c15 : Cond.classLink RL 15 "java/lang/IllegalArgumentException" ∈ wsL_tombstones := by decide +kernel
set_option maxHeartbeats 4000000 in
set_option maxRecDepth 100000 in
theorem kL_tombstones_X2 (l : Launch) (hst : l.stackTraces = false) (G : wG) (σ : cS) (μ : mS) (o : Nat → Int64) (i : Nat) (x : Int32) (MS : mS) (MR : Int32) (hi : i < 3) (hx : wi x (nI 3) = false) (hpost : LQ G μ MS MR (nI 2) (σ, μ, o)) : Met l yL_tombstones wsL_tombstones rmL (wPc G σ μ o [.ref (gA G 0), .int (nI i), .int (x), .ref (gA G 53)]) (QLP G μ MS MR) 4 34 (gP G) := by
  refine m_ofWH (hh := [(0, 10, 13, 13), (0, 10, 17, 15)]) (cc := cL_tombstones) (maxL := 5) (ret := (some .int)) (by decide) rfl ?_
  intro p e s m args below meth c s₁ B hml htab hv
  obtain ⟨hargs, hI⟩ := hv
  have S : CallFix p m c cL_tombstones 5 s args wsL_tombstones RL := ⟨B.exec, B.bytes, hml, findClass_of_methodNamed B.named, atoms_spec (ws := wsL_tombstones) B.pre⟩
  have hret := B.returns
  have hlocks := B.notSynchronized
  have Z := wZ_0 hI
  clear hI
  obtain ⟨Q, hQ⟩ : ∃ Q, Q = MQ below (QLP G μ MS MR) args s 4 34 (gP G) := ⟨_, rfl⟩
  rw [← hQ]
  have hl := lv_entry [.ref (gA G 0), .int (nI i), .int (x), .ref (gA G 53)] (n := 5) (Nat.le_of_ble_eq_true rfl)
  rw [show entryFrame m args 5 = entryFrame m ([.ref (gA G 0), .int (nI i), .int (x), .ref (gA G 53)] : List Value).toArray 5 from by rw [hargs], lg_entry_eq]
  generalize (lg_sl [.ref (gA G 0), .int (nI i), .int (x), .ref (gA G 53)] ++ List.replicate (5 - (lg_sl [.ref (gA G 0), .int (nI i), .int (x), .ref (gA G 53)]).length) Slot.unset).toArray = ls at hl ⊢
  have hl : lv_has ls 5 [(0, .ref (gA G 0)), (1, .int (nI i)), (2, .int (x)), (3, .ref (gA G 53))] := hl
  refine lv_aload_n S.1 S.2.1 dL_tombstones_0 rfl (lv_at hl 3 rfl) ?_
  refine lv_iconst (v := nI 0) S.1 S.2.1 dL_tombstones_1 (by decide) ?_
  refine lv_aload_n S.1 S.2.1 dL_tombstones_2 rfl (lv_at hl 0 rfl) ?_
  refine lv_iload_n S.1 S.2.1 dL_tombstones_3 rfl (lv_at hl 1 rfl) ?_
  refine lv_iload_n S.1 S.2.1 dL_tombstones_4 rfl (lv_at hl 2 rfl) ?_
  refine x_call (vx_runV (As := [.int (nI i), .int (x)]) (rest := [.int (nI 0), .ref (gA G 53)]) S (k_X7_tombstones_X2 l hst G σ μ o i x hi hx) (cwV 2 S.2.2.2.2 gL_tombstones_X7_tombstones rfl rfl rfl ⟨rfl, hy_X7_tombstones⟩ ⟨Nat.le_of_ble_eq_true rfl, Nat.le_of_ble_eq_true rfl⟩) (wPc_V (q := (RX7, TX7, 7)) Z (by decide) rfl rfl) rfl rfl hl.1 rfl (lv_room (Nat.le_of_ble_eq_true rfl)) dL_tombstones_5 ⟨Nat.le_of_ble_eq_true rfl, Nat.le_of_ble_eq_true rfl⟩) (fun _ _ _ h => h) Z (fun ce q9 H locs Z h1 h2 h3 => ?_)
  refine vx_catch (name := "java/lang/IllegalArgumentException") S.2.2.2.1 [⟨0, 10, 13, 13⟩] ⟨0, 10, 17, 15⟩ [] (by rw [htab]; rfl) (pass_1 (by decide) (S.2.2.2.2 _ m_L_tombstones_c13) (nc_BA Z)) rfl (by decide) (S.2.2.2.2 _ m_L_tombstones_c15) (ca_use Z n_caB) h1 h2 h3 ?_
  refine lv_astore (lv' := [(4, .ref (q9)), (0, .ref (gA G 0)), (1, .int (nI i)), (2, .int (x)), (3, .ref (gA G 53))]) S.1 S.2.1 dL_tombstones_17 hl (by decide) rfl (fun ls hl => ?_)
  refine lv_iconst (v := nI 2) S.1 S.2.1 dL_tombstones_19 (by decide) ?_
  refine W.widen (k := 4) (n := 34) (by decide) (by decide) ?_
  rw [hQ]
  exact W.iret (v := nI 2) S.1 S.2.1 hret (fun _ hT9 hW => ⟨⟨_, (σ, μ, o), rfl, hpost, wZ_I Z hT9 hW⟩, Z.2.2.2.2.F hT9⟩) Z.2.2.2.2.2.2 dL_tombstones_20

set_option maxHeartbeats 4000000 in
set_option maxRecDepth 100000 in
theorem kL_entries (l : Launch) (hst : l.stackTraces = false) (G : wG) (σ : cS) (μ : mS) (o : Nat → Int64) (i : Nat) (MS : mS) (MR : Int32) (hi : i < 3) (hpost : LQ G μ MS MR (nI 0) (σ, μ, vp_updL o 0 (nI (cntE σ i 64)).toInt64)) : Met l yL_entries wsL_entries rmL (wPc G σ μ o [.ref (gA G 0), .int (nI i), .ref (gA G 53)]) (QLP G μ MS MR) 4 34 (gP G) := by
  refine m_ofWH (hh := [(0, 9, 12, 13)]) (cc := cL_entries) (maxL := 4) (ret := (some .int)) (by decide) rfl ?_
  intro p e s m args below meth c s₁ B hml htab hv
  obtain ⟨hargs, hI⟩ := hv
  have S : CallFix p m c cL_entries 4 s args wsL_entries RL := ⟨B.exec, B.bytes, hml, findClass_of_methodNamed B.named, atoms_spec (ws := wsL_entries) B.pre⟩
  have hret := B.returns
  have hlocks := B.notSynchronized
  have Z := wZ_0 hI
  clear hI
  obtain ⟨Q, hQ⟩ : ∃ Q, Q = MQ below (QLP G μ MS MR) args s 4 34 (gP G) := ⟨_, rfl⟩
  rw [← hQ]
  have hl := lv_entry [.ref (gA G 0), .int (nI i), .ref (gA G 53)] (n := 4) (Nat.le_of_ble_eq_true rfl)
  rw [show entryFrame m args 4 = entryFrame m ([.ref (gA G 0), .int (nI i), .ref (gA G 53)] : List Value).toArray 4 from by rw [hargs], lg_entry_eq]
  generalize (lg_sl [.ref (gA G 0), .int (nI i), .ref (gA G 53)] ++ List.replicate (4 - (lg_sl [.ref (gA G 0), .int (nI i), .ref (gA G 53)]).length) Slot.unset).toArray = ls at hl ⊢
  have hl : lv_has ls 4 [(0, .ref (gA G 0)), (1, .int (nI i)), (2, .ref (gA G 53))] := hl
  refine lv_aload_n S.1 S.2.1 dL_entries_0 rfl (lv_at hl 2 rfl) ?_
  refine lv_iconst (v := nI 0) S.1 S.2.1 dL_entries_1 (by decide) ?_
  refine lv_aload_n S.1 S.2.1 dL_entries_2 rfl (lv_at hl 0 rfl) ?_
  refine lv_iload_n S.1 S.2.1 dL_entries_3 rfl (lv_at hl 1 rfl) ?_
  refine vp_callSi (va_runV (As := [.int (nI i)]) (rest := [.int (nI 0), .ref (gA G 53)]) S (k_X7_entries l G σ μ o i hi) (cwV 1 S.2.2.2.2 gL_entries_X7_entries rfl rfl rfl ⟨rfl, hy_X7_entries⟩ ⟨Nat.le_of_ble_eq_true rfl, Nat.le_of_ble_eq_true rfl⟩) (wPc_V (q := (RX7, TX7, 7)) Z (by decide) rfl rfl) rfl rfl hl.1 rfl (lv_room (Nat.le_of_ble_eq_true rfl)) dL_entries_4 ⟨Nat.le_of_ble_eq_true rfl, Nat.le_of_ble_eq_true rfl⟩).run (fun r_1 h_2 => ?_)
  rw [h_2]; clear h_2 r_1
  refine lv_i2l (v := (nI (cntE σ i 64)).toInt64) S.1 S.2.1 dL_entries_7 rfl ?_
  refine r_last S Z dL_entries_8 (fun H locs Z => ?_)
  refine lv_goto (tgt := 15) S.1 S.2.1 dL_entries_9 (by decide) ?_
  refine lv_iconst (v := nI 0) S.1 S.2.1 dL_entries_15 (by decide) ?_
  refine W.widen (k := 4) (n := 34) (by decide) (by decide) ?_
  rw [hQ]
  exact W.iret (v := nI 0) S.1 S.2.1 hret (fun _ hT9 hW => ⟨⟨_, (σ, μ, vp_updL o 0 ((nI (cntE σ i 64)).toInt64)), rfl, hpost, wZ_I Z hT9 hW⟩, Z.2.2.2.2.F hT9⟩) Z.2.2.2.2.2.2 dL_entries_16

theorem m_L_entries_c13 : Cond.classLink RL 13 "java/lang/IndexOutOfBoundsException" ∈ wsL_entries := by decide +kernel
set_option maxHeartbeats 4000000 in
set_option maxRecDepth 100000 in
theorem kL_entries_X1 (l : Launch) (hst : l.stackTraces = false) (G : wG) (σ : cS) (μ : mS) (o : Nat → Int64) (x : Int32) (MS : mS) (MR : Int32) (hx : wi x (nI 2) = false) (hpost : LQ G μ MS MR (nI 1) (σ, μ, o)) : Met l yL_entries wsL_entries rmL (wPc G σ μ o [.ref (gA G 0), .int (x), .ref (gA G 53)]) (QLP G μ MS MR) 4 34 (gP G) := by
  refine m_ofWH (hh := [(0, 9, 12, 13)]) (cc := cL_entries) (maxL := 4) (ret := (some .int)) (by decide) rfl ?_
  intro p e s m args below meth c s₁ B hml htab hv
  obtain ⟨hargs, hI⟩ := hv
  have S : CallFix p m c cL_entries 4 s args wsL_entries RL := ⟨B.exec, B.bytes, hml, findClass_of_methodNamed B.named, atoms_spec (ws := wsL_entries) B.pre⟩
  have hret := B.returns
  have hlocks := B.notSynchronized
  have Z := wZ_0 hI
  clear hI
  obtain ⟨Q, hQ⟩ : ∃ Q, Q = MQ below (QLP G μ MS MR) args s 4 34 (gP G) := ⟨_, rfl⟩
  rw [← hQ]
  have hl := lv_entry [.ref (gA G 0), .int (x), .ref (gA G 53)] (n := 4) (Nat.le_of_ble_eq_true rfl)
  rw [show entryFrame m args 4 = entryFrame m ([.ref (gA G 0), .int (x), .ref (gA G 53)] : List Value).toArray 4 from by rw [hargs], lg_entry_eq]
  generalize (lg_sl [.ref (gA G 0), .int (x), .ref (gA G 53)] ++ List.replicate (4 - (lg_sl [.ref (gA G 0), .int (x), .ref (gA G 53)]).length) Slot.unset).toArray = ls at hl ⊢
  have hl : lv_has ls 4 [(0, .ref (gA G 0)), (1, .int (x)), (2, .ref (gA G 53))] := hl
  refine lv_aload_n S.1 S.2.1 dL_entries_0 rfl (lv_at hl 2 rfl) ?_
  refine lv_iconst (v := nI 0) S.1 S.2.1 dL_entries_1 (by decide) ?_
  refine lv_aload_n S.1 S.2.1 dL_entries_2 rfl (lv_at hl 0 rfl) ?_
  refine lv_iload_n S.1 S.2.1 dL_entries_3 rfl (lv_at hl 1 rfl) ?_
  refine x_call (vx_runV (As := [.int (x)]) (rest := [.int (nI 0), .ref (gA G 53)]) S (k_X7_entries_X1 l hst G σ μ o x hx) (cwV 1 S.2.2.2.2 gL_entries_X7_entries rfl rfl rfl ⟨rfl, hy_X7_entries⟩ ⟨Nat.le_of_ble_eq_true rfl, Nat.le_of_ble_eq_true rfl⟩) (wPc_V (q := (RX7, TX7, 7)) Z (by decide) rfl rfl) rfl rfl hl.1 rfl (lv_room (Nat.le_of_ble_eq_true rfl)) dL_entries_4 ⟨Nat.le_of_ble_eq_true rfl, Nat.le_of_ble_eq_true rfl⟩) (fun _ _ _ h => h) Z (fun ce q9 H locs Z h1 h2 h3 => ?_)
  refine vx_catch (name := "java/lang/IndexOutOfBoundsException") S.2.2.2.1 [] ⟨0, 9, 12, 13⟩ [] (by rw [htab]; rfl) (fun z h => absurd h List.not_mem_nil) rfl (by decide) (S.2.2.2.2 _ m_L_entries_c13) (ca_use Z n_caA) h1 h2 h3 ?_
  refine lv_astore_n (lv' := [(3, .ref (q9)), (0, .ref (gA G 0)), (1, .int (x)), (2, .ref (gA G 53))]) S.1 S.2.1 dL_entries_12 rfl hl (by decide) rfl (fun ls hl => ?_)
  refine lv_iconst (v := nI 1) S.1 S.2.1 dL_entries_13 (by decide) ?_
  refine W.widen (k := 4) (n := 34) (by decide) (by decide) ?_
  rw [hQ]
  exact W.iret (v := nI 1) S.1 S.2.1 hret (fun _ hT9 hW => ⟨⟨_, (σ, μ, o), rfl, hpost, wZ_I Z hT9 hW⟩, Z.2.2.2.2.F hT9⟩) Z.2.2.2.2.2.2 dL_entries_14

set_option maxHeartbeats 4000000 in
set_option maxRecDepth 100000 in
theorem kL_ideal (l : Launch) (hst : l.stackTraces = false) (G : wG) (σ : cS) (μ : mS) (o : Nat → Int64) (row : Nat) (col : Nat) (MS : mS) (MR : Int32) (hrow : row < 16) (hcol : col < 4) (hpost : LQ G μ MS MR (nI 0) (σ, μ, vp_updL o 0 (visV σ 3 row col (cV σ 4)).toInt64)) : Met l yL_ideal wsL_ideal rmL (wPc G σ μ o [.ref (gA G 0), .int (nI row), .int (nI col), .ref (gA G 53)]) (QLP G μ MS MR) 4 34 (gP G) := by
  refine m_ofWH (hh := [(0, 10, 13, 13)]) (cc := cL_ideal) (maxL := 5) (ret := (some .int)) (by decide) rfl ?_
  intro p e s m args below meth c s₁ B hml htab hv
  obtain ⟨hargs, hI⟩ := hv
  have S : CallFix p m c cL_ideal 5 s args wsL_ideal RL := ⟨B.exec, B.bytes, hml, findClass_of_methodNamed B.named, atoms_spec (ws := wsL_ideal) B.pre⟩
  have hret := B.returns
  have hlocks := B.notSynchronized
  have Z := wZ_0 hI
  clear hI
  obtain ⟨Q, hQ⟩ : ∃ Q, Q = MQ below (QLP G μ MS MR) args s 4 34 (gP G) := ⟨_, rfl⟩
  rw [← hQ]
  have hl := lv_entry [.ref (gA G 0), .int (nI row), .int (nI col), .ref (gA G 53)] (n := 5) (Nat.le_of_ble_eq_true rfl)
  rw [show entryFrame m args 5 = entryFrame m ([.ref (gA G 0), .int (nI row), .int (nI col), .ref (gA G 53)] : List Value).toArray 5 from by rw [hargs], lg_entry_eq]
  generalize (lg_sl [.ref (gA G 0), .int (nI row), .int (nI col), .ref (gA G 53)] ++ List.replicate (5 - (lg_sl [.ref (gA G 0), .int (nI row), .int (nI col), .ref (gA G 53)]).length) Slot.unset).toArray = ls at hl ⊢
  have hl : lv_has ls 5 [(0, .ref (gA G 0)), (1, .int (nI row)), (2, .int (nI col)), (3, .ref (gA G 53))] := hl
  refine lv_aload_n S.1 S.2.1 dL_ideal_0 rfl (lv_at hl 3 rfl) ?_
  refine lv_iconst (v := nI 0) S.1 S.2.1 dL_ideal_1 (by decide) ?_
  refine lv_aload_n S.1 S.2.1 dL_ideal_2 rfl (lv_at hl 0 rfl) ?_
  refine lv_iload_n S.1 S.2.1 dL_ideal_3 rfl (lv_at hl 1 rfl) ?_
  refine lv_iload_n S.1 S.2.1 dL_ideal_4 rfl (lv_at hl 2 rfl) ?_
  refine vp_callSi (va_runV (As := [.int (nI row), .int (nI col)]) (rest := [.int (nI 0), .ref (gA G 53)]) S (k_X7_ideal l G σ μ o row col hrow hcol) (cwV 2 S.2.2.2.2 gL_ideal_X7_ideal rfl rfl rfl ⟨rfl, hy_X7_ideal⟩ ⟨Nat.le_of_ble_eq_true rfl, Nat.le_of_ble_eq_true rfl⟩) (wPc_V (q := (RX7, TX7, 7)) Z (by decide) rfl rfl) rfl rfl hl.1 rfl (lv_room (Nat.le_of_ble_eq_true rfl)) dL_ideal_5 ⟨Nat.le_of_ble_eq_true rfl, Nat.le_of_ble_eq_true rfl⟩).run (fun r_1 h_2 => ?_)
  rw [h_2]; clear h_2 r_1
  refine lv_i2l (v := (visV σ 3 row col (cV σ 4)).toInt64) S.1 S.2.1 dL_ideal_8 rfl ?_
  refine r_last S Z dL_ideal_9 (fun H locs Z => ?_)
  refine lv_goto (tgt := 17) S.1 S.2.1 dL_ideal_10 (by decide) ?_
  refine lv_iconst (v := nI 0) S.1 S.2.1 dL_ideal_17 (by decide) ?_
  refine W.widen (k := 4) (n := 34) (by decide) (by decide) ?_
  rw [hQ]
  exact W.iret (v := nI 0) S.1 S.2.1 hret (fun _ hT9 hW => ⟨⟨_, (σ, μ, vp_updL o 0 ((visV σ 3 row col (cV σ 4)).toInt64)), rfl, hpost, wZ_I Z hT9 hW⟩, Z.2.2.2.2.F hT9⟩) Z.2.2.2.2.2.2 dL_ideal_18

theorem m_L_ideal_c13 : Cond.classLink RL 13 "java/lang/IndexOutOfBoundsException" ∈ wsL_ideal := by decide +kernel
set_option maxHeartbeats 4000000 in
set_option maxRecDepth 100000 in
theorem kL_ideal_X1 (l : Launch) (hst : l.stackTraces = false) (G : wG) (σ : cS) (μ : mS) (o : Nat → Int64) (x : Int32) (y : Int32) (MS : mS) (MR : Int32) (hx : wi x (nI 15) = false) (hpost : LQ G μ MS MR (nI 1) (σ, μ, o)) : Met l yL_ideal wsL_ideal rmL (wPc G σ μ o [.ref (gA G 0), .int (x), .int (y), .ref (gA G 53)]) (QLP G μ MS MR) 4 34 (gP G) := by
  refine m_ofWH (hh := [(0, 10, 13, 13)]) (cc := cL_ideal) (maxL := 5) (ret := (some .int)) (by decide) rfl ?_
  intro p e s m args below meth c s₁ B hml htab hv
  obtain ⟨hargs, hI⟩ := hv
  have S : CallFix p m c cL_ideal 5 s args wsL_ideal RL := ⟨B.exec, B.bytes, hml, findClass_of_methodNamed B.named, atoms_spec (ws := wsL_ideal) B.pre⟩
  have hret := B.returns
  have hlocks := B.notSynchronized
  have Z := wZ_0 hI
  clear hI
  obtain ⟨Q, hQ⟩ : ∃ Q, Q = MQ below (QLP G μ MS MR) args s 4 34 (gP G) := ⟨_, rfl⟩
  rw [← hQ]
  have hl := lv_entry [.ref (gA G 0), .int (x), .int (y), .ref (gA G 53)] (n := 5) (Nat.le_of_ble_eq_true rfl)
  rw [show entryFrame m args 5 = entryFrame m ([.ref (gA G 0), .int (x), .int (y), .ref (gA G 53)] : List Value).toArray 5 from by rw [hargs], lg_entry_eq]
  generalize (lg_sl [.ref (gA G 0), .int (x), .int (y), .ref (gA G 53)] ++ List.replicate (5 - (lg_sl [.ref (gA G 0), .int (x), .int (y), .ref (gA G 53)]).length) Slot.unset).toArray = ls at hl ⊢
  have hl : lv_has ls 5 [(0, .ref (gA G 0)), (1, .int (x)), (2, .int (y)), (3, .ref (gA G 53))] := hl
  refine lv_aload_n S.1 S.2.1 dL_ideal_0 rfl (lv_at hl 3 rfl) ?_
  refine lv_iconst (v := nI 0) S.1 S.2.1 dL_ideal_1 (by decide) ?_
  refine lv_aload_n S.1 S.2.1 dL_ideal_2 rfl (lv_at hl 0 rfl) ?_
  refine lv_iload_n S.1 S.2.1 dL_ideal_3 rfl (lv_at hl 1 rfl) ?_
  refine lv_iload_n S.1 S.2.1 dL_ideal_4 rfl (lv_at hl 2 rfl) ?_
  refine x_call (vx_runV (As := [.int (x), .int (y)]) (rest := [.int (nI 0), .ref (gA G 53)]) S (k_X7_ideal_X1 l hst G σ μ o x y hx) (cwV 2 S.2.2.2.2 gL_ideal_X7_ideal rfl rfl rfl ⟨rfl, hy_X7_ideal⟩ ⟨Nat.le_of_ble_eq_true rfl, Nat.le_of_ble_eq_true rfl⟩) (wPc_V (q := (RX7, TX7, 7)) Z (by decide) rfl rfl) rfl rfl hl.1 rfl (lv_room (Nat.le_of_ble_eq_true rfl)) dL_ideal_5 ⟨Nat.le_of_ble_eq_true rfl, Nat.le_of_ble_eq_true rfl⟩) (fun _ _ _ h => h) Z (fun ce q9 H locs Z h1 h2 h3 => ?_)
  refine vx_catch (name := "java/lang/IndexOutOfBoundsException") S.2.2.2.1 [] ⟨0, 10, 13, 13⟩ [] (by rw [htab]; rfl) (fun z h => absurd h List.not_mem_nil) rfl (by decide) (S.2.2.2.2 _ m_L_ideal_c13) (ca_use Z n_caA) h1 h2 h3 ?_
  refine lv_astore (lv' := [(4, .ref (q9)), (0, .ref (gA G 0)), (1, .int (x)), (2, .int (y)), (3, .ref (gA G 53))]) S.1 S.2.1 dL_ideal_13 hl (by decide) rfl (fun ls hl => ?_)
  refine lv_iconst (v := nI 1) S.1 S.2.1 dL_ideal_15 (by decide) ?_
  refine W.widen (k := 4) (n := 34) (by decide) (by decide) ?_
  rw [hQ]
  exact W.iret (v := nI 1) S.1 S.2.1 hret (fun _ hT9 hW => ⟨⟨_, (σ, μ, o), rfl, hpost, wZ_I Z hT9 hW⟩, Z.2.2.2.2.F hT9⟩) Z.2.2.2.2.2.2 dL_ideal_16

set_option maxHeartbeats 4000000 in
set_option maxRecDepth 100000 in
theorem kL_ideal_X2 (l : Launch) (hst : l.stackTraces = false) (G : wG) (σ : cS) (μ : mS) (o : Nat → Int64) (row : Nat) (x : Int32) (MS : mS) (MR : Int32) (hrow : row < 16) (hx : wi x (nI 3) = false) (hpost : LQ G μ MS MR (nI 1) (σ, μ, o)) : Met l yL_ideal wsL_ideal rmL (wPc G σ μ o [.ref (gA G 0), .int (nI row), .int (x), .ref (gA G 53)]) (QLP G μ MS MR) 4 34 (gP G) := by
  refine m_ofWH (hh := [(0, 10, 13, 13)]) (cc := cL_ideal) (maxL := 5) (ret := (some .int)) (by decide) rfl ?_
  intro p e s m args below meth c s₁ B hml htab hv
  obtain ⟨hargs, hI⟩ := hv
  have S : CallFix p m c cL_ideal 5 s args wsL_ideal RL := ⟨B.exec, B.bytes, hml, findClass_of_methodNamed B.named, atoms_spec (ws := wsL_ideal) B.pre⟩
  have hret := B.returns
  have hlocks := B.notSynchronized
  have Z := wZ_0 hI
  clear hI
  obtain ⟨Q, hQ⟩ : ∃ Q, Q = MQ below (QLP G μ MS MR) args s 4 34 (gP G) := ⟨_, rfl⟩
  rw [← hQ]
  have hl := lv_entry [.ref (gA G 0), .int (nI row), .int (x), .ref (gA G 53)] (n := 5) (Nat.le_of_ble_eq_true rfl)
  rw [show entryFrame m args 5 = entryFrame m ([.ref (gA G 0), .int (nI row), .int (x), .ref (gA G 53)] : List Value).toArray 5 from by rw [hargs], lg_entry_eq]
  generalize (lg_sl [.ref (gA G 0), .int (nI row), .int (x), .ref (gA G 53)] ++ List.replicate (5 - (lg_sl [.ref (gA G 0), .int (nI row), .int (x), .ref (gA G 53)]).length) Slot.unset).toArray = ls at hl ⊢
  have hl : lv_has ls 5 [(0, .ref (gA G 0)), (1, .int (nI row)), (2, .int (x)), (3, .ref (gA G 53))] := hl
  refine lv_aload_n S.1 S.2.1 dL_ideal_0 rfl (lv_at hl 3 rfl) ?_
  refine lv_iconst (v := nI 0) S.1 S.2.1 dL_ideal_1 (by decide) ?_
  refine lv_aload_n S.1 S.2.1 dL_ideal_2 rfl (lv_at hl 0 rfl) ?_
  refine lv_iload_n S.1 S.2.1 dL_ideal_3 rfl (lv_at hl 1 rfl) ?_
  refine lv_iload_n S.1 S.2.1 dL_ideal_4 rfl (lv_at hl 2 rfl) ?_
  refine x_call (vx_runV (As := [.int (nI row), .int (x)]) (rest := [.int (nI 0), .ref (gA G 53)]) S (k_X7_ideal_X2 l hst G σ μ o row x hrow hx) (cwV 2 S.2.2.2.2 gL_ideal_X7_ideal rfl rfl rfl ⟨rfl, hy_X7_ideal⟩ ⟨Nat.le_of_ble_eq_true rfl, Nat.le_of_ble_eq_true rfl⟩) (wPc_V (q := (RX7, TX7, 7)) Z (by decide) rfl rfl) rfl rfl hl.1 rfl (lv_room (Nat.le_of_ble_eq_true rfl)) dL_ideal_5 ⟨Nat.le_of_ble_eq_true rfl, Nat.le_of_ble_eq_true rfl⟩) (fun _ _ _ h => h) Z (fun ce q9 H locs Z h1 h2 h3 => ?_)
  refine vx_catch (name := "java/lang/IndexOutOfBoundsException") S.2.2.2.1 [] ⟨0, 10, 13, 13⟩ [] (by rw [htab]; rfl) (fun z h => absurd h List.not_mem_nil) rfl (by decide) (S.2.2.2.2 _ m_L_ideal_c13) (ca_use Z n_caA) h1 h2 h3 ?_
  refine lv_astore (lv' := [(4, .ref (q9)), (0, .ref (gA G 0)), (1, .int (nI row)), (2, .int (x)), (3, .ref (gA G 53))]) S.1 S.2.1 dL_ideal_13 hl (by decide) rfl (fun ls hl => ?_)
  refine lv_iconst (v := nI 1) S.1 S.2.1 dL_ideal_15 (by decide) ?_
  refine W.widen (k := 4) (n := 34) (by decide) (by decide) ?_
  rw [hQ]
  exact W.iret (v := nI 1) S.1 S.2.1 hret (fun _ hT9 hW => ⟨⟨_, (σ, μ, o), rfl, hpost, wZ_I Z hT9 hW⟩, Z.2.2.2.2.F hT9⟩) Z.2.2.2.2.2.2 dL_ideal_16

set_option maxHeartbeats 4000000 in
set_option maxRecDepth 100000 in
theorem kL_sumOf (l : Launch) (hst : l.stackTraces = false) (G : wG) (σ : cS) (μ : mS) (o : Nat → Int64) (i : Nat) (lv : Nat) (nd : Nat) (MS : mS) (MR : Int32) (hi : i < 3) (hlv : lv < 5) (hnd : nd < 2 ^ lv) (hpost : LQ G μ MS MR (nI 0) (mkS σ i 6, μ, vp_updL o 0 (cI (mkS σ i 6) 6 (2 ^ lv + nd)).toInt64)) : Met l yL_sumOf wsL_sumOf rmL (wPc G σ μ o [.ref (gA G 0), .int (nI i), .int (nI lv), .int (nI nd), .ref (gA G 53)]) (QLP G μ MS MR) 4 34 (gP G) := by
  refine m_ofWH (hh := [(0, 12, 15, 13)]) (cc := cL_sumOf) (maxL := 6) (ret := (some .int)) (by decide) rfl ?_
  intro p e s m args below meth c s₁ B hml htab hv
  obtain ⟨hargs, hI⟩ := hv
  have S : CallFix p m c cL_sumOf 6 s args wsL_sumOf RL := ⟨B.exec, B.bytes, hml, findClass_of_methodNamed B.named, atoms_spec (ws := wsL_sumOf) B.pre⟩
  have hret := B.returns
  have hlocks := B.notSynchronized
  have Z := wZ_0 hI
  clear hI
  obtain ⟨Q, hQ⟩ : ∃ Q, Q = MQ below (QLP G μ MS MR) args s 4 34 (gP G) := ⟨_, rfl⟩
  rw [← hQ]
  have hl := lv_entry [.ref (gA G 0), .int (nI i), .int (nI lv), .int (nI nd), .ref (gA G 53)] (n := 6) (Nat.le_of_ble_eq_true rfl)
  rw [show entryFrame m args 6 = entryFrame m ([.ref (gA G 0), .int (nI i), .int (nI lv), .int (nI nd), .ref (gA G 53)] : List Value).toArray 6 from by rw [hargs], lg_entry_eq]
  generalize (lg_sl [.ref (gA G 0), .int (nI i), .int (nI lv), .int (nI nd), .ref (gA G 53)] ++ List.replicate (6 - (lg_sl [.ref (gA G 0), .int (nI i), .int (nI lv), .int (nI nd), .ref (gA G 53)]).length) Slot.unset).toArray = ls at hl ⊢
  have hl : lv_has ls 6 [(0, .ref (gA G 0)), (1, .int (nI i)), (2, .int (nI lv)), (3, .int (nI nd)), (4, .ref (gA G 53))] := hl
  refine lv_aload S.1 S.2.1 dL_sumOf_0 (lv_at hl 4 rfl) ?_
  refine lv_iconst (v := nI 0) S.1 S.2.1 dL_sumOf_2 (by decide) ?_
  refine lv_aload_n S.1 S.2.1 dL_sumOf_3 rfl (lv_at hl 0 rfl) ?_
  refine lv_iload_n S.1 S.2.1 dL_sumOf_4 rfl (lv_at hl 1 rfl) ?_
  refine lv_iload_n S.1 S.2.1 dL_sumOf_5 rfl (lv_at hl 2 rfl) ?_
  refine lv_iload_n S.1 S.2.1 dL_sumOf_6 rfl (lv_at hl 3 rfl) ?_
  refine va_calli (va_runV (As := [.int (nI i), .int (nI lv), .int (nI nd)]) (rest := [.int (nI 0), .ref (gA G 53)]) S (k_X7_sumOf l G σ μ o i lv nd hi hlv hnd) (cwV 3 S.2.2.2.2 gL_sumOf_X7_sumOf rfl rfl rfl ⟨rfl, hy_X7_sumOf⟩ ⟨Nat.le_of_ble_eq_true rfl, Nat.le_of_ble_eq_true rfl⟩) (wPc_V (q := (RX7, TX7, 7)) Z (by decide) rfl rfl) rfl rfl hl.1 rfl (lv_room (Nat.le_of_ble_eq_true rfl)) dL_sumOf_7 ⟨Nat.le_of_ble_eq_true rfl, Nat.le_of_ble_eq_true rfl⟩) Z.2.2.2.2 (fun _ _ h => h) (fun _ h => h) (fun r_1 u_2 T9 H1 locs1 hT9 hvm hw hB hz hk9 hS => ?_)
  obtain ⟨hr9, rfl⟩ := hw
  rw [hr9]; clear hr9 r_1
  have Z : wZ G (mkS σ i 6) (μ) o s H1 locs1 := wZ_callP Z hB hT9 hS
  clear hB hT9 hS hk9 hz hvm T9
  revert Z; generalize H1 = H; generalize locs1 = locs; intro Z
  refine W.widen (k := 0) (n := 0) (by first | decide | omega) (by first | decide | omega) ?_
  refine lv_i2l (v := (cI (mkS σ i 6) 6 (2 ^ lv + nd)).toInt64) S.1 S.2.1 dL_sumOf_10 rfl ?_
  refine r_last S Z dL_sumOf_11 (fun H locs Z => ?_)
  refine lv_goto (tgt := 19) S.1 S.2.1 dL_sumOf_12 (by decide) ?_
  refine lv_iconst (v := nI 0) S.1 S.2.1 dL_sumOf_19 (by decide) ?_
  refine W.widen (k := 4) (n := 34) (by decide) (by decide) ?_
  rw [hQ]
  exact W.iret (v := nI 0) S.1 S.2.1 hret (fun _ hT9 hW => ⟨⟨_, (mkS σ i 6, μ, vp_updL o 0 ((cI (mkS σ i 6) 6 (2 ^ lv + nd)).toInt64)), rfl, hpost, wZ_I Z hT9 hW⟩, Z.2.2.2.2.F hT9⟩) Z.2.2.2.2.2.2 dL_sumOf_20

theorem m_L_sumOf_c13 : Cond.classLink RL 13 "java/lang/IndexOutOfBoundsException" ∈ wsL_sumOf := by decide +kernel
set_option maxHeartbeats 4000000 in
set_option maxRecDepth 100000 in
theorem kL_sumOf_X1 (l : Launch) (hst : l.stackTraces = false) (G : wG) (σ : cS) (μ : mS) (o : Nat → Int64) (x : Int32) (y : Int32) (z : Int32) (MS : mS) (MR : Int32) (hx : wi x (nI 2) = false) (hpost : LQ G μ MS MR (nI 1) (σ, μ, o)) : Met l yL_sumOf wsL_sumOf rmL (wPc G σ μ o [.ref (gA G 0), .int (x), .int (y), .int (z), .ref (gA G 53)]) (QLP G μ MS MR) 4 34 (gP G) := by
  refine m_ofWH (hh := [(0, 12, 15, 13)]) (cc := cL_sumOf) (maxL := 6) (ret := (some .int)) (by decide) rfl ?_
  intro p e s m args below meth c s₁ B hml htab hv
  obtain ⟨hargs, hI⟩ := hv
  have S : CallFix p m c cL_sumOf 6 s args wsL_sumOf RL := ⟨B.exec, B.bytes, hml, findClass_of_methodNamed B.named, atoms_spec (ws := wsL_sumOf) B.pre⟩
  have hret := B.returns
  have hlocks := B.notSynchronized
  have Z := wZ_0 hI
  clear hI
  obtain ⟨Q, hQ⟩ : ∃ Q, Q = MQ below (QLP G μ MS MR) args s 4 34 (gP G) := ⟨_, rfl⟩
  rw [← hQ]
  have hl := lv_entry [.ref (gA G 0), .int (x), .int (y), .int (z), .ref (gA G 53)] (n := 6) (Nat.le_of_ble_eq_true rfl)
  rw [show entryFrame m args 6 = entryFrame m ([.ref (gA G 0), .int (x), .int (y), .int (z), .ref (gA G 53)] : List Value).toArray 6 from by rw [hargs], lg_entry_eq]
  generalize (lg_sl [.ref (gA G 0), .int (x), .int (y), .int (z), .ref (gA G 53)] ++ List.replicate (6 - (lg_sl [.ref (gA G 0), .int (x), .int (y), .int (z), .ref (gA G 53)]).length) Slot.unset).toArray = ls at hl ⊢
  have hl : lv_has ls 6 [(0, .ref (gA G 0)), (1, .int (x)), (2, .int (y)), (3, .int (z)), (4, .ref (gA G 53))] := hl
  refine lv_aload S.1 S.2.1 dL_sumOf_0 (lv_at hl 4 rfl) ?_
  refine lv_iconst (v := nI 0) S.1 S.2.1 dL_sumOf_2 (by decide) ?_
  refine lv_aload_n S.1 S.2.1 dL_sumOf_3 rfl (lv_at hl 0 rfl) ?_
  refine lv_iload_n S.1 S.2.1 dL_sumOf_4 rfl (lv_at hl 1 rfl) ?_
  refine lv_iload_n S.1 S.2.1 dL_sumOf_5 rfl (lv_at hl 2 rfl) ?_
  refine lv_iload_n S.1 S.2.1 dL_sumOf_6 rfl (lv_at hl 3 rfl) ?_
  refine x_call (vx_runV (As := [.int (x), .int (y), .int (z)]) (rest := [.int (nI 0), .ref (gA G 53)]) S (k_X7_sumOf_X1 l hst G σ μ o x y z hx) (cwV 3 S.2.2.2.2 gL_sumOf_X7_sumOf rfl rfl rfl ⟨rfl, hy_X7_sumOf⟩ ⟨Nat.le_of_ble_eq_true rfl, Nat.le_of_ble_eq_true rfl⟩) (wPc_V (q := (RX7, TX7, 7)) Z (by decide) rfl rfl) rfl rfl hl.1 rfl (lv_room (Nat.le_of_ble_eq_true rfl)) dL_sumOf_7 ⟨Nat.le_of_ble_eq_true rfl, Nat.le_of_ble_eq_true rfl⟩) (fun _ _ _ h => h) Z (fun ce q9 H locs Z h1 h2 h3 => ?_)
  refine vx_catch (name := "java/lang/IndexOutOfBoundsException") S.2.2.2.1 [] ⟨0, 12, 15, 13⟩ [] (by rw [htab]; rfl) (fun z h => absurd h List.not_mem_nil) rfl (by decide) (S.2.2.2.2 _ m_L_sumOf_c13) (ca_use Z n_caA) h1 h2 h3 ?_
  refine lv_astore (lv' := [(5, .ref (q9)), (0, .ref (gA G 0)), (1, .int (x)), (2, .int (y)), (3, .int (z)), (4, .ref (gA G 53))]) S.1 S.2.1 dL_sumOf_15 hl (by decide) rfl (fun ls hl => ?_)
  refine lv_iconst (v := nI 1) S.1 S.2.1 dL_sumOf_17 (by decide) ?_
  refine W.widen (k := 4) (n := 34) (by decide) (by decide) ?_
  rw [hQ]
  exact W.iret (v := nI 1) S.1 S.2.1 hret (fun _ hT9 hW => ⟨⟨_, (σ, μ, o), rfl, hpost, wZ_I Z hT9 hW⟩, Z.2.2.2.2.F hT9⟩) Z.2.2.2.2.2.2 dL_sumOf_18

set_option maxHeartbeats 4000000 in
set_option maxRecDepth 100000 in
theorem kL_sumOf_X2 (l : Launch) (hst : l.stackTraces = false) (G : wG) (σ : cS) (μ : mS) (o : Nat → Int64) (i : Nat) (x : Int32) (z : Int32) (MS : mS) (MR : Int32) (hi : i < 3) (hx : wi x (nI 4) = false) (hpost : LQ G μ MS MR (nI 1) (σ, μ, o)) : Met l yL_sumOf wsL_sumOf rmL (wPc G σ μ o [.ref (gA G 0), .int (nI i), .int (x), .int (z), .ref (gA G 53)]) (QLP G μ MS MR) 4 34 (gP G) := by
  refine m_ofWH (hh := [(0, 12, 15, 13)]) (cc := cL_sumOf) (maxL := 6) (ret := (some .int)) (by decide) rfl ?_
  intro p e s m args below meth c s₁ B hml htab hv
  obtain ⟨hargs, hI⟩ := hv
  have S : CallFix p m c cL_sumOf 6 s args wsL_sumOf RL := ⟨B.exec, B.bytes, hml, findClass_of_methodNamed B.named, atoms_spec (ws := wsL_sumOf) B.pre⟩
  have hret := B.returns
  have hlocks := B.notSynchronized
  have Z := wZ_0 hI
  clear hI
  obtain ⟨Q, hQ⟩ : ∃ Q, Q = MQ below (QLP G μ MS MR) args s 4 34 (gP G) := ⟨_, rfl⟩
  rw [← hQ]
  have hl := lv_entry [.ref (gA G 0), .int (nI i), .int (x), .int (z), .ref (gA G 53)] (n := 6) (Nat.le_of_ble_eq_true rfl)
  rw [show entryFrame m args 6 = entryFrame m ([.ref (gA G 0), .int (nI i), .int (x), .int (z), .ref (gA G 53)] : List Value).toArray 6 from by rw [hargs], lg_entry_eq]
  generalize (lg_sl [.ref (gA G 0), .int (nI i), .int (x), .int (z), .ref (gA G 53)] ++ List.replicate (6 - (lg_sl [.ref (gA G 0), .int (nI i), .int (x), .int (z), .ref (gA G 53)]).length) Slot.unset).toArray = ls at hl ⊢
  have hl : lv_has ls 6 [(0, .ref (gA G 0)), (1, .int (nI i)), (2, .int (x)), (3, .int (z)), (4, .ref (gA G 53))] := hl
  refine lv_aload S.1 S.2.1 dL_sumOf_0 (lv_at hl 4 rfl) ?_
  refine lv_iconst (v := nI 0) S.1 S.2.1 dL_sumOf_2 (by decide) ?_
  refine lv_aload_n S.1 S.2.1 dL_sumOf_3 rfl (lv_at hl 0 rfl) ?_
  refine lv_iload_n S.1 S.2.1 dL_sumOf_4 rfl (lv_at hl 1 rfl) ?_
  refine lv_iload_n S.1 S.2.1 dL_sumOf_5 rfl (lv_at hl 2 rfl) ?_
  refine lv_iload_n S.1 S.2.1 dL_sumOf_6 rfl (lv_at hl 3 rfl) ?_
  refine x_call (vx_runV (As := [.int (nI i), .int (x), .int (z)]) (rest := [.int (nI 0), .ref (gA G 53)]) S (k_X7_sumOf_X2 l hst G σ μ o i x z hi hx) (cwV 3 S.2.2.2.2 gL_sumOf_X7_sumOf rfl rfl rfl ⟨rfl, hy_X7_sumOf⟩ ⟨Nat.le_of_ble_eq_true rfl, Nat.le_of_ble_eq_true rfl⟩) (wPc_V (q := (RX7, TX7, 7)) Z (by decide) rfl rfl) rfl rfl hl.1 rfl (lv_room (Nat.le_of_ble_eq_true rfl)) dL_sumOf_7 ⟨Nat.le_of_ble_eq_true rfl, Nat.le_of_ble_eq_true rfl⟩) (fun _ _ _ h => h) Z (fun ce q9 H locs Z h1 h2 h3 => ?_)
  refine vx_catch (name := "java/lang/IndexOutOfBoundsException") S.2.2.2.1 [] ⟨0, 12, 15, 13⟩ [] (by rw [htab]; rfl) (fun z h => absurd h List.not_mem_nil) rfl (by decide) (S.2.2.2.2 _ m_L_sumOf_c13) (ca_use Z n_caA) h1 h2 h3 ?_
  refine lv_astore (lv' := [(5, .ref (q9)), (0, .ref (gA G 0)), (1, .int (nI i)), (2, .int (x)), (3, .int (z)), (4, .ref (gA G 53))]) S.1 S.2.1 dL_sumOf_15 hl (by decide) rfl (fun ls hl => ?_)
  refine lv_iconst (v := nI 1) S.1 S.2.1 dL_sumOf_17 (by decide) ?_
  refine W.widen (k := 4) (n := 34) (by decide) (by decide) ?_
  rw [hQ]
  exact W.iret (v := nI 1) S.1 S.2.1 hret (fun _ hT9 hW => ⟨⟨_, (σ, μ, o), rfl, hpost, wZ_I Z hT9 hW⟩, Z.2.2.2.2.F hT9⟩) Z.2.2.2.2.2.2 dL_sumOf_18

set_option maxHeartbeats 4000000 in
set_option maxRecDepth 100000 in
theorem kL_sumOf_X3 (l : Launch) (hst : l.stackTraces = false) (G : wG) (σ : cS) (μ : mS) (o : Nat → Int64) (i : Nat) (lv : Nat) (x : Int32) (MS : mS) (MR : Int32) (hi : i < 3) (hlv : lv < 5) (hx : wi x (nI ((2 ^ lv) - 1)) = false) (hpost : LQ G μ MS MR (nI 1) (σ, μ, o)) : Met l yL_sumOf wsL_sumOf rmL (wPc G σ μ o [.ref (gA G 0), .int (nI i), .int (nI lv), .int (x), .ref (gA G 53)]) (QLP G μ MS MR) 4 34 (gP G) := by
  refine m_ofWH (hh := [(0, 12, 15, 13)]) (cc := cL_sumOf) (maxL := 6) (ret := (some .int)) (by decide) rfl ?_
  intro p e s m args below meth c s₁ B hml htab hv
  obtain ⟨hargs, hI⟩ := hv
  have S : CallFix p m c cL_sumOf 6 s args wsL_sumOf RL := ⟨B.exec, B.bytes, hml, findClass_of_methodNamed B.named, atoms_spec (ws := wsL_sumOf) B.pre⟩
  have hret := B.returns
  have hlocks := B.notSynchronized
  have Z := wZ_0 hI
  clear hI
  obtain ⟨Q, hQ⟩ : ∃ Q, Q = MQ below (QLP G μ MS MR) args s 4 34 (gP G) := ⟨_, rfl⟩
  rw [← hQ]
  have hl := lv_entry [.ref (gA G 0), .int (nI i), .int (nI lv), .int (x), .ref (gA G 53)] (n := 6) (Nat.le_of_ble_eq_true rfl)
  rw [show entryFrame m args 6 = entryFrame m ([.ref (gA G 0), .int (nI i), .int (nI lv), .int (x), .ref (gA G 53)] : List Value).toArray 6 from by rw [hargs], lg_entry_eq]
  generalize (lg_sl [.ref (gA G 0), .int (nI i), .int (nI lv), .int (x), .ref (gA G 53)] ++ List.replicate (6 - (lg_sl [.ref (gA G 0), .int (nI i), .int (nI lv), .int (x), .ref (gA G 53)]).length) Slot.unset).toArray = ls at hl ⊢
  have hl : lv_has ls 6 [(0, .ref (gA G 0)), (1, .int (nI i)), (2, .int (nI lv)), (3, .int (x)), (4, .ref (gA G 53))] := hl
  refine lv_aload S.1 S.2.1 dL_sumOf_0 (lv_at hl 4 rfl) ?_
  refine lv_iconst (v := nI 0) S.1 S.2.1 dL_sumOf_2 (by decide) ?_
  refine lv_aload_n S.1 S.2.1 dL_sumOf_3 rfl (lv_at hl 0 rfl) ?_
  refine lv_iload_n S.1 S.2.1 dL_sumOf_4 rfl (lv_at hl 1 rfl) ?_
  refine lv_iload_n S.1 S.2.1 dL_sumOf_5 rfl (lv_at hl 2 rfl) ?_
  refine lv_iload_n S.1 S.2.1 dL_sumOf_6 rfl (lv_at hl 3 rfl) ?_
  refine x_call (vx_runV (As := [.int (nI i), .int (nI lv), .int (x)]) (rest := [.int (nI 0), .ref (gA G 53)]) S (k_X7_sumOf_X3 l hst G σ μ o i lv x hi hlv hx) (cwV 3 S.2.2.2.2 gL_sumOf_X7_sumOf rfl rfl rfl ⟨rfl, hy_X7_sumOf⟩ ⟨Nat.le_of_ble_eq_true rfl, Nat.le_of_ble_eq_true rfl⟩) (wPc_V (q := (RX7, TX7, 7)) Z (by decide) rfl rfl) rfl rfl hl.1 rfl (lv_room (Nat.le_of_ble_eq_true rfl)) dL_sumOf_7 ⟨Nat.le_of_ble_eq_true rfl, Nat.le_of_ble_eq_true rfl⟩) (fun _ _ _ h => h) Z (fun ce q9 H locs Z h1 h2 h3 => ?_)
  refine vx_catch (name := "java/lang/IndexOutOfBoundsException") S.2.2.2.1 [] ⟨0, 12, 15, 13⟩ [] (by rw [htab]; rfl) (fun z h => absurd h List.not_mem_nil) rfl (by decide) (S.2.2.2.2 _ m_L_sumOf_c13) (ca_use Z n_caA) h1 h2 h3 ?_
  refine lv_astore (lv' := [(5, .ref (q9)), (0, .ref (gA G 0)), (1, .int (nI i)), (2, .int (nI lv)), (3, .int (x)), (4, .ref (gA G 53))]) S.1 S.2.1 dL_sumOf_15 hl (by decide) rfl (fun ls hl => ?_)
  refine lv_iconst (v := nI 1) S.1 S.2.1 dL_sumOf_17 (by decide) ?_
  refine W.widen (k := 4) (n := 34) (by decide) (by decide) ?_
  rw [hQ]
  exact W.iret (v := nI 1) S.1 S.2.1 hret (fun _ hT9 hW => ⟨⟨_, (σ, μ, o), rfl, hpost, wZ_I Z hT9 hW⟩, Z.2.2.2.2.F hT9⟩) Z.2.2.2.2.2.2 dL_sumOf_18

set_option maxHeartbeats 4000000 in
set_option maxRecDepth 100000 in
theorem kL_compared (l : Launch) (hst : l.stackTraces = false) (G : wG) (σ : cS) (μ : mS) (o : Nat → Int64) (i : Nat) (j : Nat) (MS : mS) (MR : Int32) (hi : i < 3) (hj : j < 3) (hpost : LQ G μ MS MR (nI 0) (cmp σ i j, μ, vp_updL o 0 (nI (cmN σ i j 31)).toInt64)) : Met l yL_compared wsL_compared rmL (wPc G σ μ o [.ref (gA G 0), .int (nI i), .int (nI j), .ref (gA G 53)]) (QLP G μ MS MR) 4 34 (gP G) := by
  refine m_ofWH (hh := [(0, 10, 13, 13)]) (cc := cL_compared) (maxL := 5) (ret := (some .int)) (by decide) rfl ?_
  intro p e s m args below meth c s₁ B hml htab hv
  obtain ⟨hargs, hI⟩ := hv
  have S : CallFix p m c cL_compared 5 s args wsL_compared RL := ⟨B.exec, B.bytes, hml, findClass_of_methodNamed B.named, atoms_spec (ws := wsL_compared) B.pre⟩
  have hret := B.returns
  have hlocks := B.notSynchronized
  have Z := wZ_0 hI
  clear hI
  obtain ⟨Q, hQ⟩ : ∃ Q, Q = MQ below (QLP G μ MS MR) args s 4 34 (gP G) := ⟨_, rfl⟩
  rw [← hQ]
  have hl := lv_entry [.ref (gA G 0), .int (nI i), .int (nI j), .ref (gA G 53)] (n := 5) (Nat.le_of_ble_eq_true rfl)
  rw [show entryFrame m args 5 = entryFrame m ([.ref (gA G 0), .int (nI i), .int (nI j), .ref (gA G 53)] : List Value).toArray 5 from by rw [hargs], lg_entry_eq]
  generalize (lg_sl [.ref (gA G 0), .int (nI i), .int (nI j), .ref (gA G 53)] ++ List.replicate (5 - (lg_sl [.ref (gA G 0), .int (nI i), .int (nI j), .ref (gA G 53)]).length) Slot.unset).toArray = ls at hl ⊢
  have hl : lv_has ls 5 [(0, .ref (gA G 0)), (1, .int (nI i)), (2, .int (nI j)), (3, .ref (gA G 53))] := hl
  refine lv_aload_n S.1 S.2.1 dL_compared_0 rfl (lv_at hl 3 rfl) ?_
  refine lv_iconst (v := nI 0) S.1 S.2.1 dL_compared_1 (by decide) ?_
  refine lv_aload_n S.1 S.2.1 dL_compared_2 rfl (lv_at hl 0 rfl) ?_
  refine lv_iload_n S.1 S.2.1 dL_compared_3 rfl (lv_at hl 1 rfl) ?_
  refine lv_iload_n S.1 S.2.1 dL_compared_4 rfl (lv_at hl 2 rfl) ?_
  refine va_calli (va_runV (As := [.int (nI i), .int (nI j)]) (rest := [.int (nI 0), .ref (gA G 53)]) S (k_X7_compared l G σ μ o i j hi hj) (cwV 2 S.2.2.2.2 gL_compared_X7_compared rfl rfl rfl ⟨rfl, hy_X7_compared⟩ ⟨Nat.le_of_ble_eq_true rfl, Nat.le_of_ble_eq_true rfl⟩) (wPc_V (q := (RX7, TX7, 7)) Z (by decide) rfl rfl) rfl rfl hl.1 rfl (lv_room (Nat.le_of_ble_eq_true rfl)) dL_compared_5 ⟨Nat.le_of_ble_eq_true rfl, Nat.le_of_ble_eq_true rfl⟩) Z.2.2.2.2 (fun _ _ h => h) (fun _ h => h) (fun r_1 u_2 T9 H1 locs1 hT9 hvm hw hB hz hk9 hS => ?_)
  obtain ⟨hr9, rfl⟩ := hw
  rw [hr9]; clear hr9 r_1
  have Z : wZ G (cmp σ i j) (μ) o s H1 locs1 := wZ_callP Z hB hT9 hS
  clear hB hT9 hS hk9 hz hvm T9
  revert Z; generalize H1 = H; generalize locs1 = locs; intro Z
  refine W.widen (k := 0) (n := 0) (by first | decide | omega) (by first | decide | omega) ?_
  refine lv_i2l (v := (nI (cmN σ i j 31)).toInt64) S.1 S.2.1 dL_compared_8 rfl ?_
  refine r_last S Z dL_compared_9 (fun H locs Z => ?_)
  refine lv_goto (tgt := 17) S.1 S.2.1 dL_compared_10 (by decide) ?_
  refine lv_iconst (v := nI 0) S.1 S.2.1 dL_compared_17 (by decide) ?_
  refine W.widen (k := 4) (n := 34) (by decide) (by decide) ?_
  rw [hQ]
  exact W.iret (v := nI 0) S.1 S.2.1 hret (fun _ hT9 hW => ⟨⟨_, (cmp σ i j, μ, vp_updL o 0 ((nI (cmN σ i j 31)).toInt64)), rfl, hpost, wZ_I Z hT9 hW⟩, Z.2.2.2.2.F hT9⟩) Z.2.2.2.2.2.2 dL_compared_18

theorem m_L_compared_c13 : Cond.classLink RL 13 "java/lang/IndexOutOfBoundsException" ∈ wsL_compared := by decide +kernel
set_option maxHeartbeats 4000000 in
set_option maxRecDepth 100000 in
theorem kL_compared_X1 (l : Launch) (hst : l.stackTraces = false) (G : wG) (σ : cS) (μ : mS) (o : Nat → Int64) (x : Int32) (y : Int32) (MS : mS) (MR : Int32) (hx : wi x (nI 2) = false) (hpost : LQ G μ MS MR (nI 1) (σ, μ, o)) : Met l yL_compared wsL_compared rmL (wPc G σ μ o [.ref (gA G 0), .int (x), .int (y), .ref (gA G 53)]) (QLP G μ MS MR) 4 34 (gP G) := by
  refine m_ofWH (hh := [(0, 10, 13, 13)]) (cc := cL_compared) (maxL := 5) (ret := (some .int)) (by decide) rfl ?_
  intro p e s m args below meth c s₁ B hml htab hv
  obtain ⟨hargs, hI⟩ := hv
  have S : CallFix p m c cL_compared 5 s args wsL_compared RL := ⟨B.exec, B.bytes, hml, findClass_of_methodNamed B.named, atoms_spec (ws := wsL_compared) B.pre⟩
  have hret := B.returns
  have hlocks := B.notSynchronized
  have Z := wZ_0 hI
  clear hI
  obtain ⟨Q, hQ⟩ : ∃ Q, Q = MQ below (QLP G μ MS MR) args s 4 34 (gP G) := ⟨_, rfl⟩
  rw [← hQ]
  have hl := lv_entry [.ref (gA G 0), .int (x), .int (y), .ref (gA G 53)] (n := 5) (Nat.le_of_ble_eq_true rfl)
  rw [show entryFrame m args 5 = entryFrame m ([.ref (gA G 0), .int (x), .int (y), .ref (gA G 53)] : List Value).toArray 5 from by rw [hargs], lg_entry_eq]
  generalize (lg_sl [.ref (gA G 0), .int (x), .int (y), .ref (gA G 53)] ++ List.replicate (5 - (lg_sl [.ref (gA G 0), .int (x), .int (y), .ref (gA G 53)]).length) Slot.unset).toArray = ls at hl ⊢
  have hl : lv_has ls 5 [(0, .ref (gA G 0)), (1, .int (x)), (2, .int (y)), (3, .ref (gA G 53))] := hl
  refine lv_aload_n S.1 S.2.1 dL_compared_0 rfl (lv_at hl 3 rfl) ?_
  refine lv_iconst (v := nI 0) S.1 S.2.1 dL_compared_1 (by decide) ?_
  refine lv_aload_n S.1 S.2.1 dL_compared_2 rfl (lv_at hl 0 rfl) ?_
  refine lv_iload_n S.1 S.2.1 dL_compared_3 rfl (lv_at hl 1 rfl) ?_
  refine lv_iload_n S.1 S.2.1 dL_compared_4 rfl (lv_at hl 2 rfl) ?_
  refine x_call (vx_runV (As := [.int (x), .int (y)]) (rest := [.int (nI 0), .ref (gA G 53)]) S (k_X7_compared_X1 l hst G σ μ o x y hx) (cwV 2 S.2.2.2.2 gL_compared_X7_compared rfl rfl rfl ⟨rfl, hy_X7_compared⟩ ⟨Nat.le_of_ble_eq_true rfl, Nat.le_of_ble_eq_true rfl⟩) (wPc_V (q := (RX7, TX7, 7)) Z (by decide) rfl rfl) rfl rfl hl.1 rfl (lv_room (Nat.le_of_ble_eq_true rfl)) dL_compared_5 ⟨Nat.le_of_ble_eq_true rfl, Nat.le_of_ble_eq_true rfl⟩) (fun _ _ _ h => h) Z (fun ce q9 H locs Z h1 h2 h3 => ?_)
  refine vx_catch (name := "java/lang/IndexOutOfBoundsException") S.2.2.2.1 [] ⟨0, 10, 13, 13⟩ [] (by rw [htab]; rfl) (fun z h => absurd h List.not_mem_nil) rfl (by decide) (S.2.2.2.2 _ m_L_compared_c13) (ca_use Z n_caA) h1 h2 h3 ?_
  refine lv_astore (lv' := [(4, .ref (q9)), (0, .ref (gA G 0)), (1, .int (x)), (2, .int (y)), (3, .ref (gA G 53))]) S.1 S.2.1 dL_compared_13 hl (by decide) rfl (fun ls hl => ?_)
  refine lv_iconst (v := nI 1) S.1 S.2.1 dL_compared_15 (by decide) ?_
  refine W.widen (k := 4) (n := 34) (by decide) (by decide) ?_
  rw [hQ]
  exact W.iret (v := nI 1) S.1 S.2.1 hret (fun _ hT9 hW => ⟨⟨_, (σ, μ, o), rfl, hpost, wZ_I Z hT9 hW⟩, Z.2.2.2.2.F hT9⟩) Z.2.2.2.2.2.2 dL_compared_16

set_option maxHeartbeats 4000000 in
set_option maxRecDepth 100000 in
theorem kL_compared_X2 (l : Launch) (hst : l.stackTraces = false) (G : wG) (σ : cS) (μ : mS) (o : Nat → Int64) (i : Nat) (x : Int32) (MS : mS) (MR : Int32) (hi : i < 3) (hx : wi x (nI 2) = false) (hpost : LQ G μ MS MR (nI 1) (σ, μ, o)) : Met l yL_compared wsL_compared rmL (wPc G σ μ o [.ref (gA G 0), .int (nI i), .int (x), .ref (gA G 53)]) (QLP G μ MS MR) 4 34 (gP G) := by
  refine m_ofWH (hh := [(0, 10, 13, 13)]) (cc := cL_compared) (maxL := 5) (ret := (some .int)) (by decide) rfl ?_
  intro p e s m args below meth c s₁ B hml htab hv
  obtain ⟨hargs, hI⟩ := hv
  have S : CallFix p m c cL_compared 5 s args wsL_compared RL := ⟨B.exec, B.bytes, hml, findClass_of_methodNamed B.named, atoms_spec (ws := wsL_compared) B.pre⟩
  have hret := B.returns
  have hlocks := B.notSynchronized
  have Z := wZ_0 hI
  clear hI
  obtain ⟨Q, hQ⟩ : ∃ Q, Q = MQ below (QLP G μ MS MR) args s 4 34 (gP G) := ⟨_, rfl⟩
  rw [← hQ]
  have hl := lv_entry [.ref (gA G 0), .int (nI i), .int (x), .ref (gA G 53)] (n := 5) (Nat.le_of_ble_eq_true rfl)
  rw [show entryFrame m args 5 = entryFrame m ([.ref (gA G 0), .int (nI i), .int (x), .ref (gA G 53)] : List Value).toArray 5 from by rw [hargs], lg_entry_eq]
  generalize (lg_sl [.ref (gA G 0), .int (nI i), .int (x), .ref (gA G 53)] ++ List.replicate (5 - (lg_sl [.ref (gA G 0), .int (nI i), .int (x), .ref (gA G 53)]).length) Slot.unset).toArray = ls at hl ⊢
  have hl : lv_has ls 5 [(0, .ref (gA G 0)), (1, .int (nI i)), (2, .int (x)), (3, .ref (gA G 53))] := hl
  refine lv_aload_n S.1 S.2.1 dL_compared_0 rfl (lv_at hl 3 rfl) ?_
  refine lv_iconst (v := nI 0) S.1 S.2.1 dL_compared_1 (by decide) ?_
  refine lv_aload_n S.1 S.2.1 dL_compared_2 rfl (lv_at hl 0 rfl) ?_
  refine lv_iload_n S.1 S.2.1 dL_compared_3 rfl (lv_at hl 1 rfl) ?_
  refine lv_iload_n S.1 S.2.1 dL_compared_4 rfl (lv_at hl 2 rfl) ?_
  refine x_call (vx_runV (As := [.int (nI i), .int (x)]) (rest := [.int (nI 0), .ref (gA G 53)]) S (k_X7_compared_X2 l hst G σ μ o i x hi hx) (cwV 2 S.2.2.2.2 gL_compared_X7_compared rfl rfl rfl ⟨rfl, hy_X7_compared⟩ ⟨Nat.le_of_ble_eq_true rfl, Nat.le_of_ble_eq_true rfl⟩) (wPc_V (q := (RX7, TX7, 7)) Z (by decide) rfl rfl) rfl rfl hl.1 rfl (lv_room (Nat.le_of_ble_eq_true rfl)) dL_compared_5 ⟨Nat.le_of_ble_eq_true rfl, Nat.le_of_ble_eq_true rfl⟩) (fun _ _ _ h => h) Z (fun ce q9 H locs Z h1 h2 h3 => ?_)
  refine vx_catch (name := "java/lang/IndexOutOfBoundsException") S.2.2.2.1 [] ⟨0, 10, 13, 13⟩ [] (by rw [htab]; rfl) (fun z h => absurd h List.not_mem_nil) rfl (by decide) (S.2.2.2.2 _ m_L_compared_c13) (ca_use Z n_caA) h1 h2 h3 ?_
  refine lv_astore (lv' := [(4, .ref (q9)), (0, .ref (gA G 0)), (1, .int (nI i)), (2, .int (x)), (3, .ref (gA G 53))]) S.1 S.2.1 dL_compared_13 hl (by decide) rfl (fun ls hl => ?_)
  refine lv_iconst (v := nI 1) S.1 S.2.1 dL_compared_15 (by decide) ?_
  refine W.widen (k := 4) (n := 34) (by decide) (by decide) ?_
  rw [hQ]
  exact W.iret (v := nI 1) S.1 S.2.1 hret (fun _ hT9 hW => ⟨⟨_, (σ, μ, o), rfl, hpost, wZ_I Z hT9 hW⟩, Z.2.2.2.2.F hT9⟩) Z.2.2.2.2.2.2 dL_compared_16

set_option maxHeartbeats 4000000 in
set_option maxRecDepth 100000 in
theorem kL_unlike (l : Launch) (hst : l.stackTraces = false) (G : wG) (σ : cS) (μ : mS) (o : Nat → Int64) (i : Nat) (j : Nat) (MS : mS) (MR : Int32) (hi : i < 3) (hj : j < 3) (hpost : LQ G μ MS MR (nI 0) (cmp σ i j, μ, vp_updL o 0 (urn (cmp σ i j) 16).toInt64)) : Met l yL_unlike wsL_unlike rmL (wPc G σ μ o [.ref (gA G 0), .int (nI i), .int (nI j), .ref (gA G 53)]) (QLP G μ MS MR) 4 34 (gP G) := by
  refine m_ofWH (hh := [(0, 10, 13, 13)]) (cc := cL_unlike) (maxL := 5) (ret := (some .int)) (by decide) rfl ?_
  intro p e s m args below meth c s₁ B hml htab hv
  obtain ⟨hargs, hI⟩ := hv
  have S : CallFix p m c cL_unlike 5 s args wsL_unlike RL := ⟨B.exec, B.bytes, hml, findClass_of_methodNamed B.named, atoms_spec (ws := wsL_unlike) B.pre⟩
  have hret := B.returns
  have hlocks := B.notSynchronized
  have Z := wZ_0 hI
  clear hI
  obtain ⟨Q, hQ⟩ : ∃ Q, Q = MQ below (QLP G μ MS MR) args s 4 34 (gP G) := ⟨_, rfl⟩
  rw [← hQ]
  have hl := lv_entry [.ref (gA G 0), .int (nI i), .int (nI j), .ref (gA G 53)] (n := 5) (Nat.le_of_ble_eq_true rfl)
  rw [show entryFrame m args 5 = entryFrame m ([.ref (gA G 0), .int (nI i), .int (nI j), .ref (gA G 53)] : List Value).toArray 5 from by rw [hargs], lg_entry_eq]
  generalize (lg_sl [.ref (gA G 0), .int (nI i), .int (nI j), .ref (gA G 53)] ++ List.replicate (5 - (lg_sl [.ref (gA G 0), .int (nI i), .int (nI j), .ref (gA G 53)]).length) Slot.unset).toArray = ls at hl ⊢
  have hl : lv_has ls 5 [(0, .ref (gA G 0)), (1, .int (nI i)), (2, .int (nI j)), (3, .ref (gA G 53))] := hl
  refine lv_aload_n S.1 S.2.1 dL_unlike_0 rfl (lv_at hl 3 rfl) ?_
  refine lv_iconst (v := nI 0) S.1 S.2.1 dL_unlike_1 (by decide) ?_
  refine lv_aload_n S.1 S.2.1 dL_unlike_2 rfl (lv_at hl 0 rfl) ?_
  refine lv_iload_n S.1 S.2.1 dL_unlike_3 rfl (lv_at hl 1 rfl) ?_
  refine lv_iload_n S.1 S.2.1 dL_unlike_4 rfl (lv_at hl 2 rfl) ?_
  refine va_calli (va_runV (As := [.int (nI i), .int (nI j)]) (rest := [.int (nI 0), .ref (gA G 53)]) S (k_X7_unlike l G σ μ o i j hi hj) (cwV 2 S.2.2.2.2 gL_unlike_X7_unlike rfl rfl rfl ⟨rfl, hy_X7_unlike⟩ ⟨Nat.le_of_ble_eq_true rfl, Nat.le_of_ble_eq_true rfl⟩) (wPc_V (q := (RX7, TX7, 7)) Z (by decide) rfl rfl) rfl rfl hl.1 rfl (lv_room (Nat.le_of_ble_eq_true rfl)) dL_unlike_5 ⟨Nat.le_of_ble_eq_true rfl, Nat.le_of_ble_eq_true rfl⟩) Z.2.2.2.2 (fun _ _ h => h) (fun _ h => h) (fun r_1 u_2 T9 H1 locs1 hT9 hvm hw hB hz hk9 hS => ?_)
  obtain ⟨hr9, rfl⟩ := hw
  rw [hr9]; clear hr9 r_1
  have Z : wZ G (cmp σ i j) (μ) o s H1 locs1 := wZ_callP Z hB hT9 hS
  clear hB hT9 hS hk9 hz hvm T9
  revert Z; generalize H1 = H; generalize locs1 = locs; intro Z
  refine W.widen (k := 0) (n := 0) (by first | decide | omega) (by first | decide | omega) ?_
  refine lv_i2l (v := (urn (cmp σ i j) 16).toInt64) S.1 S.2.1 dL_unlike_8 rfl ?_
  refine r_last S Z dL_unlike_9 (fun H locs Z => ?_)
  refine lv_goto (tgt := 17) S.1 S.2.1 dL_unlike_10 (by decide) ?_
  refine lv_iconst (v := nI 0) S.1 S.2.1 dL_unlike_17 (by decide) ?_
  refine W.widen (k := 4) (n := 34) (by decide) (by decide) ?_
  rw [hQ]
  exact W.iret (v := nI 0) S.1 S.2.1 hret (fun _ hT9 hW => ⟨⟨_, (cmp σ i j, μ, vp_updL o 0 ((urn (cmp σ i j) 16).toInt64)), rfl, hpost, wZ_I Z hT9 hW⟩, Z.2.2.2.2.F hT9⟩) Z.2.2.2.2.2.2 dL_unlike_18

theorem m_L_unlike_c13 : Cond.classLink RL 13 "java/lang/IndexOutOfBoundsException" ∈ wsL_unlike := by decide +kernel
set_option maxHeartbeats 4000000 in
set_option maxRecDepth 100000 in
theorem kL_unlike_X1 (l : Launch) (hst : l.stackTraces = false) (G : wG) (σ : cS) (μ : mS) (o : Nat → Int64) (x : Int32) (y : Int32) (MS : mS) (MR : Int32) (hx : wi x (nI 2) = false) (hpost : LQ G μ MS MR (nI 1) (σ, μ, o)) : Met l yL_unlike wsL_unlike rmL (wPc G σ μ o [.ref (gA G 0), .int (x), .int (y), .ref (gA G 53)]) (QLP G μ MS MR) 4 34 (gP G) := by
  refine m_ofWH (hh := [(0, 10, 13, 13)]) (cc := cL_unlike) (maxL := 5) (ret := (some .int)) (by decide) rfl ?_
  intro p e s m args below meth c s₁ B hml htab hv
  obtain ⟨hargs, hI⟩ := hv
  have S : CallFix p m c cL_unlike 5 s args wsL_unlike RL := ⟨B.exec, B.bytes, hml, findClass_of_methodNamed B.named, atoms_spec (ws := wsL_unlike) B.pre⟩
  have hret := B.returns
  have hlocks := B.notSynchronized
  have Z := wZ_0 hI
  clear hI
  obtain ⟨Q, hQ⟩ : ∃ Q, Q = MQ below (QLP G μ MS MR) args s 4 34 (gP G) := ⟨_, rfl⟩
  rw [← hQ]
  have hl := lv_entry [.ref (gA G 0), .int (x), .int (y), .ref (gA G 53)] (n := 5) (Nat.le_of_ble_eq_true rfl)
  rw [show entryFrame m args 5 = entryFrame m ([.ref (gA G 0), .int (x), .int (y), .ref (gA G 53)] : List Value).toArray 5 from by rw [hargs], lg_entry_eq]
  generalize (lg_sl [.ref (gA G 0), .int (x), .int (y), .ref (gA G 53)] ++ List.replicate (5 - (lg_sl [.ref (gA G 0), .int (x), .int (y), .ref (gA G 53)]).length) Slot.unset).toArray = ls at hl ⊢
  have hl : lv_has ls 5 [(0, .ref (gA G 0)), (1, .int (x)), (2, .int (y)), (3, .ref (gA G 53))] := hl
  refine lv_aload_n S.1 S.2.1 dL_unlike_0 rfl (lv_at hl 3 rfl) ?_
  refine lv_iconst (v := nI 0) S.1 S.2.1 dL_unlike_1 (by decide) ?_
  refine lv_aload_n S.1 S.2.1 dL_unlike_2 rfl (lv_at hl 0 rfl) ?_
  refine lv_iload_n S.1 S.2.1 dL_unlike_3 rfl (lv_at hl 1 rfl) ?_
  refine lv_iload_n S.1 S.2.1 dL_unlike_4 rfl (lv_at hl 2 rfl) ?_
  refine x_call (vx_runV (As := [.int (x), .int (y)]) (rest := [.int (nI 0), .ref (gA G 53)]) S (k_X7_unlike_X1 l hst G σ μ o x y hx) (cwV 2 S.2.2.2.2 gL_unlike_X7_unlike rfl rfl rfl ⟨rfl, hy_X7_unlike⟩ ⟨Nat.le_of_ble_eq_true rfl, Nat.le_of_ble_eq_true rfl⟩) (wPc_V (q := (RX7, TX7, 7)) Z (by decide) rfl rfl) rfl rfl hl.1 rfl (lv_room (Nat.le_of_ble_eq_true rfl)) dL_unlike_5 ⟨Nat.le_of_ble_eq_true rfl, Nat.le_of_ble_eq_true rfl⟩) (fun _ _ _ h => h) Z (fun ce q9 H locs Z h1 h2 h3 => ?_)
  refine vx_catch (name := "java/lang/IndexOutOfBoundsException") S.2.2.2.1 [] ⟨0, 10, 13, 13⟩ [] (by rw [htab]; rfl) (fun z h => absurd h List.not_mem_nil) rfl (by decide) (S.2.2.2.2 _ m_L_unlike_c13) (ca_use Z n_caA) h1 h2 h3 ?_
  refine lv_astore (lv' := [(4, .ref (q9)), (0, .ref (gA G 0)), (1, .int (x)), (2, .int (y)), (3, .ref (gA G 53))]) S.1 S.2.1 dL_unlike_13 hl (by decide) rfl (fun ls hl => ?_)
  refine lv_iconst (v := nI 1) S.1 S.2.1 dL_unlike_15 (by decide) ?_
  refine W.widen (k := 4) (n := 34) (by decide) (by decide) ?_
  rw [hQ]
  exact W.iret (v := nI 1) S.1 S.2.1 hret (fun _ hT9 hW => ⟨⟨_, (σ, μ, o), rfl, hpost, wZ_I Z hT9 hW⟩, Z.2.2.2.2.F hT9⟩) Z.2.2.2.2.2.2 dL_unlike_16

set_option maxHeartbeats 4000000 in
set_option maxRecDepth 100000 in
theorem kL_unlike_X2 (l : Launch) (hst : l.stackTraces = false) (G : wG) (σ : cS) (μ : mS) (o : Nat → Int64) (i : Nat) (x : Int32) (MS : mS) (MR : Int32) (hi : i < 3) (hx : wi x (nI 2) = false) (hpost : LQ G μ MS MR (nI 1) (σ, μ, o)) : Met l yL_unlike wsL_unlike rmL (wPc G σ μ o [.ref (gA G 0), .int (nI i), .int (x), .ref (gA G 53)]) (QLP G μ MS MR) 4 34 (gP G) := by
  refine m_ofWH (hh := [(0, 10, 13, 13)]) (cc := cL_unlike) (maxL := 5) (ret := (some .int)) (by decide) rfl ?_
  intro p e s m args below meth c s₁ B hml htab hv
  obtain ⟨hargs, hI⟩ := hv
  have S : CallFix p m c cL_unlike 5 s args wsL_unlike RL := ⟨B.exec, B.bytes, hml, findClass_of_methodNamed B.named, atoms_spec (ws := wsL_unlike) B.pre⟩
  have hret := B.returns
  have hlocks := B.notSynchronized
  have Z := wZ_0 hI
  clear hI
  obtain ⟨Q, hQ⟩ : ∃ Q, Q = MQ below (QLP G μ MS MR) args s 4 34 (gP G) := ⟨_, rfl⟩
  rw [← hQ]
  have hl := lv_entry [.ref (gA G 0), .int (nI i), .int (x), .ref (gA G 53)] (n := 5) (Nat.le_of_ble_eq_true rfl)
  rw [show entryFrame m args 5 = entryFrame m ([.ref (gA G 0), .int (nI i), .int (x), .ref (gA G 53)] : List Value).toArray 5 from by rw [hargs], lg_entry_eq]
  generalize (lg_sl [.ref (gA G 0), .int (nI i), .int (x), .ref (gA G 53)] ++ List.replicate (5 - (lg_sl [.ref (gA G 0), .int (nI i), .int (x), .ref (gA G 53)]).length) Slot.unset).toArray = ls at hl ⊢
  have hl : lv_has ls 5 [(0, .ref (gA G 0)), (1, .int (nI i)), (2, .int (x)), (3, .ref (gA G 53))] := hl
  refine lv_aload_n S.1 S.2.1 dL_unlike_0 rfl (lv_at hl 3 rfl) ?_
  refine lv_iconst (v := nI 0) S.1 S.2.1 dL_unlike_1 (by decide) ?_
  refine lv_aload_n S.1 S.2.1 dL_unlike_2 rfl (lv_at hl 0 rfl) ?_
  refine lv_iload_n S.1 S.2.1 dL_unlike_3 rfl (lv_at hl 1 rfl) ?_
  refine lv_iload_n S.1 S.2.1 dL_unlike_4 rfl (lv_at hl 2 rfl) ?_
  refine x_call (vx_runV (As := [.int (nI i), .int (x)]) (rest := [.int (nI 0), .ref (gA G 53)]) S (k_X7_unlike_X2 l hst G σ μ o i x hi hx) (cwV 2 S.2.2.2.2 gL_unlike_X7_unlike rfl rfl rfl ⟨rfl, hy_X7_unlike⟩ ⟨Nat.le_of_ble_eq_true rfl, Nat.le_of_ble_eq_true rfl⟩) (wPc_V (q := (RX7, TX7, 7)) Z (by decide) rfl rfl) rfl rfl hl.1 rfl (lv_room (Nat.le_of_ble_eq_true rfl)) dL_unlike_5 ⟨Nat.le_of_ble_eq_true rfl, Nat.le_of_ble_eq_true rfl⟩) (fun _ _ _ h => h) Z (fun ce q9 H locs Z h1 h2 h3 => ?_)
  refine vx_catch (name := "java/lang/IndexOutOfBoundsException") S.2.2.2.1 [] ⟨0, 10, 13, 13⟩ [] (by rw [htab]; rfl) (fun z h => absurd h List.not_mem_nil) rfl (by decide) (S.2.2.2.2 _ m_L_unlike_c13) (ca_use Z n_caA) h1 h2 h3 ?_
  refine lv_astore (lv' := [(4, .ref (q9)), (0, .ref (gA G 0)), (1, .int (nI i)), (2, .int (x)), (3, .ref (gA G 53))]) S.1 S.2.1 dL_unlike_13 hl (by decide) rfl (fun ls hl => ?_)
  refine lv_iconst (v := nI 1) S.1 S.2.1 dL_unlike_15 (by decide) ?_
  refine W.widen (k := 4) (n := 34) (by decide) (by decide) ?_
  rw [hQ]
  exact W.iret (v := nI 1) S.1 S.2.1 hret (fun _ hT9 hW => ⟨⟨_, (σ, μ, o), rfl, hpost, wZ_I Z hT9 hW⟩, Z.2.2.2.2.F hT9⟩) Z.2.2.2.2.2.2 dL_unlike_16

set_option maxHeartbeats 4000000 in
set_option maxRecDepth 100000 in
theorem kL_areAlike (l : Launch) (hst : l.stackTraces = false) (G : wG) (σ : cS) (μ : mS) (o : Nat → Int64) (i : Nat) (j : Nat) (MS : mS) (MR : Int32) (hi : i < 3) (hj : j < 3) (hpost : LQ G μ MS MR (nI 0) (σ, μ, vp_updL o 0 (bi (sEn σ i j 64 && sTn σ i j 92)).toInt64)) : Met l yL_areAlike wsL_areAlike rmL (wPc G σ μ o [.ref (gA G 0), .int (nI i), .int (nI j), .ref (gA G 53)]) (QLP G μ MS MR) 4 34 (gP G) := by
  refine m_ofWH (hh := [(0, 17, 20, 13)]) (cc := cL_areAlike) (maxL := 5) (ret := (some .int)) (by decide) rfl ?_
  intro p e s m args below meth c s₁ B hml htab hv
  obtain ⟨hargs, hI⟩ := hv
  have S : CallFix p m c cL_areAlike 5 s args wsL_areAlike RL := ⟨B.exec, B.bytes, hml, findClass_of_methodNamed B.named, atoms_spec (ws := wsL_areAlike) B.pre⟩
  have hret := B.returns
  have hlocks := B.notSynchronized
  have Z := wZ_0 hI
  clear hI
  obtain ⟨Q, hQ⟩ : ∃ Q, Q = MQ below (QLP G μ MS MR) args s 4 34 (gP G) := ⟨_, rfl⟩
  rw [← hQ]
  have hl := lv_entry [.ref (gA G 0), .int (nI i), .int (nI j), .ref (gA G 53)] (n := 5) (Nat.le_of_ble_eq_true rfl)
  rw [show entryFrame m args 5 = entryFrame m ([.ref (gA G 0), .int (nI i), .int (nI j), .ref (gA G 53)] : List Value).toArray 5 from by rw [hargs], lg_entry_eq]
  generalize (lg_sl [.ref (gA G 0), .int (nI i), .int (nI j), .ref (gA G 53)] ++ List.replicate (5 - (lg_sl [.ref (gA G 0), .int (nI i), .int (nI j), .ref (gA G 53)]).length) Slot.unset).toArray = ls at hl ⊢
  have hl : lv_has ls 5 [(0, .ref (gA G 0)), (1, .int (nI i)), (2, .int (nI j)), (3, .ref (gA G 53))] := hl
  refine lv_aload_n S.1 S.2.1 dL_areAlike_0 rfl (lv_at hl 3 rfl) ?_
  refine lv_iconst (v := nI 0) S.1 S.2.1 dL_areAlike_1 (by decide) ?_
  refine lv_aload_n S.1 S.2.1 dL_areAlike_2 rfl (lv_at hl 0 rfl) ?_
  refine lv_iload_n S.1 S.2.1 dL_areAlike_3 rfl (lv_at hl 1 rfl) ?_
  refine lv_iload_n S.1 S.2.1 dL_areAlike_4 rfl (lv_at hl 2 rfl) ?_
  refine vp_callSi (va_runV (As := [.int (nI i), .int (nI j)]) (rest := [.int (nI 0), .ref (gA G 53)]) S (k_X7_areAlike l G σ μ o i j hi hj) (cwV 2 S.2.2.2.2 gL_areAlike_X7_areAlike rfl rfl rfl ⟨rfl, hy_X7_areAlike⟩ ⟨Nat.le_of_ble_eq_true rfl, Nat.le_of_ble_eq_true rfl⟩) (wPc_V (q := (RX7, TX7, 7)) Z (by decide) rfl rfl) rfl rfl hl.1 rfl (lv_room (Nat.le_of_ble_eq_true rfl)) dL_areAlike_5 ⟨Nat.le_of_ble_eq_true rfl, Nat.le_of_ble_eq_true rfl⟩).run (fun r_1 h_2 => ?_)
  rw [h_2]; clear h_2 r_1
  refine r_if_eqB S (tgt := 15) dL_areAlike_8 (by decide) (fun c_3 => ?_) (fun c_3 => ?_)
  · skip
    refine lv_lconst (v := 0) S.1 S.2.1 dL_areAlike_15 rfl ?_
    refine r_last S Z dL_areAlike_16 (fun H locs Z => ?_)
    refine lv_goto (tgt := 24) S.1 S.2.1 dL_areAlike_17 (by decide) ?_
    refine lv_iconst (v := nI 0) S.1 S.2.1 dL_areAlike_24 (by decide) ?_
    have e9 : vp_updL o 0 (0) = vp_updL o 0 (bi (sEn σ i j 64 && sTn σ i j 92)).toInt64 := by first | rfl | (simp only [c_3]; rfl)
    rw [e9] at Z
    refine W.widen (k := 4) (n := 34) (by decide) (by decide) ?_
    rw [hQ]
    exact W.iret (v := nI 0) S.1 S.2.1 hret (fun _ hT9 hW => ⟨⟨_, (σ, μ, vp_updL o 0 (bi (sEn σ i j 64 && sTn σ i j 92)).toInt64), rfl, hpost, wZ_I Z hT9 hW⟩, Z.2.2.2.2.F hT9⟩) Z.2.2.2.2.2.2 dL_areAlike_25
  · skip
    refine lv_lconst (v := 1) S.1 S.2.1 dL_areAlike_11 rfl ?_
    refine lv_goto (tgt := 16) S.1 S.2.1 dL_areAlike_12 (by decide) ?_
    refine r_last S Z dL_areAlike_16 (fun H locs Z => ?_)
    refine lv_goto (tgt := 24) S.1 S.2.1 dL_areAlike_17 (by decide) ?_
    refine lv_iconst (v := nI 0) S.1 S.2.1 dL_areAlike_24 (by decide) ?_
    have e9 : vp_updL o 0 (1) = vp_updL o 0 (bi (sEn σ i j 64 && sTn σ i j 92)).toInt64 := by first | rfl | (simp only [c_3]; rfl)
    rw [e9] at Z
    refine W.widen (k := 4) (n := 34) (by decide) (by decide) ?_
    rw [hQ]
    exact W.iret (v := nI 0) S.1 S.2.1 hret (fun _ hT9 hW => ⟨⟨_, (σ, μ, vp_updL o 0 (bi (sEn σ i j 64 && sTn σ i j 92)).toInt64), rfl, hpost, wZ_I Z hT9 hW⟩, Z.2.2.2.2.F hT9⟩) Z.2.2.2.2.2.2 dL_areAlike_25

theorem m_L_areAlike_c13 : Cond.classLink RL 13 "java/lang/IndexOutOfBoundsException" ∈ wsL_areAlike := by decide +kernel
set_option maxHeartbeats 4000000 in
set_option maxRecDepth 100000 in
theorem kL_areAlike_X1 (l : Launch) (hst : l.stackTraces = false) (G : wG) (σ : cS) (μ : mS) (o : Nat → Int64) (x : Int32) (y : Int32) (MS : mS) (MR : Int32) (hx : wi x (nI 2) = false) (hpost : LQ G μ MS MR (nI 1) (σ, μ, o)) : Met l yL_areAlike wsL_areAlike rmL (wPc G σ μ o [.ref (gA G 0), .int (x), .int (y), .ref (gA G 53)]) (QLP G μ MS MR) 4 34 (gP G) := by
  refine m_ofWH (hh := [(0, 17, 20, 13)]) (cc := cL_areAlike) (maxL := 5) (ret := (some .int)) (by decide) rfl ?_
  intro p e s m args below meth c s₁ B hml htab hv
  obtain ⟨hargs, hI⟩ := hv
  have S : CallFix p m c cL_areAlike 5 s args wsL_areAlike RL := ⟨B.exec, B.bytes, hml, findClass_of_methodNamed B.named, atoms_spec (ws := wsL_areAlike) B.pre⟩
  have hret := B.returns
  have hlocks := B.notSynchronized
  have Z := wZ_0 hI
  clear hI
  obtain ⟨Q, hQ⟩ : ∃ Q, Q = MQ below (QLP G μ MS MR) args s 4 34 (gP G) := ⟨_, rfl⟩
  rw [← hQ]
  have hl := lv_entry [.ref (gA G 0), .int (x), .int (y), .ref (gA G 53)] (n := 5) (Nat.le_of_ble_eq_true rfl)
  rw [show entryFrame m args 5 = entryFrame m ([.ref (gA G 0), .int (x), .int (y), .ref (gA G 53)] : List Value).toArray 5 from by rw [hargs], lg_entry_eq]
  generalize (lg_sl [.ref (gA G 0), .int (x), .int (y), .ref (gA G 53)] ++ List.replicate (5 - (lg_sl [.ref (gA G 0), .int (x), .int (y), .ref (gA G 53)]).length) Slot.unset).toArray = ls at hl ⊢
  have hl : lv_has ls 5 [(0, .ref (gA G 0)), (1, .int (x)), (2, .int (y)), (3, .ref (gA G 53))] := hl
  refine lv_aload_n S.1 S.2.1 dL_areAlike_0 rfl (lv_at hl 3 rfl) ?_
  refine lv_iconst (v := nI 0) S.1 S.2.1 dL_areAlike_1 (by decide) ?_
  refine lv_aload_n S.1 S.2.1 dL_areAlike_2 rfl (lv_at hl 0 rfl) ?_
  refine lv_iload_n S.1 S.2.1 dL_areAlike_3 rfl (lv_at hl 1 rfl) ?_
  refine lv_iload_n S.1 S.2.1 dL_areAlike_4 rfl (lv_at hl 2 rfl) ?_
  refine x_call (vx_runV (As := [.int (x), .int (y)]) (rest := [.int (nI 0), .ref (gA G 53)]) S (k_X7_areAlike_X1 l hst G σ μ o x y hx) (cwV 2 S.2.2.2.2 gL_areAlike_X7_areAlike rfl rfl rfl ⟨rfl, hy_X7_areAlike⟩ ⟨Nat.le_of_ble_eq_true rfl, Nat.le_of_ble_eq_true rfl⟩) (wPc_V (q := (RX7, TX7, 7)) Z (by decide) rfl rfl) rfl rfl hl.1 rfl (lv_room (Nat.le_of_ble_eq_true rfl)) dL_areAlike_5 ⟨Nat.le_of_ble_eq_true rfl, Nat.le_of_ble_eq_true rfl⟩) (fun _ _ _ h => h) Z (fun ce q9 H locs Z h1 h2 h3 => ?_)
  refine vx_catch (name := "java/lang/IndexOutOfBoundsException") S.2.2.2.1 [] ⟨0, 17, 20, 13⟩ [] (by rw [htab]; rfl) (fun z h => absurd h List.not_mem_nil) rfl (by decide) (S.2.2.2.2 _ m_L_areAlike_c13) (ca_use Z n_caA) h1 h2 h3 ?_
  refine lv_astore (lv' := [(4, .ref (q9)), (0, .ref (gA G 0)), (1, .int (x)), (2, .int (y)), (3, .ref (gA G 53))]) S.1 S.2.1 dL_areAlike_20 hl (by decide) rfl (fun ls hl => ?_)
  refine lv_iconst (v := nI 1) S.1 S.2.1 dL_areAlike_22 (by decide) ?_
  refine W.widen (k := 4) (n := 34) (by decide) (by decide) ?_
  rw [hQ]
  exact W.iret (v := nI 1) S.1 S.2.1 hret (fun _ hT9 hW => ⟨⟨_, (σ, μ, o), rfl, hpost, wZ_I Z hT9 hW⟩, Z.2.2.2.2.F hT9⟩) Z.2.2.2.2.2.2 dL_areAlike_23

set_option maxHeartbeats 4000000 in
set_option maxRecDepth 100000 in
theorem kL_areAlike_X2 (l : Launch) (hst : l.stackTraces = false) (G : wG) (σ : cS) (μ : mS) (o : Nat → Int64) (i : Nat) (x : Int32) (MS : mS) (MR : Int32) (hi : i < 3) (hx : wi x (nI 2) = false) (hpost : LQ G μ MS MR (nI 1) (σ, μ, o)) : Met l yL_areAlike wsL_areAlike rmL (wPc G σ μ o [.ref (gA G 0), .int (nI i), .int (x), .ref (gA G 53)]) (QLP G μ MS MR) 4 34 (gP G) := by
  refine m_ofWH (hh := [(0, 17, 20, 13)]) (cc := cL_areAlike) (maxL := 5) (ret := (some .int)) (by decide) rfl ?_
  intro p e s m args below meth c s₁ B hml htab hv
  obtain ⟨hargs, hI⟩ := hv
  have S : CallFix p m c cL_areAlike 5 s args wsL_areAlike RL := ⟨B.exec, B.bytes, hml, findClass_of_methodNamed B.named, atoms_spec (ws := wsL_areAlike) B.pre⟩
  have hret := B.returns
  have hlocks := B.notSynchronized
  have Z := wZ_0 hI
  clear hI
  obtain ⟨Q, hQ⟩ : ∃ Q, Q = MQ below (QLP G μ MS MR) args s 4 34 (gP G) := ⟨_, rfl⟩
  rw [← hQ]
  have hl := lv_entry [.ref (gA G 0), .int (nI i), .int (x), .ref (gA G 53)] (n := 5) (Nat.le_of_ble_eq_true rfl)
  rw [show entryFrame m args 5 = entryFrame m ([.ref (gA G 0), .int (nI i), .int (x), .ref (gA G 53)] : List Value).toArray 5 from by rw [hargs], lg_entry_eq]
  generalize (lg_sl [.ref (gA G 0), .int (nI i), .int (x), .ref (gA G 53)] ++ List.replicate (5 - (lg_sl [.ref (gA G 0), .int (nI i), .int (x), .ref (gA G 53)]).length) Slot.unset).toArray = ls at hl ⊢
  have hl : lv_has ls 5 [(0, .ref (gA G 0)), (1, .int (nI i)), (2, .int (x)), (3, .ref (gA G 53))] := hl
  refine lv_aload_n S.1 S.2.1 dL_areAlike_0 rfl (lv_at hl 3 rfl) ?_
  refine lv_iconst (v := nI 0) S.1 S.2.1 dL_areAlike_1 (by decide) ?_
  refine lv_aload_n S.1 S.2.1 dL_areAlike_2 rfl (lv_at hl 0 rfl) ?_
  refine lv_iload_n S.1 S.2.1 dL_areAlike_3 rfl (lv_at hl 1 rfl) ?_
  refine lv_iload_n S.1 S.2.1 dL_areAlike_4 rfl (lv_at hl 2 rfl) ?_
  refine x_call (vx_runV (As := [.int (nI i), .int (x)]) (rest := [.int (nI 0), .ref (gA G 53)]) S (k_X7_areAlike_X2 l hst G σ μ o i x hi hx) (cwV 2 S.2.2.2.2 gL_areAlike_X7_areAlike rfl rfl rfl ⟨rfl, hy_X7_areAlike⟩ ⟨Nat.le_of_ble_eq_true rfl, Nat.le_of_ble_eq_true rfl⟩) (wPc_V (q := (RX7, TX7, 7)) Z (by decide) rfl rfl) rfl rfl hl.1 rfl (lv_room (Nat.le_of_ble_eq_true rfl)) dL_areAlike_5 ⟨Nat.le_of_ble_eq_true rfl, Nat.le_of_ble_eq_true rfl⟩) (fun _ _ _ h => h) Z (fun ce q9 H locs Z h1 h2 h3 => ?_)
  refine vx_catch (name := "java/lang/IndexOutOfBoundsException") S.2.2.2.1 [] ⟨0, 17, 20, 13⟩ [] (by rw [htab]; rfl) (fun z h => absurd h List.not_mem_nil) rfl (by decide) (S.2.2.2.2 _ m_L_areAlike_c13) (ca_use Z n_caA) h1 h2 h3 ?_
  refine lv_astore (lv' := [(4, .ref (q9)), (0, .ref (gA G 0)), (1, .int (nI i)), (2, .int (x)), (3, .ref (gA G 53))]) S.1 S.2.1 dL_areAlike_20 hl (by decide) rfl (fun ls hl => ?_)
  refine lv_iconst (v := nI 1) S.1 S.2.1 dL_areAlike_22 (by decide) ?_
  refine W.widen (k := 4) (n := 34) (by decide) (by decide) ?_
  rw [hQ]
  exact W.iret (v := nI 1) S.1 S.2.1 hret (fun _ hT9 hW => ⟨⟨_, (σ, μ, o), rfl, hpost, wZ_I Z hT9 hW⟩, Z.2.2.2.2.F hT9⟩) Z.2.2.2.2.2.2 dL_areAlike_23
