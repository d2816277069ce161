theorem i_X2_goTo_X2 : ∀ w ∈ wsX20, w ∈ wsX2_goTo := by decide +kernel
theorem m_X2_goTo_f7 : Cond.fieldLink RX2 7 "WideCell$EntryChange" "cell" "I" ∈ wsX2_goTo := by decide +kernel
theorem m_X2_goTo_f13 : Cond.fieldLink RX2 13 "WideCell$EntryChange" "value" "I" ∈ wsX2_goTo := by decide +kernel
theorem m_X2_goTo_f16 : Cond.fieldLink RX2 16 "WideCell$EntryChange" "stamp" "I" ∈ wsX2_goTo := by decide +kernel
theorem m_X2_goTo_f19 : Cond.fieldLink RX2 19 "WideCell$EntryChange" "end" "I" ∈ wsX2_goTo := by decide +kernel
abbrev rm_k_X2_goTo : Room := { frames := 3, cells := 0, slots := 0, locals := 68 }
set_option maxHeartbeats 4000000 in
set_option maxRecDepth 100000 in
theorem k_X2_goTo (l : Launch) (G : wG) (σ : cS) (μ : mS) (o : Nat → Int64) (ad : Addr) (q : Nat) (t : Nat) (k : Nat) (v : Int32) (sp : Int32) (en : Int32) (hq : (Wl G σ μ o)[q]? = some (ad, .inr (2, [.int (nI k), .int v, .int sp, .int en]))) (ht : t < 4) (hk : k < 64) : Met l yX2_goTo wsX2_goTo rm_k_X2_goTo (wPc G σ μ o [.ref (ad), .ref (gA G (15 + 6 * t))]) (va_Qv (fun u : cS × mS => u = (takE σ t k v sp en, μ)) (fun u t => wI G u.1 u.2 o t) (gP G)) 0 0 (gP G) := by
  refine Met.ofW (cc := cX2_goTo) (maxL := 2) (ret := none) (by decide) rfl ?_
  intro p e s m args below meth c s₁ B hml hv
  obtain ⟨hargs, hI⟩ := hv
  have S : CallFix p m c cX2_goTo 2 s args wsX2_goTo RX2 := ⟨B.exec, B.bytes, hml, findClass_of_methodNamed B.named, atoms_spec (ws := wsX2_goTo) B.pre⟩
  have hret := B.returns
  have hlocks := B.notSynchronized
  have Z := wZ_0 hI
  clear hI
  obtain ⟨Q, hQ⟩ : ∃ Q, Q = MQ below (va_Qv (fun u : cS × mS => u = (takE σ t k v sp en, μ)) (fun u t => wI G u.1 u.2 o t) (gP G)) args s 0 0 (gP G) := ⟨_, rfl⟩
  rw [← hQ]
  have hl := lv_entry [.ref (ad), .ref (gA G (15 + 6 * t))] (n := 2) (Nat.le_of_ble_eq_true rfl)
  rw [show entryFrame m args 2 = entryFrame m ([.ref (ad), .ref (gA G (15 + 6 * t))] : List Value).toArray 2 from by rw [hargs], lg_entry_eq]
  generalize (lg_sl [.ref (ad), .ref (gA G (15 + 6 * t))] ++ List.replicate (2 - (lg_sl [.ref (ad), .ref (gA G (15 + 6 * t))]).length) Slot.unset).toArray = ls at hl ⊢
  have hl : lv_has ls 2 [(0, .ref (ad)), (1, .ref (gA G (15 + 6 * t)))] := hl
  refine lv_aload_n S.1 S.2.1 dX2_goTo_0 rfl (lv_at hl 1 rfl) ?_
  refine lv_aload_n S.1 S.2.1 dX2_goTo_1 rfl (lv_at hl 0 rfl) ?_
  refine r_getW (C := RX2) (T := TX2) (N := 4) (ci := 2) S Z  hq rfl i_X2_goTo_X2 0 (by decide) m_X2_goTo_f7 rfl (v := .int (nI k)) rfl dX2_goTo_2 ?_
  refine lv_aload_n S.1 S.2.1 dX2_goTo_5 rfl (lv_at hl 0 rfl) ?_
  refine r_getW (C := RX2) (T := TX2) (N := 4) (ci := 2) S Z  hq rfl i_X2_goTo_X2 1 (by decide) m_X2_goTo_f13 rfl (v := .int (v)) rfl dX2_goTo_6 ?_
  refine lv_aload_n S.1 S.2.1 dX2_goTo_9 rfl (lv_at hl 0 rfl) ?_
  refine r_getW (C := RX2) (T := TX2) (N := 4) (ci := 2) S Z  hq rfl i_X2_goTo_X2 2 (by decide) m_X2_goTo_f16 rfl (v := .int (sp)) rfl dX2_goTo_10 ?_
  refine lv_aload_n S.1 S.2.1 dX2_goTo_13 rfl (lv_at hl 0 rfl) ?_
  refine r_getW (C := RX2) (T := TX2) (N := 4) (ci := 2) S Z  hq rfl i_X2_goTo_X2 3 (by decide) m_X2_goTo_f19 rfl (v := .int (en)) rfl dX2_goTo_14 ?_
  refine va_callv (va_runV (As := [.int (nI k), .int (v), .int (sp), .int (en)]) (rest := []) S (k_X5_takeEntry l G σ μ o t k v sp en ht (by omega)) (cwV 4 S.2.2.2.2 gX2_goTo_X5_takeEntry rfl rfl rfl ⟨rfl, hy_X5_takeEntry⟩ ⟨Nat.le_of_ble_eq_true rfl, Nat.le_of_ble_eq_true rfl⟩) (wPc_V (q := (RX5, TX5, 6)) Z (by omega) (eT ht) rfl) rfl rfl hl.1 rfl (lv_room (Nat.le_of_ble_eq_true rfl)) dX2_goTo_17 ⟨Nat.le_of_ble_eq_true rfl, Nat.le_of_ble_eq_true rfl⟩) Z.2.2.2.2 (fun _ _ h => h) (fun _ h => h) (fun u_2 T9 H1 locs1 hT9 hvm hw hB hz hk9 hS => ?_)
  subst hw
  have Z : wZ G (takE σ t k v sp en) (μ) o s H1 locs1 := wZ_callP Z hB hT9 hS
  clear hB hT9 hS hk9 hz hvm T9
  revert Z; generalize H1 = H; generalize locs1 = locs; intro Z
  refine W.widen (k := 0) (n := 0) (by decide) (by decide) ?_
  rw [hQ]
  exact W.vret S.1 S.2.1 hret (fun _ hT9 hW => ⟨⟨(takE σ t k v sp en, μ), rfl, rfl, wZ_P Z hT9 hW⟩, Z.2.2.2.2.F hT9⟩) Z.2.2.2.2.2.2 dX2_goTo_20

theorem i_X6_goTo_X6 : ∀ w ∈ wsX60, w ∈ wsX6_goTo := by decide +kernel
theorem m_X6_goTo_f7 : Cond.fieldLink RX6 7 "WideCell$TombstoneChange" "place" "I" ∈ wsX6_goTo := by decide +kernel
theorem m_X6_goTo_f13 : Cond.fieldLink RX6 13 "WideCell$TombstoneChange" "stamp" "I" ∈ wsX6_goTo := by decide +kernel
theorem m_X6_goTo_f16 : Cond.fieldLink RX6 16 "WideCell$TombstoneChange" "madeAt" "I" ∈ wsX6_goTo := by decide +kernel
abbrev rm_k_X6_goTo : Room := { frames := 2, cells := 0, slots := 0, locals := 47 }
set_option maxHeartbeats 4000000 in
set_option maxRecDepth 100000 in
theorem k_X6_goTo (l : Launch) (G : wG) (σ : cS) (μ : mS) (o : Nat → Int64) (ad : Addr) (q : Nat) (t : Nat) (k : Nat) (sp : Int32) (ma : Int32) (hq : (Wl G σ μ o)[q]? = some (ad, .inr (6, [.int (nI k), .int sp, .int ma]))) (ht : t < 4) (hk : k < 92) : Met l yX6_goTo wsX6_goTo rm_k_X6_goTo (wPc G σ μ o [.ref (ad), .ref (gA G (15 + 6 * t))]) (va_Qv (fun u : cS × mS => u = (takT σ t k sp ma, μ)) (fun u t => wI G u.1 u.2 o t) (gP G)) 0 0 (gP G) := by
  refine Met.ofW (cc := cX6_goTo) (maxL := 2) (ret := none) (by decide) rfl ?_
  intro p e s m args below meth c s₁ B hml hv
  obtain ⟨hargs, hI⟩ := hv
  have S : CallFix p m c cX6_goTo 2 s args wsX6_goTo RX6 := ⟨B.exec, B.bytes, hml, findClass_of_methodNamed B.named, atoms_spec (ws := wsX6_goTo) B.pre⟩
  have hret := B.returns
  have hlocks := B.notSynchronized
  have Z := wZ_0 hI
  clear hI
  obtain ⟨Q, hQ⟩ : ∃ Q, Q = MQ below (va_Qv (fun u : cS × mS => u = (takT σ t k sp ma, μ)) (fun u t => wI G u.1 u.2 o t) (gP G)) args s 0 0 (gP G) := ⟨_, rfl⟩
  rw [← hQ]
  have hl := lv_entry [.ref (ad), .ref (gA G (15 + 6 * t))] (n := 2) (Nat.le_of_ble_eq_true rfl)
  rw [show entryFrame m args 2 = entryFrame m ([.ref (ad), .ref (gA G (15 + 6 * t))] : List Value).toArray 2 from by rw [hargs], lg_entry_eq]
  generalize (lg_sl [.ref (ad), .ref (gA G (15 + 6 * t))] ++ List.replicate (2 - (lg_sl [.ref (ad), .ref (gA G (15 + 6 * t))]).length) Slot.unset).toArray = ls at hl ⊢
  have hl : lv_has ls 2 [(0, .ref (ad)), (1, .ref (gA G (15 + 6 * t)))] := hl
  refine lv_aload_n S.1 S.2.1 dX6_goTo_0 rfl (lv_at hl 1 rfl) ?_
  refine lv_aload_n S.1 S.2.1 dX6_goTo_1 rfl (lv_at hl 0 rfl) ?_
  refine r_getW (C := RX6) (T := TX6) (N := 3) (ci := 6) S Z  hq rfl i_X6_goTo_X6 0 (by decide) m_X6_goTo_f7 rfl (v := .int (nI k)) rfl dX6_goTo_2 ?_
  refine lv_aload_n S.1 S.2.1 dX6_goTo_5 rfl (lv_at hl 0 rfl) ?_
  refine r_getW (C := RX6) (T := TX6) (N := 3) (ci := 6) S Z  hq rfl i_X6_goTo_X6 1 (by decide) m_X6_goTo_f13 rfl (v := .int (sp)) rfl dX6_goTo_6 ?_
  refine lv_aload_n S.1 S.2.1 dX6_goTo_9 rfl (lv_at hl 0 rfl) ?_
  refine r_getW (C := RX6) (T := TX6) (N := 3) (ci := 6) S Z  hq rfl i_X6_goTo_X6 2 (by decide) m_X6_goTo_f16 rfl (v := .int (ma)) rfl dX6_goTo_10 ?_
  refine va_callv (va_runV (As := [.int (nI k), .int (sp), .int (ma)]) (rest := []) S (k_X5_takeTombstone l G σ μ o t k sp ma ht (by omega)) (cwV 3 S.2.2.2.2 gX6_goTo_X5_takeTombstone rfl rfl rfl ⟨rfl, hy_X5_takeTombstone⟩ ⟨Nat.le_of_ble_eq_true rfl, Nat.le_of_ble_eq_true rfl⟩) (wPc_V (q := (RX5, TX5, 6)) Z (by omega) (eT ht) rfl) rfl rfl hl.1 rfl (lv_room (Nat.le_of_ble_eq_true rfl)) dX6_goTo_13 ⟨Nat.le_of_ble_eq_true rfl, Nat.le_of_ble_eq_true rfl⟩) Z.2.2.2.2 (fun _ _ h => h) (fun _ h => h) (fun u_2 T9 H1 locs1 hT9 hvm hw hB hz hk9 hS => ?_)
  subst hw
  have Z : wZ G (takT σ t k sp ma) (μ) o s H1 locs1 := wZ_callP Z hB hT9 hS
  clear hB hT9 hS hk9 hz hvm T9
  revert Z; generalize H1 = H; generalize locs1 = locs; intro Z
  refine W.widen (k := 0) (n := 0) (by decide) (by decide) ?_
  rw [hQ]
  exact W.vret S.1 S.2.1 hret (fun _ hT9 hW => ⟨⟨(takT σ t k sp ma, μ), rfl, rfl, wZ_P Z hT9 hW⟩, Z.2.2.2.2.F hT9⟩) Z.2.2.2.2.2.2 dX6_goTo_16
