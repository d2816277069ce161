theorem m_X0_init_l1 : Cond.methodLink RX0 1 objectInit ∈ wsX0_init := by decide +kernel
theorem m_X0_init_oi : Cond.instanceMethod objectInit ∈ wsX0_init := by decide +kernel
theorem m_X0_init_oc : Cond.code objectInit ⟨#[0xb1]⟩ 1 none ∈ wsX0_init := by decide +kernel
abbrev rm_k_X0_init : Room := { frames := 1, cells := 0, slots := 0, locals := 20 }
set_option maxHeartbeats 4000000 in
set_option maxRecDepth 100000 in
theorem k_X0_init (l : Launch) (G : wG) (σ : cS) (μ : mS) (o : Nat → Int64) (ad : Nat)  : Met l yX0_init wsX0_init rm_k_X0_init (wPc G σ μ o [.ref (ad)]) (va_Sv (fun _ => True)) 0 0 (fun _ => False) := by
  refine Met.ofW (cc := cX0_init) (maxL := 1) (ret := none) (by decide) rfl ?_
  intro p e s m args below meth c s₁ B hml hv
  obtain ⟨hargs, hI⟩ := hv
  have S : CallFix p m c cX0_init 1 s args wsX0_init RX0 := ⟨B.exec, B.bytes, hml, findClass_of_methodNamed B.named, atoms_spec (ws := wsX0_init) B.pre⟩
  have hret := B.returns
  have hlocks := B.notSynchronized
  have Z := wZ_0 hI
  clear hI
  obtain ⟨Q, hQ⟩ : ∃ Q, Q = MQ below (va_Sv (fun _ => True)) args s 0 0 (fun _ => False) := ⟨_, rfl⟩
  rw [← hQ]
  have hl := lv_entry [.ref (ad)] (n := 1) (Nat.le_of_ble_eq_true rfl)
  rw [show entryFrame m args 1 = entryFrame m ([.ref (ad)] : List Value).toArray 1 from by rw [hargs], lg_entry_eq]
  generalize (lg_sl [.ref (ad)] ++ List.replicate (1 - (lg_sl [.ref (ad)]).length) Slot.unset).toArray = ls at hl ⊢
  have hl : lv_has ls 1 [(0, .ref (ad))] := hl
  refine lv_aload_n S.1 S.2.1 dX0_init_0 rfl (lv_at hl 0 rfl) ?_
  refine W.objInit S.1 S.2.1 S.2.2.2.1 (S.2.2.2.2 _ m_X0_init_l1) (S.2.2.2.2 _ m_X0_init_oi) (S.2.2.2.2 _ m_X0_init_oc) rfl (by rw [S.2.2.1]; exact hl.1) rfl dX0_init_1 (Nat.le_of_ble_eq_true rfl) (Nat.le_of_ble_eq_true rfl) ?_
  rw [hQ]
  exact W.vret S.1 S.2.1 hret (fun _ hT9 _ => ⟨rfl, trivial, hT9⟩) (fun _ h => nomatch h) dX0_init_4

theorem m_X2_init_zRX0 : Cond.initialized RX0 ∈ wsX2_init := by decide +kernel
theorem m_X2_init_nX0_init : Cond.instanceMethod yX0_init ∈ wsX2_init := by decide +kernel
theorem i_X2_init_X2 : ∀ w ∈ wsX20, w ∈ wsX2_init := by decide +kernel
theorem m_X2_init_f7 : Cond.fieldLink RX2 7 "WideCell$EntryChange" "cell" "I" ∈ wsX2_init := by decide +kernel
theorem m_X2_init_f13 : Cond.fieldLink RX2 13 "WideCell$EntryChange" "value" "I" ∈ wsX2_init := by decide +kernel
theorem m_X2_init_f16 : Cond.fieldLink RX2 16 "WideCell$EntryChange" "stamp" "I" ∈ wsX2_init := by decide +kernel
theorem m_X2_init_f19 : Cond.fieldLink RX2 19 "WideCell$EntryChange" "end" "I" ∈ wsX2_init := by decide +kernel
abbrev rm_k_X2_init : Room := { frames := 2, cells := 0, slots := 0, locals := 40 }
set_option maxHeartbeats 4000000 in
set_option maxRecDepth 100000 in
theorem k_X2_init (l : Launch) (G : wG) (σ : cS) (μ : mS) (o : Nat → Int64) (ad : Nat) (k0 : Nat) (a : Nat) (v : Int32) (sp : Int32) (en : Int32) (hk : (cW σ)[k0]? = some (ad, .inr (2, [.int 0, .int 0, .int 0, .int 0]))) : Met l yX2_init wsX2_init rm_k_X2_init (wPc G σ μ o [.ref (ad), .int (nI a), .int (v), .int (sp), .int (en)]) (va_Qv (fun u : cS × mS => u = (cW' σ ((cW σ).set k0 (ad, .inr (2, [.int (nI a), .int v, .int sp, .int en]))), μ)) (fun u t => wI G u.1 u.2 o t) (gP G)) 0 0 (gP G) := by
  refine Met.ofW (cc := cX2_init) (maxL := 5) (ret := none) (by decide) rfl ?_
  intro p e s m args below meth c s₁ B hml hv
  obtain ⟨hargs, hI⟩ := hv
  have S : CallFix p m c cX2_init 5 s args wsX2_init RX2 := ⟨B.exec, B.bytes, hml, findClass_of_methodNamed B.named, atoms_spec (ws := wsX2_init) B.pre⟩
  have hret := B.returns
  have hlocks := B.notSynchronized
  have Z := wZ_0 hI
  clear hI
  obtain ⟨Q, hQ⟩ : ∃ Q, Q = MQ below (va_Qv (fun u : cS × mS => u = (cW' σ ((cW σ).set k0 (ad, .inr (2, [.int (nI a), .int v, .int sp, .int en]))), μ)) (fun u t => wI G u.1 u.2 o t) (gP G)) args s 0 0 (gP G) := ⟨_, rfl⟩
  rw [← hQ]
  have hl := lv_entry [.ref (ad), .int (nI a), .int (v), .int (sp), .int (en)] (n := 5) (Nat.le_of_ble_eq_true rfl)
  rw [show entryFrame m args 5 = entryFrame m ([.ref (ad), .int (nI a), .int (v), .int (sp), .int (en)] : List Value).toArray 5 from by rw [hargs], lg_entry_eq]
  generalize (lg_sl [.ref (ad), .int (nI a), .int (v), .int (sp), .int (en)] ++ List.replicate (5 - (lg_sl [.ref (ad), .int (nI a), .int (v), .int (sp), .int (en)]).length) Slot.unset).toArray = ls at hl ⊢
  have hl : lv_has ls 5 [(0, .ref (ad)), (1, .int (nI a)), (2, .int (v)), (3, .int (sp)), (4, .int (en))] := hl
  have hini : meth.name = "<init>" := (name_of_methodNamed B.named B.method).1
  refine lv_aload_n S.1 S.2.1 dX2_init_0 rfl (lv_at hl 0 rfl) ?_
  refine va_csv (va_runIN (As := []) (rest := []) S (k_X0_init l G σ μ o ad ) ⟨va_cnB 0 S.2.2.2.2 gX2_init_X0_init_n1 rfl rfl rfl (Z.2.1.2.1 _ n_RX2_1) (S.2.2.2.2 _ m_X2_init_zRX0) hy_X0_init ⟨Nat.le_of_ble_eq_true rfl, Nat.le_of_ble_eq_true rfl⟩, rfl, S.2.2.2.2 _ m_X2_init_nX0_init⟩ (wPc_S Z) rfl rfl hl.1 rfl (lv_room (Nat.le_of_ble_eq_true rfl)) dX2_init_1 ⟨Nat.le_of_ble_eq_true rfl, Nat.le_of_ble_eq_true rfl⟩).run (fun h_1 => ?_)
  refine lv_aload_n S.1 S.2.1 dX2_init_4 rfl (lv_at hl 0 rfl) ?_
  refine lv_iload_n S.1 S.2.1 dX2_init_5 rfl (lv_at hl 1 rfl) ?_
  refine r_putFW (C := RX2) (T := TX2) (N := 4) (ci := 2) (r := k0) S Z hk rfl i_X2_init_X2 tyX2 tyX2_ok nmX2 0 (by decide) m_X2_init_f7 rfl rfl hini rfl (ty := .int) (v := .int (nI a)) (by decide +kernel) rfl rfl (Nat.le_of_ble_eq_true rfl) dX2_init_6 (fun H locs Z => ?_)
  have Z : wZ G (cW' σ ((cW σ).set k0 (ad, .inr (2, [.int (nI a), .int 0, .int 0, .int 0])))) μ o s H locs := Z
  have hk9 : (cW (cW' σ ((cW σ).set k0 (ad, .inr (2, [.int (nI a), .int 0, .int 0, .int 0])))))[k0]? = some (ad, .inr (2, [.int (nI a), .int 0, .int 0, .int 0])) := set_at hk
  refine lv_aload_n S.1 S.2.1 dX2_init_9 rfl (lv_at hl 0 rfl) ?_
  refine lv_iload_n S.1 S.2.1 dX2_init_10 rfl (lv_at hl 2 rfl) ?_
  refine r_putFW (C := RX2) (T := TX2) (N := 4) (ci := 2) (r := k0) S Z hk9 rfl i_X2_init_X2 tyX2 tyX2_ok nmX2 1 (by decide) m_X2_init_f13 rfl rfl hini rfl (ty := .int) (v := .int (v)) (by decide +kernel) rfl rfl (Nat.le_of_ble_eq_true rfl) dX2_init_11 (fun H locs Z => ?_)
  have Z : wZ G (cW' σ ((cW σ).set k0 (ad, .inr (2, [.int (nI a), .int v, .int 0, .int 0])))) μ o s H locs := by rw [tw_set] at Z; exact Z
  have hk9 : (cW (cW' σ ((cW σ).set k0 (ad, .inr (2, [.int (nI a), .int v, .int 0, .int 0])))))[k0]? = some (ad, .inr (2, [.int (nI a), .int v, .int 0, .int 0])) := set_at hk
  refine lv_aload_n S.1 S.2.1 dX2_init_14 rfl (lv_at hl 0 rfl) ?_
  refine lv_iload_n S.1 S.2.1 dX2_init_15 rfl (lv_at hl 3 rfl) ?_
  refine r_putFW (C := RX2) (T := TX2) (N := 4) (ci := 2) (r := k0) S Z hk9 rfl i_X2_init_X2 tyX2 tyX2_ok nmX2 2 (by decide) m_X2_init_f16 rfl rfl hini rfl (ty := .int) (v := .int (sp)) (by decide +kernel) rfl rfl (Nat.le_of_ble_eq_true rfl) dX2_init_16 (fun H locs Z => ?_)
  have Z : wZ G (cW' σ ((cW σ).set k0 (ad, .inr (2, [.int (nI a), .int v, .int sp, .int 0])))) μ o s H locs := by rw [tw_set] at Z; exact Z
  have hk9 : (cW (cW' σ ((cW σ).set k0 (ad, .inr (2, [.int (nI a), .int v, .int sp, .int 0])))))[k0]? = some (ad, .inr (2, [.int (nI a), .int v, .int sp, .int 0])) := set_at hk
  refine lv_aload_n S.1 S.2.1 dX2_init_19 rfl (lv_at hl 0 rfl) ?_
  refine lv_iload S.1 S.2.1 dX2_init_20 (lv_at hl 4 rfl) ?_
  refine r_putFW (C := RX2) (T := TX2) (N := 4) (ci := 2) (r := k0) S Z hk9 rfl i_X2_init_X2 tyX2 tyX2_ok nmX2 3 (by decide) m_X2_init_f19 rfl rfl hini rfl (ty := .int) (v := .int (en)) (by decide +kernel) rfl rfl (Nat.le_of_ble_eq_true rfl) dX2_init_22 (fun H locs Z => ?_)
  have Z : wZ G (cW' σ ((cW σ).set k0 (ad, .inr (2, [.int (nI a), .int v, .int sp, .int en])))) μ o s H locs := by rw [tw_set] at Z; exact Z
  have hk9 : (cW (cW' σ ((cW σ).set k0 (ad, .inr (2, [.int (nI a), .int v, .int sp, .int en])))))[k0]? = some (ad, .inr (2, [.int (nI a), .int v, .int sp, .int en])) := set_at hk
  rw [hQ]
  exact W.vret S.1 S.2.1 hret (fun _ hT9 hW => ⟨⟨(cW' σ ((cW σ).set k0 (ad, .inr (2, [.int (nI a), .int v, .int sp, .int en]))), μ), rfl, rfl, wZ_P Z hT9 hW⟩, Z.2.2.2.2.F hT9⟩) Z.2.2.2.2.2.2 dX2_init_25

theorem m_X6_init_zRX0 : Cond.initialized RX0 ∈ wsX6_init := by decide +kernel
theorem m_X6_init_nX0_init : Cond.instanceMethod yX0_init ∈ wsX6_init := by decide +kernel
theorem i_X6_init_X6 : ∀ w ∈ wsX60, w ∈ wsX6_init := by decide +kernel
theorem m_X6_init_f7 : Cond.fieldLink RX6 7 "WideCell$TombstoneChange" "place" "I" ∈ wsX6_init := by decide +kernel
theorem m_X6_init_f13 : Cond.fieldLink RX6 13 "WideCell$TombstoneChange" "stamp" "I" ∈ wsX6_init := by decide +kernel
theorem m_X6_init_f16 : Cond.fieldLink RX6 16 "WideCell$TombstoneChange" "madeAt" "I" ∈ wsX6_init := by decide +kernel
abbrev rm_k_X6_init : Room := { frames := 2, cells := 0, slots := 0, locals := 40 }
set_option maxHeartbeats 4000000 in
set_option maxRecDepth 100000 in
theorem k_X6_init (l : Launch) (G : wG) (σ : cS) (μ : mS) (o : Nat → Int64) (ad : Nat) (k0 : Nat) (a : Nat) (sp : Int32) (ma : Int32) (hk : (cW σ)[k0]? = some (ad, .inr (6, [.int 0, .int 0, .int 0]))) : Met l yX6_init wsX6_init rm_k_X6_init (wPc G σ μ o [.ref (ad), .int (nI a), .int (sp), .int (ma)]) (va_Qv (fun u : cS × mS => u = (cW' σ ((cW σ).set k0 (ad, .inr (6, [.int (nI a), .int sp, .int ma]))), μ)) (fun u t => wI G u.1 u.2 o t) (gP G)) 0 0 (gP G) := by
  refine Met.ofW (cc := cX6_init) (maxL := 4) (ret := none) (by decide) rfl ?_
  intro p e s m args below meth c s₁ B hml hv
  obtain ⟨hargs, hI⟩ := hv
  have S : CallFix p m c cX6_init 4 s args wsX6_init RX6 := ⟨B.exec, B.bytes, hml, findClass_of_methodNamed B.named, atoms_spec (ws := wsX6_init) B.pre⟩
  have hret := B.returns
  have hlocks := B.notSynchronized
  have Z := wZ_0 hI
  clear hI
  obtain ⟨Q, hQ⟩ : ∃ Q, Q = MQ below (va_Qv (fun u : cS × mS => u = (cW' σ ((cW σ).set k0 (ad, .inr (6, [.int (nI a), .int sp, .int ma]))), μ)) (fun u t => wI G u.1 u.2 o t) (gP G)) args s 0 0 (gP G) := ⟨_, rfl⟩
  rw [← hQ]
  have hl := lv_entry [.ref (ad), .int (nI a), .int (sp), .int (ma)] (n := 4) (Nat.le_of_ble_eq_true rfl)
  rw [show entryFrame m args 4 = entryFrame m ([.ref (ad), .int (nI a), .int (sp), .int (ma)] : List Value).toArray 4 from by rw [hargs], lg_entry_eq]
  generalize (lg_sl [.ref (ad), .int (nI a), .int (sp), .int (ma)] ++ List.replicate (4 - (lg_sl [.ref (ad), .int (nI a), .int (sp), .int (ma)]).length) Slot.unset).toArray = ls at hl ⊢
  have hl : lv_has ls 4 [(0, .ref (ad)), (1, .int (nI a)), (2, .int (sp)), (3, .int (ma))] := hl
  have hini : meth.name = "<init>" := (name_of_methodNamed B.named B.method).1
  refine lv_aload_n S.1 S.2.1 dX6_init_0 rfl (lv_at hl 0 rfl) ?_
  refine va_csv (va_runIN (As := []) (rest := []) S (k_X0_init l G σ μ o ad ) ⟨va_cnB 0 S.2.2.2.2 gX6_init_X0_init_n1 rfl rfl rfl (Z.2.1.2.1 _ n_RX6_1) (S.2.2.2.2 _ m_X6_init_zRX0) hy_X0_init ⟨Nat.le_of_ble_eq_true rfl, Nat.le_of_ble_eq_true rfl⟩, rfl, S.2.2.2.2 _ m_X6_init_nX0_init⟩ (wPc_S Z) rfl rfl hl.1 rfl (lv_room (Nat.le_of_ble_eq_true rfl)) dX6_init_1 ⟨Nat.le_of_ble_eq_true rfl, Nat.le_of_ble_eq_true rfl⟩).run (fun h_1 => ?_)
  refine lv_aload_n S.1 S.2.1 dX6_init_4 rfl (lv_at hl 0 rfl) ?_
  refine lv_iload_n S.1 S.2.1 dX6_init_5 rfl (lv_at hl 1 rfl) ?_
  refine r_putFW (C := RX6) (T := TX6) (N := 3) (ci := 6) (r := k0) S Z hk rfl i_X6_init_X6 tyX6 tyX6_ok nmX6 0 (by decide) m_X6_init_f7 rfl rfl hini rfl (ty := .int) (v := .int (nI a)) (by decide +kernel) rfl rfl (Nat.le_of_ble_eq_true rfl) dX6_init_6 (fun H locs Z => ?_)
  have Z : wZ G (cW' σ ((cW σ).set k0 (ad, .inr (6, [.int (nI a), .int 0, .int 0])))) μ o s H locs := Z
  have hk9 : (cW (cW' σ ((cW σ).set k0 (ad, .inr (6, [.int (nI a), .int 0, .int 0])))))[k0]? = some (ad, .inr (6, [.int (nI a), .int 0, .int 0])) := set_at hk
  refine lv_aload_n S.1 S.2.1 dX6_init_9 rfl (lv_at hl 0 rfl) ?_
  refine lv_iload_n S.1 S.2.1 dX6_init_10 rfl (lv_at hl 2 rfl) ?_
  refine r_putFW (C := RX6) (T := TX6) (N := 3) (ci := 6) (r := k0) S Z hk9 rfl i_X6_init_X6 tyX6 tyX6_ok nmX6 1 (by decide) m_X6_init_f13 rfl rfl hini rfl (ty := .int) (v := .int (sp)) (by decide +kernel) rfl rfl (Nat.le_of_ble_eq_true rfl) dX6_init_11 (fun H locs Z => ?_)
  have Z : wZ G (cW' σ ((cW σ).set k0 (ad, .inr (6, [.int (nI a), .int sp, .int 0])))) μ o s H locs := by rw [tw_set] at Z; exact Z
  have hk9 : (cW (cW' σ ((cW σ).set k0 (ad, .inr (6, [.int (nI a), .int sp, .int 0])))))[k0]? = some (ad, .inr (6, [.int (nI a), .int sp, .int 0])) := set_at hk
  refine lv_aload_n S.1 S.2.1 dX6_init_14 rfl (lv_at hl 0 rfl) ?_
  refine lv_iload_n S.1 S.2.1 dX6_init_15 rfl (lv_at hl 3 rfl) ?_
  refine r_putFW (C := RX6) (T := TX6) (N := 3) (ci := 6) (r := k0) S Z hk9 rfl i_X6_init_X6 tyX6 tyX6_ok nmX6 2 (by decide) m_X6_init_f16 rfl rfl hini rfl (ty := .int) (v := .int (ma)) (by decide +kernel) rfl rfl (Nat.le_of_ble_eq_true rfl) dX6_init_16 (fun H locs Z => ?_)
  have Z : wZ G (cW' σ ((cW σ).set k0 (ad, .inr (6, [.int (nI a), .int sp, .int ma])))) μ o s H locs := by rw [tw_set] at Z; exact Z
  have hk9 : (cW (cW' σ ((cW σ).set k0 (ad, .inr (6, [.int (nI a), .int sp, .int ma])))))[k0]? = some (ad, .inr (6, [.int (nI a), .int sp, .int ma])) := set_at hk
  rw [hQ]
  exact W.vret S.1 S.2.1 hret (fun _ hT9 hW => ⟨⟨(cW' σ ((cW σ).set k0 (ad, .inr (6, [.int (nI a), .int sp, .int ma]))), μ), rfl, rfl, wZ_P Z hT9 hW⟩, Z.2.2.2.2.F hT9⟩) Z.2.2.2.2.2.2 dX6_init_19

theorem i_X3_dropHints_X3 : ∀ w ∈ wsX30, w ∈ wsX3_dropHints := by decide +kernel
theorem m_X3_dropHints_f12 : Cond.fieldLink RX3 12 "WideCell$Keeper" "waiting" "Ljava/util/ArrayList;" ∈ wsX3_dropHints := by decide +kernel
abbrev rm_k_X3_dropHints : Room := { frames := 1, cells := 0, slots := 0, locals := 23 }
set_option maxHeartbeats 4000000 in
set_option maxRecDepth 100000 in
theorem k_X3_dropHints (l : Launch) (G : wG) (σ : cS) (μ : mS) (o : Nat → Int64) (i : Nat) (L : Nat → List Ch) (hi : i < 3) (hHI : HI G σ L) : Met l yX3_dropHints wsX3_dropHints rm_k_X3_dropHints (wPc G σ μ o [.ref (gA G (9 + i))]) (va_Qi (fun (rr : Int32) (u : cS × mS) => rr = nI ((L i).length) ∧ u.2 = μ ∧ (fun ns : cS => sc ns σ ∧ HI G ns (va_up L i []) ∧ kp σ ns) u.1) (fun u t => wI G u.1 u.2 o t) (gP G)) 0 0 (gP G) := by
  refine Met.ofW (cc := cX3_dropHints) (maxL := 2) (ret := (some .int)) (by decide) rfl ?_
  intro p e s m args below meth c s₁ B hml hv
  obtain ⟨hargs, hI⟩ := hv
  have S : CallFix p m c cX3_dropHints 2 s args wsX3_dropHints RX3 := ⟨B.exec, B.bytes, hml, findClass_of_methodNamed B.named, atoms_spec (ws := wsX3_dropHints) B.pre⟩
  have hret := B.returns
  have hlocks := B.notSynchronized
  have Z := wZ_0 hI
  clear hI
  obtain ⟨Q, hQ⟩ : ∃ Q, Q = MQ below (va_Qi (fun (rr : Int32) (u : cS × mS) => rr = nI ((L i).length) ∧ u.2 = μ ∧ (fun ns : cS => sc ns σ ∧ HI G ns (va_up L i []) ∧ kp σ ns) u.1) (fun u t => wI G u.1 u.2 o t) (gP G)) args s 0 0 (gP G) := ⟨_, rfl⟩
  rw [← hQ]
  have hl := lv_entry [.ref (gA G (9 + i))] (n := 2) (Nat.le_of_ble_eq_true rfl)
  rw [show entryFrame m args 2 = entryFrame m ([.ref (gA G (9 + i))] : List Value).toArray 2 from by rw [hargs], lg_entry_eq]
  generalize (lg_sl [.ref (gA G (9 + i))] ++ List.replicate (2 - (lg_sl [.ref (gA G (9 + i))]).length) Slot.unset).toArray = ls at hl ⊢
  have hl : lv_has ls 2 [(0, .ref (gA G (9 + i)))] := hl
  refine lv_aload_n S.1 S.2.1 dX3_dropHints_0 rfl (lv_at hl 0 rfl) ?_
  refine r_get (C := RX3) (T := TX3) (N := 3) (ci := 3) S Z (by omega) (eK hi) rfl i_X3_dropHints_X3 1 (by decide) m_X3_dropHints_f12 rfl (v := .ref (gA G (12 + i))) rfl dX3_dropHints_1 ?_
  refine vp_callSi (va_runV (As := []) (rest := []) S (k_Jx4a65c_size_8abf5 l G σ μ o i hi) (cwV 0 S.2.2.2.2 gX3_dropHints_Jx4a65c_size_8abf5 rfl rfl rfl ⟨rfl, hy_Jx4a65c_size_8abf5⟩ ⟨Nat.le_of_ble_eq_true rfl, Nat.le_of_ble_eq_true rfl⟩) (wPc_V (q := (RJx4a65c, TJx4a65c, 3)) Z (by omega) (eL hi) rfl) rfl rfl hl.1 rfl (lv_room (Nat.le_of_ble_eq_true rfl)) dX3_dropHints_4 ⟨Nat.le_of_ble_eq_true rfl, Nat.le_of_ble_eq_true rfl⟩).run (fun r_1 h_2 => ?_)
  rw [h_2]; clear h_2 r_1
  refine lv_istore_n (lv' := [(1, .int (nI (cL σ i))), (0, .ref (gA G (9 + i)))]) S.1 S.2.1 dX3_dropHints_7 rfl hl (by decide) rfl (fun ls hl => ?_)
  refine lv_aload_n S.1 S.2.1 dX3_dropHints_8 rfl (lv_at hl 1 rfl) ?_
  refine r_get (C := RX3) (T := TX3) (N := 3) (ci := 3) S Z (by omega) (eK hi) rfl i_X3_dropHints_X3 1 (by decide) m_X3_dropHints_f12 rfl (v := .ref (gA G (12 + i))) rfl dX3_dropHints_9 ?_
  rcases hHI.1 i hi with ⟨e1, e2, e3⟩
  by_cases h0 : L i = []
  · skip
    refine va_callv (va_runV (As := []) (rest := []) S (k_clear_0 l G σ μ o i hi (by rw [e2, h0]; rfl)) (cwV 0 S.2.2.2.2 gX3_dropHints_Jx4a65c_clear_da8c8 rfl rfl rfl ⟨rfl, hy_Jx4a65c_clear_da8c8⟩ ⟨Nat.le_of_ble_eq_true rfl, Nat.le_of_ble_eq_true rfl⟩) (wPc_V (q := (RJx4a65c, TJx4a65c, 3)) Z (by omega) (eL hi) rfl) rfl rfl hl.1 rfl (lv_room (Nat.le_of_ble_eq_true rfl)) dX3_dropHints_12 ⟨Nat.le_of_ble_eq_true rfl, Nat.le_of_ble_eq_true rfl⟩) Z.2.2.2.2 (fun _ _ h => h) (fun _ h => h) (fun u_4 T9 H1 locs1 hT9 hvm hw hB hz hk9 hS => ?_)
    subst hw
    have Z : wZ G (cL' (cM' σ i (cM σ i + nI 1)) i 0) (μ) o s H1 locs1 := wZ_callP Z hB hT9 hS
    clear hB hT9 hS hk9 hz hvm T9
    revert Z; generalize H1 = H; generalize locs1 = locs; intro Z
    refine W.widen (k := 0) (n := 0) (by first | decide | omega) (by first | decide | omega) ?_
    have hp9 : HI G (cL' (cM' σ i (cM σ i + nI 1)) i 0) (va_up L i []) ∧ kp σ (cL' (cM' σ i (cM σ i + nI 1)) i 0) := ⟨HI_clr0 hHI h0, kp_of rfl⟩
    have hs9 : sc (cL' (cM' σ i (cM σ i + nI 1)) i 0) σ := ⟨rfl, rfl, rfl, rfl⟩
    refine lv_iload_n S.1 S.2.1 dX3_dropHints_15 rfl (lv_at hl 0 rfl) ?_
    rw [hQ]
    exact W.iret (v := nI (cL σ i)) S.1 S.2.1 hret (fun _ hT9 hW => ⟨⟨_, (cL' (cM' σ i (cM σ i + nI 1)) i 0, μ), rfl, ⟨(congrArg nI e2), rfl, ⟨hs9, hp9⟩⟩, wZ_P Z hT9 hW⟩, Z.2.2.2.2.F hT9⟩) Z.2.2.2.2.2.2 dX3_dropHints_16
  · skip
    obtain ⟨r, f, hrow⟩ : ∃ r f, rowAt G σ i r f (L i) := e3.resolve_left (fun z => h0 z.1)
    refine va_callv (va_runV (As := []) (rest := []) S (k_clear_r l G σ μ o i r f hi (by omega) hrow.1) (cwV 0 S.2.2.2.2 gX3_dropHints_Jx4a65c_clear_da8c8 rfl rfl rfl ⟨rfl, hy_Jx4a65c_clear_da8c8⟩ ⟨Nat.le_of_ble_eq_true rfl, Nat.le_of_ble_eq_true rfl⟩) (wPc_V (q := (RJx4a65c, TJx4a65c, 3)) Z (by omega) (eL hi) rfl) rfl rfl hl.1 rfl (lv_room (Nat.le_of_ble_eq_true rfl)) dX3_dropHints_12 ⟨Nat.le_of_ble_eq_true rfl, Nat.le_of_ble_eq_true rfl⟩) Z.2.2.2.2 (fun _ _ h => h) (fun _ h => h) (fun u_6 T9 H1 locs1 hT9 hvm hw hB hz hk9 hS => ?_)
    subst hw
    have Z : wZ G (clrS G σ i r f (cL σ i)) (μ) o s H1 locs1 := wZ_callP Z hB hT9 hS
    clear hB hT9 hS hk9 hz hvm T9
    revert Z; generalize H1 = H; generalize locs1 = locs; intro Z
    refine W.widen (k := 0) (n := 0) (by first | decide | omega) (by first | decide | omega) ?_
    have hp9 : HI G (clrS G σ i r f (cL σ i)) (va_up L i []) ∧ kp σ (clrS G σ i r f (cL σ i)) := HI_clr hHI hi hrow _
    have hs9 : sc (clrS G σ i r f (cL σ i)) σ := ⟨rfl, rfl, rfl, rfl⟩
    refine lv_iload_n S.1 S.2.1 dX3_dropHints_15 rfl (lv_at hl 0 rfl) ?_
    rw [hQ]
    exact W.iret (v := nI (cL σ i)) S.1 S.2.1 hret (fun _ hT9 hW => ⟨⟨_, (clrS G σ i r f (cL σ i), μ), rfl, ⟨(congrArg nI e2), rfl, ⟨hs9, hp9⟩⟩, wZ_P Z hT9 hW⟩, Z.2.2.2.2.F hT9⟩) Z.2.2.2.2.2.2 dX3_dropHints_16

theorem i_X3_receive_X3 : ∀ w ∈ wsX30, w ∈ wsX3_receive := by decide +kernel
theorem m_X3_receive_f18 : Cond.fieldLink RX3 18 "WideCell$Keeper" "isRunning" "Z" ∈ wsX3_receive := by decide +kernel
theorem m_X3_receive_f12 : Cond.fieldLink RX3 12 "WideCell$Keeper" "waiting" "Ljava/util/ArrayList;" ∈ wsX3_receive := by decide +kernel
theorem m_X3_receive_f22 : Cond.fieldLink RX3 22 "WideCell$Keeper" "table" "LWideCell$Table;" ∈ wsX3_receive := by decide +kernel
abbrev rm_k_X3_receive : Room := { frames := 5, cells := 1, slots := 10, locals := 108 }
set_option maxHeartbeats 4000000 in
set_option maxRecDepth 100000 in
theorem k_X3_receive (l : Launch) (G : wG) (σ : cS) (μ : mS) (o : Nat → Int64) (i : Nat) (ad : Nat) (cc : Ch) (L : Nat → List Ch) (hi : i < 3) (hHI : HI G σ L) (hch : chAt σ ad cc) (hok : cc.1 < 156) : Met l yX3_receive wsX3_receive rm_k_X3_receive (wPc G σ μ o [.ref (gA G (9 + i)), .ref (ad)]) (va_Qi (fun (rr : Int32) (u : cS × mS) => rr = bi (cU σ i) ∧ u.2 = μ ∧ (fun ns : cS => sc ns (if cU σ i = true then goC σ i cc else σ) ∧ HI G ns (if cU σ i = false ∧ (L i).length < 10 then va_up L i (L i ++ [cc]) else L) ∧ chAt ns ad cc) u.1) (fun u t => wI G u.1 u.2 o t) (gP G)) 1 10 (gP G) := by
  refine Met.ofW (cc := cX3_receive) (maxL := 2) (ret := (some .boolean)) (by decide) rfl ?_
  intro p e s m args below meth c s₁ B hml hv
  obtain ⟨hargs, hI⟩ := hv
  have S : CallFix p m c cX3_receive 2 s args wsX3_receive RX3 := ⟨B.exec, B.bytes, hml, findClass_of_methodNamed B.named, atoms_spec (ws := wsX3_receive) B.pre⟩
  have hret := B.returns
  have hlocks := B.notSynchronized
  have Z := wZ_0 hI
  clear hI
  obtain ⟨Q, hQ⟩ : ∃ Q, Q = MQ below (va_Qi (fun (rr : Int32) (u : cS × mS) => rr = bi (cU σ i) ∧ u.2 = μ ∧ (fun ns : cS => sc ns (if cU σ i = true then goC σ i cc else σ) ∧ HI G ns (if cU σ i = false ∧ (L i).length < 10 then va_up L i (L i ++ [cc]) else L) ∧ chAt ns ad cc) u.1) (fun u t => wI G u.1 u.2 o t) (gP G)) args s 1 10 (gP G) := ⟨_, rfl⟩
  rw [← hQ]
  have hl := lv_entry [.ref (gA G (9 + i)), .ref (ad)] (n := 2) (Nat.le_of_ble_eq_true rfl)
  rw [show entryFrame m args 2 = entryFrame m ([.ref (gA G (9 + i)), .ref (ad)] : List Value).toArray 2 from by rw [hargs], lg_entry_eq]
  generalize (lg_sl [.ref (gA G (9 + i)), .ref (ad)] ++ List.replicate (2 - (lg_sl [.ref (gA G (9 + i)), .ref (ad)]).length) Slot.unset).toArray = ls at hl ⊢
  have hl : lv_has ls 2 [(0, .ref (gA G (9 + i))), (1, .ref (ad))] := hl
  obtain ⟨qc, hqc⟩ := hch
  have e1 : cL σ i = (L i).length := (hHI.1 i hi).2.1
  have e2 : (L i).length ≤ 10 := (hHI.1 i hi).1
  have L_39 : ∀ (τ : cS) (hP : sc τ (if cU σ i = true then goC σ i cc else σ) ∧ HI G τ (if cU σ i = false ∧ (L i).length < 10 then va_up L i (L i ++ [cc]) else L) ∧ chAt τ ad cc) (H : Heap) (locs : List Loc) (Z : wZ G (τ) (μ) o s H locs) (ls : Array Slot) (hl : lv_has ls 2 [(0, .ref (gA G (9 + i))), (1, .ref (ad))]), W p l e (headSpec wsX3_receive rm_k_X3_receive).room s m args below meth c H locs 1 10 Q (F0 m 39 ls []) := by
    intro τ hP H locs Z ls hl
    refine lv_aload_n S.1 S.2.1 dX3_receive_39 rfl (lv_at hl 0 rfl) ?_
    refine r_get (C := RX3) (T := TX3) (N := 3) (ci := 3) S Z (by omega) (eK hi) rfl i_X3_receive_X3 2 (by decide) m_X3_receive_f18 rfl (v := .int (bi (cU τ i))) rfl dX3_receive_40 ?_
    rw [hQ]
    exact W.zret (v := bi (cU τ i)) S.1 S.2.1 hret (bi_nar _) (fun _ hT9 hW => ⟨⟨_, (τ, μ), rfl, ⟨(congrArg bi (rec_U hP.1)), rfl, hP⟩, wZ_P Z hT9 hW⟩, Z.2.2.2.2.F hT9⟩) Z.2.2.2.2.2.2 dX3_receive_43
  refine lv_aload_n S.1 S.2.1 dX3_receive_0 rfl (lv_at hl 0 rfl) ?_
  refine r_get (C := RX3) (T := TX3) (N := 3) (ci := 3) S Z (by omega) (eK hi) rfl i_X3_receive_X3 2 (by decide) m_X3_receive_f18 rfl (v := .int (bi (cU σ i))) rfl dX3_receive_1 ?_
  refine r_if_eqB S (tgt := 18) dX3_receive_4 (by decide) (fun c_1 => ?_) (fun c_1 => ?_)
  · skip
    refine lv_aload_n S.1 S.2.1 dX3_receive_18 rfl (lv_at hl 0 rfl) ?_
    refine r_get (C := RX3) (T := TX3) (N := 3) (ci := 3) S Z (by omega) (eK hi) rfl i_X3_receive_X3 1 (by decide) m_X3_receive_f12 rfl (v := .ref (gA G (12 + i))) rfl dX3_receive_19 ?_
    refine vp_callSi (va_runV (As := []) (rest := []) S (k_Jx4a65c_size_8abf5 l G σ μ o i hi) (cwV 0 S.2.2.2.2 gX3_receive_Jx4a65c_size_8abf5 rfl rfl rfl ⟨rfl, hy_Jx4a65c_size_8abf5⟩ ⟨Nat.le_of_ble_eq_true rfl, Nat.le_of_ble_eq_true rfl⟩) (wPc_V (q := (RJx4a65c, TJx4a65c, 3)) Z (by omega) (eL hi) rfl) rfl rfl hl.1 rfl (lv_room (Nat.le_of_ble_eq_true rfl)) dX3_receive_22 ⟨Nat.le_of_ble_eq_true rfl, Nat.le_of_ble_eq_true rfl⟩).run (fun r_2 h_3 => ?_)
    rw [h_3]; clear h_3 r_2
    refine lv_bipush (v := nI 10) S.1 S.2.1 dX3_receive_25 (by decide) ?_
    refine r_icmpN_ge S (tgt := 39) (by omega) (by omega) dX3_receive_27 (by decide) (fun c_4 => ?_) (fun c_4 => ?_)
    · skip
      have hP : sc σ (if cU σ i = true then goC σ i cc else σ) ∧ HI G σ (if cU σ i = false ∧ (L i).length < 10 then va_up L i (L i ++ [cc]) else L) ∧ chAt σ ad cc := by
        rw [if_neg (by rw [c_1]; decide), if_neg (by omega)]
        exact ⟨sc_rf, hHI, qc, hqc⟩
      refine W.widen (k := 1) (n := 10) (by first | decide | omega) (by first | decide | omega) ?_
      exact L_39 σ hP _ _ Z ls (lv_sub hl [0, 1] rfl)
    · skip
      refine lv_aload_n S.1 S.2.1 dX3_receive_30 rfl (lv_at hl 0 rfl) ?_
      refine r_get (C := RX3) (T := TX3) (N := 3) (ci := 3) S Z (by omega) (eK hi) rfl i_X3_receive_X3 1 (by decide) m_X3_receive_f12 rfl (v := .ref (gA G (12 + i))) rfl dX3_receive_31 ?_
      refine lv_aload_n S.1 S.2.1 dX3_receive_34 rfl (lv_at hl 1 rfl) ?_
      have hlt : (L i).length < 10 := by omega
      obtain ⟨ci, vs, CC, hx1, hx2, hx3, -⟩ := ch_obj cc
      have hv : (cW σ)[qc]? = some (ad, .inr (ci, vs)) := by rw [hqc, hx1]
      by_cases h0 : cE σ i = gX G 0
      · skip
        have hnil : L i = [] := by
          rcases (hHI.1 i hi).2.2 with z | ⟨r, f, z⟩
          · exact z.1
          · exact absurd h0 z.2.1
        refine va_calli (va_runV (As := [.ref (ad)]) (rest := []) S (k_add_0 l G σ μ o i ad qc ci vs CC hi h0 (by rw [e1, hnil]; rfl) hv hx2 hx3) (cwV 1 S.2.2.2.2 gX3_receive_Jx4a65c_add_9ea2d rfl rfl rfl ⟨rfl, hy_Jx4a65c_add_9ea2d⟩ ⟨Nat.le_of_ble_eq_true rfl, Nat.le_of_ble_eq_true rfl⟩) (wPc_V (q := (RJx4a65c, TJx4a65c, 3)) Z (by omega) (eL hi) rfl) rfl rfl hl.1 rfl (lv_room (Nat.le_of_ble_eq_true rfl)) dX3_receive_35 ⟨Nat.le_of_ble_eq_true rfl, Nat.le_of_ble_eq_true rfl⟩) Z.2.2.2.2 (fun _ _ h => h) (fun _ h => h) (fun r_5 u_6 T9 H1 locs1 hT9 hvm hw hB hz hk9 hS => ?_)
        obtain ⟨τ_7, μ9⟩ := u_6
        obtain ⟨hr9, hm9, hp9⟩ := hw
        have hm9 : μ = μ9 := hm9.symm
        subst hm9
        have hp_8 : ∃ q : Nat, τ_7 = newS G σ i q ad := hp9
        clear hp9
        rw [hr9]; clear hr9 r_5
        have Z : wZ G (τ_7) (μ) o s H1 locs1 := wZ_callP Z hB hT9 hS
        clear hB hT9 hS hk9 hz hvm T9
        revert Z; generalize H1 = H; generalize locs1 = locs; intro Z
        refine W.widen (k := 1) (n := 10) (by first | decide | omega) (by first | decide | omega) ?_
        obtain ⟨q0, rfl⟩ := hp_8
        obtain ⟨hn1, hn2⟩ := new_ok Z hHI
        have hp9 := HI_new (c := cc) hHI hi hnil ⟨qc, hqc⟩ hn1 hn2
        have hP : sc (newS G σ i q0 ad) (if cU σ i = true then goC σ i cc else σ) ∧ HI G (newS G σ i q0 ad) (if cU σ i = false ∧ (L i).length < 10 then va_up L i (L i ++ [cc]) else L) ∧ chAt (newS G σ i q0 ad) ad cc := by
          rw [if_neg (by rw [c_1]; decide), if_pos ⟨c_1, hlt⟩]
          exact ⟨⟨rfl, rfl, rfl, rfl⟩, hp9.1, hp9.2 _ _ ⟨qc, hqc⟩⟩
        refine lv_pop S.1 S.2.1 dX3_receive_38 rfl ?_
        have q9 : ((newS G σ i q0 ad) : cS) = newS G σ i q0 ad := by rfl
        rw [← q9] at Z
        exact L_39 (newS G σ i q0 ad) hP _ _ Z ls (lv_sub hl [0, 1] rfl)
      · skip
        obtain ⟨r, f, hrow⟩ : ∃ r f, rowAt G σ i r f (L i) := (hHI.1 i hi).2.2.resolve_left (fun z => h0 z.2)
        refine va_calli (va_runV (As := [.ref (ad)]) (rest := []) S (k_add_r l G σ μ o i ad qc ci vs CC r f hi (by omega) hrow.1 hv hx2 hx3) (cwV 1 S.2.2.2.2 gX3_receive_Jx4a65c_add_9ea2d rfl rfl rfl ⟨rfl, hy_Jx4a65c_add_9ea2d⟩ ⟨Nat.le_of_ble_eq_true rfl, Nat.le_of_ble_eq_true rfl⟩) (wPc_V (q := (RJx4a65c, TJx4a65c, 3)) Z (by omega) (eL hi) rfl) rfl rfl hl.1 rfl (lv_room (Nat.le_of_ble_eq_true rfl)) dX3_receive_35 ⟨Nat.le_of_ble_eq_true rfl, Nat.le_of_ble_eq_true rfl⟩) Z.2.2.2.2 (fun _ _ h => h) (fun _ h => h) (fun r_9 u_10 T9 H1 locs1 hT9 hvm hw hB hz hk9 hS => ?_)
        obtain ⟨hr9, rfl⟩ := hw
        rw [hr9]; clear hr9 r_9
        have Z : wZ G (addS G σ i r (cL σ i) ad f) (μ) o s H1 locs1 := wZ_callP Z hB hT9 hS
        clear hB hT9 hS hk9 hz hvm T9
        revert Z; generalize H1 = H; generalize locs1 = locs; intro Z
        refine W.widen (k := 0) (n := 0) (by first | decide | omega) (by first | decide | omega) ?_
        have hp9 := HI_add (c := cc) hHI hi hrow hlt ⟨qc, hqc⟩
        rw [← e1] at hp9
        have hP : sc (addS G σ i r (cL σ i) ad f) (if cU σ i = true then goC σ i cc else σ) ∧ HI G (addS G σ i r (cL σ i) ad f) (if cU σ i = false ∧ (L i).length < 10 then va_up L i (L i ++ [cc]) else L) ∧ chAt (addS G σ i r (cL σ i) ad f) ad cc := by
          rw [if_neg (by rw [c_1]; decide), if_pos ⟨c_1, hlt⟩]
          exact ⟨⟨rfl, rfl, rfl, rfl⟩, hp9.1, hp9.2 _ _ ⟨qc, hqc⟩⟩
        refine lv_pop S.1 S.2.1 dX3_receive_38 rfl ?_
        refine W.widen (k := 1) (n := 10) (by first | decide | omega) (by first | decide | omega) ?_
        have q9 : ((addS G σ i r (cL σ i) ad f) : cS) = addS G σ i r (cL σ i) ad f := by rfl
        rw [← q9] at Z
        exact L_39 (addS G σ i r (cL σ i) ad f) hP _ _ Z ls (lv_sub hl [0, 1] rfl)
  · skip
    refine lv_aload_n S.1 S.2.1 dX3_receive_7 rfl (lv_at hl 1 rfl) ?_
    refine lv_aload_n S.1 S.2.1 dX3_receive_8 rfl (lv_at hl 0 rfl) ?_
    refine r_get (C := RX3) (T := TX3) (N := 3) (ci := 3) S Z (by omega) (eK hi) rfl i_X3_receive_X3 0 (by decide) m_X3_receive_f22 rfl (v := .ref (gA G (15 + 6 * i))) rfl dX3_receive_9 ?_
    rcases Nat.lt_or_ge cc.1 64 with hc64 | hc64
    · skip
      have hq2 : (cW σ)[qc]? = some (ad, .inr (2, [.int (nI cc.1), .int cc.2.2.1, .int cc.2.1, .int cc.2.2.2])) := by rw [hqc]; unfold chE; rw [if_pos hc64]
      refine va_callv (va_runU (As := [.ref (gA G (15 + 6 * i))]) (rest := []) S (k_X2_goTo l G σ μ o ad (39 + μ.length + qc) i cc.1 cc.2.2.1 cc.2.1 cc.2.2.2 (wl_mv hq2) (Nat.lt_trans hi (by decide)) hc64) (va_cwA 1 S.2.2.2.2 gX3_receive_X2_goTo_u26X2 rfl rfl rfl (Z.2.1.2.1 _ n_decl) (by decide +kernel) ⟨Nat.le_of_ble_eq_true rfl, Nat.le_of_ble_eq_true rfl⟩) (wPc_VW (r := (RX2, TX2, 4)) Z (wl_mv hq2) rfl) rfl rfl hl.1 rfl (lv_room (Nat.le_of_ble_eq_true rfl)) dX3_receive_12 ⟨Nat.le_of_ble_eq_true rfl, Nat.le_of_ble_eq_true rfl⟩) Z.2.2.2.2 (fun _ _ h => h) (fun _ h => h) (fun u_11 T9 H1 locs1 hT9 hvm hw hB hz hk9 hS => ?_)
      subst hw
      have Z : wZ G (takE σ i cc.1 cc.2.2.1 cc.2.1 cc.2.2.2) (μ) o s H1 locs1 := wZ_callP Z hB hT9 hS
      rw [show takE σ i cc.1 cc.2.2.1 cc.2.1 cc.2.2.2 = goC σ i cc from (if_pos hc64).symm] at Z
      clear hB hT9 hS hk9 hz hvm T9
      revert Z; generalize H1 = H; generalize locs1 = locs; intro Z
      refine W.widen (k := 0) (n := 0) (by first | decide | omega) (by first | decide | omega) ?_
      refine lv_goto (tgt := 39) S.1 S.2.1 dX3_receive_15 (by decide) ?_
      have hP : sc (goC σ i cc) (if cU σ i = true then goC σ i cc else σ) ∧ HI G (goC σ i cc) (if cU σ i = false ∧ (L i).length < 10 then va_up L i (L i ++ [cc]) else L) ∧ chAt (goC σ i cc) ad cc := by
        rw [if_pos c_1, if_neg (by rw [c_1]; simp)]
        exact ⟨sc_rf, HI_goC hHI, kp_goC _ _ ⟨qc, hqc⟩⟩
      refine W.widen (k := 1) (n := 10) (by first | decide | omega) (by first | decide | omega) ?_
      have q9 : ((goC σ i cc) : cS) = goC σ i cc := by rfl
      rw [← q9] at Z
      exact L_39 (goC σ i cc) hP _ _ Z ls (lv_sub hl [0, 1] rfl)
    · skip
      have hq2 : (cW σ)[qc]? = some (ad, .inr (6, [.int (nI (cc.1 - 64)), .int cc.2.1, .int cc.2.2.1])) := by rw [hqc]; unfold chE; rw [if_neg (by omega)]
      refine va_callv (va_runU (As := [.ref (gA G (15 + 6 * i))]) (rest := []) S (k_X6_goTo l G σ μ o ad (39 + μ.length + qc) i (cc.1 - 64) cc.2.1 cc.2.2.1 (wl_mv hq2) (Nat.lt_trans hi (by decide)) (by omega)) (va_cwA 1 S.2.2.2.2 gX3_receive_X6_goTo_u26X6 rfl rfl rfl (Z.2.1.2.1 _ n_decl) (by decide +kernel) ⟨Nat.le_of_ble_eq_true rfl, Nat.le_of_ble_eq_true rfl⟩) (wPc_VW (r := (RX6, TX6, 3)) Z (wl_mv hq2) rfl) rfl rfl hl.1 rfl (lv_room (Nat.le_of_ble_eq_true rfl)) dX3_receive_12 ⟨Nat.le_of_ble_eq_true rfl, Nat.le_of_ble_eq_true rfl⟩) Z.2.2.2.2 (fun _ _ h => h) (fun _ h => h) (fun u_12 T9 H1 locs1 hT9 hvm hw hB hz hk9 hS => ?_)
      subst hw
      have Z : wZ G (takT σ i (cc.1 - 64) cc.2.1 cc.2.2.1) (μ) o s H1 locs1 := wZ_callP Z hB hT9 hS
      rw [show takT σ i (cc.1 - 64) cc.2.1 cc.2.2.1 = goC σ i cc from (if_neg (by omega)).symm] at Z
      clear hB hT9 hS hk9 hz hvm T9
      revert Z; generalize H1 = H; generalize locs1 = locs; intro Z
      refine W.widen (k := 0) (n := 0) (by first | decide | omega) (by first | decide | omega) ?_
      refine lv_goto (tgt := 39) S.1 S.2.1 dX3_receive_15 (by decide) ?_
      have hP : sc (goC σ i cc) (if cU σ i = true then goC σ i cc else σ) ∧ HI G (goC σ i cc) (if cU σ i = false ∧ (L i).length < 10 then va_up L i (L i ++ [cc]) else L) ∧ chAt (goC σ i cc) ad cc := by
        rw [if_pos c_1, if_neg (by rw [c_1]; simp)]
        exact ⟨sc_rf, HI_goC hHI, kp_goC _ _ ⟨qc, hqc⟩⟩
      refine W.widen (k := 1) (n := 10) (by first | decide | omega) (by first | decide | omega) ?_
      have q9 : ((goC σ i cc) : cS) = goC σ i cc := by rfl
      rw [← q9] at Z
      exact L_39 (goC σ i cc) hP _ _ Z ls (lv_sub hl [0, 1] rfl)

theorem i_X3_comeUp_X3 : ∀ w ∈ wsX30, w ∈ wsX3_comeUp := by decide +kernel
theorem m_X3_comeUp_f18 : Cond.fieldLink RX3 18 "WideCell$Keeper" "isRunning" "Z" ∈ wsX3_comeUp := by decide +kernel
theorem m_X3_comeUp_f12 : Cond.fieldLink RX3 12 "WideCell$Keeper" "waiting" "Ljava/util/ArrayList;" ∈ wsX3_comeUp := by decide +kernel
theorem m_X3_comeUp_c27 : Cond.classLink RX3 27 "WideCell$Change" ∈ wsX3_comeUp := by decide +kernel
theorem m_X3_comeUp_f22 : Cond.fieldLink RX3 22 "WideCell$Keeper" "table" "LWideCell$Table;" ∈ wsX3_comeUp := by decide +kernel
abbrev rm_k_X3_comeUp : Room := { frames := 4, cells := 0, slots := 0, locals := 89 }
set_option maxHeartbeats 4000000 in
set_option maxRecDepth 100000 in
theorem k_X3_comeUp (l : Launch) (G : wG) (σ : cS) (μ : mS) (o : Nat → Int64) (i : Nat) (L : Nat → List Ch) (hi : i < 3) (hHI : HI G σ L) (hokL : ∀ cc ∈ L i, okC cc) : Met l yX3_comeUp wsX3_comeUp rm_k_X3_comeUp (wPc G σ μ o [.ref (gA G (9 + i))]) (va_Qi (fun (rr : Int32) (u : cS × mS) => rr = nI ((L i).length) ∧ u.2 = μ ∧ (fun ns : cS => sc ns (cuS σ i (L i)) ∧ HI G ns (va_up L i [])) u.1) (fun u t => wI G u.1 u.2 o t) (gP G)) 0 0 (gP G) := by
  refine Met.ofW (cc := cX3_comeUp) (maxL := 2) (ret := (some .int)) (by decide) rfl ?_
  intro p e s m args below meth c s₁ B hml hv
  obtain ⟨hargs, hI⟩ := hv
  have S : CallFix p m c cX3_comeUp 2 s args wsX3_comeUp RX3 := ⟨B.exec, B.bytes, hml, findClass_of_methodNamed B.named, atoms_spec (ws := wsX3_comeUp) B.pre⟩
  have hret := B.returns
  have hlocks := B.notSynchronized
  have Z := wZ_0 hI
  clear hI
  obtain ⟨Q, hQ⟩ : ∃ Q, Q = MQ below (va_Qi (fun (rr : Int32) (u : cS × mS) => rr = nI ((L i).length) ∧ u.2 = μ ∧ (fun ns : cS => sc ns (cuS σ i (L i)) ∧ HI G ns (va_up L i [])) u.1) (fun u t => wI G u.1 u.2 o t) (gP G)) args s 0 0 (gP G) := ⟨_, rfl⟩
  rw [← hQ]
  have hl := lv_entry [.ref (gA G (9 + i))] (n := 2) (Nat.le_of_ble_eq_true rfl)
  rw [show entryFrame m args 2 = entryFrame m ([.ref (gA G (9 + i))] : List Value).toArray 2 from by rw [hargs], lg_entry_eq]
  generalize (lg_sl [.ref (gA G (9 + i))] ++ List.replicate (2 - (lg_sl [.ref (gA G (9 + i))]).length) Slot.unset).toArray = ls at hl ⊢
  have hl : lv_has ls 2 [(0, .ref (gA G (9 + i)))] := hl
  refine lv_aload_n S.1 S.2.1 dX3_comeUp_0 rfl (lv_at hl 0 rfl) ?_
  refine lv_iconst (v := nI 1) S.1 S.2.1 dX3_comeUp_1 (by decide) ?_
  refine W.eq (g2 := F0 m 2 ls (.int (bi true) :: .ref (gA G (9 + i)) :: [])) rfl ?_
  refine r_put (C := RX3) (T := TX3) (N := 3) (ci := 3) (σ' := cU' σ i (true)) (μ' := μ) S Z (by omega) (eK hi) rfl i_X3_comeUp_X3 tyX3 tyX3_ok nmX3 2 (by decide) m_X3_comeUp_f18 rfl rfl (ty := .boolean) (v := .int (bi true)) (by decide +kernel) (bi_nar _) (bi_fit _) (Nat.le_of_ble_eq_true rfl) rfl rfl (sU hi _) dX3_comeUp_2 (fun H locs Z => ?_)
  refine lv_iconst (v := nI 0) S.1 S.2.1 dX3_comeUp_5 (by decide) ?_
  refine lv_istore_n (lv' := [(1, .int (nI 0)), (0, .ref (gA G (9 + i)))]) S.1 S.2.1 dX3_comeUp_6 rfl hl (by decide) rfl (fun ls hl => ?_)
  have L_7 : ∀ (n : Nat) (j : Nat) (τ : cS) (hj : j ≤ (L i).length) (hsc : sc τ (cuS σ i ((L i).take j))) (hHI2 : HI G τ L) (hn : (L i).length - j < n) (H : Heap) (locs : List Loc) (Z : wZ G (τ) (μ) o s H locs) (ls : Array Slot) (hl : lv_has ls 2 [(0, .ref (gA G (9 + i))), (1, .int (nI j))]), W p l e (headSpec wsX3_comeUp rm_k_X3_comeUp).room s m args below meth c H locs 0 0 Q (F0 m 7 ls []) := by
    intro n
    induction n with
    | zero => intro j τ hj hsc hHI2 hn; omega
    | succ n ih_7 =>
      intro j τ hj hsc hHI2 hn H locs Z ls hl
      refine lv_iload_n S.1 S.2.1 dX3_comeUp_7 rfl (lv_at hl 1 rfl) ?_
      refine lv_aload_n S.1 S.2.1 dX3_comeUp_8 rfl (lv_at hl 0 rfl) ?_
      refine r_get (C := RX3) (T := TX3) (N := 3) (ci := 3) S Z (by omega) (eK hi) rfl i_X3_comeUp_X3 1 (by decide) m_X3_comeUp_f12 rfl (v := .ref (gA G (12 + i))) rfl dX3_comeUp_9 ?_
      refine vp_callSi (va_runV (As := []) (rest := [.int (nI j)]) S (k_Jx4a65c_size_8abf5 l G τ μ o i hi) (cwV 0 S.2.2.2.2 gX3_comeUp_Jx4a65c_size_8abf5 rfl rfl rfl ⟨rfl, hy_Jx4a65c_size_8abf5⟩ ⟨Nat.le_of_ble_eq_true rfl, Nat.le_of_ble_eq_true rfl⟩) (wPc_V (q := (RJx4a65c, TJx4a65c, 3)) Z (by omega) (eL hi) rfl) rfl rfl hl.1 rfl (lv_room (Nat.le_of_ble_eq_true rfl)) dX3_comeUp_12 ⟨Nat.le_of_ble_eq_true rfl, Nat.le_of_ble_eq_true rfl⟩).run (fun r_1 h_2 => ?_)
      rw [h_2]; clear h_2 r_1
      have e7 : cL τ i = (L i).length := (hHI2.1 i hi).2.1
      have e8 : (L i).length ≤ 10 := (hHI2.1 i hi).1
      refine r_icmpN_ge S (tgt := 42) (by omega) (by omega) dX3_comeUp_15 (by decide) (fun c_3 => ?_) (fun c_3 => ?_)
      · skip
        refine lv_aload_n S.1 S.2.1 dX3_comeUp_42 rfl (lv_at hl 0 rfl) ?_
        refine va_calli (va_runV (As := []) (rest := []) S (k_X3_dropHints l G τ μ o i L hi hHI2) (cwV 0 S.2.2.2.2 gX3_comeUp_X3_dropHints rfl rfl rfl ⟨rfl, hy_X3_dropHints⟩ ⟨Nat.le_of_ble_eq_true rfl, Nat.le_of_ble_eq_true rfl⟩) (wPc_V (q := (RX3, TX3, 3)) Z (by omega) (eK hi) rfl) rfl rfl hl.1 rfl (lv_room (Nat.le_of_ble_eq_true rfl)) dX3_comeUp_43 ⟨Nat.le_of_ble_eq_true rfl, Nat.le_of_ble_eq_true rfl⟩) Z.2.2.2.2 (fun _ _ h => h) (fun _ h => h) (fun r_4 u_5 T9 H1 locs1 hT9 hvm hw hB hz hk9 hS => ?_)
        obtain ⟨τ_6, μ9⟩ := u_5
        obtain ⟨hr9, hm9, hp9⟩ := hw
        have hm9 : μ = μ9 := hm9.symm
        subst hm9
        have hp_7 : sc τ_6 τ ∧ HI G τ_6 (va_up L i []) ∧ kp τ τ_6 := hp9
        clear hp9
        rw [hr9]; clear hr9 r_4
        have Z : wZ G (τ_6) (μ) o s H1 locs1 := wZ_callP Z hB hT9 hS
        clear hB hT9 hS hk9 hz hvm T9
        revert Z; generalize H1 = H; generalize locs1 = locs; intro Z
        refine W.widen (k := 0) (n := 0) (by first | decide | omega) (by first | decide | omega) ?_
        rw [hQ]
        exact W.iret (v := nI ((L i).length)) S.1 S.2.1 hret (fun _ hT9 hW => ⟨⟨_, (τ_6, μ), rfl, ⟨rfl, rfl, up_end (by omega) hsc hp_7⟩, wZ_P Z hT9 hW⟩, Z.2.2.2.2.F hT9⟩) Z.2.2.2.2.2.2 dX3_comeUp_46
      · skip
        refine lv_aload_n S.1 S.2.1 dX3_comeUp_18 rfl (lv_at hl 0 rfl) ?_
        refine r_get (C := RX3) (T := TX3) (N := 3) (ci := 3) S Z (by omega) (eK hi) rfl i_X3_comeUp_X3 1 (by decide) m_X3_comeUp_f12 rfl (v := .ref (gA G (12 + i))) rfl dX3_comeUp_19 ?_
        refine lv_iload_n S.1 S.2.1 dX3_comeUp_22 rfl (lv_at hl 1 rfl) ?_
        obtain ⟨r, f, hrow⟩ : ∃ r f, rowAt G τ i r f (L i) := (hHI2.1 i hi).2.2.resolve_left (fun z => by have h0 := congrArg List.length z.1; rw [List.length_nil] at h0; omega)
        obtain ⟨cc, hcc⟩ : ∃ cc, (L i)[j]? = some cc := ⟨_, List.getElem?_eq_getElem (show j < (L i).length by omega)⟩
        obtain ⟨ad, hf, qc, hqc⟩ := hrow.2.2 j cc hcc
        have hok : cc.1 < 156 := ok_lt (hokL cc (List.mem_of_getElem? hcc))
        refine va_csr (va_runV (As := [.int (nI j)]) (rest := []) S (k_Jx4a65c_get_915e3 l G τ μ o i j ad r f hi (by omega) hrow.1 hf (by omega) (by omega)) (cwV 1 S.2.2.2.2 gX3_comeUp_Jx4a65c_get_915e3 rfl rfl rfl ⟨rfl, hy_Jx4a65c_get_915e3⟩ ⟨Nat.le_of_ble_eq_true rfl, Nat.le_of_ble_eq_true rfl⟩) (wPc_V (q := (RJx4a65c, TJx4a65c, 3)) Z (by omega) (eL hi) rfl) rfl rfl hl.1 rfl (lv_room (Nat.le_of_ble_eq_true rfl)) dX3_comeUp_23 ⟨Nat.le_of_ble_eq_true rfl, Nat.le_of_ble_eq_true rfl⟩).run (fun r_8 h_9 => ?_)
        rw [h_9]; clear h_9 r_8
        obtain ⟨ci, vs, CC, hx1, hx2, -, hx4⟩ := ch_obj cc
        refine va_castY S.1 S.2.1 S.2.2.2.1 (S.2.2.2.2 _ m_X3_comeUp_c27) (Z.2.1.2.1 _ hx4) (va_recv Z.2.1.1 Z.2.2.1 hx2 (wl_mv (by rw [hqc, hx1]))) dX3_comeUp_26 ?_
        refine lv_aload_n S.1 S.2.1 dX3_comeUp_29 rfl (lv_at hl 0 rfl) ?_
        refine r_get (C := RX3) (T := TX3) (N := 3) (ci := 3) S Z (by omega) (eK hi) rfl i_X3_comeUp_X3 0 (by decide) m_X3_comeUp_f22 rfl (v := .ref (gA G (15 + 6 * i))) rfl dX3_comeUp_30 ?_
        rcases Nat.lt_or_ge cc.1 64 with hc64 | hc64
        · skip
          have hq2 : (cW τ)[qc]? = some (ad, .inr (2, [.int (nI cc.1), .int cc.2.2.1, .int cc.2.1, .int cc.2.2.2])) := by rw [hqc]; unfold chE; rw [if_pos hc64]
          refine va_callv (va_runU (As := [.ref (gA G (15 + 6 * i))]) (rest := []) S (k_X2_goTo l G τ μ o ad (39 + μ.length + qc) i cc.1 cc.2.2.1 cc.2.1 cc.2.2.2 (wl_mv hq2) (Nat.lt_trans hi (by decide)) hc64) (va_cwA 1 S.2.2.2.2 gX3_comeUp_X2_goTo_u26X2 rfl rfl rfl (Z.2.1.2.1 _ n_decl) (by decide +kernel) ⟨Nat.le_of_ble_eq_true rfl, Nat.le_of_ble_eq_true rfl⟩) (wPc_VW (r := (RX2, TX2, 4)) Z (wl_mv hq2) rfl) rfl rfl hl.1 rfl (lv_room (Nat.le_of_ble_eq_true rfl)) dX3_comeUp_33 ⟨Nat.le_of_ble_eq_true rfl, Nat.le_of_ble_eq_true rfl⟩) Z.2.2.2.2 (fun _ _ h => h) (fun _ h => h) (fun u_10 T9 H1 locs1 hT9 hvm hw hB hz hk9 hS => ?_)
          subst hw
          have Z : wZ G (takE τ i cc.1 cc.2.2.1 cc.2.1 cc.2.2.2) (μ) o s H1 locs1 := wZ_callP Z hB hT9 hS
          rw [show takE τ i cc.1 cc.2.2.1 cc.2.1 cc.2.2.2 = goC τ i cc from (if_pos hc64).symm] at Z
          clear hB hT9 hS hk9 hz hvm T9
          revert Z; generalize H1 = H; generalize locs1 = locs; intro Z
          refine W.widen (k := 0) (n := 0) (by first | decide | omega) (by first | decide | omega) ?_
          refine lv_iinc (v := nI (j + 1)) (lv' := [(1, .int (nI (j + 1))), (0, .ref (gA G (9 + i)))]) S.1 S.2.1 dX3_comeUp_36 hl (k := 1) rfl (nI_inc rfl) (by decide) rfl (fun ls hl => ?_)
          refine lv_goto (tgt := 7) S.1 S.2.1 dX3_comeUp_39 (by decide) ?_
          have q9 : ((goC τ i cc) : cS) = goC τ i cc := by rfl
          rw [← q9] at Z
          exact ih_7 (j + 1) (goC τ i cc) (by omega) (by first | exact cuS_0 | exact cuS_s hsc hcc) (by first | exact HI_of rfl rfl rfl hHI | exact HI_goC hHI2) (by omega) _ _ Z ls (lv_sub hl [1, 0] rfl)
        · skip
          have hq2 : (cW τ)[qc]? = some (ad, .inr (6, [.int (nI (cc.1 - 64)), .int cc.2.1, .int cc.2.2.1])) := by rw [hqc]; unfold chE; rw [if_neg (by omega)]
          refine va_callv (va_runU (As := [.ref (gA G (15 + 6 * i))]) (rest := []) S (k_X6_goTo l G τ μ o ad (39 + μ.length + qc) i (cc.1 - 64) cc.2.1 cc.2.2.1 (wl_mv hq2) (Nat.lt_trans hi (by decide)) (by omega)) (va_cwA 1 S.2.2.2.2 gX3_comeUp_X6_goTo_u26X6 rfl rfl rfl (Z.2.1.2.1 _ n_decl) (by decide +kernel) ⟨Nat.le_of_ble_eq_true rfl, Nat.le_of_ble_eq_true rfl⟩) (wPc_VW (r := (RX6, TX6, 3)) Z (wl_mv hq2) rfl) rfl rfl hl.1 rfl (lv_room (Nat.le_of_ble_eq_true rfl)) dX3_comeUp_33 ⟨Nat.le_of_ble_eq_true rfl, Nat.le_of_ble_eq_true rfl⟩) Z.2.2.2.2 (fun _ _ h => h) (fun _ h => h) (fun u_11 T9 H1 locs1 hT9 hvm hw hB hz hk9 hS => ?_)
          subst hw
          have Z : wZ G (takT τ i (cc.1 - 64) cc.2.1 cc.2.2.1) (μ) o s H1 locs1 := wZ_callP Z hB hT9 hS
          rw [show takT τ i (cc.1 - 64) cc.2.1 cc.2.2.1 = goC τ i cc from (if_neg (by omega)).symm] at Z
          clear hB hT9 hS hk9 hz hvm T9
          revert Z; generalize H1 = H; generalize locs1 = locs; intro Z
          refine W.widen (k := 0) (n := 0) (by first | decide | omega) (by first | decide | omega) ?_
          refine lv_iinc (v := nI (j + 1)) (lv' := [(1, .int (nI (j + 1))), (0, .ref (gA G (9 + i)))]) S.1 S.2.1 dX3_comeUp_36 hl (k := 1) rfl (nI_inc rfl) (by decide) rfl (fun ls hl => ?_)
          refine lv_goto (tgt := 7) S.1 S.2.1 dX3_comeUp_39 (by decide) ?_
          have q9 : ((goC τ i cc) : cS) = goC τ i cc := by rfl
          rw [← q9] at Z
          exact ih_7 (j + 1) (goC τ i cc) (by omega) (by first | exact cuS_0 | exact cuS_s hsc hcc) (by first | exact HI_of rfl rfl rfl hHI | exact HI_goC hHI2) (by omega) _ _ Z ls (lv_sub hl [1, 0] rfl)
  have q9 : ((cU' σ i (true)) : cS) = cU' σ i (true) := by rfl
  rw [← q9] at Z
  exact L_7 ((L i).length - 0 + 1) 0 (cU' σ i (true)) (by omega) (by first | exact cuS_0 | exact cuS_s hsc hcc) (by first | exact HI_of rfl rfl rfl hHI | exact HI_goC hHI2) (Nat.lt_succ_self _) _ _ Z ls (lv_sub hl [1, 0] rfl)

theorem i_X7_send_X7 : ∀ w ∈ wsX70, w ∈ wsX7_send := by decide +kernel
theorem m_X7_send_f27 : Cond.fieldLink RX7 27 "WideCell" "keepers" "[LWideCell$Keeper;" ∈ wsX7_send := by decide +kernel
theorem m_X7_send_f21 : Cond.fieldLink RX7 21 "WideCell" "idealTable" "LWideCell$Table;" ∈ wsX7_send := by decide +kernel
abbrev rm_k_X7_send : Room := { frames := 6, cells := 3, slots := 30, locals := 129 }
set_option maxHeartbeats 4000000 in
set_option maxRecDepth 100000 in
theorem k_X7_send (l : Launch) (G : wG) (σ : cS) (μ : mS) (o : Nat → Int64) (ad : Nat) (cs : Int32) (cc : Ch) (L : Nat → List Ch) (hHI : HI G σ L) (hch : chAt σ ad cc) (hok : cc.1 < 156) : Met l yX7_send wsX7_send rm_k_X7_send (wPc G σ μ o [.ref (gA G 0), .int (cs), .ref (ad)]) (va_Qi (fun (rr : Int32) (u : cS × mS) => rr = nI (sdN σ cs 3) ∧ u.2 = μ ∧ (fun ns : cS => sc ns (sdS σ cc cs 3) ∧ HI G ns (fun k => if bitB cs k = true ∧ cU σ k = false ∧ (L k).length < 10 then L k ++ [cc] else L k)) u.1) (fun u t => wI G u.1 u.2 o t) (gP G)) 3 30 (gP G) := by
  refine Met.ofW (cc := cX7_send) (maxL := 5) (ret := (some .int)) (by decide) rfl ?_
  intro p e s m args below meth c s₁ B hml hv
  obtain ⟨hargs, hI⟩ := hv
  have S : CallFix p m c cX7_send 5 s args wsX7_send RX7 := ⟨B.exec, B.bytes, hml, findClass_of_methodNamed B.named, atoms_spec (ws := wsX7_send) B.pre⟩
  have hret := B.returns
  have hlocks := B.notSynchronized
  have Z := wZ_0 hI
  clear hI
  obtain ⟨Q, hQ⟩ : ∃ Q, Q = MQ below (va_Qi (fun (rr : Int32) (u : cS × mS) => rr = nI (sdN σ cs 3) ∧ u.2 = μ ∧ (fun ns : cS => sc ns (sdS σ cc cs 3) ∧ HI G ns (fun k => if bitB cs k = true ∧ cU σ k = false ∧ (L k).length < 10 then L k ++ [cc] else L k)) u.1) (fun u t => wI G u.1 u.2 o t) (gP G)) args s 3 30 (gP G) := ⟨_, rfl⟩
  rw [← hQ]
  have hl := lv_entry [.ref (gA G 0), .int (cs), .ref (ad)] (n := 5) (Nat.le_of_ble_eq_true rfl)
  rw [show entryFrame m args 5 = entryFrame m ([.ref (gA G 0), .int (cs), .ref (ad)] : List Value).toArray 5 from by rw [hargs], lg_entry_eq]
  generalize (lg_sl [.ref (gA G 0), .int (cs), .ref (ad)] ++ List.replicate (5 - (lg_sl [.ref (gA G 0), .int (cs), .ref (ad)]).length) Slot.unset).toArray = ls at hl ⊢
  have hl : lv_has ls 5 [(0, .ref (gA G 0)), (1, .int (cs)), (2, .ref (ad))] := hl
  obtain ⟨qc, hqc⟩ := hch
  have L_13 : ∀ (n : Nat) (i : Nat) (τ : cS) (hi : i ≤ 3) (hsc : sc τ (sdS σ cc cs i)) (hHI2 : HI G τ (fun k => if k < i ∧ bitB cs k = true ∧ cU σ k = false ∧ (L k).length < 10 then L k ++ [cc] else L k)) (hch2 : chAt τ ad cc) (hn : 3 - i < n) (H : Heap) (locs : List Loc) (Z : wZ G (τ) (μ) o s H locs) (ls : Array Slot) (hl : lv_has ls 5 [(0, .ref (gA G 0)), (1, .int (cs)), (2, .ref (ad)), (3, .int (nI (sdN σ cs i))), (4, .int (nI i))]), W p l e (headSpec wsX7_send rm_k_X7_send).room s m args below meth c H locs i (10 * i) Q (F0 m 13 ls []) := by
    intro n
    induction n with
    | zero => intro i τ hi hsc hHI2 hch2 hn; omega
    | succ n ih_13 =>
      intro i τ hi hsc hHI2 hch2 hn H locs Z ls hl
      refine lv_iload S.1 S.2.1 dX7_send_13 (lv_at hl 4 rfl) ?_
      refine lv_iconst (v := nI 3) S.1 S.2.1 dX7_send_15 (by decide) ?_
      refine r_icmpN_ge S (tgt := 51) (by omega) (by omega) dX7_send_16 (by decide) (fun c_1 => ?_) (fun c_1 => ?_)
      · skip
        refine lv_iload_n S.1 S.2.1 dX7_send_51 rfl (lv_at hl 3 rfl) ?_
        refine W.widen (k := 3) (n := 30) (by first | decide | omega) (by first | decide | omega) ?_
        rw [hQ]
        exact W.iret (v := nI (sdN σ cs i)) S.1 S.2.1 hret (fun _ hT9 hW => ⟨⟨_, (τ, μ), rfl, ⟨(by rw [show i = 3 from by omega]), rfl, send_end (by omega) hsc hHI2⟩, wZ_P Z hT9 hW⟩, Z.2.2.2.2.F hT9⟩) Z.2.2.2.2.2.2 dX7_send_52
      · skip
        refine lv_iload S.1 S.2.1 dX7_send_19 (lv_at hl 4 rfl) ?_
        refine lv_iload_n S.1 S.2.1 dX7_send_21 rfl (lv_at hl 1 rfl) ?_
        refine vp_callSi (va_runS (As := [.int (nI i), .int (cs)]) (rest := []) S (k_X7_isInSet l G τ μ o i cs ) (va_cwS 2 S.2.2.2.2 gX7_send_X7_isInSet rfl rfl rfl hy_X7_isInSet ⟨Nat.le_of_ble_eq_true rfl, Nat.le_of_ble_eq_true rfl⟩) (wPc_S Z) rfl rfl hl.1 rfl (lv_room (Nat.le_of_ble_eq_true rfl)) dX7_send_22 ⟨by show i + 0 ≤ 3; omega, by show 10 * i + 0 ≤ 30; omega⟩).run (fun r_2 h_3 => ?_)
        rw [h_3]; clear h_3 r_2
        refine r_if_eqB S (tgt := 45) dX7_send_25 (by decide) (fun c_4 => ?_) (fun c_4 => ?_)
        · skip
          refine lv_iinc (v := nI (i + 1)) (lv' := [(4, .int (nI (i + 1))), (0, .ref (gA G 0)), (1, .int (cs)), (2, .ref (ad)), (3, .int (nI (sdN σ cs i)))]) S.1 S.2.1 dX7_send_45 hl (k := 4) rfl (nI_inc rfl) (by decide) rfl (fun ls hl => ?_)
          refine lv_goto (tgt := 13) S.1 S.2.1 dX7_send_48 (by decide) ?_
          have hsc3 : sc τ (sdS σ cc cs (i + 1)) := send_sc0 c_4 hsc
          have hHI3 : HI G τ (fun k => if k < (i + 1) ∧ bitB cs k = true ∧ cU σ k = false ∧ (L k).length < 10 then L k ++ [cc] else L k) := send_HI0 c_4 hHI2
          have hch3 : chAt τ ad cc := hch2
          refine W.widen (k := (i + 1)) (n := 10 * (i + 1)) (by first | decide | omega) (by first | decide | omega) ?_
          have q_5 : (nI (sdN σ cs (i + 1)) : Int32) = nI (sdN σ cs i) := by (first | exact congrArg nI (sdN_y (by assumption) (hU.symm.trans (by assumption))) | exact congrArg nI (sdN_n2 (hU.symm.trans (by assumption))) | exact congrArg nI (sdN_n1 (by assumption)))
          have hl : lv_has ls 5 [(0, .ref (gA G 0)), (1, .int (cs)), (2, .ref (ad)), (3, .int (nI (sdN σ cs (i + 1)))), (4, .int (nI (i + 1)))] := by
            have hl := lv_sub hl [1, 2, 3, 4, 0] rfl
            rw [q_5]; exact hl
          exact ih_13 (i + 1) τ (by omega) (by first | exact hsc3 | exact sc_rf) (by first | exact hHI3 | (simp; exact HI_goC hHI)) (by first | exact hch3 | exact kp_goC _ _ ⟨qc, hqc⟩) (by omega) _ _ Z ls (hl)
        · skip
          refine lv_aload_n S.1 S.2.1 dX7_send_28 rfl (lv_at hl 0 rfl) ?_
          refine r_get (C := RX7) (T := TX7) (N := 7) (ci := 7) S Z (by decide) rfl rfl i_X7_send_X7 2 (by decide) m_X7_send_f27 rfl (v := .ref (gA G 4)) rfl dX7_send_29 ?_
          refine lv_iload S.1 S.2.1 dX7_send_32 (lv_at hl 4 rfl) ?_
          refine r_aldK S Z (by omega) dX7_send_34 ?_
          refine lv_aload_n S.1 S.2.1 dX7_send_35 rfl (lv_at hl 2 rfl) ?_
          have hU : cU τ i = cU σ i := congrFun (hsc.2.2.1.trans (c_of (sdS_r i)).2.1) i
          refine va_calli (va_runV (As := [.ref (ad)]) (rest := []) S (k_X3_receive l G τ μ o i ad cc (fun k => if k < i ∧ bitB cs k = true ∧ cU σ k = false ∧ (L k).length < 10 then L k ++ [cc] else L k) (by omega) hHI2 hch2 hok) (cwV 1 S.2.2.2.2 gX7_send_X3_receive rfl rfl rfl ⟨rfl, hy_X3_receive⟩ ⟨Nat.le_of_ble_eq_true rfl, Nat.le_of_ble_eq_true rfl⟩) (wPc_V (q := (RX3, TX3, 3)) Z (by omega) (eK (show i < 3 by omega)) rfl) rfl rfl hl.1 rfl (lv_room (Nat.le_of_ble_eq_true rfl)) dX7_send_36 ⟨by show i + 1 ≤ 3; omega, by show 10 * i + 10 ≤ 30; omega⟩) Z.2.2.2.2 (fun _ _ h => h) (fun _ h => h) (fun r_6 u_7 T9 H1 locs1 hT9 hvm hw hB hz hk9 hS => ?_)
          obtain ⟨τ_8, μ9⟩ := u_7
          obtain ⟨hr9, hm9, hp9⟩ := hw
          have hm9 : μ = μ9 := hm9.symm
          subst hm9
          have hp_9 : sc τ_8 (if cU τ i = true then goC τ i cc else τ) ∧ HI G τ_8 (if cU τ i = false ∧ ((fun k => if k < i ∧ bitB cs k = true ∧ cU σ k = false ∧ (L k).length < 10 then L k ++ [cc] else L k) i).length < 10 then va_up (fun k => if k < i ∧ bitB cs k = true ∧ cU σ k = false ∧ (L k).length < 10 then L k ++ [cc] else L k) i ((fun k => if k < i ∧ bitB cs k = true ∧ cU σ k = false ∧ (L k).length < 10 then L k ++ [cc] else L k) i ++ [cc]) else (fun k => if k < i ∧ bitB cs k = true ∧ cU σ k = false ∧ (L k).length < 10 then L k ++ [cc] else L k)) ∧ chAt τ_8 ad cc := hp9
          clear hp9
          rw [hr9]; clear hr9 r_6
          have Z : wZ G (τ_8) (μ) o s H1 locs1 := wZ_callP Z hB hT9 hS
          clear hB hT9 hS hk9 hz hvm T9
          revert Z; generalize H1 = H; generalize locs1 = locs; intro Z
          refine W.widen (k := (i + 1)) (n := (10 * i + 10)) (by first | decide | omega) (by first | decide | omega) ?_
          obtain ⟨hp1, hp2, hp3⟩ := hp_9
          have hsc3 : sc τ_8 (sdS σ cc cs (i + 1)) := send_sc c_4 hU hsc hp1
          have hHI3 : HI G τ_8 (fun k => if k < (i + 1) ∧ bitB cs k = true ∧ cU σ k = false ∧ (L k).length < 10 then L k ++ [cc] else L k) := send_HI c_4 hU hp2
          have hch3 : chAt τ_8 ad cc := hp3
          refine r_if_eqB S (tgt := 45) dX7_send_39 (by decide) (fun c_10 => ?_) (fun c_10 => ?_)
          · skip
            refine lv_iinc (v := nI (i + 1)) (lv' := [(4, .int (nI (i + 1))), (0, .ref (gA G 0)), (1, .int (cs)), (2, .ref (ad)), (3, .int (nI (sdN σ cs i)))]) S.1 S.2.1 dX7_send_45 hl (k := 4) rfl (nI_inc rfl) (by decide) rfl (fun ls hl => ?_)
            refine lv_goto (tgt := 13) S.1 S.2.1 dX7_send_48 (by decide) ?_
            refine W.widen (k := (i + 1)) (n := 10 * (i + 1)) (by first | decide | omega) (by first | decide | omega) ?_
            have q_11 : (nI (sdN σ cs (i + 1)) : Int32) = nI (sdN σ cs i) := by (first | exact congrArg nI (sdN_y (by assumption) (hU.symm.trans (by assumption))) | exact congrArg nI (sdN_n2 (hU.symm.trans (by assumption))) | exact congrArg nI (sdN_n1 (by assumption)))
            have hl : lv_has ls 5 [(0, .ref (gA G 0)), (1, .int (cs)), (2, .ref (ad)), (3, .int (nI (sdN σ cs (i + 1)))), (4, .int (nI (i + 1)))] := by
              have hl := lv_sub hl [1, 2, 3, 4, 0] rfl
              rw [q_11]; exact hl
            exact ih_13 (i + 1) τ_8 (by omega) (by first | exact hsc3 | exact sc_rf) (by first | exact hHI3 | (simp; exact HI_goC hHI)) (by first | exact hch3 | exact kp_goC _ _ ⟨qc, hqc⟩) (by omega) _ _ Z ls (hl)
          · skip
            refine lv_iinc (v := nI (sdN σ cs i + 1)) (lv' := [(3, .int (nI (sdN σ cs i + 1))), (0, .ref (gA G 0)), (1, .int (cs)), (2, .ref (ad)), (4, .int (nI i))]) S.1 S.2.1 dX7_send_42 hl (k := 3) rfl (nI_inc rfl) (by decide) rfl (fun ls hl => ?_)
            refine lv_iinc (v := nI (i + 1)) (lv' := [(4, .int (nI (i + 1))), (3, .int (nI (sdN σ cs i + 1))), (0, .ref (gA G 0)), (1, .int (cs)), (2, .ref (ad))]) S.1 S.2.1 dX7_send_45 hl (k := 4) rfl (nI_inc rfl) (by decide) rfl (fun ls hl => ?_)
            refine lv_goto (tgt := 13) S.1 S.2.1 dX7_send_48 (by decide) ?_
            refine W.widen (k := (i + 1)) (n := 10 * (i + 1)) (by first | decide | omega) (by first | decide | omega) ?_
            have q_12 : (nI (sdN σ cs (i + 1)) : Int32) = nI (sdN σ cs i + 1) := by (first | exact congrArg nI (sdN_y (by assumption) (hU.symm.trans (by assumption))) | exact congrArg nI (sdN_n2 (hU.symm.trans (by assumption))) | exact congrArg nI (sdN_n1 (by assumption)))
            have hl : lv_has ls 5 [(0, .ref (gA G 0)), (1, .int (cs)), (2, .ref (ad)), (3, .int (nI (sdN σ cs (i + 1)))), (4, .int (nI (i + 1)))] := by
              have hl := lv_sub hl [2, 3, 4, 1, 0] rfl
              rw [q_12]; exact hl
            exact ih_13 (i + 1) τ_8 (by omega) (by first | exact hsc3 | exact sc_rf) (by first | exact hHI3 | (simp; exact HI_goC hHI)) (by first | exact hch3 | exact kp_goC _ _ ⟨qc, hqc⟩) (by omega) _ _ Z ls (hl)
  refine lv_aload_n S.1 S.2.1 dX7_send_0 rfl (lv_at hl 2 rfl) ?_
  refine lv_aload_n S.1 S.2.1 dX7_send_1 rfl (lv_at hl 0 rfl) ?_
  refine r_get (C := RX7) (T := TX7) (N := 7) (ci := 7) S Z (by decide) rfl rfl i_X7_send_X7 1 (by decide) m_X7_send_f21 rfl (v := .ref (gA G (15 + 6 * 3))) rfl dX7_send_2 ?_
  rcases Nat.lt_or_ge cc.1 64 with hc64 | hc64
  · skip
    have hq2 : (cW σ)[qc]? = some (ad, .inr (2, [.int (nI cc.1), .int cc.2.2.1, .int cc.2.1, .int cc.2.2.2])) := by rw [hqc]; unfold chE; rw [if_pos hc64]
    refine va_callv (va_runU (As := [.ref (gA G (15 + 6 * 3))]) (rest := []) S (k_X2_goTo l G σ μ o ad (39 + μ.length + qc) 3 cc.1 cc.2.2.1 cc.2.1 cc.2.2.2 (wl_mv hq2) (by decide) hc64) (va_cwA 1 S.2.2.2.2 gX7_send_X2_goTo_u213X2 rfl rfl rfl (Z.2.1.2.1 _ n_decl) (by decide +kernel) ⟨Nat.le_of_ble_eq_true rfl, Nat.le_of_ble_eq_true rfl⟩) (wPc_VW (r := (RX2, TX2, 4)) Z (wl_mv hq2) rfl) rfl rfl hl.1 rfl (lv_room (Nat.le_of_ble_eq_true rfl)) dX7_send_5 ⟨Nat.le_of_ble_eq_true rfl, Nat.le_of_ble_eq_true rfl⟩) Z.2.2.2.2 (fun _ _ h => h) (fun _ h => h) (fun u_13 T9 H1 locs1 hT9 hvm hw hB hz hk9 hS => ?_)
    subst hw
    have Z : wZ G (takE σ 3 cc.1 cc.2.2.1 cc.2.1 cc.2.2.2) (μ) o s H1 locs1 := wZ_callP Z hB hT9 hS
    rw [show takE σ 3 cc.1 cc.2.2.1 cc.2.1 cc.2.2.2 = goC σ 3 cc from (if_pos hc64).symm] at Z
    clear hB hT9 hS hk9 hz hvm T9
    revert Z; generalize H1 = H; generalize locs1 = locs; intro Z
    refine W.widen (k := 0) (n := 0) (by first | decide | omega) (by first | decide | omega) ?_
    refine lv_iconst (v := nI 0) S.1 S.2.1 dX7_send_8 (by decide) ?_
    refine lv_istore_n (lv' := [(3, .int (nI 0)), (0, .ref (gA G 0)), (1, .int (cs)), (2, .ref (ad))]) S.1 S.2.1 dX7_send_9 rfl hl (by decide) rfl (fun ls hl => ?_)
    refine lv_iconst (v := nI 0) S.1 S.2.1 dX7_send_10 (by decide) ?_
    refine lv_istore (lv' := [(4, .int (nI 0)), (3, .int (nI 0)), (0, .ref (gA G 0)), (1, .int (cs)), (2, .ref (ad))]) S.1 S.2.1 dX7_send_11 hl (by decide) rfl (fun ls hl => ?_)
    refine W.widen (k := 0) (n := 10 * 0) (by first | decide | omega) (by first | decide | omega) ?_
    have q_14 : (nI (sdN σ cs 0) : Int32) = nI 0 := by rfl
    have hl : lv_has ls 5 [(0, .ref (gA G 0)), (1, .int (cs)), (2, .ref (ad)), (3, .int (nI (sdN σ cs 0))), (4, .int (nI 0))] := by
      have hl := lv_sub hl [2, 3, 4, 1, 0] rfl
      rw [q_14]; exact hl
    have q9 : ((goC σ 3 cc) : cS) = goC σ 3 cc := by rfl
    rw [← q9] at Z
    exact L_13 (3 - 0 + 1) 0 (goC σ 3 cc) (by omega) (by first | exact hsc3 | exact sc_rf) (by first | exact hHI3 | (simp; exact HI_goC hHI)) (by first | exact hch3 | exact kp_goC _ _ ⟨qc, hqc⟩) (Nat.lt_succ_self _) _ _ Z ls (hl)
  · skip
    have hq2 : (cW σ)[qc]? = some (ad, .inr (6, [.int (nI (cc.1 - 64)), .int cc.2.1, .int cc.2.2.1])) := by rw [hqc]; unfold chE; rw [if_neg (by omega)]
    refine va_callv (va_runU (As := [.ref (gA G (15 + 6 * 3))]) (rest := []) S (k_X6_goTo l G σ μ o ad (39 + μ.length + qc) 3 (cc.1 - 64) cc.2.1 cc.2.2.1 (wl_mv hq2) (by decide) (by omega)) (va_cwA 1 S.2.2.2.2 gX7_send_X6_goTo_u213X6 rfl rfl rfl (Z.2.1.2.1 _ n_decl) (by decide +kernel) ⟨Nat.le_of_ble_eq_true rfl, Nat.le_of_ble_eq_true rfl⟩) (wPc_VW (r := (RX6, TX6, 3)) Z (wl_mv hq2) rfl) rfl rfl hl.1 rfl (lv_room (Nat.le_of_ble_eq_true rfl)) dX7_send_5 ⟨Nat.le_of_ble_eq_true rfl, Nat.le_of_ble_eq_true rfl⟩) Z.2.2.2.2 (fun _ _ h => h) (fun _ h => h) (fun u_15 T9 H1 locs1 hT9 hvm hw hB hz hk9 hS => ?_)
    subst hw
    have Z : wZ G (takT σ 3 (cc.1 - 64) cc.2.1 cc.2.2.1) (μ) o s H1 locs1 := wZ_callP Z hB hT9 hS
    rw [show takT σ 3 (cc.1 - 64) cc.2.1 cc.2.2.1 = goC σ 3 cc from (if_neg (by omega)).symm] at Z
    clear hB hT9 hS hk9 hz hvm T9
    revert Z; generalize H1 = H; generalize locs1 = locs; intro Z
    refine W.widen (k := 0) (n := 0) (by first | decide | omega) (by first | decide | omega) ?_
    refine lv_iconst (v := nI 0) S.1 S.2.1 dX7_send_8 (by decide) ?_
    refine lv_istore_n (lv' := [(3, .int (nI 0)), (0, .ref (gA G 0)), (1, .int (cs)), (2, .ref (ad))]) S.1 S.2.1 dX7_send_9 rfl hl (by decide) rfl (fun ls hl => ?_)
    refine lv_iconst (v := nI 0) S.1 S.2.1 dX7_send_10 (by decide) ?_
    refine lv_istore (lv' := [(4, .int (nI 0)), (3, .int (nI 0)), (0, .ref (gA G 0)), (1, .int (cs)), (2, .ref (ad))]) S.1 S.2.1 dX7_send_11 hl (by decide) rfl (fun ls hl => ?_)
    refine W.widen (k := 0) (n := 10 * 0) (by first | decide | omega) (by first | decide | omega) ?_
    have q_16 : (nI (sdN σ cs 0) : Int32) = nI 0 := by rfl
    have hl : lv_has ls 5 [(0, .ref (gA G 0)), (1, .int (cs)), (2, .ref (ad)), (3, .int (nI (sdN σ cs 0))), (4, .int (nI 0))] := by
      have hl := lv_sub hl [2, 3, 4, 1, 0] rfl
      rw [q_16]; exact hl
    have q9 : ((goC σ 3 cc) : cS) = goC σ 3 cc := by rfl
    rw [← q9] at Z
    exact L_13 (3 - 0 + 1) 0 (goC σ 3 cc) (by omega) (by first | exact hsc3 | exact sc_rf) (by first | exact hHI3 | (simp; exact HI_goC hHI)) (by first | exact hch3 | exact kp_goC _ _ ⟨qc, hqc⟩) (Nat.lt_succ_self _) _ _ Z ls (hl)
