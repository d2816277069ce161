abbrev rm_k_X7_cleanS : Room := rm_k_X7_clean
theorem k_X7_cleanS (l : Launch) (G : wG) (σ : cS) (μ : mS) (o : Nat → Int64) (i : Nat) (ns : cS) (nn : Nat) (hi : i < 3) (hu : cU σ i = true) (e1 : (des (dts (dcs σ i 64).1 i (cV (dcs σ i 64).1 4 - cV (dcs σ i 64).1 5) 92).1 i (cV (dts (dcs σ i 64).1 i (cV (dcs σ i 64).1 4 - cV (dcs σ i 64).1 5) 92).1 4 - cV (dts (dcs σ i 64).1 i (cV (dcs σ i 64).1 4 - cV (dcs σ i 64).1 5) 92).1 5) 64).1 = ns) (e2 : (dcs σ i 64).2 + (dts (dcs σ i 64).1 i (cV (dcs σ i 64).1 4 - cV (dcs σ i 64).1 5) 92).2 + (des (dts (dcs σ i 64).1 i (cV (dcs σ i 64).1 4 - cV (dcs σ i 64).1 5) 92).1 i (cV (dts (dcs σ i 64).1 i (cV (dcs σ i 64).1 4 - cV (dcs σ i 64).1 5) 92).1 4 - cV (dts (dcs σ i 64).1 i (cV (dcs σ i 64).1 4 - cV (dcs σ i 64).1 5) 92).1 5) 64).2 = nn) : Met l yX7_clean wsX7_clean rm_k_X7_clean (wPc G σ μ o [.ref (gA G 0), .int (nI i)]) (va_Qi (fun (rr : Int32) (u : cS × mS) => rr = nI nn ∧ u = (ns, μ)) (fun u t => wI G u.1 u.2 o t) (gP G)) 0 0 (gP G) := by
  subst e1 e2
  exact k_X7_clean l G σ μ o i hi hu

set_option maxHeartbeats 4000000 in
set_option maxRecDepth 100000 in
theorem kL_cleanS (l : Launch) (hst : l.stackTraces = false) (G : wG) (σ : cS) (μ : mS) (o : Nat → Int64) (i : Nat) (ns : cS) (nn : Nat) (MS : mS) (MR : Int32) (hi : i < 3) (hu : cU σ i = true) (e1 : (des (dts (dcs σ i 64).1 i (cV (dcs σ i 64).1 4 - cV (dcs σ i 64).1 5) 92).1 i (cV (dts (dcs σ i 64).1 i (cV (dcs σ i 64).1 4 - cV (dcs σ i 64).1 5) 92).1 4 - cV (dts (dcs σ i 64).1 i (cV (dcs σ i 64).1 4 - cV (dcs σ i 64).1 5) 92).1 5) 64).1 = ns) (e2 : (dcs σ i 64).2 + (dts (dcs σ i 64).1 i (cV (dcs σ i 64).1 4 - cV (dcs σ i 64).1 5) 92).2 + (des (dts (dcs σ i 64).1 i (cV (dcs σ i 64).1 4 - cV (dcs σ i 64).1 5) 92).1 i (cV (dts (dcs σ i 64).1 i (cV (dcs σ i 64).1 4 - cV (dcs σ i 64).1 5) 92).1 4 - cV (dts (dcs σ i 64).1 i (cV (dcs σ i 64).1 4 - cV (dcs σ i 64).1 5) 92).1 5) 64).2 = nn) (hpost : LQ G μ MS MR (nI 0) (ns, μ, vp_updL o 0 (nI (nn)).toInt64)) : Met l yL_clean wsL_clean rmL (wPc G σ μ o [.ref (gA G 0), .int (nI i), .ref (gA G 53)]) (QLP G μ MS MR) 4 34 (gP G) := by
  refine m_ofWH (hh := [(0, 9, 12, 13), (0, 9, 15, 31)]) (cc := cL_clean) (maxL := 4) (ret := (some .int)) (by decide) rfl ?_
  intro p e s m args below meth c s₁ B hml htab hv
  obtain ⟨hargs, hI⟩ := hv
  have S : CallFix p m c cL_clean 4 s args wsL_clean RL := ⟨B.exec, B.bytes, hml, findClass_of_methodNamed B.named, atoms_spec (ws := wsL_clean) B.pre⟩
  have hret := B.returns
  have hlocks := B.notSynchronized
  have Z := wZ_0 hI
  clear hI
  obtain ⟨Q, hQ⟩ : ∃ Q, Q = MQ below (QLP G μ MS MR) args s 4 34 (gP G) := ⟨_, rfl⟩
  rw [← hQ]
  have hl := lv_entry [.ref (gA G 0), .int (nI i), .ref (gA G 53)] (n := 4) (Nat.le_of_ble_eq_true rfl)
  rw [show entryFrame m args 4 = entryFrame m ([.ref (gA G 0), .int (nI i), .ref (gA G 53)] : List Value).toArray 4 from by rw [hargs], lg_entry_eq]
  generalize (lg_sl [.ref (gA G 0), .int (nI i), .ref (gA G 53)] ++ List.replicate (4 - (lg_sl [.ref (gA G 0), .int (nI i), .ref (gA G 53)]).length) Slot.unset).toArray = ls at hl ⊢
  have hl : lv_has ls 4 [(0, .ref (gA G 0)), (1, .int (nI i)), (2, .ref (gA G 53))] := hl
  refine lv_aload_n S.1 S.2.1 dL_clean_0 rfl (lv_at hl 2 rfl) ?_
  refine lv_iconst (v := nI 0) S.1 S.2.1 dL_clean_1 (by decide) ?_
  refine lv_aload_n S.1 S.2.1 dL_clean_2 rfl (lv_at hl 0 rfl) ?_
  refine lv_iload_n S.1 S.2.1 dL_clean_3 rfl (lv_at hl 1 rfl) ?_
  refine va_calli (va_runV (As := [.int (nI i)]) (rest := [.int (nI 0), .ref (gA G 53)]) S (k_X7_cleanS l G σ μ o i ns nn hi hu e1 e2) (cwV 1 S.2.2.2.2 gL_clean_X7_clean rfl rfl rfl ⟨rfl, hy_X7_clean⟩ ⟨Nat.le_of_ble_eq_true rfl, Nat.le_of_ble_eq_true rfl⟩) (wPc_V (q := (RX7, TX7, 7)) Z (by decide) rfl rfl) rfl rfl hl.1 rfl (lv_room (Nat.le_of_ble_eq_true rfl)) dL_clean_4 ⟨Nat.le_of_ble_eq_true rfl, Nat.le_of_ble_eq_true rfl⟩) Z.2.2.2.2 (fun _ _ h => h) (fun _ h => h) (fun r_1 u_2 T9 H1 locs1 hT9 hvm hw hB hz hk9 hS => ?_)
  obtain ⟨hr9, rfl⟩ := hw
  rw [hr9]; clear hr9 r_1
  have Z : wZ G (ns) (μ) o s H1 locs1 := wZ_callP Z hB hT9 hS
  clear hB hT9 hS hk9 hz hvm T9
  revert Z; generalize H1 = H; generalize locs1 = locs; intro Z
  refine W.widen (k := 0) (n := 0) (by first | decide | omega) (by first | decide | omega) ?_
  refine lv_i2l (v := (nI nn).toInt64) S.1 S.2.1 dL_clean_7 rfl ?_
  refine r_last S Z dL_clean_8 (fun H locs Z => ?_)
  refine lv_goto (tgt := 18) S.1 S.2.1 dL_clean_9 (by decide) ?_
  refine lv_iconst (v := nI 0) S.1 S.2.1 dL_clean_18 (by decide) ?_
  have e9 : vp_updL o 0 ((nI nn).toInt64) = vp_updL o 0 (nI (nn)).toInt64 := by first | rfl | (simp only []; rfl)
  rw [e9] at Z
  refine W.widen (k := 4) (n := 34) (by decide) (by decide) ?_
  rw [hQ]
  exact W.iret (v := nI 0) S.1 S.2.1 hret (fun _ hT9 hW => ⟨⟨_, (ns, μ, vp_updL o 0 (nI (nn)).toInt64), rfl, hpost, wZ_I Z hT9 hW⟩, Z.2.2.2.2.F hT9⟩) Z.2.2.2.2.2.2 dL_clean_19
