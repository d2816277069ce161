/-! THE CLAIM OUT OF ONE WALK OF THE LAW'S BODY. Your part is whole_start (and what it stands on); all else here is the same for every law, but numbers. -/
def R_law : String := "WideCellLaw"
def lw_P (b : Addr) (xs : List Int32) (args : Array Value) (s : State) : Prop := args = #[.ref b] ∧ s.IntsAt b xs ∧ xs.length ≤ 260 ∧ (Jvm.Cond.and given_1 narrow_1).before args s = true
def lw_Q (_ : Array Value) (s : State) (o : Outcome) (t : State) : Prop := o = .returned (some (.int 1)) ∧ Framed s o t [] 600074 7301550
def lw_Z (below : List Frame) (a : Array Value) (s : State) : State → Prop := fun t => ∃ o, t.status = .running ∧ Ended t below o ∧ lw_Q a s o t
/-- the law's own end, with 1 on the stack, nothing written that was there before, its room as the claim has it -/
theorem lw_ret {p : Program} {l : Launch} {e : Env} {s : State} {m : MethodId} {below : List Frame} {meth : Method} {c : Code} {b : Nat} (hx : p.tables.exec = Jvm.exec) (hb : c.code = code) (hr : meth.sig.returnType = ret) (hlocks : meth.locks = false) {pc : Nat} {H : Heap} {ls : Array Slot} (hdg : decode code pc = .ok (.ireturn, 1)) : W p l e room_1 s m #[Value.ref b] below meth c H [] 600074 7301550 (lw_Z below #[Value.ref b] s) (F0 m pc ls [.int 1]) := by
  intro T hT X
  obtain ⟨fs, hret, hrun, hended, hW, hframe⟩ := X.leave (v := some (.int 1)) (hlocks := hlocks) (fun h => by rw [hr] at h; cases h)
  have hmeth' : T.vm.method? m = some meth := X.method'
  refine ⟨T.setFrames fs, ?_, .returned (some (.int 1)), hrun, hended, rfl, ⟨_, rfl⟩, hW, hframe⟩
  jvm_step X.here [X.here.top, hx, hb, hdg, hmeth', hr, ret, narrow_b1]
  (try refine ⟨rfl, ?_⟩); (try refine ⟨rfl, ?_⟩)
  first | (intro acts; rw [hret _ acts rfl rfl rfl]) | rw [hret _ _ rfl rfl rfl]
  exact Steps.refl _
/-- what holds at the law's entry: the machine, the code, the tables' words (any of lw_tbl by 'hts w (by decide +kernel)'), the script of L ints xs at the cell b, what the Statement gives of the start (any of its parts by flat_of_before) -/
def lw_At (p : Program) (s : State) (m : MethodId) (meth : Method) (c : Code) (b L : Nat) (xs : Nat → Int32) : Prop :=
  p.tables.exec = Jvm.exec ∧ c.code = code ∧ meth.sig.returnType = ret ∧ c.maxLocals = 1 ∧ s.vm.findClass R_law = some m.cls ∧ (∀ w ∈ lw_tbl, w.before #[Value.ref b] s = true) ∧ va_X b L xs s s.heap ∧ b < s.heap.size ∧ meth.locks = false ∧ (Jvm.Cond.and given_1 narrow_1).before #[Value.ref b] s = true
set_option maxHeartbeats 8000000 in
set_option maxRecDepth 100000 in
theorem whole_start {p : Program} {e : Env} {s : State} {m : MethodId} {below : List Frame} {meth : Method} {c : Code} (l : Launch) (hflags : l.flags = flags0) {b L : Nat} {xs : Nat → Int32} (hL : L ≤ 260) (C0 : lw_At p s m meth c b L xs) : W p l e room_1 s m #[Value.ref b] below meth c s.heap [] 0 0 (lw_Z below #[Value.ref b] s) (entryFrame m ([Value.ref b] : List Value).toArray 1) := by
  obtain ⟨hx, hb, hr, hml, hown, hts, hX, hbl, hlocks, hgv⟩ := id C0
  have hst : l.stackTraces = false := by
    first
      | (unfold Launch.stackTraces; rw [hflags]; decide +kernel)
      | (unfold Launch.stackTraces; rw [hflags]; rfl)
      | simp [Launch.stackTraces, hflags, flags0]
  have S : CallFix p m c cL_law 1 s #[Value.ref b] wsL_law RL := ⟨hx, hb, hml, hown, fun w h => hts w (wsL_law_in w h)⟩
  obtain ⟨D, C, X, hB0⟩ := start_G hts hgv
  obtain ⟨G, hG0⟩ : ∃ G : wG, G = (s.heap.size, (fun _ => 0), D, C, X) := ⟨_, rfl⟩
  have hG : gN G = s.heap.size := by rw [hG0]
  have Z : yZ G [] s s.heap [] := by
    rw [hG0]
    exact ⟨Nat.le_refl _, hB0 _, fun k q h => by simp at h, ⟨fun i j p q h => by simp at h, fun k q h => by simp at h⟩, va_S.rf⟩
  have hbN : b < gN G := by rw [hG]; exact hbl
  have hbA : ¬ gP G b := Nat.not_le.mpr hbN
  have hl := lv_entry ([.ref b]) (n := 1) (Nat.le_of_ble_eq_true rfl)
  rw [lg_entry_eq]
  generalize (lg_sl ([.ref b]) ++ List.replicate (1 - (lg_sl ([.ref b])).length) Slot.unset).toArray = ls at hl ⊢
  have hl : lv_has ls 1 [(0, .ref b)] := hl
  refine lv_aload_n S.1 S.2.1 dL_law_0 rfl (lv_at hl 0 rfl) ?_
  refine lv_iconst (v := nI 0) S.1 S.2.1 dL_law_1 (by decide) ?_
  refine lv_iconst (v := bi true) S.1 S.2.1 dL_law_2 (by decide) ?_
  refine va_calli (va_runS (As := [.ref b, .int (nI 0), .int (bi true)]) (rest := []) S (k_L_table l hst G b L xs 0 true hL (by decide) hbN) (va_cwS 3 S.2.2.2.2 gL_law_L_table rfl rfl rfl hy_L_table ⟨Nat.le_of_ble_eq_true rfl, Nat.le_of_ble_eq_true rfl⟩) (tPc_S Z hX hbl hbA) rfl rfl hl.1 rfl (lv_room (Nat.le_of_ble_eq_true rfl)) dL_law_3 ⟨Nat.le_of_ble_eq_true rfl, Nat.le_of_ble_eq_true rfl⟩) Z.2.2.2.2 (fun _ _ h => h) (fun _ h => h) (fun r9 u9 T9 H1 locs1 hT9 hvm hw hB hz hk9 hS => ?_)
  rw [show r9 = nI 1 from hw]
  have Z := yZ_nil Z hS
  clear hB hT9 hS hk9 hz hvm hw u9 T9 r9
  revert Z; generalize H1 = H; generalize locs1 = locs; intro Z
  refine W.widen (k := 260) (n := 10130) (Nat.le_of_ble_eq_true rfl) (Nat.le_of_ble_eq_true rfl) ?_
  refine r_if_eqN S (tgt := 46) (by decide) dL_law_6 (by decide) (fun c_9 => absurd c_9 (by decide)) (fun _ => ?_)
  refine lv_aload_n S.1 S.2.1 dL_law_9 rfl (lv_at hl 0 rfl) ?_
  refine lv_sipush (v := nI 135) S.1 S.2.1 dL_law_10 (by decide) ?_
  refine lv_iconst (v := bi false) S.1 S.2.1 dL_law_13 (by decide) ?_
  refine va_calli (va_runS (As := [.ref b, .int (nI 135), .int (bi false)]) (rest := []) S (k_L_table l hst G b L xs 135 false hL (by decide) hbN) (va_cwS 3 S.2.2.2.2 gL_law_L_table rfl rfl rfl hy_L_table ⟨Nat.le_of_ble_eq_true rfl, Nat.le_of_ble_eq_true rfl⟩) (tPc_S Z hX hbl hbA) rfl rfl hl.1 rfl (lv_room (Nat.le_of_ble_eq_true rfl)) dL_law_14 ⟨Nat.le_of_ble_eq_true rfl, Nat.le_of_ble_eq_true rfl⟩) Z.2.2.2.2 (fun _ _ h => h) (fun _ h => h) (fun r9 u9 T9 H1 locs1 hT9 hvm hw hB hz hk9 hS => ?_)
  rw [show r9 = nI 1 from hw]
  have Z := yZ_nil Z hS
  clear hB hT9 hS hk9 hz hvm hw u9 T9 r9
  revert Z; generalize H1 = H; generalize locs1 = locs; intro Z
  refine W.widen (k := 520) (n := 20260) (Nat.le_of_ble_eq_true rfl) (Nat.le_of_ble_eq_true rfl) ?_
  refine r_if_eqN S (tgt := 46) (by decide) dL_law_17 (by decide) (fun c_9 => absurd c_9 (by decide)) (fun _ => ?_)
  refine lv_aload_n S.1 S.2.1 dL_law_20 rfl (lv_at hl 0 rfl) ?_
  refine lv_sipush (v := nI 270) S.1 S.2.1 dL_law_21 (by decide) ?_
  refine lv_iconst (v := bi true) S.1 S.2.1 dL_law_24 (by decide) ?_
  refine va_calli (va_runS (As := [.ref b, .int (nI 270), .int (bi true)]) (rest := []) S (k_L_table l hst G b L xs 270 true hL (by decide) hbN) (va_cwS 3 S.2.2.2.2 gL_law_L_table rfl rfl rfl hy_L_table ⟨Nat.le_of_ble_eq_true rfl, Nat.le_of_ble_eq_true rfl⟩) (tPc_S Z hX hbl hbA) rfl rfl hl.1 rfl (lv_room (Nat.le_of_ble_eq_true rfl)) dL_law_25 ⟨Nat.le_of_ble_eq_true rfl, Nat.le_of_ble_eq_true rfl⟩) Z.2.2.2.2 (fun _ _ h => h) (fun _ h => h) (fun r9 u9 T9 H1 locs1 hT9 hvm hw hB hz hk9 hS => ?_)
  rw [show r9 = nI 1 from hw]
  have Z := yZ_nil Z hS
  clear hB hT9 hS hk9 hz hvm hw u9 T9 r9
  revert Z; generalize H1 = H; generalize locs1 = locs; intro Z
  refine W.widen (k := 780) (n := 30390) (Nat.le_of_ble_eq_true rfl) (Nat.le_of_ble_eq_true rfl) ?_
  refine r_if_eqN S (tgt := 46) (by decide) dL_law_28 (by decide) (fun c_9 => absurd c_9 (by decide)) (fun _ => ?_)
  refine lv_aload_n S.1 S.2.1 dL_law_31 rfl (lv_at hl 0 rfl) ?_
  refine lv_sipush (v := nI 405) S.1 S.2.1 dL_law_32 (by decide) ?_
  refine lv_iconst (v := bi false) S.1 S.2.1 dL_law_35 (by decide) ?_
  refine va_calli (va_runS (As := [.ref b, .int (nI 405), .int (bi false)]) (rest := []) S (k_L_table l hst G b L xs 405 false hL (by decide) hbN) (va_cwS 3 S.2.2.2.2 gL_law_L_table rfl rfl rfl hy_L_table ⟨Nat.le_of_ble_eq_true rfl, Nat.le_of_ble_eq_true rfl⟩) (tPc_S Z hX hbl hbA) rfl rfl hl.1 rfl (lv_room (Nat.le_of_ble_eq_true rfl)) dL_law_36 ⟨Nat.le_of_ble_eq_true rfl, Nat.le_of_ble_eq_true rfl⟩) Z.2.2.2.2 (fun _ _ h => h) (fun _ h => h) (fun r9 u9 T9 H1 locs1 hT9 hvm hw hB hz hk9 hS => ?_)
  rw [show r9 = nI 1 from hw]
  have Z := yZ_nil Z hS
  clear hB hT9 hS hk9 hz hvm hw u9 T9 r9
  revert Z; generalize H1 = H; generalize locs1 = locs; intro Z
  refine W.widen (k := 1040) (n := 40520) (Nat.le_of_ble_eq_true rfl) (Nat.le_of_ble_eq_true rfl) ?_
  refine r_if_eqN S (tgt := 46) (by decide) dL_law_39 (by decide) (fun c_9 => absurd c_9 (by decide)) (fun _ => ?_)
  refine lv_iconst (v := nI 1) S.1 S.2.1 dL_law_42 (by decide) ?_
  refine lv_goto (tgt := 47) S.1 S.2.1 dL_law_43 (by decide) ?_
  refine va_forget (fun q hq => by have h9 := Z.2.2.2.2.2.2 q hq; rw [← hG]; exact h9) ?_
  refine W.widen (k := 600074) (n := 7301550) (Nat.le_of_ble_eq_true rfl) (Nat.le_of_ble_eq_true rfl) ?_
  exact lw_ret S.1 S.2.1 hr hlocks dL_law_47
