-- ===== end of PART A; then your names; then what follows =====
/-! THE CLAIM OUT OF ONE WALK OF THE LAW'S BODY. Your part is whole_start (and what it stands on); all else here is the same for every law, but numbers. -/
def R_law : String := "WideCellLaw"
def lw_P (b : Addr) (xs : List Int32) (args : Array Value) (s : State) : Prop := args = #[.ref b] ∧ s.IntsAt b xs ∧ xs.length ≤ 3584 ∧ (Jvm.Cond.and given_1 narrow_1).before args s = true
def lw_Q (_ : Array Value) (s : State) (o : Outcome) (t : State) : Prop := o = .returned (some (.int 1)) ∧ Framed s o t [] 601024 7293034
def lw_Z (below : List Frame) (a : Array Value) (s : State) : State → Prop := fun t => ∃ o, t.status = .running ∧ Ended t below o ∧ lw_Q a s o t
/-- the law's own end, with 1 on the stack, nothing written that was there before, its room as the claim has it -/
theorem lw_ret {p : Program} {l : Launch} {e : Env} {s : State} {m : MethodId} {below : List Frame} {meth : Method} {c : Code} {b : Nat} (hx : p.tables.exec = Jvm.exec) (hb : c.code = code) (hr : meth.sig.returnType = ret) (hlocks : meth.locks = false) {pc : Nat} {H : Heap} {ls : Array Slot} (hdg : decode code pc = .ok (.ireturn, 1)) : W p l e room_1 s m #[Value.ref b] below meth c H [] 601024 7293034 (lw_Z below #[Value.ref b] s) (F0 m pc ls [.int 1]) := by
  intro T hT X
  obtain ⟨fs, hret, hrun, hended, hW, hframe⟩ := X.leave (v := some (.int 1)) (hlocks := hlocks) (fun h => by rw [hr] at h; cases h)
  have hmeth' : T.vm.method? m = some meth := X.method'
  refine ⟨T.setFrames fs, ?_, .returned (some (.int 1)), hrun, hended, rfl, ⟨_, rfl⟩, hW, hframe⟩
  jvm_step X.here [X.here.top, hx, hb, hdg, hmeth', hr, ret, narrow_b1]
  (try refine ⟨rfl, ?_⟩); (try refine ⟨rfl, ?_⟩)
  first | (intro acts; rw [hret _ acts rfl rfl rfl]) | rw [hret _ _ rfl rfl rfl]
  exact Steps.refl _
/-- what holds at the law's entry: the machine, the code, the tables' words (any of lw_tbl by 'hts w (by decide +kernel)'), the script of L ints xs at the cell b, what the Statement gives of the start (any of its parts by flat_of_before) -/
def lw_At (p : Program) (s : State) (m : MethodId) (meth : Method) (c : Code) (b L : Nat) (xs : Nat → Int32) : Prop :=
  p.tables.exec = Jvm.exec ∧ c.code = code ∧ meth.sig.returnType = ret ∧ c.maxLocals = 7 ∧ s.vm.findClass R_law = some m.cls ∧ (∀ w ∈ lw_tbl, w.before #[Value.ref b] s = true) ∧ va_X b L xs s s.heap ∧ b < s.heap.size ∧ meth.locks = false ∧ (Jvm.Cond.and given_1 narrow_1).before #[Value.ref b] s = true

/-! the law: its loop, its start -/
section LL
variable {p : Program} {l : Launch} {e : Env} {s : State} {m : MethodId} {args : Array Value} {below : List Frame} {meth : Method} {c : Code} {H : Heap} {locs : List Loc} {cells slots : Nat} {Q : State → Prop}
variable {G : wG} {σ : cS} {μ : mS} {o : Nat → Int64} {pc : Nat} {ls : Array Slot} {rest : List Value} {b L : Nat} {xs : Nat → Int32}

set_option maxHeartbeats 4000000 in
set_option maxRecDepth 100000 in
theorem lc_all (S : CallFix p m c cL_law 7 s args wsL_law RL) (hst : l.stackTraces = false) (Z : wZ G σ μ o s H locs) (hR : RH G σ μ) (hX : va_X b L xs s s.heap) (hbl : b < s.heap.size) (hbA : ¬ gP G b) (hL : L ≤ 3584) {i : Nat} (hi : i + 7 ≤ L) (hc : cells + 4 ≤ 601024) (hs : slots + 34 ≤ 7293034) (hl : lv_has ls 7 [(0, .ref b), (1, .ref (gA G 0)), (2, .ref (gA G 39)), (3, .ref (gA G 53)), (4, .int (nI i))]) (K : ∀ (σ' : cS) (μ' : mS) (o' : Nat → Int64) (H' : Heap) (locs' : List Loc) (ls' : Array Slot), RH G σ' μ' → wZ G σ' μ' o' s H' locs' → lv_has ls' 7 [(0, .ref b), (1, .ref (gA G 0)), (2, .ref (gA G 39)), (3, .ref (gA G 53)), (4, .int (nI i))] → W p l e room_1 s m args below meth c H' locs' (cells + 4) (slots + 34) Q (F0 m 1958 ls' [])) {j : Nat} (hj : j < 32) : W p l e room_1 s m args below meth c H locs cells slots Q (F0 m 40 ls [.int (nI j)]) := by
  by_cases h26 : j < 26
  · rcases (show j = 0 ∨ j = 1 ∨ j = 2 ∨ j = 3 ∨ j = 4 ∨ j = 5 ∨ j = 6 ∨ j = 7 ∨ j = 8 ∨ j = 9 ∨ j = 10 ∨ j = 11 ∨ j = 12 ∨ j = 13 ∨ j = 14 ∨ j = 15 ∨ j = 16 ∨ j = 17 ∨ j = 18 ∨ j = 19 ∨ j = 20 ∨ j = 21 ∨ j = 22 ∨ j = 23 ∨ j = 24 ∨ j = 25 by omega) with rfl | rfl | rfl | rfl | rfl | rfl | rfl | rfl | rfl | rfl | rfl | rfl | rfl | rfl | rfl | rfl | rfl | rfl | rfl | rfl | rfl | rfl | rfl | rfl | rfl | rfl
    · exact r_tswIn S (off := 120) (tgt := 160) (by decide) dL_law_40 (by decide) (by decide) (by decide) (by decide) (lc_0 S hst Z hR hX hbl hbA hL hi hc hs hl K)
    · exact r_tswIn S (off := 238) (tgt := 278) (by decide) dL_law_40 (by decide) (by decide) (by decide) (by decide) (lc_1 S hst Z hR hX hbl hbA hL hi hc hs hl K)
    · exact r_tswIn S (off := 330) (tgt := 370) (by decide) dL_law_40 (by decide) (by decide) (by decide) (by decide) (lc_2 S hst Z hR hX hbl hbA hL hi hc hs hl K)
    · exact r_tswIn S (off := 410) (tgt := 450) (by decide) dL_law_40 (by decide) (by decide) (by decide) (by decide) (lc_3 S hst Z hR hX hbl hbA hL hi hc hs hl K)
    · exact r_tswIn S (off := 490) (tgt := 530) (by decide) dL_law_40 (by decide) (by decide) (by decide) (by decide) (lc_4 S hst Z hR hX hbl hbA hL hi hc hs hl K)
    · exact r_tswIn S (off := 582) (tgt := 622) (by decide) dL_law_40 (by decide) (by decide) (by decide) (by decide) (lc_5 S hst Z hR hX hbl hbA hL hi hc hs hl K)
    · exact r_tswIn S (off := 666) (tgt := 706) (by decide) dL_law_40 (by decide) (by decide) (by decide) (by decide) (lc_6 S hst Z hR hX hbl hbA hL hi hc hs hl K)
    · exact r_tswIn S (off := 722) (tgt := 762) (by decide) dL_law_40 (by decide) (by decide) (by decide) (by decide) (lc_7 S hst Z hR hX hbl hbA hL hi hc hs hl K)
    · exact r_tswIn S (off := 778) (tgt := 818) (by decide) dL_law_40 (by decide) (by decide) (by decide) (by decide) (lc_8 S hst Z hR hX hbl hbA hL hi hc hs hl K)
    · exact r_tswIn S (off := 834) (tgt := 874) (by decide) dL_law_40 (by decide) (by decide) (by decide) (by decide) (lc_9 S hst Z hR hX hbl hbA hL hi hc hs hl K)
    · exact r_tswIn S (off := 926) (tgt := 966) (by decide) dL_law_40 (by decide) (by decide) (by decide) (by decide) (lc_10 S hst Z hR hX hbl hbA hL hi hc hs hl K)
    · exact r_tswIn S (off := 994) (tgt := 1034) (by decide) dL_law_40 (by decide) (by decide) (by decide) (by decide) (lc_11 S hst Z hR hX hbl hbA hL hi hc hs hl K)
    · exact r_tswIn S (off := 1050) (tgt := 1090) (by decide) dL_law_40 (by decide) (by decide) (by decide) (by decide) (lc_12 S hst Z hR hX hbl hbA hL hi hc hs hl K)
    · exact r_tswIn S (off := 1063) (tgt := 1103) (by decide) dL_law_40 (by decide) (by decide) (by decide) (by decide) (lc_13 S hst Z hR hX hbl hbA hL hi hc hs hl K)
    · exact r_tswIn S (off := 1126) (tgt := 1166) (by decide) dL_law_40 (by decide) (by decide) (by decide) (by decide) (lc_14 S hst Z hR hX hbl hbA hL hi hc hs hl K)
    · exact r_tswIn S (off := 1182) (tgt := 1222) (by decide) dL_law_40 (by decide) (by decide) (by decide) (by decide) (lc_15 S hst Z hR hX hbl hbA hL hi hc hs hl K)
    · exact r_tswIn S (off := 1195) (tgt := 1235) (by decide) dL_law_40 (by decide) (by decide) (by decide) (by decide) (lc_16 S hst Z hR hX hbl hbA hL hi hc hs hl K)
    · exact r_tswIn S (off := 1275) (tgt := 1315) (by decide) dL_law_40 (by decide) (by decide) (by decide) (by decide) (lc_17 S hst Z hR hX hbl hbA hL hi hc hs hl K)
    · exact r_tswIn S (off := 1355) (tgt := 1395) (by decide) dL_law_40 (by decide) (by decide) (by decide) (by decide) (lc_18 S hst Z hR hX hbl hbA hL hi hc hs hl K)
    · exact r_tswIn S (off := 1435) (tgt := 1475) (by decide) dL_law_40 (by decide) (by decide) (by decide) (by decide) (lc_19 S hst Z hR hX hbl hbA hL hi hc hs hl K)
    · exact r_tswIn S (off := 1503) (tgt := 1543) (by decide) dL_law_40 (by decide) (by decide) (by decide) (by decide) (lc_20 S hst Z hR hX hbl hbA hL hi hc hs hl K)
    · exact r_tswIn S (off := 1559) (tgt := 1599) (by decide) dL_law_40 (by decide) (by decide) (by decide) (by decide) (lc_21 S hst Z hR hX hbl hbA hL hi hc hs hl K)
    · exact r_tswIn S (off := 1627) (tgt := 1667) (by decide) dL_law_40 (by decide) (by decide) (by decide) (by decide) (lc_22 S hst Z hR hX hbl hbA hL hi hc hs hl K)
    · exact r_tswIn S (off := 1707) (tgt := 1747) (by decide) dL_law_40 (by decide) (by decide) (by decide) (by decide) (lc_23 S hst Z hR hX hbl hbA hL hi hc hs hl K)
    · exact r_tswIn S (off := 1775) (tgt := 1815) (by decide) dL_law_40 (by decide) (by decide) (by decide) (by decide) (lc_24 S hst Z hR hX hbl hbA hL hi hc hs hl K)
    · exact r_tswIn S (off := 1843) (tgt := 1883) (by decide) dL_law_40 (by decide) (by decide) (by decide) (by decide) (lc_25 S hst Z hR hX hbl hbA hL hi hc hs hl K)
  · refine r_tswOut S (tgt := 1958) (by omega) dL_law_40 (by omega) (by decide) ?_
    refine W.widen (k := cells + 4) (n := slots + 34) (by omega) (by omega) ?_
    exact K _ _ _ _ _ _ hR Z hl
end LL
theorem len_7 {L i : Nat} (hL : L ≤ 3584) (hi : i ≤ 3600) (h : ¬ nI L - nI 7 < nI i) : i + 7 ≤ L := by
  rw [fa_lt, pk_sub_toInt (by omega) (by omega), nI_toInt (by omega)] at h
  omega
set_option maxHeartbeats 4000000 in
set_option maxRecDepth 100000 in
theorem law_loop {p : Program} {e : Env} {s : State} {m : MethodId} {below : List Frame} {meth : Method} {c : Code} (l : Launch) (hst : l.stackTraces = false) {b L : Nat} {xs : Nat → Int32} {G : wG} (hG : gN G = s.heap.size) (S : CallFix p m c cL_law 7 s #[Value.ref b] wsL_law RL) (hr : meth.sig.returnType = ret) (hlocks : meth.locks = false) (hX : va_X b L xs s s.heap) (hbl : b < s.heap.size) (hL : L ≤ 3584) :
    ∀ (n k : Nat) (hk : 7 * k ≤ L + 7) (hn : L + 7 - 7 * k < n) (σ : cS) (μ : mS) (o : Nat → Int64) (hR : RH G σ μ) (H : Heap) (locs : List Loc) (Z : wZ G σ μ o s H locs) (ls : Array Slot) (hl : lv_has ls 7 [(0, .ref b), (1, .ref (gA G 0)), (2, .ref (gA G 39)), (3, .ref (gA G 53)), (4, .int (nI (7 * k)))]), W p l e room_1 s m #[Value.ref b] below meth c H locs (54 + 4 * k) (3340 + 34 * k) (lw_Z below #[Value.ref b] s) (F0 m 23 ls []) := by
  have hbA : ¬ gP G b := by
    show ¬ gN G ≤ b
    rw [hG]
    exact Nat.not_le.mpr hbl
  intro n
  induction n with
  | zero => intro k hk hn; omega
  | succ n ih =>
    intro k hk hn σ μ o hR H locs Z ls hl
    refine lv_iload S.1 S.2.1 dL_law_23 (lv_at hl 4 rfl) ?_
    refine lv_aload_n S.1 S.2.1 dL_law_25 rfl (lv_at hl 0 rfl) ?_
    refine va_slen S.1 S.2.1 hX hbl hbA Z.2.2.2.2 dL_law_26 ?_
    refine lv_bipush (v := nI 7) S.1 S.2.1 dL_law_27 (by decide) ?_
    refine lv_isub S.1 S.2.1 dL_law_29 ?_
    refine lv_icmp_gt (tgt := 1964) S.1 S.2.1 dL_law_30 (by decide) (fun _ => ?_) (fun z => ?_)
    · refine lv_iconst (v := 1) S.1 S.2.1 dL_law_1964 (by decide) ?_
      refine va_forget (fun q hq => by have h9 := Z.2.2.2.2.2.2 q hq; rw [← hG]; exact h9) ?_
      refine W.widen (k := 601024) (n := 7293034) (by omega) (by omega) ?_
      exact lw_ret S.1 S.2.1 hr hlocks dL_law_1965
    · have hi : 7 * k + 7 ≤ L := len_7 hL (by omega) z
      refine lv_aload_n S.1 S.2.1 dL_law_33 rfl (lv_at hl 0 rfl) ?_
      refine lv_iload S.1 S.2.1 dL_law_34 (lv_at hl 4 rfl) ?_
      refine r_scr S Z hX hbl hbA hL (by omega) dL_law_36 ?_
      refine lv_bipush (v := nI 31) S.1 S.2.1 dL_law_37 (by decide) ?_
      refine lv_iand S.1 S.2.1 dL_law_39 ?_
      obtain ⟨j, hj, ej⟩ := pk_andE (xs (7 * k)) (m := nI 31) 5 (by decide)
      rw [ej]
      refine lc_all S hst Z hR hX hbl hbA hL hi (by omega) (by omega) hl (fun σ1 μ1 o1 H1 locs1 ls1 hR1 Z1 hl1 => ?_) hj
      refine lv_iinc (v := nI (7 * (k + 1))) (lv' := [(4, .int (nI (7 * (k + 1)))), (0, .ref b), (1, .ref (gA G 0)), (2, .ref (gA G 39)), (3, .ref (gA G 53))]) S.1 S.2.1 dL_law_1958 hl1 (k := 4) rfl (by rw [show 7 * (k + 1) = 7 * k + 7 by omega]; exact nI_add (7 * k) 7) (by decide) rfl (fun ls hl => ?_)
      refine lv_goto (tgt := 23) S.1 S.2.1 dL_law_1961 (by decide) ?_
      have h := ih (k + 1) (by omega) (by omega) σ1 μ1 o1 hR1 H1 locs1 Z1 ls (lv_sub hl [1, 2, 3, 4, 0] rfl)
      rw [show 54 + 4 * (k + 1) = 54 + 4 * k + 4 by omega, show 3340 + 34 * (k + 1) = 3340 + 34 * k + 34 by omega] at h
      exact h
theorem mL_c8 : Cond.classLink RL 8 RX7 ∈ wsL_law := by decide +kernel
theorem mL_iX7 : Cond.instantiable RX7 7 ∈ wsL_law := by decide +kernel
theorem mL_zX7 : Cond.initialized RX7 ∈ wsL_law := by decide +kernel
theorem mL_k95 : Cond.methodLink RL 95 yX7_init ∈ wsL_law := by decide +kernel
theorem mL_nX7 : Cond.instanceMethod yX7_init ∈ wsL_law := by decide +kernel
theorem mL_c96 : Cond.classLink RL 96 RX8 ∈ wsL_law := by decide +kernel
theorem mL_iX8 : Cond.instantiable RX8 19 ∈ wsL_law := by decide +kernel
theorem mL_zX8 : Cond.initialized RX8 ∈ wsL_law := by decide +kernel
theorem mL_k98 : Cond.methodLink RL 98 yX8_init ∈ wsL_law := by decide +kernel
theorem mL_nX8 : Cond.instanceMethod yX8_init ∈ wsL_law := by decide +kernel
theorem mL_lo : Cond.arrayClass .long ∈ wsL_law := by decide +kernel
set_option maxHeartbeats 8000000 in
set_option maxRecDepth 100000 in
/-- YOUR PART: from the entry -/
theorem whole_start {p : Program} {e : Env} {s : State} {m : MethodId} {below : List Frame} {meth : Method} {c : Code} (l : Launch) (hflags : l.flags = flags0) {b L : Nat} {xs : Nat → Int32} (hL : L ≤ 3584) (C0 : lw_At p s m meth c b L xs) : W p l e room_1 s m #[Value.ref b] below meth c s.heap [] 0 0 (lw_Z below #[Value.ref b] s) (entryFrame m ([Value.ref b] : List Value).toArray 7) := by
  obtain ⟨hx, hb, hr, hml, hown, hts, hX, hbl, hlocks, hgv⟩ := id C0
  have hst : l.stackTraces = false := by
    first
      | (unfold Launch.stackTraces; rw [hflags]; decide +kernel)
      | (unfold Launch.stackTraces; rw [hflags]; rfl)
      | simp [Launch.stackTraces, hflags, flags0]
  have S : CallFix p m c cL_law 7 s #[Value.ref b] wsL_law RL := ⟨hx, hb, hml, hown, fun w h => hts w (wsL_law_in w h)⟩
  obtain ⟨D, C, X, hB0⟩ := start_G hts hgv
  obtain ⟨G, hG⟩ : ∃ G : wG, G = (s.heap.size, (fun _ => 0), D, C, X) := ⟨_, rfl⟩
  have Z : yZ G [] s s.heap [] := by
    rw [hG]
    exact ⟨Nat.le_refl _, hB0 _, fun k q h => by simp at h, ⟨fun i j p q h => by simp at h, fun k q h => by simp at h⟩, va_S.rf⟩
  have hl := lv_entry ([.ref b]) (n := 7) (Nat.le_of_ble_eq_true rfl)
  rw [lg_entry_eq]
  generalize (lg_sl ([.ref b]) ++ List.replicate (7 - (lg_sl ([.ref b])).length) Slot.unset).toArray = ls at hl ⊢
  have hl : lv_has ls 7 [(0, .ref b)] := hl
  refine y_newO (C := RX7) (T := TX7) (N := 7) (ci := 7) (fs := [.null, .null, .null, .null, .int 0, .int 0, .int 0]) S Z tyX7 tyX7_ok inlX7 mL_c8 mL_iX7 mL_zX7 rfl (fun j hj => by rcases (show j = 0 ∨ j = 1 ∨ j = 2 ∨ j = 3 ∨ j = 4 ∨ j = 5 ∨ j = 6 by omega) with rfl | rfl | rfl | rfl | rfl | rfl | rfl <;> rfl) (Nat.le_of_ble_eq_true rfl) (Nat.le_of_ble_eq_true rfl) dL_law_0 (fun q0 H Z => ?_)
  have Z : yZ G [(q0, .inr (7, [.null, .null, .null, .null, .int 0, .int 0, .int 0]))] s H [] := Z
  refine lv_dup S.1 S.2.1 dL_law_3 rfl ?_
  have hk9 : ([(q0, .inr (7, [.null, .null, .null, .null, .int 0, .int 0, .int 0]))] : va_W)[0]? = some (q0, .inr (7, [.null, .null, .null, .null, .int 0, .int 0, .int 0])) := rfl
  refine va_callv (va_runI (As := []) (rest := [.ref q0]) S (k_X7_init l G [(q0, .inr (7, [.null, .null, .null, .null, .int 0, .int 0, .int 0]))] q0 0 hk9) (cwI 0 S.2.2.2.2 gL_law_X7_init rfl rfl rfl (S.2.2.2.2 _ mL_zX7) (S.2.2.2.2 _ mL_k95) (S.2.2.2.2 _ mL_nX7) rfl hy_X7_init ⟨Nat.le_of_ble_eq_true rfl, Nat.le_of_ble_eq_true rfl⟩) (yPc_S Z) rfl rfl hl.1 rfl (lv_room (Nat.le_of_ble_eq_true rfl)) dL_law_4 ⟨Nat.le_of_ble_eq_true rfl, Nat.le_of_ble_eq_true rfl⟩) Z.2.2.2.2 (fun _ _ h => h) (fun _ h => h) (fun u9 T9 H1 locs1 hT9 hvm hw hB hz hkk9 hS => ?_)
  obtain ⟨q1, q2, q3, q4, q5, q6, q7, q8, q9, q10, q11, q12, q13, q14, q15, q16, q17, q18, q19, q20, q21, q22, q23, q24, q25, q26, q27, q28, q29, q30, q31, q32, q33, q34, q35, q36, q37, q38, hw9⟩ := hw
  have Z := yZ_call Z hB hT9 hS
  clear hB hT9 hS hkk9 hz hvm T9
  revert Z; generalize H1 = H; generalize locs1 = locs; intro Z
  obtain ⟨w39, e39⟩ : ∃ q : va_W, q = [(q0, .inr (7, [.ref (q1), .ref (q4), .ref (q10), .ref (q35), .int (nI 0), .int (nI 10), .int (nI 0)])), (q1, .inr (4, [.ref (q2), .ref (q3)])), (q2, .inl (gC G 0, 8, .inl (fil (fun _ => 0) (-1) 8))), (q3, .inl (gC G 0, 8, .inl (fil (fun _ => 0) (-1) 8))), (q4, .inr (5, [.ref (q1), .ref (q5), .ref (q6), .ref (q7), .ref (q8), .ref (q9)])), (q5, .inl (gC G 0, 64, .inl (fil (fun _ => 0) (-1) 64))), (q6, .inl (gC G 0, 64, .inl (fun _ => 0))), (q7, .inl (gC G 0, 64, .inl (fun _ => 0))), (q8, .inl (gC G 0, 92, .inl (fil (fun _ => 0) (-1) 92))), (q9, .inl (gC G 0, 92, .inl (fun _ => 0))), (q10, .inl (gC G 2, 3, .inr (.inr (.inr (.inr (va_up (va_up (va_up (fun _ => none) 0 (some q11)) 1 (some q19)) 2 (some q27))))))), (q11, .inr (3, [.ref (q12), .ref (q18), .int (nI 1)])), (q12, .inr (5, [.ref (q1), .ref (q13), .ref (q14), .ref (q15), .ref (q16), .ref (q17)])), (q13, .inl (gC G 0, 64, .inl (fil (fun _ => 0) (-1) 64))), (q14, .inl (gC G 0, 64, .inl (fun _ => 0))), (q15, .inl (gC G 0, 64, .inl (fun _ => 0))), (q16, .inl (gC G 0, 92, .inl (fil (fun _ => 0) (-1) 92))), (q17, .inl (gC G 0, 92, .inl (fun _ => 0))), (q18, .inr (0, [.int (nI 0), .ref (gX G 0), .int 0])), (q19, .inr (3, [.ref (q20), .ref (q26), .int (nI 1)])), (q20, .inr (5, [.ref (q1), .ref (q21), .ref (q22), .ref (q23), .ref (q24), .ref (q25)])), (q21, .inl (gC G 0, 64, .inl (fil (fun _ => 0) (-1) 64))), (q22, .inl (gC G 0, 64, .inl (fun _ => 0))), (q23, .inl (gC G 0, 64, .inl (fun _ => 0))), (q24, .inl (gC G 0, 92, .inl (fil (fun _ => 0) (-1) 92))), (q25, .inl (gC G 0, 92, .inl (fun _ => 0))), (q26, .inr (0, [.int (nI 0), .ref (gX G 0), .int 0])), (q27, .inr (3, [.ref (q28), .ref (q34), .int (nI 1)])), (q28, .inr (5, [.ref (q1), .ref (q29), .ref (q30), .ref (q31), .ref (q32), .ref (q33)])), (q29, .inl (gC G 0, 64, .inl (fil (fun _ => 0) (-1) 64))), (q30, .inl (gC G 0, 64, .inl (fun _ => 0))), (q31, .inl (gC G 0, 64, .inl (fun _ => 0))), (q32, .inl (gC G 0, 92, .inl (fil (fun _ => 0) (-1) 92))), (q33, .inl (gC G 0, 92, .inl (fun _ => 0))), (q34, .inr (0, [.int (nI 0), .ref (gX G 0), .int 0])), (q35, .inr (1, [.ref (q36), .ref (q37), .ref (q38)])), (q36, .inl (gC G 0, 32, .inl (fun _ => 0))), (q37, .inl (gC G 0, 32, .inl (fun _ => 0))), (q38, .inl (gC G 1, 32, .inl (fun _ => 0)))] := ⟨_, rfl⟩
  have Z : yZ G w39 s H locs := by rw [e39]; rw [hw9] at Z; exact Z
  clear hw9
  refine W.widen (k := 39) (n := 1673) (Nat.le_of_ble_eq_true rfl) (Nat.le_of_ble_eq_true rfl) ?_
  refine lv_astore_n (lv' := [(1, .ref q0), (0, .ref b)]) S.1 S.2.1 dL_law_7 rfl hl (by decide) rfl (fun ls hl => ?_)
  refine y_newO (C := RX8) (T := TX8) (N := 19) (ci := 8) (fs := [.null, .null, .null, .null, .null, .int 0, .null, .null, .null, .null, .null, .null, .null, .null, .int 0, .int 0, .int 0, .int 0, .int 0]) S Z tyX8 tyX8_ok inlX8 mL_c96 mL_iX8 mL_zX8 rfl (fun j hj => by rcases (show j = 0 ∨ j = 1 ∨ j = 2 ∨ j = 3 ∨ j = 4 ∨ j = 5 ∨ j = 6 ∨ j = 7 ∨ j = 8 ∨ j = 9 ∨ j = 10 ∨ j = 11 ∨ j = 12 ∨ j = 13 ∨ j = 14 ∨ j = 15 ∨ j = 16 ∨ j = 17 ∨ j = 18 by omega) with rfl | rfl | rfl | rfl | rfl | rfl | rfl | rfl | rfl | rfl | rfl | rfl | rfl | rfl | rfl | rfl | rfl | rfl | rfl <;> rfl) (Nat.le_of_ble_eq_true rfl) (Nat.le_of_ble_eq_true rfl) dL_law_8 (fun a0 H Z => ?_)
  refine lv_dup S.1 S.2.1 dL_law_11 rfl ?_
  have hk9 : (w39 ++ [(a0, .inr (8, [.null, .null, .null, .null, .null, .int 0, .null, .null, .null, .null, .null, .null, .null, .null, .int 0, .int 0, .int 0, .int 0, .int 0]))])[39]? = some (a0, .inr (8, [.null, .null, .null, .null, .null, .int 0, .null, .null, .null, .null, .null, .null, .null, .null, .int 0, .int 0, .int 0, .int 0, .int 0])) := by rw [e39]; rfl
  refine va_callv (va_runI (As := []) (rest := [.ref a0]) S (k_X8_init l G (w39 ++ [(a0, .inr (8, [.null, .null, .null, .null, .null, .int 0, .null, .null, .null, .null, .null, .null, .null, .null, .int 0, .int 0, .int 0, .int 0, .int 0]))]) a0 39 hk9) (cwI 0 S.2.2.2.2 gL_law_X8_init rfl rfl rfl (S.2.2.2.2 _ mL_zX8) (S.2.2.2.2 _ mL_k98) (S.2.2.2.2 _ mL_nX8) rfl hy_X8_init ⟨Nat.le_of_ble_eq_true rfl, Nat.le_of_ble_eq_true rfl⟩) (yPc_S Z) rfl rfl hl.1 rfl (lv_room (Nat.le_of_ble_eq_true rfl)) dL_law_12 ⟨Nat.le_of_ble_eq_true rfl, Nat.le_of_ble_eq_true rfl⟩) Z.2.2.2.2 (fun _ _ h => h) (fun _ h => h) (fun u9 T9 H1 locs1 hT9 hvm hw hB hz hkk9 hS => ?_)
  obtain ⟨a1, a2, a3, a4, a5, a6, a7, a8, a9, a10, a11, a12, a13, hw9⟩ := hw
  have Z := yZ_call Z hB hT9 hS
  clear hB hT9 hS hkk9 hz hvm T9
  revert Z; generalize H1 = H; generalize locs1 = locs; intro Z
  obtain ⟨w53, e53⟩ : ∃ q : va_W, q = [(q0, .inr (7, [.ref (q1), .ref (q4), .ref (q10), .ref (q35), .int (nI 0), .int (nI 10), .int (nI 0)])), (q1, .inr (4, [.ref (q2), .ref (q3)])), (q2, .inl (gC G 0, 8, .inl (fil (fun _ => 0) (-1) 8))), (q3, .inl (gC G 0, 8, .inl (fil (fun _ => 0) (-1) 8))), (q4, .inr (5, [.ref (q1), .ref (q5), .ref (q6), .ref (q7), .ref (q8), .ref (q9)])), (q5, .inl (gC G 0, 64, .inl (fil (fun _ => 0) (-1) 64))), (q6, .inl (gC G 0, 64, .inl (fun _ => 0))), (q7, .inl (gC G 0, 64, .inl (fun _ => 0))), (q8, .inl (gC G 0, 92, .inl (fil (fun _ => 0) (-1) 92))), (q9, .inl (gC G 0, 92, .inl (fun _ => 0))), (q10, .inl (gC G 2, 3, .inr (.inr (.inr (.inr (va_up (va_up (va_up (fun _ => none) 0 (some q11)) 1 (some q19)) 2 (some q27))))))), (q11, .inr (3, [.ref (q12), .ref (q18), .int (nI 1)])), (q12, .inr (5, [.ref (q1), .ref (q13), .ref (q14), .ref (q15), .ref (q16), .ref (q17)])), (q13, .inl (gC G 0, 64, .inl (fil (fun _ => 0) (-1) 64))), (q14, .inl (gC G 0, 64, .inl (fun _ => 0))), (q15, .inl (gC G 0, 64, .inl (fun _ => 0))), (q16, .inl (gC G 0, 92, .inl (fil (fun _ => 0) (-1) 92))), (q17, .inl (gC G 0, 92, .inl (fun _ => 0))), (q18, .inr (0, [.int (nI 0), .ref (gX G 0), .int 0])), (q19, .inr (3, [.ref (q20), .ref (q26), .int (nI 1)])), (q20, .inr (5, [.ref (q1), .ref (q21), .ref (q22), .ref (q23), .ref (q24), .ref (q25)])), (q21, .inl (gC G 0, 64, .inl (fil (fun _ => 0) (-1) 64))), (q22, .inl (gC G 0, 64, .inl (fun _ => 0))), (q23, .inl (gC G 0, 64, .inl (fun _ => 0))), (q24, .inl (gC G 0, 92, .inl (fil (fun _ => 0) (-1) 92))), (q25, .inl (gC G 0, 92, .inl (fun _ => 0))), (q26, .inr (0, [.int (nI 0), .ref (gX G 0), .int 0])), (q27, .inr (3, [.ref (q28), .ref (q34), .int (nI 1)])), (q28, .inr (5, [.ref (q1), .ref (q29), .ref (q30), .ref (q31), .ref (q32), .ref (q33)])), (q29, .inl (gC G 0, 64, .inl (fil (fun _ => 0) (-1) 64))), (q30, .inl (gC G 0, 64, .inl (fun _ => 0))), (q31, .inl (gC G 0, 64, .inl (fun _ => 0))), (q32, .inl (gC G 0, 92, .inl (fil (fun _ => 0) (-1) 92))), (q33, .inl (gC G 0, 92, .inl (fun _ => 0))), (q34, .inr (0, [.int (nI 0), .ref (gX G 0), .int 0])), (q35, .inr (1, [.ref (q36), .ref (q37), .ref (q38)])), (q36, .inl (gC G 0, 32, .inl (fun _ => 0))), (q37, .inl (gC G 0, 32, .inl (fun _ => 0))), (q38, .inl (gC G 1, 32, .inl (fun _ => 0))), (a0, .inr (8, [.ref (a1), .ref (a2), .ref (a3), .ref (a4), .ref (a5), .int 0, .ref (a6), .ref (a7), .ref (a8), .ref (a9), .ref (a10), .ref (a11), .ref (a12), .ref (a13), .int 0, .int (nI 10), .int 0, .int 0, .int 0])), (a1, .inl (gC G 0, 256, .inl (fil (fun _ => 0) (-1) 256))), (a2, .inl (gC G 0, 256, .inl (fun _ => 0))), (a3, .inl (gC G 0, 256, .inl (fun _ => 0))), (a4, .inl (gC G 0, 368, .inl (fil (fun _ => 0) (-1) 368))), (a5, .inl (gC G 0, 368, .inl (fun _ => 0))), (a6, .inl (gC G 0, 8, .inl (fun _ => 0))), (a7, .inl (gC G 0, 8, .inl (fun _ => 0))), (a8, .inl (gC G 1, 4, .inl (fil (fun _ => 0) (nI 1) 4))), (a9, .inl (gC G 0, 3, .inl (fun _ => 0))), (a10, .inl (gC G 0, 30, .inl (fun _ => 0))), (a11, .inl (gC G 0, 30, .inl (fun _ => 0))), (a12, .inl (gC G 0, 30, .inl (fun _ => 0))), (a13, .inl (gC G 0, 30, .inl (fun _ => 0)))] := ⟨_, rfl⟩
  have Z : yZ G w53 s H locs := by rw [e53]; rw [hw9, e39] at Z; exact Z
  clear hw9
  refine W.widen (k := 53) (n := 3339) (Nat.le_of_ble_eq_true rfl) (Nat.le_of_ble_eq_true rfl) ?_
  refine lv_astore_n (lv' := [(2, .ref a0), (1, .ref q0), (0, .ref b)]) S.1 S.2.1 dL_law_15 rfl hl (by decide) rfl (fun ls hl => ?_)
  refine lv_iconst (v := nI 1) S.1 S.2.1 dL_law_16 (by decide) ?_
  refine y_newJ S Z mL_lo (Nat.le_of_ble_eq_true rfl) (Nat.le_of_ble_eq_true rfl) dL_law_17 (fun z0 H Z => ?_)
  obtain ⟨G1, hG1⟩ : ∃ G1 : wG, G1 = (s.heap.size, (fun k => ([q0, q1, q2, q3, q10, q35, q36, q37, q38, q11, q19, q27, q18, q26, q34, q12, q13, q14, q15, q16, q17, q20, q21, q22, q23, q24, q25, q28, q29, q30, q31, q32, q33, q4, q5, q6, q7, q8, q9, a0, a1, a2, a3, a4, a5, a6, a7, a8, a9, a10, a11, a12, a13, z0] : List Nat).getD k 0), D, C, X) := ⟨_, rfl⟩
  have Z : yZ G1 (l54 G1) s H locs := by
    rw [e53, hG] at Z
    rw [← nI_0] at Z
    rw [hG1]
    exact Z
  have Z := st_Z Z
  refine W.widen (k := 54) (n := 3340) (Nat.le_of_ble_eq_true rfl) (Nat.le_of_ble_eq_true rfl) ?_
  refine lv_astore_n (lv' := [(3, .ref z0), (2, .ref a0), (1, .ref q0), (0, .ref b)]) S.1 S.2.1 dL_law_19 rfl hl (by decide) rfl (fun ls hl => ?_)
  refine lv_iconst (v := nI 0) S.1 S.2.1 dL_law_20 (by decide) ?_
  refine lv_istore (lv' := [(4, .int (nI 0)), (3, .ref z0), (2, .ref a0), (1, .ref q0), (0, .ref b)]) S.1 S.2.1 dL_law_21 hl (by decide) rfl (fun ls hl => ?_)
  have g0 : gA G1 0 = q0 := by rw [hG1]; rfl
  have g1 : gA G1 39 = a0 := by rw [hG1]; rfl
  have g2 : gA G1 53 = z0 := by rw [hG1]; rfl
  have hl := lv_sub hl [4, 3, 2, 1, 0] rfl
  rw [← g0, ← g1, ← g2] at hl
  exact law_loop l hst (by rw [hG1]) S hr hlocks hX hbl hL (L + 8) 0 (by omega) (by omega) (c0 G1) m0 (fun _ => 0) RH_0 H locs Z ls hl

