/-! rows of the law's own walk -/
section LRO
variable {p : Program} {l : Launch} {e : Env} {s : State} {m : MethodId} {args : Array Value} {below : List Frame} {meth : Method} {c : Code} {H : Heap} {locs : List Loc} {cells slots : Nat} {Q : State → Prop}
variable {G : wG} {σ : cS} {μ : mS} {o : Nat → Int64} {pc : Nat} {ls : Array Slot} {rest : List Value} {b L : Nat} {xs : Nat → Int32}

theorem r_scr (S : CallFix p m c cL_law 7 s args wsL_law RL) (Z : wZ G σ μ o s H locs) (hX : va_X b L xs s s.heap) (hbl : b < s.heap.size) (hbA : ¬ gP G b) (hL : L ≤ 3584) {j : Nat} (hj : j < L) (hdg : decode cL_law pc = .ok (.iaload, 1)) (kk : W p l e room_1 s m args below meth c H locs cells slots Q (F0 m (pc + 1) ls (.int (xs j) :: rest))) : W p l e room_1 s m args below meth c H locs cells slots Q (F0 m pc ls (.int (nI j) :: .ref b :: rest)) := by
  refine va_sld S.1 S.2.1 hX hbl hbA Z.2.2.2.2 (vp_in_nI hj (by omega)) hdg ?_
  rw [nI_clamp (by omega)]
  exact kk
theorem r_arg (S : CallFix p m c cL_law 7 s args wsL_law RL) (Z : wZ G σ μ o s H locs) (hX : va_X b L xs s s.heap) (hbl : b < s.heap.size) (hbA : ¬ gP G b) (hL : L ≤ 3584) {lv : List (Nat × Value)} (hl : lv_has ls 7 lv) {k0 k4 i k : Nat} (e0 : lv[k0]? = some (0, .ref b)) (e4 : lv[k4]? = some (4, .int (nI i))) (hj : i + k < L) (g1 : decode cL_law pc = .ok (.aload_n 0, 1)) (g2 : decode cL_law (pc + 1) = .ok (.iload 4, 2)) {v : Int} (hk : Int32.ofInt v = nI k) (g3 : decode cL_law (pc + 3) = .ok (.iconst v, 1)) (g4 : decode cL_law (pc + 4) = .ok (.iadd, 1)) (g5 : decode cL_law (pc + 5) = .ok (.iaload, 1))
    (kk : W p l e room_1 s m args below meth c H locs cells slots Q (F0 m (pc + 6) ls (.int (xs (i + k)) :: rest))) : W p l e room_1 s m args below meth c H locs cells slots Q (F0 m pc ls rest) := by
  refine lv_aload_n S.1 S.2.1 g1 rfl (lv_at hl k0 e0) ?_
  refine lv_iload S.1 S.2.1 g2 (lv_at hl k4 e4) ?_
  refine lv_iconst (v := nI k) S.1 S.2.1 g3 hk ?_
  refine r_addN S g4 ?_
  exact r_scr S Z hX hbl hbA hL hj g5 kk
theorem r_arg6 (S : CallFix p m c cL_law 7 s args wsL_law RL) (Z : wZ G σ μ o s H locs) (hX : va_X b L xs s s.heap) (hbl : b < s.heap.size) (hbA : ¬ gP G b) (hL : L ≤ 3584) {lv : List (Nat × Value)} (hl : lv_has ls 7 lv) {k0 k4 i k : Nat} (e0 : lv[k0]? = some (0, .ref b)) (e4 : lv[k4]? = some (4, .int (nI i))) (hj : i + k < L) (g1 : decode cL_law pc = .ok (.aload_n 0, 1)) (g2 : decode cL_law (pc + 1) = .ok (.iload 4, 2)) {v : Int} (hk : (Int8.ofInt v).toInt32 = nI k) (g3 : decode cL_law (pc + 3) = .ok (.bipush v, 2)) (g4 : decode cL_law (pc + 5) = .ok (.iadd, 1)) (g5 : decode cL_law (pc + 6) = .ok (.iaload, 1))
    (kk : W p l e room_1 s m args below meth c H locs cells slots Q (F0 m (pc + 7) ls (.int (xs (i + k)) :: rest))) : W p l e room_1 s m args below meth c H locs cells slots Q (F0 m pc ls rest) := by
  refine lv_aload_n S.1 S.2.1 g1 rfl (lv_at hl k0 e0) ?_
  refine lv_iload S.1 S.2.1 g2 (lv_at hl k4 e4) ?_
  refine lv_bipush (v := nI k) S.1 S.2.1 g3 hk ?_
  refine r_addN S g4 ?_
  exact r_scr S Z hX hbl hbA hL hj g5 kk
theorem r_toB (S : CallFix p m c cL_law 7 s args wsL_law RL) {x : Int32} (g1 : decode cL_law pc = .ok (.ifCond .eq 7, 3)) (g2 : decode cL_law (pc + 3) = .ok (.iconst 1, 1)) (g3 : decode cL_law (pc + 4) = .ok (.goto 4, 3)) (g4 : decode cL_law (pc + 7) = .ok (.iconst 0, 1))
    (kk : W p l e room_1 s m args below meth c H locs cells slots Q (F0 m (pc + 8) ls (.int (bi (decide (x ≠ 0))) :: rest))) : W p l e room_1 s m args below meth c H locs cells slots Q (F0 m pc ls (.int x :: rest)) := by
  refine lv_if_eq (tgt := pc + 7) S.1 S.2.1 g1 (by omega) (fun z => ?_) (fun z => ?_)
  · refine lv_iconst (v := nI 0) S.1 S.2.1 g4 (by decide) ?_
    rw [show bi (decide (x ≠ 0)) = nI 0 from by rw [decide_eq_false (fun h => h z)]; rfl] at kk
    exact kk
  · refine lv_iconst (v := nI 1) S.1 S.2.1 g2 (by decide) ?_
    refine lv_goto (tgt := pc + 8) S.1 S.2.1 g3 (by omega) ?_
    rw [show bi (decide (x ≠ 0)) = nI 1 from by rw [decide_eq_true z]; rfl] at kk
    exact kk
theorem lcmp_0 (x : Int64) : lg_cmp x x = 0 := by simp [lg_cmp]
abbrev lvT (b i : Nat) (G : wG) (x r : Int32) : List (Nat × Value) := [(6, .int x), (5, .int r), (0, .ref b), (1, .ref (gA G 0)), (2, .ref (gA G 39)), (3, .ref (gA G 53)), (4, .int (nI i))]
theorem r_tail (S : CallFix p m c cL_law 7 s args wsL_law RL) (Z : wZ G σ μ o s H locs) {r x : Int32} {i : Nat} (hr : r = mV μ 18) (hc : cells ≤ 601024) (hs : slots ≤ 7293034) (hl : lv_has ls 7 (lvT b i G x r)) (g0 : decode cL_law pc = .ok (.aload_n 2, 1)) (g1 : decode cL_law (pc + 1) = .ok (.invokevirtual 105, 3)) (g4 : decode cL_law (pc + 4) = .ok (.iload 5, 2)) (g6 : decode cL_law (pc + 6) = .ok (.if_icmp .eq 5, 3)) (g11 : decode cL_law (pc + 11) = .ok (.iload 5, 2))
    (kk : W p l e room_1 s m args below meth c H locs cells slots Q (F0 m (pc + 13) ls (.int r :: []))) : W p l e room_1 s m args below meth c H locs cells slots Q (F0 m pc ls []) := by
  refine lv_aload_n S.1 S.2.1 g0 rfl (lv_at hl 4 rfl) ?_
  refine vp_callSi (va_runV (As := []) (rest := []) S (k_X8_thrown l G σ μ o) (cwV 0 S.2.2.2.2 gL_law_X8_thrown rfl rfl rfl ⟨rfl, hy_X8_thrown⟩ ⟨Nat.le_of_ble_eq_true rfl, Nat.le_of_ble_eq_true rfl⟩) (wPc_V (q := (RX8, TX8, 19)) Z (by decide) rfl rfl) rfl rfl hl.1 rfl (lv_room (Nat.le_of_ble_eq_true rfl)) g1 ⟨hc, hs⟩).run (fun r1 h1 => ?_)
  rw [h1]
  refine lv_iload S.1 S.2.1 g4 (lv_at hl 1 rfl) ?_
  refine lv_icmp_eq (tgt := pc + 11) S.1 S.2.1 g6 (by omega) (fun z => ?_) (fun z => absurd hr.symm z)
  exact lv_iload S.1 S.2.1 g11 (lv_at hl 1 rfl) kk
/-- an int answer -/
theorem r_endI (S : CallFix p m c cL_law 7 s args wsL_law RL) (Z : wZ G σ μ o s H locs) {r x : Int32} {i : Nat} (hr : r = mV μ 18) (ho : mV μ 18 = nI 0 → o 0 = x.toInt64) (hc : cells ≤ 601024) (hs : slots ≤ 7293034) (hl : lv_has ls 7 (lvT b i G x r)) (g0 : decode cL_law pc = .ok (.aload_n 2, 1)) (g1 : decode cL_law (pc + 1) = .ok (.invokevirtual 105, 3)) (g4 : decode cL_law (pc + 4) = .ok (.iload 5, 2)) (g6 : decode cL_law (pc + 6) = .ok (.if_icmp .eq 5, 3)) (g11 : decode cL_law (pc + 11) = .ok (.iload 5, 2))
    (g13 : decode cL_law (pc + 13) = .ok (.ifCond .ne 15, 3)) (g16 : decode cL_law (pc + 16) = .ok (.aload_n 3, 1)) (g17 : decode cL_law (pc + 17) = .ok (.iconst 0, 1)) (g18 : decode cL_law (pc + 18) = .ok (.laload, 1)) (g19 : decode cL_law (pc + 19) = .ok (.iload 6, 2)) (g21 : decode cL_law (pc + 21) = .ok (.i2l, 1)) (g22 : decode cL_law (pc + 22) = .ok (.lcmp, 1)) (g23 : decode cL_law (pc + 23) = .ok (.ifCond .eq 5, 3)) {off : Int} (g28 : decode cL_law (pc + 28) = .ok (.goto off, 3)) (ht : ((pc + 28 : Nat) : Int) + off = ((1958 : Nat) : Int))
    (kk : W p l e room_1 s m args below meth c H locs cells slots Q (F0 m 1958 ls [])) : W p l e room_1 s m args below meth c H locs cells slots Q (F0 m pc ls []) := by
  refine r_tail S Z hr hc hs hl g0 g1 g4 g6 g11 ?_
  refine lv_if_ne (tgt := pc + 28) S.1 S.2.1 g13 (by omega) (fun z => ?_) (fun z => ?_)
  · exact lv_goto (tgt := 1958) S.1 S.2.1 g28 ht kk
  · have z : mV μ 18 = nI 0 := by rw [← hr, nI_0]; exact z
    refine lv_aload_n S.1 S.2.1 g16 rfl (lv_at hl 5 rfl) ?_
    refine lv_iconst (v := nI 0) S.1 S.2.1 g17 (by decide) ?_
    refine va_lald S.1 S.2.1 Z.2.1.1 Z.2.2.1 53 4 (wl_at (by decide) rfl) rfl (vp_in_nI (by decide) (by decide)) g18 ?_
    rw [nI_clamp (show 0 < 2 ^ 31 by decide), ho z]
    refine lv_iload S.1 S.2.1 g19 (lv_at hl 0 rfl) ?_
    refine lv_i2l S.1 S.2.1 g21 rfl ?_
    refine W.lcmp S.1 S.2.1 g22 ?_
    rw [lcmp_0]
    exact lv_if_eq (tgt := pc + 28) S.1 S.2.1 g23 (by omega) (fun _ => lv_goto (tgt := 1958) S.1 S.2.1 g28 ht kk) (fun z => absurd rfl z)
/-- a truth value -/
theorem r_endB (S : CallFix p m c cL_law 7 s args wsL_law RL) (Z : wZ G σ μ o s H locs) {r : Int32} {x : Bool} {i : Nat} (hr : r = mV μ 18) (ho : mV μ 18 = nI 0 → o 0 = (bi x).toInt64) (hc : cells ≤ 601024) (hs : slots ≤ 7293034) (hl : lv_has ls 7 (lvT b i G (bi x) r)) (g0 : decode cL_law pc = .ok (.aload_n 2, 1)) (g1 : decode cL_law (pc + 1) = .ok (.invokevirtual 105, 3)) (g4 : decode cL_law (pc + 4) = .ok (.iload 5, 2)) (g6 : decode cL_law (pc + 6) = .ok (.if_icmp .eq 5, 3)) (g11 : decode cL_law (pc + 11) = .ok (.iload 5, 2))
    (g13 : decode cL_law (pc + 13) = .ok (.ifCond .ne 22, 3)) (g16 : decode cL_law (pc + 16) = .ok (.aload_n 3, 1)) (g17 : decode cL_law (pc + 17) = .ok (.iconst 0, 1)) (g18 : decode cL_law (pc + 18) = .ok (.laload, 1)) (g19 : decode cL_law (pc + 19) = .ok (.iload 6, 2)) (g21 : decode cL_law (pc + 21) = .ok (.ifCond .eq 7, 3)) (g24 : decode cL_law (pc + 24) = .ok (.lconst 1, 1)) (g25 : decode cL_law (pc + 25) = .ok (.goto 4, 3)) (g28 : decode cL_law (pc + 28) = .ok (.lconst 0, 1)) (g29 : decode cL_law (pc + 29) = .ok (.lcmp, 1)) (g30 : decode cL_law (pc + 30) = .ok (.ifCond .eq 5, 3)) {off : Int} (g35 : decode cL_law (pc + 35) = .ok (.goto off, 3)) (ht : ((pc + 35 : Nat) : Int) + off = ((1958 : Nat) : Int))
    (kk : W p l e room_1 s m args below meth c H locs cells slots Q (F0 m 1958 ls [])) : W p l e room_1 s m args below meth c H locs cells slots Q (F0 m pc ls []) := by
  refine r_tail S Z hr hc hs hl g0 g1 g4 g6 g11 ?_
  refine lv_if_ne (tgt := pc + 35) S.1 S.2.1 g13 (by omega) (fun z => ?_) (fun z => ?_)
  · exact lv_goto (tgt := 1958) S.1 S.2.1 g35 ht kk
  · have z : mV μ 18 = nI 0 := by rw [← hr, nI_0]; exact z
    refine lv_aload_n S.1 S.2.1 g16 rfl (lv_at hl 5 rfl) ?_
    refine lv_iconst (v := nI 0) S.1 S.2.1 g17 (by decide) ?_
    refine va_lald S.1 S.2.1 Z.2.1.1 Z.2.2.1 53 4 (wl_at (by decide) rfl) rfl (vp_in_nI (by decide) (by decide)) g18 ?_
    rw [nI_clamp (show 0 < 2 ^ 31 by decide), ho z]
    refine lv_iload S.1 S.2.1 g19 (lv_at hl 0 rfl) ?_
    refine r_if_eqB S (tgt := pc + 28) g21 (by omega) (fun z => ?_) (fun z => ?_)
    · subst z
      refine lv_lconst (v := (bi false).toInt64) S.1 S.2.1 g28 (by first | decide | rfl) ?_
      refine W.lcmp S.1 S.2.1 g29 ?_
      rw [lcmp_0]
      exact lv_if_eq (tgt := pc + 35) S.1 S.2.1 g30 (by omega) (fun _ => lv_goto (tgt := 1958) S.1 S.2.1 g35 ht kk) (fun z => absurd rfl z)
    · subst z
      refine lv_lconst (v := (bi true).toInt64) S.1 S.2.1 g24 (by first | decide | rfl) ?_
      refine lv_goto (tgt := pc + 29) S.1 S.2.1 g25 (by omega) ?_
      refine W.lcmp S.1 S.2.1 g29 ?_
      rw [lcmp_0]
      exact lv_if_eq (tgt := pc + 35) S.1 S.2.1 g30 (by omega) (fun _ => lv_goto (tgt := 1958) S.1 S.2.1 g35 ht kk) (fun z => absurd rfl z)
end LRO
