/-! the reference's calls -/
theorem hy_L_write : yL_write.cls ≠ "java/lang/invoke/MethodHandle" ∧ yL_write.cls ≠ "java/lang/invoke/VarHandle" ∧ (parseMethodDescriptor yL_write.desc).map (fun d => d.parameters.length) = some 8 := by decide +kernel
theorem hy_L_deleteCell : yL_deleteCell.cls ≠ "java/lang/invoke/MethodHandle" ∧ yL_deleteCell.cls ≠ "java/lang/invoke/VarHandle" ∧ (parseMethodDescriptor yL_deleteCell.desc).map (fun d => d.parameters.length) = some 6 := by decide +kernel
theorem hy_L_deleteColumn : yL_deleteColumn.cls ≠ "java/lang/invoke/MethodHandle" ∧ yL_deleteColumn.cls ≠ "java/lang/invoke/VarHandle" ∧ (parseMethodDescriptor yL_deleteColumn.desc).map (fun d => d.parameters.length) = some 5 := by decide +kernel
theorem hy_L_deleteRow : yL_deleteRow.cls ≠ "java/lang/invoke/MethodHandle" ∧ yL_deleteRow.cls ≠ "java/lang/invoke/VarHandle" ∧ (parseMethodDescriptor yL_deleteRow.desc).map (fun d => d.parameters.length) = some 5 := by decide +kernel
theorem hy_L_deleteRange : yL_deleteRange.cls ≠ "java/lang/invoke/MethodHandle" ∧ yL_deleteRange.cls ≠ "java/lang/invoke/VarHandle" ∧ (parseMethodDescriptor yL_deleteRange.desc).map (fun d => d.parameters.length) = some 6 := by decide +kernel
theorem hy_L_loseHints : yL_loseHints.cls ≠ "java/lang/invoke/MethodHandle" ∧ yL_loseHints.cls ≠ "java/lang/invoke/VarHandle" ∧ (parseMethodDescriptor yL_loseHints.desc).map (fun d => d.parameters.length) = some 3 := by decide +kernel
theorem hy_L_pass : yL_pass.cls ≠ "java/lang/invoke/MethodHandle" ∧ yL_pass.cls ≠ "java/lang/invoke/VarHandle" ∧ (parseMethodDescriptor yL_pass.desc).map (fun d => d.parameters.length) = some 3 := by decide +kernel
theorem hy_L_setGrace : yL_setGrace.cls ≠ "java/lang/invoke/MethodHandle" ∧ yL_setGrace.cls ≠ "java/lang/invoke/VarHandle" ∧ (parseMethodDescriptor yL_setGrace.desc).map (fun d => d.parameters.length) = some 3 := by decide +kernel
theorem hy_L_read : yL_read.cls ≠ "java/lang/invoke/MethodHandle" ∧ yL_read.cls ≠ "java/lang/invoke/VarHandle" ∧ (parseMethodDescriptor yL_read.desc).map (fun d => d.parameters.length) = some 6 := by decide +kernel
theorem hy_L_makeAlike : yL_makeAlike.cls ≠ "java/lang/invoke/MethodHandle" ∧ yL_makeAlike.cls ≠ "java/lang/invoke/VarHandle" ∧ (parseMethodDescriptor yL_makeAlike.desc).map (fun d => d.parameters.length) = some 4 := by decide +kernel
theorem hy_L_clean : yL_clean.cls ≠ "java/lang/invoke/MethodHandle" ∧ yL_clean.cls ≠ "java/lang/invoke/VarHandle" ∧ (parseMethodDescriptor yL_clean.desc).map (fun d => d.parameters.length) = some 3 := by decide +kernel
theorem hy_L_isUp : yL_isUp.cls ≠ "java/lang/invoke/MethodHandle" ∧ yL_isUp.cls ≠ "java/lang/invoke/VarHandle" ∧ (parseMethodDescriptor yL_isUp.desc).map (fun d => d.parameters.length) = some 3 := by decide +kernel
theorem hy_L_hints : yL_hints.cls ≠ "java/lang/invoke/MethodHandle" ∧ yL_hints.cls ≠ "java/lang/invoke/VarHandle" ∧ (parseMethodDescriptor yL_hints.desc).map (fun d => d.parameters.length) = some 3 := by decide +kernel
theorem hy_L_valueAt : yL_valueAt.cls ≠ "java/lang/invoke/MethodHandle" ∧ yL_valueAt.cls ≠ "java/lang/invoke/VarHandle" ∧ (parseMethodDescriptor yL_valueAt.desc).map (fun d => d.parameters.length) = some 5 := by decide +kernel
theorem hy_L_tombstones : yL_tombstones.cls ≠ "java/lang/invoke/MethodHandle" ∧ yL_tombstones.cls ≠ "java/lang/invoke/VarHandle" ∧ (parseMethodDescriptor yL_tombstones.desc).map (fun d => d.parameters.length) = some 4 := by decide +kernel
theorem hy_L_entries : yL_entries.cls ≠ "java/lang/invoke/MethodHandle" ∧ yL_entries.cls ≠ "java/lang/invoke/VarHandle" ∧ (parseMethodDescriptor yL_entries.desc).map (fun d => d.parameters.length) = some 3 := by decide +kernel
theorem hy_L_ideal : yL_ideal.cls ≠ "java/lang/invoke/MethodHandle" ∧ yL_ideal.cls ≠ "java/lang/invoke/VarHandle" ∧ (parseMethodDescriptor yL_ideal.desc).map (fun d => d.parameters.length) = some 4 := by decide +kernel
theorem hy_L_sumOf : yL_sumOf.cls ≠ "java/lang/invoke/MethodHandle" ∧ yL_sumOf.cls ≠ "java/lang/invoke/VarHandle" ∧ (parseMethodDescriptor yL_sumOf.desc).map (fun d => d.parameters.length) = some 5 := by decide +kernel
theorem hy_L_compared : yL_compared.cls ≠ "java/lang/invoke/MethodHandle" ∧ yL_compared.cls ≠ "java/lang/invoke/VarHandle" ∧ (parseMethodDescriptor yL_compared.desc).map (fun d => d.parameters.length) = some 4 := by decide +kernel
theorem hy_L_unlike : yL_unlike.cls ≠ "java/lang/invoke/MethodHandle" ∧ yL_unlike.cls ≠ "java/lang/invoke/VarHandle" ∧ (parseMethodDescriptor yL_unlike.desc).map (fun d => d.parameters.length) = some 4 := by decide +kernel
theorem hy_L_areAlike : yL_areAlike.cls ≠ "java/lang/invoke/MethodHandle" ∧ yL_areAlike.cls ≠ "java/lang/invoke/VarHandle" ∧ (parseMethodDescriptor yL_areAlike.desc).map (fun d => d.parameters.length) = some 4 := by decide +kernel
theorem hy_L_stampAt : yL_stampAt.cls ≠ "java/lang/invoke/MethodHandle" ∧ yL_stampAt.cls ≠ "java/lang/invoke/VarHandle" ∧ (parseMethodDescriptor yL_stampAt.desc).map (fun d => d.parameters.length) = some 5 := by decide +kernel
theorem hy_L_buriedBy : yL_buriedBy.cls ≠ "java/lang/invoke/MethodHandle" ∧ yL_buriedBy.cls ≠ "java/lang/invoke/VarHandle" ∧ (parseMethodDescriptor yL_buriedBy.desc).map (fun d => d.parameters.length) = some 5 := by decide +kernel
theorem hy_L_setUp : yL_setUp.cls ≠ "java/lang/invoke/MethodHandle" ∧ yL_setUp.cls ≠ "java/lang/invoke/VarHandle" ∧ (parseMethodDescriptor yL_setUp.desc).map (fun d => d.parameters.length) = some 4 := by decide +kernel
section MRO
variable {p : Program} {l : Launch} {e : Env} {s : State} {m : MethodId} {args : Array Value} {below : List Frame} {meth : Method} {c : Code} {H : Heap} {locs : List Loc} {cells slots : Nat} {Q : State → Prop}
variable {G : wG} {σ : cS} {μ : mS} {o : Nat → Int64} {pc : Nat} {ls : Array Slot} {rest : List Value} {b L : Nat} {xs : Nat → Int32}

set_option maxHeartbeats 4000000 in
theorem mr_write (S : CallFix p m c cL_law 7 s args wsL_law RL) (Z : wZ G σ μ o s H locs) (hm : mOK μ) {p0 p1 p2 p3 p4 p5 : Int32} (hls : ls.size = 7) (hc : cells ≤ 601024) (hs : slots ≤ 7293034) {ix : Nat} (hix : GoodIn wsL_law (wsV RL ix RX8 yX8_write wsX8_write)) (hdg : decode cL_law pc = .ok (.invokevirtual ix, 3))
    (kk : ∀ (H1 : Heap) (locs1 : List Loc), wZ G σ (wrMS μ p0 p1 p2 p3 p4 p5) o s H1 locs1 → W p l e room_1 s m args below meth c H1 locs1 cells slots Q (F0 m (pc + 3) ls [.int (wrMR μ p0 p1 p2 p3 p4 p5)])) : W p l e room_1 s m args below meth c H locs cells slots Q (F0 m pc ls [.int p5, .int p4, .int p3, .int p2, .int p1, .int p0, .ref (gA G 39)]) := by
  rcases wi_split p1 (n := 15) (by decide) with bb | ⟨n1, hn1, rfl⟩
  · have hb : isCellB p1 p2 = false := cell_b1 bb
    have hno : ¬ isCellB p1 p2 = true := by rw [hb]; exact Bool.false_ne_true
    have e1 : wrMS μ p0 p1 p2 p3 p4 p5 = thr μ 1 := if_neg hno
    have e2 : wrMR μ p0 p1 p2 p3 p4 p5 = nI (0) := if_neg hno
    rw [e1, e2] at kk
    refine va_calli (va_runV (As := [.int p0, .int p1, .int p2, .int p3, .int p4, .int p5]) (rest := []) S (k_X8_write_B l G σ μ o p0 p1 p2 p3 p4 p5 hb) (cwV 6 S.2.2.2.2 hix rfl rfl rfl ⟨rfl, hy_X8_write⟩ ⟨Nat.le_of_ble_eq_true rfl, Nat.le_of_ble_eq_true rfl⟩) (wPc_V (q := (RX8, TX8, 19)) Z (by decide) rfl rfl) rfl rfl hls rfl (lv_room (Nat.le_of_ble_eq_true rfl)) hdg ⟨hc, hs⟩) Z.2.2.2.2 (fun _ _ h => h) (fun _ h => h) (fun r9 u9 T9 H1 locs1 hT9 hvm hw hB hz hk9 hS => ?_)
    obtain ⟨hr9, hu9⟩ := hw
    subst hu9
    rw [hr9]
    exact kk H1 locs1 (wZ_callP Z hB hT9 hS)
  rcases wi_split p2 (n := 3) (by decide) with bb | ⟨n2, hn2, rfl⟩
  · have hb : isCellB (nI n1) p2 = false := cell_b2 bb
    have hno : ¬ isCellB (nI n1) p2 = true := by rw [hb]; exact Bool.false_ne_true
    have e1 : wrMS μ p0 (nI n1) p2 p3 p4 p5 = thr μ 1 := if_neg hno
    have e2 : wrMR μ p0 (nI n1) p2 p3 p4 p5 = nI (0) := if_neg hno
    rw [e1, e2] at kk
    refine va_calli (va_runV (As := [.int p0, .int (nI n1), .int p2, .int p3, .int p4, .int p5]) (rest := []) S (k_X8_write_B l G σ μ o p0 (nI n1) p2 p3 p4 p5 hb) (cwV 6 S.2.2.2.2 hix rfl rfl rfl ⟨rfl, hy_X8_write⟩ ⟨Nat.le_of_ble_eq_true rfl, Nat.le_of_ble_eq_true rfl⟩) (wPc_V (q := (RX8, TX8, 19)) Z (by decide) rfl rfl) rfl rfl hls rfl (lv_room (Nat.le_of_ble_eq_true rfl)) hdg ⟨hc, hs⟩) Z.2.2.2.2 (fun _ _ h => h) (fun _ h => h) (fun r9 u9 T9 H1 locs1 hT9 hvm hw hB hz hk9 hS => ?_)
    obtain ⟨hr9, hu9⟩ := hw
    subst hu9
    rw [hr9]
    exact kk H1 locs1 (wZ_callP Z hB hT9 hS)
  have hy : isCellB (nI n1) (nI n2) = true := isCellB_ok (by omega) (by omega)
  have e1 : wrMS μ p0 (nI n1) (nI n2) p3 p4 p5 = wrS μ p0 n1 n2 p3 p4 p5 := by
    unfold wrMS
    rw [if_pos hy]
    try (repeat rw [cl_n (by omega)])
    try with_reducible rfl
  have e2 : wrMR μ p0 (nI n1) (nI n2) p3 p4 p5 = nI (wrR μ p0 n1 n2 p3 p4 p5) := by
    unfold wrMR
    rw [if_pos hy]
    try (repeat rw [cl_n (by omega)])
    try with_reducible rfl
    try rfl
  rw [e1, e2] at kk
  refine va_calli (va_runV (As := [.int p0, .int (nI n1), .int (nI n2), .int p3, .int p4, .int p5]) (rest := []) S (k_X8_write l G σ μ o p0 n1 n2 p3 p4 p5 (by omega) (by omega) hm) (cwV 6 S.2.2.2.2 hix rfl rfl rfl ⟨rfl, hy_X8_write⟩ ⟨Nat.le_of_ble_eq_true rfl, Nat.le_of_ble_eq_true rfl⟩) (wPc_V (q := (RX8, TX8, 19)) Z (by decide) rfl rfl) rfl rfl hls rfl (lv_room (Nat.le_of_ble_eq_true rfl)) hdg ⟨hc, hs⟩) Z.2.2.2.2 (fun _ _ h => h) (fun _ h => h) (fun r9 u9 T9 H1 locs1 hT9 hvm hw hB hz hk9 hS => ?_)
  obtain ⟨hr9, hu9⟩ := hw
  subst hu9
  rw [hr9]
  exact kk H1 locs1 (wZ_callP Z hB hT9 hS)
set_option maxHeartbeats 4000000 in
theorem mr_deleteCell (S : CallFix p m c cL_law 7 s args wsL_law RL) (Z : wZ G σ μ o s H locs) (hm : mOK μ) {p0 p1 p2 p3 : Int32} (hls : ls.size = 7) (hc : cells ≤ 601024) (hs : slots ≤ 7293034) {ix : Nat} (hix : GoodIn wsL_law (wsV RL ix RX8 yX8_deleteCell wsX8_deleteCell)) (hdg : decode cL_law pc = .ok (.invokevirtual ix, 3))
    (kk : ∀ (H1 : Heap) (locs1 : List Loc), wZ G σ (dcMS μ p0 p1 p2 p3) o s H1 locs1 → W p l e room_1 s m args below meth c H1 locs1 cells slots Q (F0 m (pc + 3) ls [.int (dcMR μ p0 p1 p2 p3)])) : W p l e room_1 s m args below meth c H locs cells slots Q (F0 m pc ls [.int p3, .int p2, .int p1, .int p0, .ref (gA G 39)]) := by
  rcases wi_split p1 (n := 15) (by decide) with bb | ⟨n1, hn1, rfl⟩
  · have hb : isCellB p1 p2 = false := cell_b1 bb
    have hno : ¬ isCellB p1 p2 = true := by rw [hb]; exact Bool.false_ne_true
    have e1 : dcMS μ p0 p1 p2 p3 = thr μ 1 := if_neg hno
    have e2 : dcMR μ p0 p1 p2 p3 = nI (0) := if_neg hno
    rw [e1, e2] at kk
    refine va_calli (va_runV (As := [.int p0, .int p1, .int p2, .int p3]) (rest := []) S (k_X8_deleteCell_B l G σ μ o p0 p1 p2 p3 hb) (cwV 4 S.2.2.2.2 hix rfl rfl rfl ⟨rfl, hy_X8_deleteCell⟩ ⟨Nat.le_of_ble_eq_true rfl, Nat.le_of_ble_eq_true rfl⟩) (wPc_V (q := (RX8, TX8, 19)) Z (by decide) rfl rfl) rfl rfl hls rfl (lv_room (Nat.le_of_ble_eq_true rfl)) hdg ⟨hc, hs⟩) Z.2.2.2.2 (fun _ _ h => h) (fun _ h => h) (fun r9 u9 T9 H1 locs1 hT9 hvm hw hB hz hk9 hS => ?_)
    obtain ⟨hr9, hu9⟩ := hw
    subst hu9
    rw [hr9]
    exact kk H1 locs1 (wZ_callP Z hB hT9 hS)
  rcases wi_split p2 (n := 3) (by decide) with bb | ⟨n2, hn2, rfl⟩
  · have hb : isCellB (nI n1) p2 = false := cell_b2 bb
    have hno : ¬ isCellB (nI n1) p2 = true := by rw [hb]; exact Bool.false_ne_true
    have e1 : dcMS μ p0 (nI n1) p2 p3 = thr μ 1 := if_neg hno
    have e2 : dcMR μ p0 (nI n1) p2 p3 = nI (0) := if_neg hno
    rw [e1, e2] at kk
    refine va_calli (va_runV (As := [.int p0, .int (nI n1), .int p2, .int p3]) (rest := []) S (k_X8_deleteCell_B l G σ μ o p0 (nI n1) p2 p3 hb) (cwV 4 S.2.2.2.2 hix rfl rfl rfl ⟨rfl, hy_X8_deleteCell⟩ ⟨Nat.le_of_ble_eq_true rfl, Nat.le_of_ble_eq_true rfl⟩) (wPc_V (q := (RX8, TX8, 19)) Z (by decide) rfl rfl) rfl rfl hls rfl (lv_room (Nat.le_of_ble_eq_true rfl)) hdg ⟨hc, hs⟩) Z.2.2.2.2 (fun _ _ h => h) (fun _ h => h) (fun r9 u9 T9 H1 locs1 hT9 hvm hw hB hz hk9 hS => ?_)
    obtain ⟨hr9, hu9⟩ := hw
    subst hu9
    rw [hr9]
    exact kk H1 locs1 (wZ_callP Z hB hT9 hS)
  have hy : isCellB (nI n1) (nI n2) = true := isCellB_ok (by omega) (by omega)
  have e1 : dcMS μ p0 (nI n1) (nI n2) p3 = buS μ p0 (4 * n1 + n2) p3 := by
    unfold dcMS
    rw [if_pos hy]
    try (repeat rw [cl_n (by omega)])
    try with_reducible rfl
  have e2 : dcMR μ p0 (nI n1) (nI n2) p3 = nI (buR μ p0 (4 * n1 + n2) p3) := by
    unfold dcMR
    rw [if_pos hy]
    try (repeat rw [cl_n (by omega)])
    try with_reducible rfl
    try rfl
  rw [e1, e2] at kk
  refine va_calli (va_runV (As := [.int p0, .int (nI n1), .int (nI n2), .int p3]) (rest := []) S (k_X8_deleteCell l G σ μ o p0 n1 n2 p3 (by omega) (by omega) hm) (cwV 4 S.2.2.2.2 hix rfl rfl rfl ⟨rfl, hy_X8_deleteCell⟩ ⟨Nat.le_of_ble_eq_true rfl, Nat.le_of_ble_eq_true rfl⟩) (wPc_V (q := (RX8, TX8, 19)) Z (by decide) rfl rfl) rfl rfl hls rfl (lv_room (Nat.le_of_ble_eq_true rfl)) hdg ⟨hc, hs⟩) Z.2.2.2.2 (fun _ _ h => h) (fun _ h => h) (fun r9 u9 T9 H1 locs1 hT9 hvm hw hB hz hk9 hS => ?_)
  obtain ⟨hr9, hu9⟩ := hw
  subst hu9
  rw [hr9]
  exact kk H1 locs1 (wZ_callP Z hB hT9 hS)
set_option maxHeartbeats 4000000 in
theorem mr_deleteColumn (S : CallFix p m c cL_law 7 s args wsL_law RL) (Z : wZ G σ μ o s H locs) (hm : mOK μ) {p0 p1 p2 : Int32} (hls : ls.size = 7) (hc : cells ≤ 601024) (hs : slots ≤ 7293034) {ix : Nat} (hix : GoodIn wsL_law (wsV RL ix RX8 yX8_deleteColumn wsX8_deleteColumn)) (hdg : decode cL_law pc = .ok (.invokevirtual ix, 3))
    (kk : ∀ (H1 : Heap) (locs1 : List Loc), wZ G σ (dkMS μ p0 p1 p2) o s H1 locs1 → W p l e room_1 s m args below meth c H1 locs1 cells slots Q (F0 m (pc + 3) ls [.int (dkMR μ p0 p1 p2)])) : W p l e room_1 s m args below meth c H locs cells slots Q (F0 m pc ls [.int p2, .int p1, .int p0, .ref (gA G 39)]) := by
  rcases wi_split p1 (n := 3) (by decide) with bb | ⟨n1, hn1, rfl⟩
  · have hb : isInB p1 (nI 0) (nI 3) = false := by rw [← wi_in]; exact bb
    have hno : ¬ isInB p1 (nI 0) (nI 3) = true := by rw [hb]; exact Bool.false_ne_true
    have e1 : dkMS μ p0 p1 p2 = thr μ 1 := if_neg hno
    have e2 : dkMR μ p0 p1 p2 = nI (0) := if_neg hno
    rw [e1, e2] at kk
    refine va_calli (va_runV (As := [.int p0, .int p1, .int p2]) (rest := []) S (k_X8_deleteColumn_B l G σ μ o p0 p1 p2 hb) (cwV 3 S.2.2.2.2 hix rfl rfl rfl ⟨rfl, hy_X8_deleteColumn⟩ ⟨Nat.le_of_ble_eq_true rfl, Nat.le_of_ble_eq_true rfl⟩) (wPc_V (q := (RX8, TX8, 19)) Z (by decide) rfl rfl) rfl rfl hls rfl (lv_room (Nat.le_of_ble_eq_true rfl)) hdg ⟨hc, hs⟩) Z.2.2.2.2 (fun _ _ h => h) (fun _ h => h) (fun r9 u9 T9 H1 locs1 hT9 hvm hw hB hz hk9 hS => ?_)
    obtain ⟨hr9, hu9⟩ := hw
    subst hu9
    rw [hr9]
    exact kk H1 locs1 (wZ_callP Z hB hT9 hS)
  have hy : isInB (nI n1) (nI 0) (nI 3) = true := isInB_ok (Nat.zero_le _) hn1 (by decide)
  have e1 : dkMS μ p0 (nI n1) p2 = buS μ p0 (64 + n1) p2 := by
    unfold dkMS
    rw [if_pos hy]
    try (repeat rw [cl_n (by omega)])
    try with_reducible rfl
  have e2 : dkMR μ p0 (nI n1) p2 = nI (buR μ p0 (64 + n1) p2) := by
    unfold dkMR
    rw [if_pos hy]
    try (repeat rw [cl_n (by omega)])
    try with_reducible rfl
    try rfl
  rw [e1, e2] at kk
  refine va_calli (va_runV (As := [.int p0, .int (nI n1), .int p2]) (rest := []) S (k_X8_deleteColumn l G σ μ o p0 n1 p2 (by omega) hm) (cwV 3 S.2.2.2.2 hix rfl rfl rfl ⟨rfl, hy_X8_deleteColumn⟩ ⟨Nat.le_of_ble_eq_true rfl, Nat.le_of_ble_eq_true rfl⟩) (wPc_V (q := (RX8, TX8, 19)) Z (by decide) rfl rfl) rfl rfl hls rfl (lv_room (Nat.le_of_ble_eq_true rfl)) hdg ⟨hc, hs⟩) Z.2.2.2.2 (fun _ _ h => h) (fun _ h => h) (fun r9 u9 T9 H1 locs1 hT9 hvm hw hB hz hk9 hS => ?_)
  obtain ⟨hr9, hu9⟩ := hw
  subst hu9
  rw [hr9]
  exact kk H1 locs1 (wZ_callP Z hB hT9 hS)
set_option maxHeartbeats 4000000 in
theorem mr_deleteRow (S : CallFix p m c cL_law 7 s args wsL_law RL) (Z : wZ G σ μ o s H locs) (hm : mOK μ) {p0 p1 p2 : Int32} (hls : ls.size = 7) (hc : cells ≤ 601024) (hs : slots ≤ 7293034) {ix : Nat} (hix : GoodIn wsL_law (wsV RL ix RX8 yX8_deleteRow wsX8_deleteRow)) (hdg : decode cL_law pc = .ok (.invokevirtual ix, 3))
    (kk : ∀ (H1 : Heap) (locs1 : List Loc), wZ G σ (dwMS μ p0 p1 p2) o s H1 locs1 → W p l e room_1 s m args below meth c H1 locs1 cells slots Q (F0 m (pc + 3) ls [.int (dwMR μ p0 p1 p2)])) : W p l e room_1 s m args below meth c H locs cells slots Q (F0 m pc ls [.int p2, .int p1, .int p0, .ref (gA G 39)]) := by
  rcases wi_split p1 (n := 15) (by decide) with bb | ⟨n1, hn1, rfl⟩
  · have hb : isInB p1 (nI 0) (nI 15) = false := by rw [← wi_in]; exact bb
    have hno : ¬ isInB p1 (nI 0) (nI 15) = true := by rw [hb]; exact Bool.false_ne_true
    have e1 : dwMS μ p0 p1 p2 = thr μ 1 := if_neg hno
    have e2 : dwMR μ p0 p1 p2 = nI (0) := if_neg hno
    rw [e1, e2] at kk
    refine va_calli (va_runV (As := [.int p0, .int p1, .int p2]) (rest := []) S (k_X8_deleteRow_B l G σ μ o p0 p1 p2 hb) (cwV 3 S.2.2.2.2 hix rfl rfl rfl ⟨rfl, hy_X8_deleteRow⟩ ⟨Nat.le_of_ble_eq_true rfl, Nat.le_of_ble_eq_true rfl⟩) (wPc_V (q := (RX8, TX8, 19)) Z (by decide) rfl rfl) rfl rfl hls rfl (lv_room (Nat.le_of_ble_eq_true rfl)) hdg ⟨hc, hs⟩) Z.2.2.2.2 (fun _ _ h => h) (fun _ h => h) (fun r9 u9 T9 H1 locs1 hT9 hvm hw hB hz hk9 hS => ?_)
    obtain ⟨hr9, hu9⟩ := hw
    subst hu9
    rw [hr9]
    exact kk H1 locs1 (wZ_callP Z hB hT9 hS)
  have hy : isInB (nI n1) (nI 0) (nI 15) = true := isInB_ok (Nat.zero_le _) hn1 (by decide)
  have e1 : dwMS μ p0 (nI n1) p2 = buS μ p0 (68 + n1) p2 := by
    unfold dwMS
    rw [if_pos hy]
    try (repeat rw [cl_n (by omega)])
    try with_reducible rfl
  have e2 : dwMR μ p0 (nI n1) p2 = nI (buR μ p0 (68 + n1) p2) := by
    unfold dwMR
    rw [if_pos hy]
    try (repeat rw [cl_n (by omega)])
    try with_reducible rfl
    try rfl
  rw [e1, e2] at kk
  refine va_calli (va_runV (As := [.int p0, .int (nI n1), .int p2]) (rest := []) S (k_X8_deleteRow l G σ μ o p0 n1 p2 (by omega) hm) (cwV 3 S.2.2.2.2 hix rfl rfl rfl ⟨rfl, hy_X8_deleteRow⟩ ⟨Nat.le_of_ble_eq_true rfl, Nat.le_of_ble_eq_true rfl⟩) (wPc_V (q := (RX8, TX8, 19)) Z (by decide) rfl rfl) rfl rfl hls rfl (lv_room (Nat.le_of_ble_eq_true rfl)) hdg ⟨hc, hs⟩) Z.2.2.2.2 (fun _ _ h => h) (fun _ h => h) (fun r9 u9 T9 H1 locs1 hT9 hvm hw hB hz hk9 hS => ?_)
  obtain ⟨hr9, hu9⟩ := hw
  subst hu9
  rw [hr9]
  exact kk H1 locs1 (wZ_callP Z hB hT9 hS)
set_option maxHeartbeats 4000000 in
theorem mr_deleteRange (S : CallFix p m c cL_law 7 s args wsL_law RL) (Z : wZ G σ μ o s H locs) (hm : mOK μ) {p0 p1 p2 p3 : Int32} (hls : ls.size = 7) (hc : cells ≤ 601024) (hs : slots ≤ 7293034) {ix : Nat} (hix : GoodIn wsL_law (wsV RL ix RX8 yX8_deleteRange wsX8_deleteRange)) (hdg : decode cL_law pc = .ok (.invokevirtual ix, 3))
    (kk : ∀ (H1 : Heap) (locs1 : List Loc), wZ G σ (drMS μ p0 p1 p2 p3) o s H1 locs1 → W p l e room_1 s m args below meth c H1 locs1 cells slots Q (F0 m (pc + 3) ls [.int (drMR μ p0 p1 p2 p3)])) : W p l e room_1 s m args below meth c H locs cells slots Q (F0 m pc ls [.int p3, .int p2, .int p1, .int p0, .ref (gA G 39)]) := by
  rcases wi_split p1 (n := 15) (by decide) with bb | ⟨n1, hn1, rfl⟩
  · have hb : (isInB p1 (nI 0) (nI 15) && isInB p2 (nI 0) (nI 15)) = false := by rw [← wi_in, bb]; rfl
    have hno : ¬ (isInB p1 (nI 0) (nI 15) && isInB p2 (nI 0) (nI 15)) = true := by rw [hb]; exact Bool.false_ne_true
    have e1 : drMS μ p0 p1 p2 p3 = thr μ 1 := if_neg hno
    have e2 : drMR μ p0 p1 p2 p3 = nI (0) := if_neg hno
    rw [e1, e2] at kk
    refine va_calli (va_runV (As := [.int p0, .int p1, .int p2, .int p3]) (rest := []) S (k_X8_deleteRange_B l G σ μ o p0 p1 p2 p3 hb hm.1) (cwV 4 S.2.2.2.2 hix rfl rfl rfl ⟨rfl, hy_X8_deleteRange⟩ ⟨Nat.le_of_ble_eq_true rfl, Nat.le_of_ble_eq_true rfl⟩) (wPc_V (q := (RX8, TX8, 19)) Z (by decide) rfl rfl) rfl rfl hls rfl (lv_room (Nat.le_of_ble_eq_true rfl)) hdg ⟨hc, hs⟩) Z.2.2.2.2 (fun _ _ h => h) (fun _ h => h) (fun r9 u9 T9 H1 locs1 hT9 hvm hw hB hz hk9 hS => ?_)
    obtain ⟨hr9, hu9⟩ := hw
    subst hu9
    rw [hr9]
    exact kk H1 locs1 (wZ_callP Z hB hT9 hS)
  rcases wi_split p2 (n := 15) (by decide) with bb | ⟨n2, hn2, rfl⟩
  · have hb : (isInB (nI n1) (nI 0) (nI 15) && isInB p2 (nI 0) (nI 15)) = false := by rw [← wi_in p2, bb, Bool.and_false]
    have hno : ¬ (isInB (nI n1) (nI 0) (nI 15) && isInB p2 (nI 0) (nI 15)) = true := by rw [hb]; exact Bool.false_ne_true
    have e1 : drMS μ p0 (nI n1) p2 p3 = thr μ 1 := if_neg hno
    have e2 : drMR μ p0 (nI n1) p2 p3 = nI (0) := if_neg hno
    rw [e1, e2] at kk
    refine va_calli (va_runV (As := [.int p0, .int (nI n1), .int p2, .int p3]) (rest := []) S (k_X8_deleteRange_B l G σ μ o p0 (nI n1) p2 p3 hb hm.1) (cwV 4 S.2.2.2.2 hix rfl rfl rfl ⟨rfl, hy_X8_deleteRange⟩ ⟨Nat.le_of_ble_eq_true rfl, Nat.le_of_ble_eq_true rfl⟩) (wPc_V (q := (RX8, TX8, 19)) Z (by decide) rfl rfl) rfl rfl hls rfl (lv_room (Nat.le_of_ble_eq_true rfl)) hdg ⟨hc, hs⟩) Z.2.2.2.2 (fun _ _ h => h) (fun _ h => h) (fun r9 u9 T9 H1 locs1 hT9 hvm hw hB hz hk9 hS => ?_)
    obtain ⟨hr9, hu9⟩ := hw
    subst hu9
    rw [hr9]
    exact kk H1 locs1 (wZ_callP Z hB hT9 hS)
  have hy : (isInB (nI n1) (nI 0) (nI 15) && isInB (nI n2) (nI 0) (nI 15)) = true := by rw [isInB_ok (Nat.zero_le _) hn1 (by decide), isInB_ok (Nat.zero_le _) hn2 (by decide)]; rfl
  have e1 : drMS μ p0 (nI n1) (nI n2) p3 = drM μ p0 n1 n2 p3 := by
    unfold drMS
    rw [if_pos hy]
    try (repeat rw [cl_n (by omega)])
    try with_reducible rfl
  have e2 : drMR μ p0 (nI n1) (nI n2) p3 = nI (drR μ p0 n1 n2 p3) := by
    unfold drMR
    rw [if_pos hy]
    try (repeat rw [cl_n (by omega)])
    try with_reducible rfl
    try rfl
  rw [e1, e2] at kk
  refine va_calli (va_runV (As := [.int p0, .int (nI n1), .int (nI n2), .int p3]) (rest := []) S (k_X8_deleteRange l G σ μ o p0 n1 n2 p3 (by omega) (by omega) hm) (cwV 4 S.2.2.2.2 hix rfl rfl rfl ⟨rfl, hy_X8_deleteRange⟩ ⟨Nat.le_of_ble_eq_true rfl, Nat.le_of_ble_eq_true rfl⟩) (wPc_V (q := (RX8, TX8, 19)) Z (by decide) rfl rfl) rfl rfl hls rfl (lv_room (Nat.le_of_ble_eq_true rfl)) hdg ⟨hc, hs⟩) Z.2.2.2.2 (fun _ _ h => h) (fun _ h => h) (fun r9 u9 T9 H1 locs1 hT9 hvm hw hB hz hk9 hS => ?_)
  obtain ⟨hr9, hu9⟩ := hw
  subst hu9
  rw [hr9]
  exact kk H1 locs1 (wZ_callP Z hB hT9 hS)
set_option maxHeartbeats 4000000 in
theorem mr_loseHints (S : CallFix p m c cL_law 7 s args wsL_law RL) (Z : wZ G σ μ o s H locs) (hm : mOK μ) {p0 : Int32} (hls : ls.size = 7) (hc : cells ≤ 601024) (hs : slots ≤ 7293034) {ix : Nat} (hix : GoodIn wsL_law (wsV RL ix RX8 yX8_loseHints wsX8_loseHints)) (hdg : decode cL_law pc = .ok (.invokevirtual ix, 3))
    (kk : ∀ (H1 : Heap) (locs1 : List Loc), wZ G σ (lhMS μ p0) o s H1 locs1 → W p l e room_1 s m args below meth c H1 locs1 cells slots Q (F0 m (pc + 3) ls [.int (lhMR μ p0)])) : W p l e room_1 s m args below meth c H locs cells slots Q (F0 m pc ls [.int p0, .ref (gA G 39)]) := by
  rcases wi_split p0 (n := 2) (by decide) with bb | ⟨n0, hn0, rfl⟩
  · have hb : isCopyB p0 = false := cop_b bb
    have hno : ¬ isCopyB p0 = true := by rw [hb]; exact Bool.false_ne_true
    have e1 : lhMS μ p0 = thr μ 1 := if_neg hno
    have e2 : lhMR μ p0 = nI (0) := if_neg hno
    rw [e1, e2] at kk
    refine va_calli (va_runV (As := [.int p0]) (rest := []) S (k_X8_loseHints_B l G σ μ o p0 hb) (cwV 1 S.2.2.2.2 hix rfl rfl rfl ⟨rfl, hy_X8_loseHints⟩ ⟨Nat.le_of_ble_eq_true rfl, Nat.le_of_ble_eq_true rfl⟩) (wPc_V (q := (RX8, TX8, 19)) Z (by decide) rfl rfl) rfl rfl hls rfl (lv_room (Nat.le_of_ble_eq_true rfl)) hdg ⟨hc, hs⟩) Z.2.2.2.2 (fun _ _ h => h) (fun _ h => h) (fun r9 u9 T9 H1 locs1 hT9 hvm hw hB hz hk9 hS => ?_)
    obtain ⟨hr9, hu9⟩ := hw
    subst hu9
    rw [hr9]
    exact kk H1 locs1 (wZ_callP Z hB hT9 hS)
  have hy : isCopyB (nI n0) = true := cop_g hn0
  have e1 : lhMS μ (nI n0) = mH' (thr μ 0) n0 0 := by
    unfold lhMS
    rw [if_pos hy]
    try (repeat rw [cl_n (by omega)])
    try with_reducible rfl
  have e2 : lhMR μ (nI n0) = nI (mH μ n0) := by
    unfold lhMR
    rw [if_pos hy]
    try (repeat rw [cl_n (by omega)])
    try with_reducible rfl
    try rfl
  rw [e1, e2] at kk
  refine va_calli (va_runV (As := [.int (nI n0)]) (rest := []) S (k_X8_loseHints l G σ μ o n0 (by omega)) (cwV 1 S.2.2.2.2 hix rfl rfl rfl ⟨rfl, hy_X8_loseHints⟩ ⟨Nat.le_of_ble_eq_true rfl, Nat.le_of_ble_eq_true rfl⟩) (wPc_V (q := (RX8, TX8, 19)) Z (by decide) rfl rfl) rfl rfl hls rfl (lv_room (Nat.le_of_ble_eq_true rfl)) hdg ⟨hc, hs⟩) Z.2.2.2.2 (fun _ _ h => h) (fun _ h => h) (fun r9 u9 T9 H1 locs1 hT9 hvm hw hB hz hk9 hS => ?_)
  obtain ⟨hr9, hu9⟩ := hw
  subst hu9
  rw [hr9]
  exact kk H1 locs1 (wZ_callP Z hB hT9 hS)
set_option maxHeartbeats 4000000 in
theorem mr_pass (S : CallFix p m c cL_law 7 s args wsL_law RL) (Z : wZ G σ μ o s H locs) (hm : mOK μ) {p0 : Int32} (hls : ls.size = 7) (hc : cells ≤ 601024) (hs : slots ≤ 7293034) {ix : Nat} (hix : GoodIn wsL_law (wsV RL ix RX8 yX8_pass wsX8_pass)) (hdg : decode cL_law pc = .ok (.invokevirtual ix, 3))
    (kk : ∀ (H1 : Heap) (locs1 : List Loc), wZ G σ (paS μ p0) o s H1 locs1 → W p l e room_1 s m args below meth c H1 locs1 cells slots Q (F0 m (pc + 3) ls [.int (paR μ p0)])) : W p l e room_1 s m args below meth c H locs cells slots Q (F0 m pc ls [.int p0, .ref (gA G 39)]) := by
  refine va_calli (va_runV (As := [.int p0]) (rest := []) S (k_X8_pass l G σ μ o p0) (cwV 1 S.2.2.2.2 hix rfl rfl rfl ⟨rfl, hy_X8_pass⟩ ⟨Nat.le_of_ble_eq_true rfl, Nat.le_of_ble_eq_true rfl⟩) (wPc_V (q := (RX8, TX8, 19)) Z (by decide) rfl rfl) rfl rfl hls rfl (lv_room (Nat.le_of_ble_eq_true rfl)) hdg ⟨hc, hs⟩) Z.2.2.2.2 (fun _ _ h => h) (fun _ h => h) (fun r9 u9 T9 H1 locs1 hT9 hvm hw hB hz hk9 hS => ?_)
  obtain ⟨hr9, hu9⟩ := hw
  subst hu9
  rw [hr9]
  exact kk H1 locs1 (wZ_callP Z hB hT9 hS)
set_option maxHeartbeats 4000000 in
theorem mr_setGrace (S : CallFix p m c cL_law 7 s args wsL_law RL) (Z : wZ G σ μ o s H locs) (hm : mOK μ) {p0 : Int32} (hls : ls.size = 7) (hc : cells ≤ 601024) (hs : slots ≤ 7293034) {ix : Nat} (hix : GoodIn wsL_law (wsV RL ix RX8 yX8_setGrace wsX8_setGrace)) (hdg : decode cL_law pc = .ok (.invokevirtual ix, 3))
    (kk : ∀ (H1 : Heap) (locs1 : List Loc), wZ G σ (sgS μ p0) o s H1 locs1 → W p l e room_1 s m args below meth c H1 locs1 cells slots Q (F0 m (pc + 3) ls [.int (sgR μ p0)])) : W p l e room_1 s m args below meth c H locs cells slots Q (F0 m pc ls [.int p0, .ref (gA G 39)]) := by
  refine va_calli (va_runV (As := [.int p0]) (rest := []) S (k_X8_setGrace l G σ μ o p0) (cwV 1 S.2.2.2.2 hix rfl rfl rfl ⟨rfl, hy_X8_setGrace⟩ ⟨Nat.le_of_ble_eq_true rfl, Nat.le_of_ble_eq_true rfl⟩) (wPc_V (q := (RX8, TX8, 19)) Z (by decide) rfl rfl) rfl rfl hls rfl (lv_room (Nat.le_of_ble_eq_true rfl)) hdg ⟨hc, hs⟩) Z.2.2.2.2 (fun _ _ h => h) (fun _ h => h) (fun r9 u9 T9 H1 locs1 hT9 hvm hw hB hz hk9 hS => ?_)
  obtain ⟨hr9, hu9⟩ := hw
  subst hu9
  rw [hr9]
  exact kk H1 locs1 (wZ_callP Z hB hT9 hS)
set_option maxHeartbeats 4000000 in
theorem mr_read (S : CallFix p m c cL_law 7 s args wsL_law RL) (Z : wZ G σ μ o s H locs) (hm : mOK μ) {p0 p1 p2 p3 : Int32} (hls : ls.size = 7) (hc : cells ≤ 601024) (hs : slots ≤ 7293034) {ix : Nat} (hix : GoodIn wsL_law (wsV RL ix RX8 yX8_read wsX8_read)) (hdg : decode cL_law pc = .ok (.invokevirtual ix, 3))
    (kk : ∀ (H1 : Heap) (locs1 : List Loc), wZ G σ (rdMS μ p0 p1 p2 p3) o s H1 locs1 → W p l e room_1 s m args below meth c H1 locs1 cells slots Q (F0 m (pc + 3) ls [.int (rdMR μ p0 p1 p2 p3)])) : W p l e room_1 s m args below meth c H locs cells slots Q (F0 m pc ls [.int p3, .int p2, .int p1, .int p0, .ref (gA G 39)]) := by
  rcases wi_split p0 (n := 2) (by decide) with bb | ⟨n0, hn0, rfl⟩
  · have hb : (isCopyB p0 && isCopyB p1 && isCellB p2 p3) = false := by rw [cop_b bb]; rfl
    have hno : ¬ (isCopyB p0 && isCopyB p1 && isCellB p2 p3) = true := by rw [hb]; exact Bool.false_ne_true
    have e1 : rdMS μ p0 p1 p2 p3 = thr μ 1 := if_neg hno
    have e2 : rdMR μ p0 p1 p2 p3 = nI (0) := if_neg hno
    rw [e1, e2] at kk
    refine va_calli (va_runV (As := [.int p0, .int p1, .int p2, .int p3]) (rest := []) S (k_X8_read_B l G σ μ o p0 p1 p2 p3 hb) (cwV 4 S.2.2.2.2 hix rfl rfl rfl ⟨rfl, hy_X8_read⟩ ⟨Nat.le_of_ble_eq_true rfl, Nat.le_of_ble_eq_true rfl⟩) (wPc_V (q := (RX8, TX8, 19)) Z (by decide) rfl rfl) rfl rfl hls rfl (lv_room (Nat.le_of_ble_eq_true rfl)) hdg ⟨hc, hs⟩) Z.2.2.2.2 (fun _ _ h => h) (fun _ h => h) (fun r9 u9 T9 H1 locs1 hT9 hvm hw hB hz hk9 hS => ?_)
    obtain ⟨hr9, hu9⟩ := hw
    subst hu9
    rw [hr9]
    exact kk H1 locs1 (wZ_callP Z hB hT9 hS)
  rcases wi_split p1 (n := 2) (by decide) with bb | ⟨n1, hn1, rfl⟩
  · have hb : (isCopyB (nI n0) && isCopyB p1 && isCellB p2 p3) = false := by rw [cop_b bb, Bool.and_false]; rfl
    have hno : ¬ (isCopyB (nI n0) && isCopyB p1 && isCellB p2 p3) = true := by rw [hb]; exact Bool.false_ne_true
    have e1 : rdMS μ (nI n0) p1 p2 p3 = thr μ 1 := if_neg hno
    have e2 : rdMR μ (nI n0) p1 p2 p3 = nI (0) := if_neg hno
    rw [e1, e2] at kk
    refine va_calli (va_runV (As := [.int (nI n0), .int p1, .int p2, .int p3]) (rest := []) S (k_X8_read_B l G σ μ o (nI n0) p1 p2 p3 hb) (cwV 4 S.2.2.2.2 hix rfl rfl rfl ⟨rfl, hy_X8_read⟩ ⟨Nat.le_of_ble_eq_true rfl, Nat.le_of_ble_eq_true rfl⟩) (wPc_V (q := (RX8, TX8, 19)) Z (by decide) rfl rfl) rfl rfl hls rfl (lv_room (Nat.le_of_ble_eq_true rfl)) hdg ⟨hc, hs⟩) Z.2.2.2.2 (fun _ _ h => h) (fun _ h => h) (fun r9 u9 T9 H1 locs1 hT9 hvm hw hB hz hk9 hS => ?_)
    obtain ⟨hr9, hu9⟩ := hw
    subst hu9
    rw [hr9]
    exact kk H1 locs1 (wZ_callP Z hB hT9 hS)
  rcases wi_split p2 (n := 15) (by decide) with bb | ⟨n2, hn2, rfl⟩
  · have hb : (isCopyB (nI n0) && isCopyB (nI n1) && isCellB p2 p3) = false := by rw [cell_b1 bb, Bool.and_false]
    have hno : ¬ (isCopyB (nI n0) && isCopyB (nI n1) && isCellB p2 p3) = true := by rw [hb]; exact Bool.false_ne_true
    have e1 : rdMS μ (nI n0) (nI n1) p2 p3 = thr μ 1 := if_neg hno
    have e2 : rdMR μ (nI n0) (nI n1) p2 p3 = nI (0) := if_neg hno
    rw [e1, e2] at kk
    refine va_calli (va_runV (As := [.int (nI n0), .int (nI n1), .int p2, .int p3]) (rest := []) S (k_X8_read_B l G σ μ o (nI n0) (nI n1) p2 p3 hb) (cwV 4 S.2.2.2.2 hix rfl rfl rfl ⟨rfl, hy_X8_read⟩ ⟨Nat.le_of_ble_eq_true rfl, Nat.le_of_ble_eq_true rfl⟩) (wPc_V (q := (RX8, TX8, 19)) Z (by decide) rfl rfl) rfl rfl hls rfl (lv_room (Nat.le_of_ble_eq_true rfl)) hdg ⟨hc, hs⟩) Z.2.2.2.2 (fun _ _ h => h) (fun _ h => h) (fun r9 u9 T9 H1 locs1 hT9 hvm hw hB hz hk9 hS => ?_)
    obtain ⟨hr9, hu9⟩ := hw
    subst hu9
    rw [hr9]
    exact kk H1 locs1 (wZ_callP Z hB hT9 hS)
  rcases wi_split p3 (n := 3) (by decide) with bb | ⟨n3, hn3, rfl⟩
  · have hb : (isCopyB (nI n0) && isCopyB (nI n1) && isCellB (nI n2) p3) = false := by rw [cell_b2 bb, Bool.and_false]
    have hno : ¬ (isCopyB (nI n0) && isCopyB (nI n1) && isCellB (nI n2) p3) = true := by rw [hb]; exact Bool.false_ne_true
    have e1 : rdMS μ (nI n0) (nI n1) (nI n2) p3 = thr μ 1 := if_neg hno
    have e2 : rdMR μ (nI n0) (nI n1) (nI n2) p3 = nI (0) := if_neg hno
    rw [e1, e2] at kk
    refine va_calli (va_runV (As := [.int (nI n0), .int (nI n1), .int (nI n2), .int p3]) (rest := []) S (k_X8_read_B l G σ μ o (nI n0) (nI n1) (nI n2) p3 hb) (cwV 4 S.2.2.2.2 hix rfl rfl rfl ⟨rfl, hy_X8_read⟩ ⟨Nat.le_of_ble_eq_true rfl, Nat.le_of_ble_eq_true rfl⟩) (wPc_V (q := (RX8, TX8, 19)) Z (by decide) rfl rfl) rfl rfl hls rfl (lv_room (Nat.le_of_ble_eq_true rfl)) hdg ⟨hc, hs⟩) Z.2.2.2.2 (fun _ _ h => h) (fun _ h => h) (fun r9 u9 T9 H1 locs1 hT9 hvm hw hB hz hk9 hS => ?_)
    obtain ⟨hr9, hu9⟩ := hw
    subst hu9
    rw [hr9]
    exact kk H1 locs1 (wZ_callP Z hB hT9 hS)
  have hy : (isCopyB (nI n0) && isCopyB (nI n1) && isCellB (nI n2) (nI n3)) = true := by rw [cop_g hn0, cop_g hn1, isCellB_ok (by omega) (by omega)]; rfl
  have e1 : rdMS μ (nI n0) (nI n1) (nI n2) (nI n3) = rdF μ n0 n1 n2 n3 := by
    unfold rdMS
    rw [if_pos hy]
    try (repeat rw [cl_n (by omega)])
    try with_reducible rfl
  have e2 : rdMR μ (nI n0) (nI n1) (nI n2) (nI n3) = rdR μ n0 n1 n2 n3 := by
    unfold rdMR
    rw [if_pos hy]
    try (repeat rw [cl_n (by omega)])
    try with_reducible rfl
    try rfl
  rw [e1, e2] at kk
  refine va_calli (va_runV (As := [.int (nI n0), .int (nI n1), .int (nI n2), .int (nI n3)]) (rest := []) S (k_X8_read l G σ μ o n0 n1 n2 n3 (by omega) (by omega) (by omega) (by omega) hm.1) (cwV 4 S.2.2.2.2 hix rfl rfl rfl ⟨rfl, hy_X8_read⟩ ⟨Nat.le_of_ble_eq_true rfl, Nat.le_of_ble_eq_true rfl⟩) (wPc_V (q := (RX8, TX8, 19)) Z (by decide) rfl rfl) rfl rfl hls rfl (lv_room (Nat.le_of_ble_eq_true rfl)) hdg ⟨hc, hs⟩) Z.2.2.2.2 (fun _ _ h => h) (fun _ h => h) (fun r9 u9 T9 H1 locs1 hT9 hvm hw hB hz hk9 hS => ?_)
  obtain ⟨hr9, hu9⟩ := hw
  subst hu9
  rw [hr9]
  exact kk H1 locs1 (wZ_callP Z hB hT9 hS)
set_option maxHeartbeats 4000000 in
theorem mr_makeAlike (S : CallFix p m c cL_law 7 s args wsL_law RL) (Z : wZ G σ μ o s H locs) (hm : mOK μ) {p0 p1 : Int32} (hls : ls.size = 7) (hc : cells ≤ 601024) (hs : slots ≤ 7293034) {ix : Nat} (hix : GoodIn wsL_law (wsV RL ix RX8 yX8_makeAlike wsX8_makeAlike)) (hdg : decode cL_law pc = .ok (.invokevirtual ix, 3))
    (kk : ∀ (H1 : Heap) (locs1 : List Loc), wZ G σ (maMS μ p0 p1) o s H1 locs1 → W p l e room_1 s m args below meth c H1 locs1 cells slots Q (F0 m (pc + 3) ls [.int (maMR μ p0 p1)])) : W p l e room_1 s m args below meth c H locs cells slots Q (F0 m pc ls [.int p1, .int p0, .ref (gA G 39)]) := by
  rcases wi_split p0 (n := 2) (by decide) with bb | ⟨n0, hn0, rfl⟩
  · have hb : (isCopyB p0 && isCopyB p1) = false := by rw [cop_b bb]; rfl
    have hno : ¬ (isCopyB p0 && isCopyB p1) = true := by rw [hb]; exact Bool.false_ne_true
    have e1 : maMS μ p0 p1 = thr μ 1 := if_neg hno
    have e2 : maMR μ p0 p1 = nI (0) := if_neg hno
    rw [e1, e2] at kk
    refine va_calli (va_runV (As := [.int p0, .int p1]) (rest := []) S (k_X8_makeAlike_B l G σ μ o p0 p1 hb) (cwV 2 S.2.2.2.2 hix rfl rfl rfl ⟨rfl, hy_X8_makeAlike⟩ ⟨Nat.le_of_ble_eq_true rfl, Nat.le_of_ble_eq_true rfl⟩) (wPc_V (q := (RX8, TX8, 19)) Z (by decide) rfl rfl) rfl rfl hls rfl (lv_room (Nat.le_of_ble_eq_true rfl)) hdg ⟨hc, hs⟩) Z.2.2.2.2 (fun _ _ h => h) (fun _ h => h) (fun r9 u9 T9 H1 locs1 hT9 hvm hw hB hz hk9 hS => ?_)
    obtain ⟨hr9, hu9⟩ := hw
    subst hu9
    rw [hr9]
    exact kk H1 locs1 (wZ_callP Z hB hT9 hS)
  rcases wi_split p1 (n := 2) (by decide) with bb | ⟨n1, hn1, rfl⟩
  · have hb : (isCopyB (nI n0) && isCopyB p1) = false := by rw [cop_b bb, Bool.and_false]
    have hno : ¬ (isCopyB (nI n0) && isCopyB p1) = true := by rw [hb]; exact Bool.false_ne_true
    have e1 : maMS μ (nI n0) p1 = thr μ 1 := if_neg hno
    have e2 : maMR μ (nI n0) p1 = nI (0) := if_neg hno
    rw [e1, e2] at kk
    refine va_calli (va_runV (As := [.int (nI n0), .int p1]) (rest := []) S (k_X8_makeAlike_B l G σ μ o (nI n0) p1 hb) (cwV 2 S.2.2.2.2 hix rfl rfl rfl ⟨rfl, hy_X8_makeAlike⟩ ⟨Nat.le_of_ble_eq_true rfl, Nat.le_of_ble_eq_true rfl⟩) (wPc_V (q := (RX8, TX8, 19)) Z (by decide) rfl rfl) rfl rfl hls rfl (lv_room (Nat.le_of_ble_eq_true rfl)) hdg ⟨hc, hs⟩) Z.2.2.2.2 (fun _ _ h => h) (fun _ h => h) (fun r9 u9 T9 H1 locs1 hT9 hvm hw hB hz hk9 hS => ?_)
    obtain ⟨hr9, hu9⟩ := hw
    subst hu9
    rw [hr9]
    exact kk H1 locs1 (wZ_callP Z hB hT9 hS)
  have hy : (isCopyB (nI n0) && isCopyB (nI n1)) = true := by rw [cop_g hn0, cop_g hn1]; rfl
  have e1 : maMS μ (nI n0) (nI n1) = maF μ n0 n1 := by
    unfold maMS
    rw [if_pos hy]
    try (repeat rw [cl_n (by omega)])
    try with_reducible rfl
  have e2 : maMR μ (nI n0) (nI n1) = nI (maQ μ n0 n1) := by
    unfold maMR
    rw [if_pos hy]
    try (repeat rw [cl_n (by omega)])
    try with_reducible rfl
    try rfl
  rw [e1, e2] at kk
  refine va_calli (va_runV (As := [.int (nI n0), .int (nI n1)]) (rest := []) S (k_X8_makeAlike l G σ μ o n0 n1 (by omega) (by omega) hm.1) (cwV 2 S.2.2.2.2 hix rfl rfl rfl ⟨rfl, hy_X8_makeAlike⟩ ⟨Nat.le_of_ble_eq_true rfl, Nat.le_of_ble_eq_true rfl⟩) (wPc_V (q := (RX8, TX8, 19)) Z (by decide) rfl rfl) rfl rfl hls rfl (lv_room (Nat.le_of_ble_eq_true rfl)) hdg ⟨hc, hs⟩) Z.2.2.2.2 (fun _ _ h => h) (fun _ h => h) (fun r9 u9 T9 H1 locs1 hT9 hvm hw hB hz hk9 hS => ?_)
  obtain ⟨hr9, hu9⟩ := hw
  subst hu9
  rw [hr9]
  exact kk H1 locs1 (wZ_callP Z hB hT9 hS)
set_option maxHeartbeats 4000000 in
theorem mr_clean (S : CallFix p m c cL_law 7 s args wsL_law RL) (Z : wZ G σ μ o s H locs) (hm : mOK μ) {p0 : Int32} (hls : ls.size = 7) (hc : cells ≤ 601024) (hs : slots ≤ 7293034) {ix : Nat} (hix : GoodIn wsL_law (wsV RL ix RX8 yX8_clean wsX8_clean)) (hdg : decode cL_law pc = .ok (.invokevirtual ix, 3))
    (kk : ∀ (H1 : Heap) (locs1 : List Loc), wZ G σ (clMS μ p0) o s H1 locs1 → W p l e room_1 s m args below meth c H1 locs1 cells slots Q (F0 m (pc + 3) ls [.int (clMR μ p0)])) : W p l e room_1 s m args below meth c H locs cells slots Q (F0 m pc ls [.int p0, .ref (gA G 39)]) := by
  rcases wi_split p0 (n := 2) (by decide) with bb | ⟨n0, hn0, rfl⟩
  · have hb : isCopyB p0 = false := cop_b bb
    have hno : ¬ isCopyB p0 = true := by rw [hb]; exact Bool.false_ne_true
    have e1 : clMS μ p0 = thr μ 1 := if_neg hno
    have e2 : clMR μ p0 = nI (0) := if_neg hno
    rw [e1, e2] at kk
    refine va_calli (va_runV (As := [.int p0]) (rest := []) S (k_X8_clean_B l G σ μ o p0 hb) (cwV 1 S.2.2.2.2 hix rfl rfl rfl ⟨rfl, hy_X8_clean⟩ ⟨Nat.le_of_ble_eq_true rfl, Nat.le_of_ble_eq_true rfl⟩) (wPc_V (q := (RX8, TX8, 19)) Z (by decide) rfl rfl) rfl rfl hls rfl (lv_room (Nat.le_of_ble_eq_true rfl)) hdg ⟨hc, hs⟩) Z.2.2.2.2 (fun _ _ h => h) (fun _ h => h) (fun r9 u9 T9 H1 locs1 hT9 hvm hw hB hz hk9 hS => ?_)
    obtain ⟨hr9, hu9⟩ := hw
    subst hu9
    rw [hr9]
    exact kk H1 locs1 (wZ_callP Z hB hT9 hS)
  have hy : isCopyB (nI n0) = true := cop_g hn0
  have e1 : clMS μ (nI n0) = clF μ n0 := by
    unfold clMS
    rw [if_pos hy]
    try (repeat rw [cl_n (by omega)])
    try with_reducible rfl
  have e2 : clMR μ (nI n0) = nI (clQ μ n0) := by
    unfold clMR
    rw [if_pos hy]
    try (repeat rw [cl_n (by omega)])
    try with_reducible rfl
    try rfl
  rw [e1, e2] at kk
  refine va_calli (va_runV (As := [.int (nI n0)]) (rest := []) S (k_X8_clean l G σ μ o n0 (by omega) hm.1) (cwV 1 S.2.2.2.2 hix rfl rfl rfl ⟨rfl, hy_X8_clean⟩ ⟨Nat.le_of_ble_eq_true rfl, Nat.le_of_ble_eq_true rfl⟩) (wPc_V (q := (RX8, TX8, 19)) Z (by decide) rfl rfl) rfl rfl hls rfl (lv_room (Nat.le_of_ble_eq_true rfl)) hdg ⟨hc, hs⟩) Z.2.2.2.2 (fun _ _ h => h) (fun _ h => h) (fun r9 u9 T9 H1 locs1 hT9 hvm hw hB hz hk9 hS => ?_)
  obtain ⟨hr9, hu9⟩ := hw
  subst hu9
  rw [hr9]
  exact kk H1 locs1 (wZ_callP Z hB hT9 hS)
set_option maxHeartbeats 4000000 in
theorem mr_isUp (S : CallFix p m c cL_law 7 s args wsL_law RL) (Z : wZ G σ μ o s H locs) (hm : mOK μ) {p0 : Int32} (hls : ls.size = 7) (hc : cells ≤ 601024) (hs : slots ≤ 7293034) {ix : Nat} (hix : GoodIn wsL_law (wsV RL ix RX8 yX8_isUp wsX8_isUp)) (hdg : decode cL_law pc = .ok (.invokevirtual ix, 3))
    (kk : ∀ (H1 : Heap) (locs1 : List Loc), wZ G σ (q1MS μ p0) o s H1 locs1 → W p l e room_1 s m args below meth c H1 locs1 cells slots Q (F0 m (pc + 3) ls [.int (iuMR μ p0)])) : W p l e room_1 s m args below meth c H locs cells slots Q (F0 m pc ls [.int p0, .ref (gA G 39)]) := by
  rcases wi_split p0 (n := 2) (by decide) with bb | ⟨n0, hn0, rfl⟩
  · have hb : isCopyB p0 = false := cop_b bb
    have hno : ¬ isCopyB p0 = true := by rw [hb]; exact Bool.false_ne_true
    have e1 : q1MS μ p0 = thr μ 1 := if_neg hno
    have e2 : iuMR μ p0 = bi (false) := if_neg hno
    rw [e1, e2] at kk
    refine va_calli (va_runV (As := [.int p0]) (rest := []) S (k_X8_isUp_B l G σ μ o p0 hb) (cwV 1 S.2.2.2.2 hix rfl rfl rfl ⟨rfl, hy_X8_isUp⟩ ⟨Nat.le_of_ble_eq_true rfl, Nat.le_of_ble_eq_true rfl⟩) (wPc_V (q := (RX8, TX8, 19)) Z (by decide) rfl rfl) rfl rfl hls rfl (lv_room (Nat.le_of_ble_eq_true rfl)) hdg ⟨hc, hs⟩) Z.2.2.2.2 (fun _ _ h => h) (fun _ h => h) (fun r9 u9 T9 H1 locs1 hT9 hvm hw hB hz hk9 hS => ?_)
    obtain ⟨hr9, hu9⟩ := hw
    subst hu9
    rw [hr9]
    exact kk H1 locs1 (wZ_callP Z hB hT9 hS)
  have hy : isCopyB (nI n0) = true := cop_g hn0
  have e1 : q1MS μ (nI n0) = thr μ 0 := by
    unfold q1MS
    rw [if_pos hy]
    try (repeat rw [cl_n (by omega)])
    try with_reducible rfl
  have e2 : iuMR μ (nI n0) = bi (mU (thr μ 0) n0) := by
    unfold iuMR
    rw [if_pos hy]
    try (repeat rw [cl_n (by omega)])
    try with_reducible rfl
    try rfl
  rw [e1, e2] at kk
  refine va_calli (va_runV (As := [.int (nI n0)]) (rest := []) S (k_X8_isUp l G σ μ o n0 (by omega)) (cwV 1 S.2.2.2.2 hix rfl rfl rfl ⟨rfl, hy_X8_isUp⟩ ⟨Nat.le_of_ble_eq_true rfl, Nat.le_of_ble_eq_true rfl⟩) (wPc_V (q := (RX8, TX8, 19)) Z (by decide) rfl rfl) rfl rfl hls rfl (lv_room (Nat.le_of_ble_eq_true rfl)) hdg ⟨hc, hs⟩) Z.2.2.2.2 (fun _ _ h => h) (fun _ h => h) (fun r9 u9 T9 H1 locs1 hT9 hvm hw hB hz hk9 hS => ?_)
  obtain ⟨hr9, hu9⟩ := hw
  subst hu9
  rw [hr9]
  exact kk H1 locs1 (wZ_callP Z hB hT9 hS)
set_option maxHeartbeats 4000000 in
theorem mr_hints (S : CallFix p m c cL_law 7 s args wsL_law RL) (Z : wZ G σ μ o s H locs) (hm : mOK μ) {p0 : Int32} (hls : ls.size = 7) (hc : cells ≤ 601024) (hs : slots ≤ 7293034) {ix : Nat} (hix : GoodIn wsL_law (wsV RL ix RX8 yX8_hints wsX8_hints)) (hdg : decode cL_law pc = .ok (.invokevirtual ix, 3))
    (kk : ∀ (H1 : Heap) (locs1 : List Loc), wZ G σ (q1MS μ p0) o s H1 locs1 → W p l e room_1 s m args below meth c H1 locs1 cells slots Q (F0 m (pc + 3) ls [.int (htMR μ p0)])) : W p l e room_1 s m args below meth c H locs cells slots Q (F0 m pc ls [.int p0, .ref (gA G 39)]) := by
  rcases wi_split p0 (n := 2) (by decide) with bb | ⟨n0, hn0, rfl⟩
  · have hb : isCopyB p0 = false := cop_b bb
    have hno : ¬ isCopyB p0 = true := by rw [hb]; exact Bool.false_ne_true
    have e1 : q1MS μ p0 = thr μ 1 := if_neg hno
    have e2 : htMR μ p0 = nI (0) := if_neg hno
    rw [e1, e2] at kk
    refine va_calli (va_runV (As := [.int p0]) (rest := []) S (k_X8_hints_B l G σ μ o p0 hb) (cwV 1 S.2.2.2.2 hix rfl rfl rfl ⟨rfl, hy_X8_hints⟩ ⟨Nat.le_of_ble_eq_true rfl, Nat.le_of_ble_eq_true rfl⟩) (wPc_V (q := (RX8, TX8, 19)) Z (by decide) rfl rfl) rfl rfl hls rfl (lv_room (Nat.le_of_ble_eq_true rfl)) hdg ⟨hc, hs⟩) Z.2.2.2.2 (fun _ _ h => h) (fun _ h => h) (fun r9 u9 T9 H1 locs1 hT9 hvm hw hB hz hk9 hS => ?_)
    obtain ⟨hr9, hu9⟩ := hw
    subst hu9
    rw [hr9]
    exact kk H1 locs1 (wZ_callP Z hB hT9 hS)
  have hy : isCopyB (nI n0) = true := cop_g hn0
  have e1 : q1MS μ (nI n0) = thr μ 0 := by
    unfold q1MS
    rw [if_pos hy]
    try (repeat rw [cl_n (by omega)])
    try with_reducible rfl
  have e2 : htMR μ (nI n0) = nI (mH μ n0) := by
    unfold htMR
    rw [if_pos hy]
    try (repeat rw [cl_n (by omega)])
    try with_reducible rfl
    try rfl
  rw [e1, e2] at kk
  refine va_calli (va_runV (As := [.int (nI n0)]) (rest := []) S (k_X8_hints l G σ μ o n0 (by omega)) (cwV 1 S.2.2.2.2 hix rfl rfl rfl ⟨rfl, hy_X8_hints⟩ ⟨Nat.le_of_ble_eq_true rfl, Nat.le_of_ble_eq_true rfl⟩) (wPc_V (q := (RX8, TX8, 19)) Z (by decide) rfl rfl) rfl rfl hls rfl (lv_room (Nat.le_of_ble_eq_true rfl)) hdg ⟨hc, hs⟩) Z.2.2.2.2 (fun _ _ h => h) (fun _ h => h) (fun r9 u9 T9 H1 locs1 hT9 hvm hw hB hz hk9 hS => ?_)
  obtain ⟨hr9, hu9⟩ := hw
  subst hu9
  rw [hr9]
  exact kk H1 locs1 (wZ_callP Z hB hT9 hS)
set_option maxHeartbeats 4000000 in
theorem mr_valueAt (S : CallFix p m c cL_law 7 s args wsL_law RL) (Z : wZ G σ μ o s H locs) (hm : mOK μ) {p0 p1 p2 : Int32} (hls : ls.size = 7) (hc : cells ≤ 601024) (hs : slots ≤ 7293034) {ix : Nat} (hix : GoodIn wsL_law (wsV RL ix RX8 yX8_valueAt wsX8_valueAt)) (hdg : decode cL_law pc = .ok (.invokevirtual ix, 3))
    (kk : ∀ (H1 : Heap) (locs1 : List Loc), wZ G σ (q3MS μ p0 p1 p2) o s H1 locs1 → W p l e room_1 s m args below meth c H1 locs1 cells slots Q (F0 m (pc + 3) ls [.int (vaMR μ p0 p1 p2)])) : W p l e room_1 s m args below meth c H locs cells slots Q (F0 m pc ls [.int p2, .int p1, .int p0, .ref (gA G 39)]) := by
  rcases wi_split p0 (n := 2) (by decide) with bb | ⟨n0, hn0, rfl⟩
  · have hb : (isCopyB p0 && isCellB p1 p2) = false := by rw [cop_b bb]; rfl
    have hno : ¬ (isCopyB p0 && isCellB p1 p2) = true := by rw [hb]; exact Bool.false_ne_true
    have e1 : q3MS μ p0 p1 p2 = thr μ 1 := if_neg hno
    have e2 : vaMR μ p0 p1 p2 = nI (0) := if_neg hno
    rw [e1, e2] at kk
    refine va_calli (va_runV (As := [.int p0, .int p1, .int p2]) (rest := []) S (k_X8_valueAt_B l G σ μ o p0 p1 p2 hb) (cwV 3 S.2.2.2.2 hix rfl rfl rfl ⟨rfl, hy_X8_valueAt⟩ ⟨Nat.le_of_ble_eq_true rfl, Nat.le_of_ble_eq_true rfl⟩) (wPc_V (q := (RX8, TX8, 19)) Z (by decide) rfl rfl) rfl rfl hls rfl (lv_room (Nat.le_of_ble_eq_true rfl)) hdg ⟨hc, hs⟩) Z.2.2.2.2 (fun _ _ h => h) (fun _ h => h) (fun r9 u9 T9 H1 locs1 hT9 hvm hw hB hz hk9 hS => ?_)
    obtain ⟨hr9, hu9⟩ := hw
    subst hu9
    rw [hr9]
    exact kk H1 locs1 (wZ_callP Z hB hT9 hS)
  rcases wi_split p1 (n := 15) (by decide) with bb | ⟨n1, hn1, rfl⟩
  · have hb : (isCopyB (nI n0) && isCellB p1 p2) = false := by rw [cell_b1 bb, Bool.and_false]
    have hno : ¬ (isCopyB (nI n0) && isCellB p1 p2) = true := by rw [hb]; exact Bool.false_ne_true
    have e1 : q3MS μ (nI n0) p1 p2 = thr μ 1 := if_neg hno
    have e2 : vaMR μ (nI n0) p1 p2 = nI (0) := if_neg hno
    rw [e1, e2] at kk
    refine va_calli (va_runV (As := [.int (nI n0), .int p1, .int p2]) (rest := []) S (k_X8_valueAt_B l G σ μ o (nI n0) p1 p2 hb) (cwV 3 S.2.2.2.2 hix rfl rfl rfl ⟨rfl, hy_X8_valueAt⟩ ⟨Nat.le_of_ble_eq_true rfl, Nat.le_of_ble_eq_true rfl⟩) (wPc_V (q := (RX8, TX8, 19)) Z (by decide) rfl rfl) rfl rfl hls rfl (lv_room (Nat.le_of_ble_eq_true rfl)) hdg ⟨hc, hs⟩) Z.2.2.2.2 (fun _ _ h => h) (fun _ h => h) (fun r9 u9 T9 H1 locs1 hT9 hvm hw hB hz hk9 hS => ?_)
    obtain ⟨hr9, hu9⟩ := hw
    subst hu9
    rw [hr9]
    exact kk H1 locs1 (wZ_callP Z hB hT9 hS)
  rcases wi_split p2 (n := 3) (by decide) with bb | ⟨n2, hn2, rfl⟩
  · have hb : (isCopyB (nI n0) && isCellB (nI n1) p2) = false := by rw [cell_b2 bb, Bool.and_false]
    have hno : ¬ (isCopyB (nI n0) && isCellB (nI n1) p2) = true := by rw [hb]; exact Bool.false_ne_true
    have e1 : q3MS μ (nI n0) (nI n1) p2 = thr μ 1 := if_neg hno
    have e2 : vaMR μ (nI n0) (nI n1) p2 = nI (0) := if_neg hno
    rw [e1, e2] at kk
    refine va_calli (va_runV (As := [.int (nI n0), .int (nI n1), .int p2]) (rest := []) S (k_X8_valueAt_B l G σ μ o (nI n0) (nI n1) p2 hb) (cwV 3 S.2.2.2.2 hix rfl rfl rfl ⟨rfl, hy_X8_valueAt⟩ ⟨Nat.le_of_ble_eq_true rfl, Nat.le_of_ble_eq_true rfl⟩) (wPc_V (q := (RX8, TX8, 19)) Z (by decide) rfl rfl) rfl rfl hls rfl (lv_room (Nat.le_of_ble_eq_true rfl)) hdg ⟨hc, hs⟩) Z.2.2.2.2 (fun _ _ h => h) (fun _ h => h) (fun r9 u9 T9 H1 locs1 hT9 hvm hw hB hz hk9 hS => ?_)
    obtain ⟨hr9, hu9⟩ := hw
    subst hu9
    rw [hr9]
    exact kk H1 locs1 (wZ_callP Z hB hT9 hS)
  have hy : (isCopyB (nI n0) && isCellB (nI n1) (nI n2)) = true := by rw [cop_g hn0, isCellB_ok (by omega) (by omega)]; rfl
  have e1 : q3MS μ (nI n0) (nI n1) (nI n2) = thr μ 0 := by
    unfold q3MS
    rw [if_pos hy]
    try (repeat rw [cl_n (by omega)])
    try with_reducible rfl
  have e2 : vaMR μ (nI n0) (nI n1) (nI n2) = seeM (thr μ 0) n0 n1 n2 := by
    unfold vaMR
    rw [if_pos hy]
    try (repeat rw [cl_n (by omega)])
    try with_reducible rfl
    try rfl
  rw [e1, e2] at kk
  refine va_calli (va_runV (As := [.int (nI n0), .int (nI n1), .int (nI n2)]) (rest := []) S (k_X8_valueAt l G σ μ o n0 n1 n2 (by omega) (by omega) (by omega) hm.1) (cwV 3 S.2.2.2.2 hix rfl rfl rfl ⟨rfl, hy_X8_valueAt⟩ ⟨Nat.le_of_ble_eq_true rfl, Nat.le_of_ble_eq_true rfl⟩) (wPc_V (q := (RX8, TX8, 19)) Z (by decide) rfl rfl) rfl rfl hls rfl (lv_room (Nat.le_of_ble_eq_true rfl)) hdg ⟨hc, hs⟩) Z.2.2.2.2 (fun _ _ h => h) (fun _ h => h) (fun r9 u9 T9 H1 locs1 hT9 hvm hw hB hz hk9 hS => ?_)
  obtain ⟨hr9, hu9⟩ := hw
  subst hu9
  rw [hr9]
  exact kk H1 locs1 (wZ_callP Z hB hT9 hS)
set_option maxHeartbeats 4000000 in
theorem mr_tombstones (S : CallFix p m c cL_law 7 s args wsL_law RL) (Z : wZ G σ μ o s H locs) (hm : mOK μ) {p0 p1 : Int32} (hls : ls.size = 7) (hc : cells ≤ 601024) (hs : slots ≤ 7293034) {ix : Nat} (hix : GoodIn wsL_law (wsV RL ix RX8 yX8_tombstones wsX8_tombstones)) (hdg : decode cL_law pc = .ok (.invokevirtual ix, 3))
    (kk : ∀ (H1 : Heap) (locs1 : List Loc), wZ G σ (toMS μ p0 p1) o s H1 locs1 → W p l e room_1 s m args below meth c H1 locs1 cells slots Q (F0 m (pc + 3) ls [.int (toMR μ p0 p1)])) : W p l e room_1 s m args below meth c H locs cells slots Q (F0 m pc ls [.int p1, .int p0, .ref (gA G 39)]) := by
  rcases wi_split p0 (n := 2) (by decide) with bb | ⟨n0, hn0, rfl⟩
  · have hb : isCopyB p0 = false := cop_b bb
    have hno : ¬ isCopyB p0 = true := by rw [hb]; exact Bool.false_ne_true
    have e1 : toMS μ p0 p1 = thr μ 1 := if_neg hno
    have e2 : toMR μ p0 p1 = nI (0) := if_neg hno
    rw [e1, e2] at kk
    refine va_calli (va_runV (As := [.int p0, .int p1]) (rest := []) S (k_X8_tombstones_B l G σ μ o p0 p1 hb) (cwV 2 S.2.2.2.2 hix rfl rfl rfl ⟨rfl, hy_X8_tombstones⟩ ⟨Nat.le_of_ble_eq_true rfl, Nat.le_of_ble_eq_true rfl⟩) (wPc_V (q := (RX8, TX8, 19)) Z (by decide) rfl rfl) rfl rfl hls rfl (lv_room (Nat.le_of_ble_eq_true rfl)) hdg ⟨hc, hs⟩) Z.2.2.2.2 (fun _ _ h => h) (fun _ h => h) (fun r9 u9 T9 H1 locs1 hT9 hvm hw hB hz hk9 hS => ?_)
    obtain ⟨hr9, hu9⟩ := hw
    subst hu9
    rw [hr9]
    exact kk H1 locs1 (wZ_callP Z hB hT9 hS)
  have hy : isCopyB (nI n0) = true := cop_g hn0
  have e1 : toMS μ (nI n0) p1 = toS μ p1 := by
    unfold toMS
    rw [if_pos hy]
    try (repeat rw [cl_n (by omega)])
    try with_reducible rfl
  have e2 : toMR μ (nI n0) p1 = nI (toR μ n0 p1) := by
    unfold toMR
    rw [if_pos hy]
    try (repeat rw [cl_n (by omega)])
    try with_reducible rfl
    try rfl
  rw [e1, e2] at kk
  refine va_calli (va_runV (As := [.int (nI n0), .int p1]) (rest := []) S (k_X8_tombstones l G σ μ o n0 p1 (by omega)) (cwV 2 S.2.2.2.2 hix rfl rfl rfl ⟨rfl, hy_X8_tombstones⟩ ⟨Nat.le_of_ble_eq_true rfl, Nat.le_of_ble_eq_true rfl⟩) (wPc_V (q := (RX8, TX8, 19)) Z (by decide) rfl rfl) rfl rfl hls rfl (lv_room (Nat.le_of_ble_eq_true rfl)) hdg ⟨hc, hs⟩) Z.2.2.2.2 (fun _ _ h => h) (fun _ h => h) (fun r9 u9 T9 H1 locs1 hT9 hvm hw hB hz hk9 hS => ?_)
  obtain ⟨hr9, hu9⟩ := hw
  subst hu9
  rw [hr9]
  exact kk H1 locs1 (wZ_callP Z hB hT9 hS)
set_option maxHeartbeats 4000000 in
theorem mr_entries (S : CallFix p m c cL_law 7 s args wsL_law RL) (Z : wZ G σ μ o s H locs) (hm : mOK μ) {p0 : Int32} (hls : ls.size = 7) (hc : cells ≤ 601024) (hs : slots ≤ 7293034) {ix : Nat} (hix : GoodIn wsL_law (wsV RL ix RX8 yX8_entries wsX8_entries)) (hdg : decode cL_law pc = .ok (.invokevirtual ix, 3))
    (kk : ∀ (H1 : Heap) (locs1 : List Loc), wZ G σ (q1MS μ p0) o s H1 locs1 → W p l e room_1 s m args below meth c H1 locs1 cells slots Q (F0 m (pc + 3) ls [.int (enMR μ p0)])) : W p l e room_1 s m args below meth c H locs cells slots Q (F0 m pc ls [.int p0, .ref (gA G 39)]) := by
  rcases wi_split p0 (n := 2) (by decide) with bb | ⟨n0, hn0, rfl⟩
  · have hb : isCopyB p0 = false := cop_b bb
    have hno : ¬ isCopyB p0 = true := by rw [hb]; exact Bool.false_ne_true
    have e1 : q1MS μ p0 = thr μ 1 := if_neg hno
    have e2 : enMR μ p0 = nI (0) := if_neg hno
    rw [e1, e2] at kk
    refine va_calli (va_runV (As := [.int p0]) (rest := []) S (k_X8_entries_B l G σ μ o p0 hb) (cwV 1 S.2.2.2.2 hix rfl rfl rfl ⟨rfl, hy_X8_entries⟩ ⟨Nat.le_of_ble_eq_true rfl, Nat.le_of_ble_eq_true rfl⟩) (wPc_V (q := (RX8, TX8, 19)) Z (by decide) rfl rfl) rfl rfl hls rfl (lv_room (Nat.le_of_ble_eq_true rfl)) hdg ⟨hc, hs⟩) Z.2.2.2.2 (fun _ _ h => h) (fun _ h => h) (fun r9 u9 T9 H1 locs1 hT9 hvm hw hB hz hk9 hS => ?_)
    obtain ⟨hr9, hu9⟩ := hw
    subst hu9
    rw [hr9]
    exact kk H1 locs1 (wZ_callP Z hB hT9 hS)
  have hy : isCopyB (nI n0) = true := cop_g hn0
  have e1 : q1MS μ (nI n0) = thr μ 0 := by
    unfold q1MS
    rw [if_pos hy]
    try (repeat rw [cl_n (by omega)])
    try with_reducible rfl
  have e2 : enMR μ (nI n0) = nI (ecM (thr μ 0) n0 64) := by
    unfold enMR
    rw [if_pos hy]
    try (repeat rw [cl_n (by omega)])
    try with_reducible rfl
    try rfl
  rw [e1, e2] at kk
  refine va_calli (va_runV (As := [.int (nI n0)]) (rest := []) S (k_X8_entries l G σ μ o n0 (by omega)) (cwV 1 S.2.2.2.2 hix rfl rfl rfl ⟨rfl, hy_X8_entries⟩ ⟨Nat.le_of_ble_eq_true rfl, Nat.le_of_ble_eq_true rfl⟩) (wPc_V (q := (RX8, TX8, 19)) Z (by decide) rfl rfl) rfl rfl hls rfl (lv_room (Nat.le_of_ble_eq_true rfl)) hdg ⟨hc, hs⟩) Z.2.2.2.2 (fun _ _ h => h) (fun _ h => h) (fun r9 u9 T9 H1 locs1 hT9 hvm hw hB hz hk9 hS => ?_)
  obtain ⟨hr9, hu9⟩ := hw
  subst hu9
  rw [hr9]
  exact kk H1 locs1 (wZ_callP Z hB hT9 hS)
set_option maxHeartbeats 4000000 in
theorem mr_ideal (S : CallFix p m c cL_law 7 s args wsL_law RL) (Z : wZ G σ μ o s H locs) (hm : mOK μ) {p0 p1 : Int32} (hls : ls.size = 7) (hc : cells ≤ 601024) (hs : slots ≤ 7293034) {ix : Nat} (hix : GoodIn wsL_law (wsV RL ix RX8 yX8_ideal wsX8_ideal)) (hdg : decode cL_law pc = .ok (.invokevirtual ix, 3))
    (kk : ∀ (H1 : Heap) (locs1 : List Loc), wZ G σ (idMS μ p0 p1) o s H1 locs1 → W p l e room_1 s m args below meth c H1 locs1 cells slots Q (F0 m (pc + 3) ls [.int (idMR μ p0 p1)])) : W p l e room_1 s m args below meth c H locs cells slots Q (F0 m pc ls [.int p1, .int p0, .ref (gA G 39)]) := by
  rcases wi_split p0 (n := 15) (by decide) with bb | ⟨n0, hn0, rfl⟩
  · have hb : isCellB p0 p1 = false := cell_b1 bb
    have hno : ¬ isCellB p0 p1 = true := by rw [hb]; exact Bool.false_ne_true
    have e1 : idMS μ p0 p1 = thr μ 1 := if_neg hno
    have e2 : idMR μ p0 p1 = nI (0) := if_neg hno
    rw [e1, e2] at kk
    refine va_calli (va_runV (As := [.int p0, .int p1]) (rest := []) S (k_X8_ideal_B l G σ μ o p0 p1 hb) (cwV 2 S.2.2.2.2 hix rfl rfl rfl ⟨rfl, hy_X8_ideal⟩ ⟨Nat.le_of_ble_eq_true rfl, Nat.le_of_ble_eq_true rfl⟩) (wPc_V (q := (RX8, TX8, 19)) Z (by decide) rfl rfl) rfl rfl hls rfl (lv_room (Nat.le_of_ble_eq_true rfl)) hdg ⟨hc, hs⟩) Z.2.2.2.2 (fun _ _ h => h) (fun _ h => h) (fun r9 u9 T9 H1 locs1 hT9 hvm hw hB hz hk9 hS => ?_)
    obtain ⟨hr9, hu9⟩ := hw
    subst hu9
    rw [hr9]
    exact kk H1 locs1 (wZ_callP Z hB hT9 hS)
  rcases wi_split p1 (n := 3) (by decide) with bb | ⟨n1, hn1, rfl⟩
  · have hb : isCellB (nI n0) p1 = false := cell_b2 bb
    have hno : ¬ isCellB (nI n0) p1 = true := by rw [hb]; exact Bool.false_ne_true
    have e1 : idMS μ (nI n0) p1 = thr μ 1 := if_neg hno
    have e2 : idMR μ (nI n0) p1 = nI (0) := if_neg hno
    rw [e1, e2] at kk
    refine va_calli (va_runV (As := [.int (nI n0), .int p1]) (rest := []) S (k_X8_ideal_B l G σ μ o (nI n0) p1 hb) (cwV 2 S.2.2.2.2 hix rfl rfl rfl ⟨rfl, hy_X8_ideal⟩ ⟨Nat.le_of_ble_eq_true rfl, Nat.le_of_ble_eq_true rfl⟩) (wPc_V (q := (RX8, TX8, 19)) Z (by decide) rfl rfl) rfl rfl hls rfl (lv_room (Nat.le_of_ble_eq_true rfl)) hdg ⟨hc, hs⟩) Z.2.2.2.2 (fun _ _ h => h) (fun _ h => h) (fun r9 u9 T9 H1 locs1 hT9 hvm hw hB hz hk9 hS => ?_)
    obtain ⟨hr9, hu9⟩ := hw
    subst hu9
    rw [hr9]
    exact kk H1 locs1 (wZ_callP Z hB hT9 hS)
  have hy : isCellB (nI n0) (nI n1) = true := isCellB_ok (by omega) (by omega)
  have e1 : idMS μ (nI n0) (nI n1) = thr μ 0 := by
    unfold idMS
    rw [if_pos hy]
    try (repeat rw [cl_n (by omega)])
    try with_reducible rfl
  have e2 : idMR μ (nI n0) (nI n1) = seeM (thr μ 0) 3 n0 n1 := by
    unfold idMR
    rw [if_pos hy]
    try (repeat rw [cl_n (by omega)])
    try with_reducible rfl
    try rfl
  rw [e1, e2] at kk
  refine va_calli (va_runV (As := [.int (nI n0), .int (nI n1)]) (rest := []) S (k_X8_ideal l G σ μ o n0 n1 (by omega) (by omega) hm.1) (cwV 2 S.2.2.2.2 hix rfl rfl rfl ⟨rfl, hy_X8_ideal⟩ ⟨Nat.le_of_ble_eq_true rfl, Nat.le_of_ble_eq_true rfl⟩) (wPc_V (q := (RX8, TX8, 19)) Z (by decide) rfl rfl) rfl rfl hls rfl (lv_room (Nat.le_of_ble_eq_true rfl)) hdg ⟨hc, hs⟩) Z.2.2.2.2 (fun _ _ h => h) (fun _ h => h) (fun r9 u9 T9 H1 locs1 hT9 hvm hw hB hz hk9 hS => ?_)
  obtain ⟨hr9, hu9⟩ := hw
  subst hu9
  rw [hr9]
  exact kk H1 locs1 (wZ_callP Z hB hT9 hS)
set_option maxHeartbeats 4000000 in
theorem mr_sumOf (S : CallFix p m c cL_law 7 s args wsL_law RL) (Z : wZ G σ μ o s H locs) (hm : mOK μ) {p0 p1 p2 : Int32} (hls : ls.size = 7) (hc : cells ≤ 601024) (hs : slots ≤ 7293034) {ix : Nat} (hix : GoodIn wsL_law (wsV RL ix RX8 yX8_sumOf wsX8_sumOf)) (hdg : decode cL_law pc = .ok (.invokevirtual ix, 3))
    (kk : ∀ (H1 : Heap) (locs1 : List Loc), wZ G σ (smMS μ p0 p1 p2) o s H1 locs1 → W p l e room_1 s m args below meth c H1 locs1 cells slots Q (F0 m (pc + 3) ls [.int (smMR μ p0 p1 p2)])) : W p l e room_1 s m args below meth c H locs cells slots Q (F0 m pc ls [.int p2, .int p1, .int p0, .ref (gA G 39)]) := by
  rcases wi_split p0 (n := 2) (by decide) with bb | ⟨n0, hn0, rfl⟩
  · have hb : suB p0 p1 p2 = false := by unfold suB; rw [cop_b bb]; rfl
    have hno : ¬ suB p0 p1 p2 = true := by rw [hb]; exact Bool.false_ne_true
    have e1 : smMS μ p0 p1 p2 = thr μ 1 := if_neg hno
    have e2 : smMR μ p0 p1 p2 = nI (0) := if_neg hno
    rw [e1, e2] at kk
    refine va_calli (va_runV (As := [.int p0, .int p1, .int p2]) (rest := []) S (k_X8_sumOf_B l G σ μ o p0 p1 p2 hb) (cwV 3 S.2.2.2.2 hix rfl rfl rfl ⟨rfl, hy_X8_sumOf⟩ ⟨Nat.le_of_ble_eq_true rfl, Nat.le_of_ble_eq_true rfl⟩) (wPc_V (q := (RX8, TX8, 19)) Z (by decide) rfl rfl) rfl rfl hls rfl (lv_room (Nat.le_of_ble_eq_true rfl)) hdg ⟨hc, hs⟩) Z.2.2.2.2 (fun _ _ h => h) (fun _ h => h) (fun r9 u9 T9 H1 locs1 hT9 hvm hw hB hz hk9 hS => ?_)
    obtain ⟨hr9, hu9⟩ := hw
    subst hu9
    rw [hr9]
    exact kk H1 locs1 (wZ_callP Z hB hT9 hS)
  rcases wi_split p1 (n := 4) (by decide) with bb | ⟨n1, hn1, rfl⟩
  · have hb : suB (nI n0) p1 p2 = false := by unfold suB; rw [← wi_in p1, bb, Bool.and_false]; rfl
    have hno : ¬ suB (nI n0) p1 p2 = true := by rw [hb]; exact Bool.false_ne_true
    have e1 : smMS μ (nI n0) p1 p2 = thr μ 1 := if_neg hno
    have e2 : smMR μ (nI n0) p1 p2 = nI (0) := if_neg hno
    rw [e1, e2] at kk
    refine va_calli (va_runV (As := [.int (nI n0), .int p1, .int p2]) (rest := []) S (k_X8_sumOf_B l G σ μ o (nI n0) p1 p2 hb) (cwV 3 S.2.2.2.2 hix rfl rfl rfl ⟨rfl, hy_X8_sumOf⟩ ⟨Nat.le_of_ble_eq_true rfl, Nat.le_of_ble_eq_true rfl⟩) (wPc_V (q := (RX8, TX8, 19)) Z (by decide) rfl rfl) rfl rfl hls rfl (lv_room (Nat.le_of_ble_eq_true rfl)) hdg ⟨hc, hs⟩) Z.2.2.2.2 (fun _ _ h => h) (fun _ h => h) (fun r9 u9 T9 H1 locs1 hT9 hvm hw hB hz hk9 hS => ?_)
    obtain ⟨hr9, hu9⟩ := hw
    subst hu9
    rw [hr9]
    exact kk H1 locs1 (wZ_callP Z hB hT9 hS)
  have hpp := p2_le (show n1 < 5 by omega)
  have hpo : 0 < 2 ^ n1 := Nat.pow_pos (by decide)
  rcases wi_split p2 (n := 2 ^ n1 - 1) (by omega) with bb | ⟨n2, hn2, rfl⟩
  · have hb : suB (nI n0) (nI n1) p2 = false := by rw [suB_lv hn0 hn1, ← wi_in]; exact bb
    have hno : ¬ suB (nI n0) (nI n1) p2 = true := by rw [hb]; exact Bool.false_ne_true
    have e1 : smMS μ (nI n0) (nI n1) p2 = thr μ 1 := if_neg hno
    have e2 : smMR μ (nI n0) (nI n1) p2 = nI (0) := if_neg hno
    rw [e1, e2] at kk
    refine va_calli (va_runV (As := [.int (nI n0), .int (nI n1), .int p2]) (rest := []) S (k_X8_sumOf_B l G σ μ o (nI n0) (nI n1) p2 hb) (cwV 3 S.2.2.2.2 hix rfl rfl rfl ⟨rfl, hy_X8_sumOf⟩ ⟨Nat.le_of_ble_eq_true rfl, Nat.le_of_ble_eq_true rfl⟩) (wPc_V (q := (RX8, TX8, 19)) Z (by decide) rfl rfl) rfl rfl hls rfl (lv_room (Nat.le_of_ble_eq_true rfl)) hdg ⟨hc, hs⟩) Z.2.2.2.2 (fun _ _ h => h) (fun _ h => h) (fun r9 u9 T9 H1 locs1 hT9 hvm hw hB hz hk9 hS => ?_)
    obtain ⟨hr9, hu9⟩ := hw
    subst hu9
    rw [hr9]
    exact kk H1 locs1 (wZ_callP Z hB hT9 hS)
  have hy : suB (nI n0) (nI n1) (nI n2) = true := by rw [suB_lv hn0 hn1]; exact isInB_ok (Nat.zero_le _) hn2 (by omega)
  have e1 : smMS μ (nI n0) (nI n1) (nI n2) = thr μ 0 := by
    unfold smMS
    rw [if_pos hy]
    try (repeat rw [cl_n (by omega)])
    try with_reducible rfl
  have e2 : smMR μ (nI n0) (nI n1) (nI n2) = snM μ n0 n1 n2 := by
    unfold smMR
    rw [if_pos hy]
    try (repeat rw [cl_n (by omega)])
    try with_reducible rfl
    try rfl
  rw [e1, e2] at kk
  refine va_calli (va_runV (As := [.int (nI n0), .int (nI n1), .int (nI n2)]) (rest := []) S (k_X8_sumOf l G σ μ o n0 n1 n2 (by omega) (by omega) (by omega) hm.1) (cwV 3 S.2.2.2.2 hix rfl rfl rfl ⟨rfl, hy_X8_sumOf⟩ ⟨Nat.le_of_ble_eq_true rfl, Nat.le_of_ble_eq_true rfl⟩) (wPc_V (q := (RX8, TX8, 19)) Z (by decide) rfl rfl) rfl rfl hls rfl (lv_room (Nat.le_of_ble_eq_true rfl)) hdg ⟨hc, hs⟩) Z.2.2.2.2 (fun _ _ h => h) (fun _ h => h) (fun r9 u9 T9 H1 locs1 hT9 hvm hw hB hz hk9 hS => ?_)
  obtain ⟨hr9, hu9⟩ := hw
  subst hu9
  rw [hr9]
  exact kk H1 locs1 (wZ_callP Z hB hT9 hS)
set_option maxHeartbeats 4000000 in
theorem mr_compared (S : CallFix p m c cL_law 7 s args wsL_law RL) (Z : wZ G σ μ o s H locs) (hm : mOK μ) {p0 p1 : Int32} (hls : ls.size = 7) (hc : cells ≤ 601024) (hs : slots ≤ 7293034) {ix : Nat} (hix : GoodIn wsL_law (wsV RL ix RX8 yX8_compared wsX8_compared)) (hdg : decode cL_law pc = .ok (.invokevirtual ix, 3))
    (kk : ∀ (H1 : Heap) (locs1 : List Loc), wZ G σ (cmMS μ p0 p1) o s H1 locs1 → W p l e room_1 s m args below meth c H1 locs1 cells slots Q (F0 m (pc + 3) ls [.int (cmMR μ p0 p1)])) : W p l e room_1 s m args below meth c H locs cells slots Q (F0 m pc ls [.int p1, .int p0, .ref (gA G 39)]) := by
  rcases wi_split p0 (n := 2) (by decide) with bb | ⟨n0, hn0, rfl⟩
  · have hb : (isCopyB p0 && isCopyB p1) = false := by rw [cop_b bb]; rfl
    have hno : ¬ (isCopyB p0 && isCopyB p1) = true := by rw [hb]; exact Bool.false_ne_true
    have e1 : cmMS μ p0 p1 = thr μ 1 := if_neg hno
    have e2 : cmMR μ p0 p1 = nI (0) := if_neg hno
    rw [e1, e2] at kk
    refine va_calli (va_runV (As := [.int p0, .int p1]) (rest := []) S (k_X8_compared_B l G σ μ o p0 p1 hb) (cwV 2 S.2.2.2.2 hix rfl rfl rfl ⟨rfl, hy_X8_compared⟩ ⟨Nat.le_of_ble_eq_true rfl, Nat.le_of_ble_eq_true rfl⟩) (wPc_V (q := (RX8, TX8, 19)) Z (by decide) rfl rfl) rfl rfl hls rfl (lv_room (Nat.le_of_ble_eq_true rfl)) hdg ⟨hc, hs⟩) Z.2.2.2.2 (fun _ _ h => h) (fun _ h => h) (fun r9 u9 T9 H1 locs1 hT9 hvm hw hB hz hk9 hS => ?_)
    obtain ⟨hr9, hu9⟩ := hw
    subst hu9
    rw [hr9]
    exact kk H1 locs1 (wZ_callP Z hB hT9 hS)
  rcases wi_split p1 (n := 2) (by decide) with bb | ⟨n1, hn1, rfl⟩
  · have hb : (isCopyB (nI n0) && isCopyB p1) = false := by rw [cop_b bb, Bool.and_false]
    have hno : ¬ (isCopyB (nI n0) && isCopyB p1) = true := by rw [hb]; exact Bool.false_ne_true
    have e1 : cmMS μ (nI n0) p1 = thr μ 1 := if_neg hno
    have e2 : cmMR μ (nI n0) p1 = nI (0) := if_neg hno
    rw [e1, e2] at kk
    refine va_calli (va_runV (As := [.int (nI n0), .int p1]) (rest := []) S (k_X8_compared_B l G σ μ o (nI n0) p1 hb) (cwV 2 S.2.2.2.2 hix rfl rfl rfl ⟨rfl, hy_X8_compared⟩ ⟨Nat.le_of_ble_eq_true rfl, Nat.le_of_ble_eq_true rfl⟩) (wPc_V (q := (RX8, TX8, 19)) Z (by decide) rfl rfl) rfl rfl hls rfl (lv_room (Nat.le_of_ble_eq_true rfl)) hdg ⟨hc, hs⟩) Z.2.2.2.2 (fun _ _ h => h) (fun _ h => h) (fun r9 u9 T9 H1 locs1 hT9 hvm hw hB hz hk9 hS => ?_)
    obtain ⟨hr9, hu9⟩ := hw
    subst hu9
    rw [hr9]
    exact kk H1 locs1 (wZ_callP Z hB hT9 hS)
  have hy : (isCopyB (nI n0) && isCopyB (nI n1)) = true := by rw [cop_g hn0, cop_g hn1]; rfl
  have e1 : cmMS μ (nI n0) (nI n1) = cpE (thr μ 0) n0 n1 := by
    unfold cmMS
    rw [if_pos hy]
    try (repeat rw [cl_n (by omega)])
    try with_reducible rfl
  have e2 : cmMR μ (nI n0) (nI n1) = cpC (thr μ 0) n0 n1 5 := by
    unfold cmMR
    rw [if_pos hy]
    try (repeat rw [cl_n (by omega)])
    try with_reducible rfl
    try rfl
  rw [e1, e2] at kk
  refine va_calli (va_runV (As := [.int (nI n0), .int (nI n1)]) (rest := []) S (k_X8_compared l G σ μ o n0 n1 (by omega) (by omega) hm.1) (cwV 2 S.2.2.2.2 hix rfl rfl rfl ⟨rfl, hy_X8_compared⟩ ⟨Nat.le_of_ble_eq_true rfl, Nat.le_of_ble_eq_true rfl⟩) (wPc_V (q := (RX8, TX8, 19)) Z (by decide) rfl rfl) rfl rfl hls rfl (lv_room (Nat.le_of_ble_eq_true rfl)) hdg ⟨hc, hs⟩) Z.2.2.2.2 (fun _ _ h => h) (fun _ h => h) (fun r9 u9 T9 H1 locs1 hT9 hvm hw hB hz hk9 hS => ?_)
  obtain ⟨hr9, hu9⟩ := hw
  subst hu9
  rw [hr9]
  exact kk H1 locs1 (wZ_callP Z hB hT9 hS)
set_option maxHeartbeats 4000000 in
theorem mr_unlike (S : CallFix p m c cL_law 7 s args wsL_law RL) (Z : wZ G σ μ o s H locs) (hm : mOK μ) {p0 p1 : Int32} (hls : ls.size = 7) (hc : cells ≤ 601024) (hs : slots ≤ 7293034) {ix : Nat} (hix : GoodIn wsL_law (wsV RL ix RX8 yX8_unlike wsX8_unlike)) (hdg : decode cL_law pc = .ok (.invokevirtual ix, 3))
    (kk : ∀ (H1 : Heap) (locs1 : List Loc), wZ G σ (cmMS μ p0 p1) o s H1 locs1 → W p l e room_1 s m args below meth c H1 locs1 cells slots Q (F0 m (pc + 3) ls [.int (ulMR μ p0 p1)])) : W p l e room_1 s m args below meth c H locs cells slots Q (F0 m pc ls [.int p1, .int p0, .ref (gA G 39)]) := by
  rcases wi_split p0 (n := 2) (by decide) with bb | ⟨n0, hn0, rfl⟩
  · have hb : (isCopyB p0 && isCopyB p1) = false := by rw [cop_b bb]; rfl
    have hno : ¬ (isCopyB p0 && isCopyB p1) = true := by rw [hb]; exact Bool.false_ne_true
    have e1 : cmMS μ p0 p1 = thr μ 1 := if_neg hno
    have e2 : ulMR μ p0 p1 = nI (0) := if_neg hno
    rw [e1, e2] at kk
    refine va_calli (va_runV (As := [.int p0, .int p1]) (rest := []) S (k_X8_unlike_B l G σ μ o p0 p1 hb) (cwV 2 S.2.2.2.2 hix rfl rfl rfl ⟨rfl, hy_X8_unlike⟩ ⟨Nat.le_of_ble_eq_true rfl, Nat.le_of_ble_eq_true rfl⟩) (wPc_V (q := (RX8, TX8, 19)) Z (by decide) rfl rfl) rfl rfl hls rfl (lv_room (Nat.le_of_ble_eq_true rfl)) hdg ⟨hc, hs⟩) Z.2.2.2.2 (fun _ _ h => h) (fun _ h => h) (fun r9 u9 T9 H1 locs1 hT9 hvm hw hB hz hk9 hS => ?_)
    obtain ⟨hr9, hu9⟩ := hw
    subst hu9
    rw [hr9]
    exact kk H1 locs1 (wZ_callP Z hB hT9 hS)
  rcases wi_split p1 (n := 2) (by decide) with bb | ⟨n1, hn1, rfl⟩
  · have hb : (isCopyB (nI n0) && isCopyB p1) = false := by rw [cop_b bb, Bool.and_false]
    have hno : ¬ (isCopyB (nI n0) && isCopyB p1) = true := by rw [hb]; exact Bool.false_ne_true
    have e1 : cmMS μ (nI n0) p1 = thr μ 1 := if_neg hno
    have e2 : ulMR μ (nI n0) p1 = nI (0) := if_neg hno
    rw [e1, e2] at kk
    refine va_calli (va_runV (As := [.int (nI n0), .int p1]) (rest := []) S (k_X8_unlike_B l G σ μ o (nI n0) p1 hb) (cwV 2 S.2.2.2.2 hix rfl rfl rfl ⟨rfl, hy_X8_unlike⟩ ⟨Nat.le_of_ble_eq_true rfl, Nat.le_of_ble_eq_true rfl⟩) (wPc_V (q := (RX8, TX8, 19)) Z (by decide) rfl rfl) rfl rfl hls rfl (lv_room (Nat.le_of_ble_eq_true rfl)) hdg ⟨hc, hs⟩) Z.2.2.2.2 (fun _ _ h => h) (fun _ h => h) (fun r9 u9 T9 H1 locs1 hT9 hvm hw hB hz hk9 hS => ?_)
    obtain ⟨hr9, hu9⟩ := hw
    subst hu9
    rw [hr9]
    exact kk H1 locs1 (wZ_callP Z hB hT9 hS)
  have hy : (isCopyB (nI n0) && isCopyB (nI n1)) = true := by rw [cop_g hn0, cop_g hn1]; rfl
  have e1 : cmMS μ (nI n0) (nI n1) = cpE (thr μ 0) n0 n1 := by
    unfold cmMS
    rw [if_pos hy]
    try (repeat rw [cl_n (by omega)])
    try with_reducible rfl
  have e2 : ulMR μ (nI n0) (nI n1) = cpS (thr μ 0) n0 n1 5 := by
    unfold ulMR
    rw [if_pos hy]
    try (repeat rw [cl_n (by omega)])
    try with_reducible rfl
    try rfl
  rw [e1, e2] at kk
  refine va_calli (va_runV (As := [.int (nI n0), .int (nI n1)]) (rest := []) S (k_X8_unlike l G σ μ o n0 n1 (by omega) (by omega) hm.1) (cwV 2 S.2.2.2.2 hix rfl rfl rfl ⟨rfl, hy_X8_unlike⟩ ⟨Nat.le_of_ble_eq_true rfl, Nat.le_of_ble_eq_true rfl⟩) (wPc_V (q := (RX8, TX8, 19)) Z (by decide) rfl rfl) rfl rfl hls rfl (lv_room (Nat.le_of_ble_eq_true rfl)) hdg ⟨hc, hs⟩) Z.2.2.2.2 (fun _ _ h => h) (fun _ h => h) (fun r9 u9 T9 H1 locs1 hT9 hvm hw hB hz hk9 hS => ?_)
  obtain ⟨hr9, hu9⟩ := hw
  subst hu9
  rw [hr9]
  exact kk H1 locs1 (wZ_callP Z hB hT9 hS)
set_option maxHeartbeats 4000000 in
theorem mr_areAlike (S : CallFix p m c cL_law 7 s args wsL_law RL) (Z : wZ G σ μ o s H locs) (hm : mOK μ) {p0 p1 : Int32} (hls : ls.size = 7) (hc : cells ≤ 601024) (hs : slots ≤ 7293034) {ix : Nat} (hix : GoodIn wsL_law (wsV RL ix RX8 yX8_areAlike wsX8_areAlike)) (hdg : decode cL_law pc = .ok (.invokevirtual ix, 3))
    (kk : ∀ (H1 : Heap) (locs1 : List Loc), wZ G σ (q2MS μ p0 p1) o s H1 locs1 → W p l e room_1 s m args below meth c H1 locs1 cells slots Q (F0 m (pc + 3) ls [.int (alMR μ p0 p1)])) : W p l e room_1 s m args below meth c H locs cells slots Q (F0 m pc ls [.int p1, .int p0, .ref (gA G 39)]) := by
  rcases wi_split p0 (n := 2) (by decide) with bb | ⟨n0, hn0, rfl⟩
  · have hb : (isCopyB p0 && isCopyB p1) = false := by rw [cop_b bb]; rfl
    have hno : ¬ (isCopyB p0 && isCopyB p1) = true := by rw [hb]; exact Bool.false_ne_true
    have e1 : q2MS μ p0 p1 = thr μ 1 := if_neg hno
    have e2 : alMR μ p0 p1 = bi (false) := if_neg hno
    rw [e1, e2] at kk
    refine va_calli (va_runV (As := [.int p0, .int p1]) (rest := []) S (k_X8_areAlike_B l G σ μ o p0 p1 hb) (cwV 2 S.2.2.2.2 hix rfl rfl rfl ⟨rfl, hy_X8_areAlike⟩ ⟨Nat.le_of_ble_eq_true rfl, Nat.le_of_ble_eq_true rfl⟩) (wPc_V (q := (RX8, TX8, 19)) Z (by decide) rfl rfl) rfl rfl hls rfl (lv_room (Nat.le_of_ble_eq_true rfl)) hdg ⟨hc, hs⟩) Z.2.2.2.2 (fun _ _ h => h) (fun _ h => h) (fun r9 u9 T9 H1 locs1 hT9 hvm hw hB hz hk9 hS => ?_)
    obtain ⟨hr9, hu9⟩ := hw
    subst hu9
    rw [hr9]
    exact kk H1 locs1 (wZ_callP Z hB hT9 hS)
  rcases wi_split p1 (n := 2) (by decide) with bb | ⟨n1, hn1, rfl⟩
  · have hb : (isCopyB (nI n0) && isCopyB p1) = false := by rw [cop_b bb, Bool.and_false]
    have hno : ¬ (isCopyB (nI n0) && isCopyB p1) = true := by rw [hb]; exact Bool.false_ne_true
    have e1 : q2MS μ (nI n0) p1 = thr μ 1 := if_neg hno
    have e2 : alMR μ (nI n0) p1 = bi (false) := if_neg hno
    rw [e1, e2] at kk
    refine va_calli (va_runV (As := [.int (nI n0), .int p1]) (rest := []) S (k_X8_areAlike_B l G σ μ o (nI n0) p1 hb) (cwV 2 S.2.2.2.2 hix rfl rfl rfl ⟨rfl, hy_X8_areAlike⟩ ⟨Nat.le_of_ble_eq_true rfl, Nat.le_of_ble_eq_true rfl⟩) (wPc_V (q := (RX8, TX8, 19)) Z (by decide) rfl rfl) rfl rfl hls rfl (lv_room (Nat.le_of_ble_eq_true rfl)) hdg ⟨hc, hs⟩) Z.2.2.2.2 (fun _ _ h => h) (fun _ h => h) (fun r9 u9 T9 H1 locs1 hT9 hvm hw hB hz hk9 hS => ?_)
    obtain ⟨hr9, hu9⟩ := hw
    subst hu9
    rw [hr9]
    exact kk H1 locs1 (wZ_callP Z hB hT9 hS)
  have hy : (isCopyB (nI n0) && isCopyB (nI n1)) = true := by rw [cop_g hn0, cop_g hn1]; rfl
  have e1 : q2MS μ (nI n0) (nI n1) = thr μ 0 := by
    unfold q2MS
    rw [if_pos hy]
    try (repeat rw [cl_n (by omega)])
    try with_reducible rfl
  have e2 : alMR μ (nI n0) (nI n1) = bi (alT (thr μ 0) n0 n1 92) := by
    unfold alMR
    rw [if_pos hy]
    try (repeat rw [cl_n (by omega)])
    try with_reducible rfl
    try rfl
  rw [e1, e2] at kk
  refine va_calli (va_runV (As := [.int (nI n0), .int (nI n1)]) (rest := []) S (k_X8_areAlike l G σ μ o n0 n1 (by omega) (by omega)) (cwV 2 S.2.2.2.2 hix rfl rfl rfl ⟨rfl, hy_X8_areAlike⟩ ⟨Nat.le_of_ble_eq_true rfl, Nat.le_of_ble_eq_true rfl⟩) (wPc_V (q := (RX8, TX8, 19)) Z (by decide) rfl rfl) rfl rfl hls rfl (lv_room (Nat.le_of_ble_eq_true rfl)) hdg ⟨hc, hs⟩) Z.2.2.2.2 (fun _ _ h => h) (fun _ h => h) (fun r9 u9 T9 H1 locs1 hT9 hvm hw hB hz hk9 hS => ?_)
  obtain ⟨hr9, hu9⟩ := hw
  subst hu9
  rw [hr9]
  exact kk H1 locs1 (wZ_callP Z hB hT9 hS)
set_option maxHeartbeats 4000000 in
theorem mr_stampAt (S : CallFix p m c cL_law 7 s args wsL_law RL) (Z : wZ G σ μ o s H locs) (hm : mOK μ) {p0 p1 p2 : Int32} (hls : ls.size = 7) (hc : cells ≤ 601024) (hs : slots ≤ 7293034) {ix : Nat} (hix : GoodIn wsL_law (wsV RL ix RX8 yX8_stampAt wsX8_stampAt)) (hdg : decode cL_law pc = .ok (.invokevirtual ix, 3))
    (kk : ∀ (H1 : Heap) (locs1 : List Loc), wZ G σ (q3MS μ p0 p1 p2) o s H1 locs1 → W p l e room_1 s m args below meth c H1 locs1 cells slots Q (F0 m (pc + 3) ls [.int (saMR μ p0 p1 p2)])) : W p l e room_1 s m args below meth c H locs cells slots Q (F0 m pc ls [.int p2, .int p1, .int p0, .ref (gA G 39)]) := by
  rcases wi_split p0 (n := 2) (by decide) with bb | ⟨n0, hn0, rfl⟩
  · have hb : (isCopyB p0 && isCellB p1 p2) = false := by rw [cop_b bb]; rfl
    have hno : ¬ (isCopyB p0 && isCellB p1 p2) = true := by rw [hb]; exact Bool.false_ne_true
    have e1 : q3MS μ p0 p1 p2 = thr μ 1 := if_neg hno
    have e2 : saMR μ p0 p1 p2 = nI (0) := if_neg hno
    rw [e1, e2] at kk
    refine va_calli (va_runV (As := [.int p0, .int p1, .int p2]) (rest := []) S (k_X8_stampAt_B l G σ μ o p0 p1 p2 hb) (cwV 3 S.2.2.2.2 hix rfl rfl rfl ⟨rfl, hy_X8_stampAt⟩ ⟨Nat.le_of_ble_eq_true rfl, Nat.le_of_ble_eq_true rfl⟩) (wPc_V (q := (RX8, TX8, 19)) Z (by decide) rfl rfl) rfl rfl hls rfl (lv_room (Nat.le_of_ble_eq_true rfl)) hdg ⟨hc, hs⟩) Z.2.2.2.2 (fun _ _ h => h) (fun _ h => h) (fun r9 u9 T9 H1 locs1 hT9 hvm hw hB hz hk9 hS => ?_)
    obtain ⟨hr9, hu9⟩ := hw
    subst hu9
    rw [hr9]
    exact kk H1 locs1 (wZ_callP Z hB hT9 hS)
  rcases wi_split p1 (n := 15) (by decide) with bb | ⟨n1, hn1, rfl⟩
  · have hb : (isCopyB (nI n0) && isCellB p1 p2) = false := by rw [cell_b1 bb, Bool.and_false]
    have hno : ¬ (isCopyB (nI n0) && isCellB p1 p2) = true := by rw [hb]; exact Bool.false_ne_true
    have e1 : q3MS μ (nI n0) p1 p2 = thr μ 1 := if_neg hno
    have e2 : saMR μ (nI n0) p1 p2 = nI (0) := if_neg hno
    rw [e1, e2] at kk
    refine va_calli (va_runV (As := [.int (nI n0), .int p1, .int p2]) (rest := []) S (k_X8_stampAt_B l G σ μ o (nI n0) p1 p2 hb) (cwV 3 S.2.2.2.2 hix rfl rfl rfl ⟨rfl, hy_X8_stampAt⟩ ⟨Nat.le_of_ble_eq_true rfl, Nat.le_of_ble_eq_true rfl⟩) (wPc_V (q := (RX8, TX8, 19)) Z (by decide) rfl rfl) rfl rfl hls rfl (lv_room (Nat.le_of_ble_eq_true rfl)) hdg ⟨hc, hs⟩) Z.2.2.2.2 (fun _ _ h => h) (fun _ h => h) (fun r9 u9 T9 H1 locs1 hT9 hvm hw hB hz hk9 hS => ?_)
    obtain ⟨hr9, hu9⟩ := hw
    subst hu9
    rw [hr9]
    exact kk H1 locs1 (wZ_callP Z hB hT9 hS)
  rcases wi_split p2 (n := 3) (by decide) with bb | ⟨n2, hn2, rfl⟩
  · have hb : (isCopyB (nI n0) && isCellB (nI n1) p2) = false := by rw [cell_b2 bb, Bool.and_false]
    have hno : ¬ (isCopyB (nI n0) && isCellB (nI n1) p2) = true := by rw [hb]; exact Bool.false_ne_true
    have e1 : q3MS μ (nI n0) (nI n1) p2 = thr μ 1 := if_neg hno
    have e2 : saMR μ (nI n0) (nI n1) p2 = nI (0) := if_neg hno
    rw [e1, e2] at kk
    refine va_calli (va_runV (As := [.int (nI n0), .int (nI n1), .int p2]) (rest := []) S (k_X8_stampAt_B l G σ μ o (nI n0) (nI n1) p2 hb) (cwV 3 S.2.2.2.2 hix rfl rfl rfl ⟨rfl, hy_X8_stampAt⟩ ⟨Nat.le_of_ble_eq_true rfl, Nat.le_of_ble_eq_true rfl⟩) (wPc_V (q := (RX8, TX8, 19)) Z (by decide) rfl rfl) rfl rfl hls rfl (lv_room (Nat.le_of_ble_eq_true rfl)) hdg ⟨hc, hs⟩) Z.2.2.2.2 (fun _ _ h => h) (fun _ h => h) (fun r9 u9 T9 H1 locs1 hT9 hvm hw hB hz hk9 hS => ?_)
    obtain ⟨hr9, hu9⟩ := hw
    subst hu9
    rw [hr9]
    exact kk H1 locs1 (wZ_callP Z hB hT9 hS)
  have hy : (isCopyB (nI n0) && isCellB (nI n1) (nI n2)) = true := by rw [cop_g hn0, isCellB_ok (by omega) (by omega)]; rfl
  have e1 : q3MS μ (nI n0) (nI n1) (nI n2) = thr μ 0 := by
    unfold q3MS
    rw [if_pos hy]
    try (repeat rw [cl_n (by omega)])
    try with_reducible rfl
  have e2 : saMR μ (nI n0) (nI n1) (nI n2) = mI (thr μ 0) 40 (64 * n0 + 4 * n1 + n2) := by
    unfold saMR
    rw [if_pos hy]
    try (repeat rw [cl_n (by omega)])
    try with_reducible rfl
    try rfl
  rw [e1, e2] at kk
  refine va_calli (va_runV (As := [.int (nI n0), .int (nI n1), .int (nI n2)]) (rest := []) S (k_X8_stampAt l G σ μ o n0 n1 n2 (by omega) (by omega) (by omega) hm.1) (cwV 3 S.2.2.2.2 hix rfl rfl rfl ⟨rfl, hy_X8_stampAt⟩ ⟨Nat.le_of_ble_eq_true rfl, Nat.le_of_ble_eq_true rfl⟩) (wPc_V (q := (RX8, TX8, 19)) Z (by decide) rfl rfl) rfl rfl hls rfl (lv_room (Nat.le_of_ble_eq_true rfl)) hdg ⟨hc, hs⟩) Z.2.2.2.2 (fun _ _ h => h) (fun _ h => h) (fun r9 u9 T9 H1 locs1 hT9 hvm hw hB hz hk9 hS => ?_)
  obtain ⟨hr9, hu9⟩ := hw
  subst hu9
  rw [hr9]
  exact kk H1 locs1 (wZ_callP Z hB hT9 hS)
set_option maxHeartbeats 4000000 in
theorem mr_buriedBy (S : CallFix p m c cL_law 7 s args wsL_law RL) (Z : wZ G σ μ o s H locs) (hm : mOK μ) {p0 p1 p2 : Int32} (hls : ls.size = 7) (hc : cells ≤ 601024) (hs : slots ≤ 7293034) {ix : Nat} (hix : GoodIn wsL_law (wsV RL ix RX8 yX8_buriedBy wsX8_buriedBy)) (hdg : decode cL_law pc = .ok (.invokevirtual ix, 3))
    (kk : ∀ (H1 : Heap) (locs1 : List Loc), wZ G σ (q3MS μ p0 p1 p2) o s H1 locs1 → W p l e room_1 s m args below meth c H1 locs1 cells slots Q (F0 m (pc + 3) ls [.int (bbMR μ p0 p1 p2)])) : W p l e room_1 s m args below meth c H locs cells slots Q (F0 m pc ls [.int p2, .int p1, .int p0, .ref (gA G 39)]) := by
  rcases wi_split p0 (n := 2) (by decide) with bb | ⟨n0, hn0, rfl⟩
  · have hb : (isCopyB p0 && isCellB p1 p2) = false := by rw [cop_b bb]; rfl
    have hno : ¬ (isCopyB p0 && isCellB p1 p2) = true := by rw [hb]; exact Bool.false_ne_true
    have e1 : q3MS μ p0 p1 p2 = thr μ 1 := if_neg hno
    have e2 : bbMR μ p0 p1 p2 = nI (0) := if_neg hno
    rw [e1, e2] at kk
    refine va_calli (va_runV (As := [.int p0, .int p1, .int p2]) (rest := []) S (k_X8_buriedBy_B l G σ μ o p0 p1 p2 hb) (cwV 3 S.2.2.2.2 hix rfl rfl rfl ⟨rfl, hy_X8_buriedBy⟩ ⟨Nat.le_of_ble_eq_true rfl, Nat.le_of_ble_eq_true rfl⟩) (wPc_V (q := (RX8, TX8, 19)) Z (by decide) rfl rfl) rfl rfl hls rfl (lv_room (Nat.le_of_ble_eq_true rfl)) hdg ⟨hc, hs⟩) Z.2.2.2.2 (fun _ _ h => h) (fun _ h => h) (fun r9 u9 T9 H1 locs1 hT9 hvm hw hB hz hk9 hS => ?_)
    obtain ⟨hr9, hu9⟩ := hw
    subst hu9
    rw [hr9]
    exact kk H1 locs1 (wZ_callP Z hB hT9 hS)
  rcases wi_split p1 (n := 15) (by decide) with bb | ⟨n1, hn1, rfl⟩
  · have hb : (isCopyB (nI n0) && isCellB p1 p2) = false := by rw [cell_b1 bb, Bool.and_false]
    have hno : ¬ (isCopyB (nI n0) && isCellB p1 p2) = true := by rw [hb]; exact Bool.false_ne_true
    have e1 : q3MS μ (nI n0) p1 p2 = thr μ 1 := if_neg hno
    have e2 : bbMR μ (nI n0) p1 p2 = nI (0) := if_neg hno
    rw [e1, e2] at kk
    refine va_calli (va_runV (As := [.int (nI n0), .int p1, .int p2]) (rest := []) S (k_X8_buriedBy_B l G σ μ o (nI n0) p1 p2 hb) (cwV 3 S.2.2.2.2 hix rfl rfl rfl ⟨rfl, hy_X8_buriedBy⟩ ⟨Nat.le_of_ble_eq_true rfl, Nat.le_of_ble_eq_true rfl⟩) (wPc_V (q := (RX8, TX8, 19)) Z (by decide) rfl rfl) rfl rfl hls rfl (lv_room (Nat.le_of_ble_eq_true rfl)) hdg ⟨hc, hs⟩) Z.2.2.2.2 (fun _ _ h => h) (fun _ h => h) (fun r9 u9 T9 H1 locs1 hT9 hvm hw hB hz hk9 hS => ?_)
    obtain ⟨hr9, hu9⟩ := hw
    subst hu9
    rw [hr9]
    exact kk H1 locs1 (wZ_callP Z hB hT9 hS)
  rcases wi_split p2 (n := 3) (by decide) with bb | ⟨n2, hn2, rfl⟩
  · have hb : (isCopyB (nI n0) && isCellB (nI n1) p2) = false := by rw [cell_b2 bb, Bool.and_false]
    have hno : ¬ (isCopyB (nI n0) && isCellB (nI n1) p2) = true := by rw [hb]; exact Bool.false_ne_true
    have e1 : q3MS μ (nI n0) (nI n1) p2 = thr μ 1 := if_neg hno
    have e2 : bbMR μ (nI n0) (nI n1) p2 = nI (0) := if_neg hno
    rw [e1, e2] at kk
    refine va_calli (va_runV (As := [.int (nI n0), .int (nI n1), .int p2]) (rest := []) S (k_X8_buriedBy_B l G σ μ o (nI n0) (nI n1) p2 hb) (cwV 3 S.2.2.2.2 hix rfl rfl rfl ⟨rfl, hy_X8_buriedBy⟩ ⟨Nat.le_of_ble_eq_true rfl, Nat.le_of_ble_eq_true rfl⟩) (wPc_V (q := (RX8, TX8, 19)) Z (by decide) rfl rfl) rfl rfl hls rfl (lv_room (Nat.le_of_ble_eq_true rfl)) hdg ⟨hc, hs⟩) Z.2.2.2.2 (fun _ _ h => h) (fun _ h => h) (fun r9 u9 T9 H1 locs1 hT9 hvm hw hB hz hk9 hS => ?_)
    obtain ⟨hr9, hu9⟩ := hw
    subst hu9
    rw [hr9]
    exact kk H1 locs1 (wZ_callP Z hB hT9 hS)
  have hy : (isCopyB (nI n0) && isCellB (nI n1) (nI n2)) = true := by rw [cop_g hn0, isCellB_ok (by omega) (by omega)]; rfl
  have e1 : q3MS μ (nI n0) (nI n1) (nI n2) = thr μ 0 := by
    unfold q3MS
    rw [if_pos hy]
    try (repeat rw [cl_n (by omega)])
    try with_reducible rfl
  have e2 : bbMR μ (nI n0) (nI n1) (nI n2) = buM (thr μ 0) n0 n1 n2 := by
    unfold bbMR
    rw [if_pos hy]
    try (repeat rw [cl_n (by omega)])
    try with_reducible rfl
    try rfl
  rw [e1, e2] at kk
  refine va_calli (va_runV (As := [.int (nI n0), .int (nI n1), .int (nI n2)]) (rest := []) S (k_X8_buriedBy l G σ μ o n0 n1 n2 (by omega) (by omega) (by omega) hm.1) (cwV 3 S.2.2.2.2 hix rfl rfl rfl ⟨rfl, hy_X8_buriedBy⟩ ⟨Nat.le_of_ble_eq_true rfl, Nat.le_of_ble_eq_true rfl⟩) (wPc_V (q := (RX8, TX8, 19)) Z (by decide) rfl rfl) rfl rfl hls rfl (lv_room (Nat.le_of_ble_eq_true rfl)) hdg ⟨hc, hs⟩) Z.2.2.2.2 (fun _ _ h => h) (fun _ h => h) (fun r9 u9 T9 H1 locs1 hT9 hvm hw hB hz hk9 hS => ?_)
  obtain ⟨hr9, hu9⟩ := hw
  subst hu9
  rw [hr9]
  exact kk H1 locs1 (wZ_callP Z hB hT9 hS)
set_option maxHeartbeats 4000000 in
theorem mr_setUp (S : CallFix p m c cL_law 7 s args wsL_law RL) (Z : wZ G σ μ o s H locs) (hm : mOK μ) {p0 : Int32} {bo : Bool} (hls : ls.size = 7) (hc : cells ≤ 601024) (hs : slots ≤ 7293034) {ix : Nat} (hix : GoodIn wsL_law (wsV RL ix RX8 yX8_setUp wsX8_setUp)) (hdg : decode cL_law pc = .ok (.invokevirtual ix, 3))
    (kk : ∀ (H1 : Heap) (locs1 : List Loc), wZ G σ (suMS μ p0 bo) o s H1 locs1 → W p l e room_1 s m args below meth c H1 locs1 cells slots Q (F0 m (pc + 3) ls [.int (suMR μ p0 bo)])) : W p l e room_1 s m args below meth c H locs cells slots Q (F0 m pc ls [.int (bi bo), .int p0, .ref (gA G 39)]) := by
  rcases wi_split p0 (n := 2) (by decide) with bb | ⟨n0, hn0, rfl⟩
  · have hb : isCopyB p0 = false := cop_b bb
    have hno : ¬ isCopyB p0 = true := by rw [hb]; exact Bool.false_ne_true
    have e1 : suMS μ p0 bo = thr μ 1 := if_neg hno
    have e2 : suMR μ p0 bo = nI (0) := if_neg hno
    rw [e1, e2] at kk
    refine va_calli (va_runV (As := [.int p0, .int (bi bo)]) (rest := []) S (k_X8_setUp_B l G σ μ o p0 bo hb) (cwV 2 S.2.2.2.2 hix rfl rfl rfl ⟨rfl, hy_X8_setUp⟩ ⟨Nat.le_of_ble_eq_true rfl, Nat.le_of_ble_eq_true rfl⟩) (wPc_V (q := (RX8, TX8, 19)) Z (by decide) rfl rfl) rfl rfl hls rfl (lv_room (Nat.le_of_ble_eq_true rfl)) hdg ⟨hc, hs⟩) Z.2.2.2.2 (fun _ _ h => h) (fun _ h => h) (fun r9 u9 T9 H1 locs1 hT9 hvm hw hB hz hk9 hS => ?_)
    obtain ⟨hr9, hu9⟩ := hw
    subst hu9
    rw [hr9]
    exact kk H1 locs1 (wZ_callP Z hB hT9 hS)
  have hy : isCopyB (nI n0) = true := cop_g hn0
  have e1 : suMS μ (nI n0) bo = suE μ n0 bo := by
    unfold suMS
    rw [if_pos hy]
    try (repeat rw [cl_n (by omega)])
    try with_reducible rfl
  have e2 : suMR μ (nI n0) bo = nI (if bo = true then mH μ n0 else 0) := by
    unfold suMR
    rw [if_pos hy]
    try (repeat rw [cl_n (by omega)])
    try with_reducible rfl
    try rfl
  rw [e1, e2] at kk
  refine va_calli (va_runV (As := [.int (nI n0), .int (bi bo)]) (rest := []) S (k_X8_setUp l G σ μ o n0 bo (by omega) hm) (cwV 2 S.2.2.2.2 hix rfl rfl rfl ⟨rfl, hy_X8_setUp⟩ ⟨Nat.le_of_ble_eq_true rfl, Nat.le_of_ble_eq_true rfl⟩) (wPc_V (q := (RX8, TX8, 19)) Z (by decide) rfl rfl) rfl rfl hls rfl (lv_room (Nat.le_of_ble_eq_true rfl)) hdg ⟨hc, hs⟩) Z.2.2.2.2 (fun _ _ h => h) (fun _ h => h) (fun r9 u9 T9 H1 locs1 hT9 hvm hw hB hz hk9 hS => ?_)
  obtain ⟨hr9, hu9⟩ := hw
  subst hu9
  rw [hr9]
  exact kk H1 locs1 (wZ_callP Z hB hT9 hS)
end MRO
