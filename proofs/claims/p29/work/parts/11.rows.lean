/-! rows over the world: one word Z for all of it -/
def gP (G : wG) : Nat → Prop := fun q => gN G ≤ q
abbrev wT (G : wG) : List (ClassId × FieldType) := [(gC G 0, .int), (gC G 1, .boolean), (gC G 2, .object "WideCell$Keeper"), (gC G 3, .object "java/lang/Object")]
/-- the words of nest mates -/
def wNF : List Cond := [.fieldLinkNest "WideCell" 147 "WideCell$Keeper" "isRunning" "Z" "WideCell", .fieldLinkNest "WideCell" 151 "WideCell$Keeper" "table" "LWideCell$Table;" "WideCell", .fieldLinkNest "WideCell" 163 "WideCell$Keeper" "waiting" "Ljava/util/ArrayList;" "WideCell", .fieldLinkNest "WideCell" 172 "WideCell$Table" "stamps" "[I" "WideCell"]
def wNM : List Cond := [.methodLinkNest "WideCell" 36 yX1_init "WideCell", .methodLinkNest "WideCell$EntryChange" 1 yX0_init "WideCell", .methodLinkNest "WideCell$Table" 53 yX7_cellAt "WideCell", .methodLinkNest "WideCell$TombstoneChange" 1 yX0_init "WideCell"]
/-- of the three exceptions that the class throws: what no method's own list keeps -/
def wNC : List Cond := [.castable "java/lang/IndexOutOfBoundsException" "java/lang/IndexOutOfBoundsException", .castable "java/lang/IllegalArgumentException" "java/lang/IllegalArgumentException", .castable "java/lang/IllegalStateException" "java/lang/IllegalStateException", .declares (Bundle.initS "java/lang/RuntimeException"), .declares (Bundle.initS "java/lang/Exception"), .declares (Bundle.initS Bundle.tN), .castable "WideCell$EntryChange" "WideCell$Change", .castable "WideCell$TombstoneChange" "WideCell$Change", .castable "WideCell$EntryChange" "java/lang/Object", .castable "WideCell$TombstoneChange" "java/lang/Object", .declares ⟨"WideCell$Change", "goTo", "(LWideCell$Table;)V"⟩, .declares ⟨"java/lang/Object", "getClass", "()Ljava/lang/Class;"⟩]
def wN : List Cond := wNF ++ wNM ++ wNC
def tA : String := "no such copy, row, column, level or node"
def tB : String := "an argument is out of its range"
def tC : String := "not in this state"
/-- what the machine itself keeps for us below our cells: two statics of Throwable, the texts, the empty row of a list -/
def wX (G : wG) (U : State) : Prop := vx_Zq Bundle.tN "UNASSIGNED_STACK" Bundle.steD (gP G) U U.heap ∧ vx_Zq Bundle.tN "SUPPRESSED_SENTINEL" Bundle.listD (gP G) U U.heap ∧ vk_R "WideCell" 198 tA (gX G 1) U ∧ vk_R "WideCell" 205 tB (gX G 2) U ∧ vk_R "WideCell" 210 tC (gX G 3) U ∧ va_Z "java/util/ArrayList" "DEFAULTCAPACITY_EMPTY_ELEMENTDATA" "[Ljava/lang/Object;" (.ref (gX G 0)) (gP G) U U.heap ∧ va_T (.object "java/lang/Object") (gX G 0) 0 (fun _ => .null) (gP G) U U.heap ∧ gX G 0 < gN G ∧ va_AO "java/lang/Object" U ∧ True
def wB (G : wG) (U : State) : Prop := va_K (gD G) vwCl (wT G) U ∧ (∀ w ∈ wN, va_Nw w U) ∧ wX G U
def wZ (G : wG) (σ : cS) (μ : mS) (o : Nat → Int64) (s : State) (H : Heap) (locs : List Loc) : Prop := gN G ≤ s.heap.size ∧ wB G s ∧ va_P (gD G) vwCl (Wl G σ μ o) H ∧ va_D (gP G) (Wl G σ μ o) ∧ va_S (gP G) s.heap H locs
def wI (G : wG) (σ : cS) (μ : mS) (o : Nat → Int64) (U : State) : Prop := gN G ≤ U.heap.size ∧ wB G U ∧ va_P (gD G) vwCl (Wl G σ μ o) U.heap ∧ va_D (gP G) (Wl G σ μ o)
theorem wX.moved {G : wG} {s U : State} (hW : s.WarmedH U.vm) (hH : ∀ q : Nat, q < s.heap.size → ¬ gP G q → U.heap[q]? = s.heap[q]?) (h : wX G s) : wX G U := by
  obtain ⟨h1, h2, h3, h4, h5, h6, h7, h8, h9, g1⟩ := h
  have hv := hW.alike
  exact ⟨(vx_Zq.moved hv h1).kept hH, (vx_Zq.moved hv h2).kept hH, vk_R.warm hW h3, vk_R.warm hW h4, vk_R.warm hW h5, (va_Z.moved hv h6).kept hH, (va_T.moved hv h7).kept hH, h8, h9.moved hv, trivial⟩
theorem wN.warm {s U : State} (hW : s.WarmedH U.vm) (h : ∀ w ∈ wN, va_Nw w s) : ∀ w ∈ wN, va_Nw w U := by
  intro w hw
  have h1 := h w hw
  simp only [wN, wNF, wNM, wNC, List.cons_append, List.nil_append, List.mem_cons, List.not_mem_nil, or_false] at hw
  rcases hw with rfl | rfl | rfl | rfl | rfl | rfl | rfl | rfl | rfl | rfl | rfl | rfl | rfl | rfl | rfl | rfl | rfl | rfl | rfl | rfl
  · exact va_Nw.warmF hW h1
  · exact va_Nw.warmF hW h1
  · exact va_Nw.warmF hW h1
  · exact va_Nw.warmF hW h1
  · exact va_Nw.warmM hW h1
  · exact va_Nw.warmM hW h1
  · exact va_Nw.warmM hW h1
  · exact va_Nw.warmM hW h1
  · exact va_Nw.warmC hW h1
  · exact va_Nw.warmC hW h1
  · exact va_Nw.warmC hW h1
  · exact va_Nw.warmD hW h1
  · exact va_Nw.warmD hW h1
  · exact va_Nw.warmD hW h1
  · exact va_Nw.warmC hW h1
  · exact va_Nw.warmC hW h1
  · exact va_Nw.warmC hW h1
  · exact va_Nw.warmC hW h1
  · exact va_Nw.warmD hW h1
  · exact va_Nw.warmD hW h1
theorem wB.moved {G : wG} {s U : State} (hW : s.WarmedH U.vm) (hH : ∀ q : Nat, q < s.heap.size → ¬ gP G q → U.heap[q]? = s.heap[q]?) (h : wB G s) : wB G U :=
  ⟨va_K.moved hW.alike h.1, wN.warm hW h.2.1, h.2.2.moved hW hH⟩
theorem wB.same {G : wG} {s U : State} (hv : U.vm = s.vm) (hH : U.heap = s.heap) (h : wB G s) : wB G U := by
  refine ⟨va_K.moved (by rw [hv]; exact Vm.Alike.refl _) h.1, fun w hw => ?_, ?_⟩
  · have h1 := h.2.1 w hw
    refine va_Nw.same ?_ hv.symm h1
    simp only [wN, wNF, wNM, wNC, List.cons_append, List.nil_append, List.mem_cons, List.not_mem_nil, or_false] at hw
    rcases hw with rfl | rfl | rfl | rfl | rfl | rfl | rfl | rfl | rfl | rfl | rfl | rfl | rfl | rfl | rfl | rfl | rfl | rfl | rfl | rfl <;> rfl
  · obtain ⟨h1, h2, h3, h4, h5, h6, h7, h8, h9, g1⟩ := h.2.2
    have ha : s.vm.Alike U.vm := by rw [hv]; exact Vm.Alike.refl _
    have hk : ∀ q : Nat, q < s.heap.size → ¬ gP G q → U.heap[q]? = s.heap[q]? := fun q _ _ => by rw [hH]
    exact ⟨(vx_Zq.moved ha h1).kept hk, (vx_Zq.moved ha h2).kept hk, vk_R.same hv h3, vk_R.same hv h4, vk_R.same hv h5, (va_Z.moved ha h6).kept hk, (va_T.moved ha h7).kept hk, h8, h9.moved ha, trivial⟩
def wPc (G : wG) (σ : cS) (μ : mS) (o : Nat → Int64) (av : List Value) : Array Value → State → Prop := va_Pc av (wI G σ μ o)
theorem wPc_blind {G : wG} {σ : cS} {μ : mS} {o : Nat → Int64} {av : List Value} : FrameBlind (wPc G σ μ o av) := by
  intro a U g mk h
  obtain ⟨h0, h1, h2, h3, h4⟩ := h
  exact ⟨h0, h1, wB.same (s := U) (U := U.calling g mk a) rfl rfl h2, h3, h4⟩
theorem wZ_I {G : wG} {σ : cS} {μ : mS} {o : Nat → Int64} {s : State} {H : Heap} {locs : List Loc} (Z : wZ G σ μ o s H locs) {t : State} (ht : t.heap = H) (hW : s.WarmedH t.vm) : wI G σ μ o t := by
  obtain ⟨h1, h2, h3, h4, h5⟩ := Z
  refine ⟨by rw [ht]; exact Nat.le_trans h1 h5.1, h2.moved hW (fun q a b => by rw [ht]; exact h5.2.1 q a b), by rw [ht]; exact h3, h4⟩
theorem wPc_S {G : wG} {σ : cS} {μ : mS} {o : Nat → Int64} {s : State} {H : Heap} {locs : List Loc} {As : List Value} (Z : wZ G σ μ o s H locs) : PreS s H (wPc G σ μ o As) As :=
  ⟨wPc_blind, fun U hU hW => ⟨rfl, wZ_I Z hU hW⟩⟩
theorem wPc_V {G : wG} {σ : cS} {μ : mS} {o : Nat → Int64} {s : State} {H : Heap} {locs : List Loc} {As : List Value} {k ci : Nat} {fs : List Value} {q : vw_C} (Z : wZ G σ μ o s H locs) (hk : k < 39) (he : wE G σ μ o k = .inr (ci, fs)) (hc : vwCl[ci]? = some q) : PreV s H q.1 (gA G k) (wPc G σ μ o (.ref (gA G k) :: As)) As :=
  ⟨wPc_blind, va_recv Z.2.1.1 Z.2.2.1 hc (wl_at hk he), fun U hU hW => ⟨rfl, wZ_I Z hU hW⟩⟩
/-- at a method's entry -/
theorem wZ_0 {G : wG} {σ : cS} {μ : mS} {o : Nat → Int64} {s : State} (h : wI G σ μ o s) : wZ G σ μ o s s.heap [] := ⟨h.1, h.2.1, h.2.2.1, h.2.2.2, va_S.rf⟩
theorem wZ_A {G : wG} {σ : cS} {μ : mS} {o : Nat → Int64} {s : State} {H : Heap} {locs : List Loc} (Z : wZ G σ μ o s H locs) : ∀ q : Nat, s.heap.size ≤ q → gP G q := fun _ h => Nat.le_trans Z.1 h
section RO
variable {p : Program} {l : Launch} {e : Env} {R : Room} {s : State} {m : MethodId} {args : Array Value} {below : List Frame} {meth : Method} {c : Code} {H : Heap} {locs : List Loc} {cells slots : Nat} {Q : State → Prop}
variable {cc : ByteArray} {nL : Nat} {Ts : List Cond} {own : String} {G : wG} {σ : cS} {μ : mS} {o : Nat → Int64} {pc : Nat} {ls : Array Slot} {rest : List Value}
theorem r_iald (S : CallFix p m c cc nL s args Ts own) (Z : wZ G σ μ o s H locs) {k n j : Nat} {f : Nat → Int32} (hk : k < 39) (he : wE G σ μ o k = .inl (gC G 0, n, .inl f)) (hj : j < n) (hn : n < 2 ^ 31) (hdg : decode cc pc = .ok (.iaload, 1))
    (kk : W p l e R s m args below meth c H locs cells slots Q (F0 m (pc + 1) ls (.int (f j) :: rest))) : W p l e R s m args below meth c H locs cells slots Q (F0 m pc ls (.int (nI j) :: .ref (gA G k) :: rest)) :=
  va_iald S.1 S.2.1 Z.2.1.1 Z.2.2.1 k 0 (wl_at hk he) rfl (vp_in_nI hj hn) hdg (by rw [nI_clamp (Nat.lt_trans hj hn)]; exact kk)
theorem r_zald (S : CallFix p m c cc nL s args Ts own) (Z : wZ G σ μ o s H locs) {k n j : Nat} {f : Nat → Int32} (hk : k < 39) (he : wE G σ μ o k = .inl (gC G 1, n, .inl f)) (hj : j < n) (hn : n < 2 ^ 31) (hdg : decode cc pc = .ok (.baload, 1))
    (kk : W p l e R s m args below meth c H locs cells slots Q (F0 m (pc + 1) ls (.int (f j) :: rest))) : W p l e R s m args below meth c H locs cells slots Q (F0 m pc ls (.int (nI j) :: .ref (gA G k) :: rest)) :=
  va_zald S.1 S.2.1 Z.2.1.1 Z.2.2.1 k 1 (wl_at hk he) rfl (vp_in_nI hj hn) hdg (by rw [nI_clamp (Nat.lt_trans hj hn)]; exact kk)
theorem r_ialdC (S : CallFix p m c cc nL s args Ts own) (Z : wZ G σ μ o s H locs) {k n j : Nat} (h : pC k n) (hj : j < n) (hn : n < 2 ^ 31) (hdg : decode cc pc = .ok (.iaload, 1))
    (kk : W p l e R s m args below meth c H locs cells slots Q (F0 m (pc + 1) ls (.int (cI σ k j) :: rest))) : W p l e R s m args below meth c H locs cells slots Q (F0 m pc ls (.int (nI j) :: .ref (gA G k) :: rest)) :=
  r_iald S Z (pC_lt h) (pC_e h) hj hn hdg kk
/-- what is written at a place: the new world -/
theorem wZ_set {σ' : cS} {μ' : mS} {o' : Nat → Int64} {k : Nat} {e0 : va_E} {H1 : Heap} {locs1 : List Loc} (Z : wZ G σ μ o s H locs) (hk : k < 39) (hw : (μ', cW σ') = (μ, cW σ)) (hs : ∀ q, q < 39 → wE G σ' μ' o' q = if q = k then e0 else wE G σ μ o q)
    (hP : va_P (gD G) vwCl ((Wl G σ μ o).set k (gA G k, e0)) H1) (hD : va_D (gP G) ((Wl G σ μ o).set k (gA G k, e0))) (hS : va_S (gP G) s.heap H1 locs1) : wZ G σ' μ' o' s H1 locs1 := by
  rw [wl_set hk hw hs] at hP hD
  exact ⟨Z.1, Z.2.1, hP, hD, hS⟩
theorem r_iast (S : CallFix p m c cc nL s args Ts own) (Z : wZ G σ μ o s H locs) {σ' : cS} {μ' : mS} {k n j : Nat} {f f' : Nat → Int32} {x : Int32} (hk : k < 39) (he : wE G σ μ o k = .inl (gC G 0, n, .inl f)) (hf : upd f j x = f') (hw : (μ', cW σ') = (μ, cW σ)) (hs : ∀ q, q < 39 → wE G σ' μ' o q = if q = k then .inl (gC G 0, n, .inl f') else wE G σ μ o q) (hj : j < n) (hn : n < 2 ^ 31) (hdg : decode cc pc = .ok (.iastore, 1))
    (kk : ∀ (H1 : Heap) (locs1 : List Loc), wZ G σ' μ' o s H1 locs1 → W p l e R s m args below meth c H1 locs1 cells slots Q (F0 m (pc + 1) ls rest)) : W p l e R s m args below meth c H locs cells slots Q (F0 m pc ls (.int x :: .int (nI j) :: .ref (gA G k) :: rest)) := by
  subst hf
  refine va_iast S.1 S.2.1 Z.2.1.1 Z.2.2.1 Z.2.2.2.1 Z.2.2.2.2 k 0 (wl_at hk he) rfl (vp_in_nI hj hn) hdg (fun H1 locs1 hP hD hS => ?_)
  rw [nI_clamp (Nat.lt_trans hj hn)] at hP hD
  exact kk H1 locs1 (wZ_set Z hk hw hs hP hD hS)
theorem r_iastC (S : CallFix p m c cc nL s args Ts own) (Z : wZ G σ μ o s H locs) {k n j : Nat} {x : Int32} (h : pC k n) (hj : j < n) (hn : n < 2 ^ 31) (hdg : decode cc pc = .ok (.iastore, 1))
    (kk : ∀ (H1 : Heap) (locs1 : List Loc), wZ G (cI' σ k (upd (cI σ k) j x)) μ o s H1 locs1 → W p l e R s m args below meth c H1 locs1 cells slots Q (F0 m (pc + 1) ls rest)) : W p l e R s m args below meth c H locs cells slots Q (F0 m pc ls (.int x :: .int (nI j) :: .ref (gA G k) :: rest)) :=
  r_iast (σ' := cI' σ k (upd (cI σ k) j x)) (μ' := μ) S Z (pC_lt h) (pC_e h) rfl rfl (sC h _) hj hn hdg kk
theorem r_zast (S : CallFix p m c cc nL s args Ts own) (Z : wZ G σ μ o s H locs) {σ' : cS} {μ' : mS} {k n j : Nat} {f : Nat → Int32} {f' : Nat → Int32} {x : Bool} (hk : k < 39) (he : wE G σ μ o k = .inl (gC G 1, n, .inl f)) (hf : upd f j (bi x) = f') (hw : (μ', cW σ') = (μ, cW σ)) (hs : ∀ q, q < 39 → wE G σ' μ' o q = if q = k then .inl (gC G 1, n, .inl f') else wE G σ μ o q) (hj : j < n) (hn : n < 2 ^ 31) (hdg : decode cc pc = .ok (.bastore, 1))
    (kk : ∀ (H1 : Heap) (locs1 : List Loc), wZ G σ' μ' o s H1 locs1 → W p l e R s m args below meth c H1 locs1 cells slots Q (F0 m (pc + 1) ls rest)) : W p l e R s m args below meth c H locs cells slots Q (F0 m pc ls (.int (bi x) :: .int (nI j) :: .ref (gA G k) :: rest)) := by
  subst hf
  refine va_zast S.1 S.2.1 Z.2.1.1 Z.2.2.1 Z.2.2.2.1 Z.2.2.2.2 k 1 (wl_at hk he) rfl (vp_in_nI hj hn) hdg (fun H1 locs1 hP hD hS => ?_)
  rw [nI_clamp (Nat.lt_trans hj hn)] at hP hD
  have e1 : vp_nar .boolean (bi x) = bi x := by cases x <;> rfl
  first | (rw [e1] at hP hD) | skip
  have e2 : (bi x) &&& 1 = bi x := by cases x <;> rfl
  first | (rw [e2] at hP hD) | skip
  exact kk H1 locs1 (wZ_set Z hk hw hs hP hD hS)
theorem r_get {ref C : String} {T : u_T} {N ci index k : Nat} (S : CallFix p m c cc nL s args Ts own) (Z : wZ G σ μ o s H locs) {fs : List Value} (hk : k < 39) (he : wE G σ μ o k = .inr (ci, fs)) (hc : vwCl[ci]? = some (C, T, N)) (hin : ∀ w ∈ u_ws C T N, w ∈ Ts) (j : Nat) (hj : j < N) (hlink : Cond.fieldLink own index ref (T j).2.1 (T j).2.2.1 ∈ Ts) (hsame : (T j).1 = ref) {v : Value} (hv : fs[j]? = some v) (hdg : decode cc pc = .ok (.getfield index, 3))
    (kk : W p l e R s m args below meth c H locs cells slots Q (F0 m (pc + 3) ls (v :: rest))) : W p l e R s m args below meth c H locs cells slots Q (F0 m pc ls (.ref (gA G k) :: rest)) :=
  va_get S.1 S.2.1 S.2.2.2.2 hin S.2.2.2.1 Z.2.1.1 Z.2.2.1 k (wl_at hk he) hc j hj (S.2.2.2.2 _ hlink) (fun x h => by rw [← hsame]; exact h) hv hdg kk
theorem r_getN {ref C host : String} {T : u_T} {N ci index k : Nat} (S : CallFix p m c cc nL s args Ts own) (Z : wZ G σ μ o s H locs) {fs : List Value} (hk : k < 39) (he : wE G σ μ o k = .inr (ci, fs)) (hc : vwCl[ci]? = some (C, T, N)) (hin : ∀ w ∈ u_ws C T N, w ∈ Ts) (j : Nat) (hj : j < N) (hlink : Cond.fieldLinkNest own index ref (T j).2.1 (T j).2.2.1 host ∈ wN) (hsame : (T j).1 = ref) {v : Value} (hv : fs[j]? = some v) (hdg : decode cc pc = .ok (.getfield index, 3))
    (kk : W p l e R s m args below meth c H locs cells slots Q (F0 m (pc + 3) ls (v :: rest))) : W p l e R s m args below meth c H locs cells slots Q (F0 m pc ls (.ref (gA G k) :: rest)) :=
  va_getN S.1 S.2.1 S.2.2.2.2 hin S.2.2.2.1 Z.2.1.1 Z.2.2.1 k (wl_at hk he) hc j hj (va_Nw.use rfl (Z.2.1.2.1 _ hlink)) (fun x h => by rw [← hsame]; exact h) hv hdg kk
theorem r_put {ref C : String} {T : u_T} {N ci index k : Nat} (S : CallFix p m c cc nL s args Ts own) (Z : wZ G σ μ o s H locs) {σ' : cS} {μ' : mS} {fs fs' : List Value} (hk : k < 39) (he : wE G σ μ o k = .inr (ci, fs)) (hc : vwCl[ci]? = some (C, T, N)) (hin : ∀ w ∈ u_ws C T N, w ∈ Ts) (ty0 : Nat → FieldType) (hty : ∀ k, k < N → parseFieldDescriptor (T k).2.2.1 = some (ty0 k)) (hnm : ∀ a, a < N → ∀ b, b < N → a ≠ b → (T a).2.1 ≠ (T b).2.1) (j : Nat) (hj : j < N) (hlink : Cond.fieldLink own index ref (T j).2.1 (T j).2.2.1 ∈ Ts) (hsame : (T j).1 = ref) (hfin : (T j).2.2.2 = false) {ty : FieldType} {v : Value} (hd : parseFieldDescriptor (T j).2.2.1 = some ty) (hn : narrow ty v = v) (hfit : fits ty v = true) (hl : j < fs.length) (hf : fs.set j v = fs') (hw : (μ', cW σ') = (μ, cW σ)) (hs : ∀ q, q < 39 → wE G σ' μ' o q = if q = k then .inr (ci, fs') else wE G σ μ o q) (hdg : decode cc pc = .ok (.putfield index, 3))
    (kk : ∀ (H1 : Heap) (locs1 : List Loc), wZ G σ' μ' o s H1 locs1 → W p l e R s m args below meth c H1 locs1 cells slots Q (F0 m (pc + 3) ls rest)) : W p l e R s m args below meth c H locs cells slots Q (F0 m pc ls (v :: .ref (gA G k) :: rest)) := by
  subst hf
  refine va_put S.1 S.2.1 S.2.2.2.2 hin ty0 hty hnm S.2.2.2.1 Z.2.1.1 Z.2.2.1 Z.2.2.2.1 Z.2.2.2.2 k (wl_at hk he) hc j hj (S.2.2.2.2 _ hlink) (fun x h => by rw [← hsame]; exact h) hfin hd hn hfit hl hdg (fun H1 locs1 hP hD hS => ?_)
  exact kk H1 locs1 (wZ_set Z hk hw hs hP hD hS)
theorem r_alen (S : CallFix p m c cc nL s args Ts own) (Z : wZ G σ μ o s H locs) {k t0 n : Nat} {x : (Nat → Int32) ⊕ (Nat → Int64) ⊕ (Nat → UInt32) ⊕ (Nat → UInt64) ⊕ (Nat → Option Nat)} {cA : ClassId} {ty : FieldType} (hk : k < 39) (he : wE G σ μ o k = .inl (cA, n, x)) (ht : (wT G)[t0]? = some (cA, ty)) (hdg : decode cc pc = .ok (.arraylength, 1))
    (kk : W p l e R s m args below meth c H locs cells slots Q (F0 m (pc + 1) ls (.int (nI n) :: rest))) : W p l e R s m args below meth c H locs cells slots Q (F0 m pc ls (.ref (gA G k) :: rest)) :=
  va_alen S.1 S.2.1 Z.2.1.1 Z.2.2.1 k t0 (wl_at hk he) ht rfl hdg kk
/-- arithmetic on numbers -/
theorem r_addN (S : CallFix p m c cc nL s args Ts own) {a b : Nat} (hdg : decode cc pc = .ok (.iadd, 1)) (kk : W p l e R s m args below meth c H locs cells slots Q (F0 m (pc + 1) ls (.int (nI (a + b)) :: rest))) : W p l e R s m args below meth c H locs cells slots Q (F0 m pc ls (.int (nI b) :: .int (nI a) :: rest)) :=
  lv_iadd S.1 S.2.1 hdg (by rw [nI_add]; exact kk)
theorem r_mulN (S : CallFix p m c cc nL s args Ts own) {a b : Nat} (hdg : decode cc pc = .ok (.imul, 1)) (kk : W p l e R s m args below meth c H locs cells slots Q (F0 m (pc + 1) ls (.int (nI (a * b)) :: rest))) : W p l e R s m args below meth c H locs cells slots Q (F0 m pc ls (.int (nI b) :: .int (nI a) :: rest)) :=
  lv_imul S.1 S.2.1 hdg (by rw [pk_mul]; exact kk)
theorem r_subN (S : CallFix p m c cc nL s args Ts own) {a b : Nat} (h : b ≤ a) (hdg : decode cc pc = .ok (.isub, 1)) (kk : W p l e R s m args below meth c H locs cells slots Q (F0 m (pc + 1) ls (.int (nI (a - b)) :: rest))) : W p l e R s m args below meth c H locs cells slots Q (F0 m pc ls (.int (nI b) :: .int (nI a) :: rest)) :=
  lv_isub S.1 S.2.1 hdg (by rw [pk_sub h]; exact kk)
theorem r_divN (S : CallFix p m c cc nL s args Ts own) {a b : Nat} (ha : a < 2 ^ 31) (h0 : 0 < b) (hb : b < 2 ^ 31) (hdg : decode cc pc = .ok (.idiv, 1)) (kk : W p l e R s m args below meth c H locs cells slots Q (F0 m (pc + 1) ls (.int (nI (a / b)) :: rest))) : W p l e R s m args below meth c H locs cells slots Q (F0 m pc ls (.int (nI b) :: .int (nI a) :: rest)) :=
  lv_idiv S.1 S.2.1 hdg (nI_ne0 h0 hb) (by rw [pk_div ha h0 hb]; exact kk)
theorem r_icmpN_eq (S : CallFix p m c cc nL s args Ts own) {a b : Nat} (ha : a < 2 ^ 31) (hb : b < 2 ^ 31) {off : Int} {tgt : Nat} (hdg : decode cc pc = .ok (.if_icmp .eq off, 3)) (ht : (pc : Int) + off = (tgt : Int)) (k1 : a = b → W p l e R s m args below meth c H locs cells slots Q (F0 m tgt ls rest)) (k2 : a ≠ b → W p l e R s m args below meth c H locs cells slots Q (F0 m (pc + 3) ls rest)) : W p l e R s m args below meth c H locs cells slots Q (F0 m pc ls (.int (nI b) :: .int (nI a) :: rest)) :=
  lv_icmp_eq S.1 S.2.1 hdg ht (fun h => k1 ((nI_eq ha hb).mp h)) (fun h => k2 (fun z => h ((nI_eq ha hb).mpr z)))
theorem r_icmpN_ne (S : CallFix p m c cc nL s args Ts own) {a b : Nat} (ha : a < 2 ^ 31) (hb : b < 2 ^ 31) {off : Int} {tgt : Nat} (hdg : decode cc pc = .ok (.if_icmp .ne off, 3)) (ht : (pc : Int) + off = (tgt : Int)) (k1 : a ≠ b → W p l e R s m args below meth c H locs cells slots Q (F0 m tgt ls rest)) (k2 : a = b → W p l e R s m args below meth c H locs cells slots Q (F0 m (pc + 3) ls rest)) : W p l e R s m args below meth c H locs cells slots Q (F0 m pc ls (.int (nI b) :: .int (nI a) :: rest)) :=
  lv_icmp_ne S.1 S.2.1 hdg ht (fun h => k1 (fun z => h ((nI_eq ha hb).mpr z))) (fun h => k2 ((nI_eq ha hb).mp h))
theorem r_icmpN_lt (S : CallFix p m c cc nL s args Ts own) {a b : Nat} (ha : a < 2 ^ 31) (hb : b < 2 ^ 31) {off : Int} {tgt : Nat} (hdg : decode cc pc = .ok (.if_icmp .lt off, 3)) (ht : (pc : Int) + off = (tgt : Int)) (k1 : a < b → W p l e R s m args below meth c H locs cells slots Q (F0 m tgt ls rest)) (k2 : b ≤ a → W p l e R s m args below meth c H locs cells slots Q (F0 m (pc + 3) ls rest)) : W p l e R s m args below meth c H locs cells slots Q (F0 m pc ls (.int (nI b) :: .int (nI a) :: rest)) :=
  lv_icmp_lt S.1 S.2.1 hdg ht (fun h => k1 ((nI_ltI ha hb).mp h)) (fun h => k2 (Nat.not_lt.mp (fun z => h ((nI_ltI ha hb).mpr z))))
theorem r_icmpN_ge (S : CallFix p m c cc nL s args Ts own) {a b : Nat} (ha : a < 2 ^ 31) (hb : b < 2 ^ 31) {off : Int} {tgt : Nat} (hdg : decode cc pc = .ok (.if_icmp .ge off, 3)) (ht : (pc : Int) + off = (tgt : Int)) (k1 : b ≤ a → W p l e R s m args below meth c H locs cells slots Q (F0 m tgt ls rest)) (k2 : a < b → W p l e R s m args below meth c H locs cells slots Q (F0 m (pc + 3) ls rest)) : W p l e R s m args below meth c H locs cells slots Q (F0 m pc ls (.int (nI b) :: .int (nI a) :: rest)) :=
  lv_icmp_ge S.1 S.2.1 hdg ht (fun h => k1 ((nI_leI hb ha).mp h)) (fun h => k2 (Nat.not_le.mp (fun z => h ((nI_leI hb ha).mpr z))))
theorem r_icmpN_gt (S : CallFix p m c cc nL s args Ts own) {a b : Nat} (ha : a < 2 ^ 31) (hb : b < 2 ^ 31) {off : Int} {tgt : Nat} (hdg : decode cc pc = .ok (.if_icmp .gt off, 3)) (ht : (pc : Int) + off = (tgt : Int)) (k1 : b < a → W p l e R s m args below meth c H locs cells slots Q (F0 m tgt ls rest)) (k2 : a ≤ b → W p l e R s m args below meth c H locs cells slots Q (F0 m (pc + 3) ls rest)) : W p l e R s m args below meth c H locs cells slots Q (F0 m pc ls (.int (nI b) :: .int (nI a) :: rest)) :=
  lv_icmp_gt S.1 S.2.1 hdg ht (fun h => k1 ((nI_ltI hb ha).mp h)) (fun h => k2 (Nat.not_lt.mp (fun z => h ((nI_ltI hb ha).mpr z))))
theorem r_icmpN_le (S : CallFix p m c cc nL s args Ts own) {a b : Nat} (ha : a < 2 ^ 31) (hb : b < 2 ^ 31) {off : Int} {tgt : Nat} (hdg : decode cc pc = .ok (.if_icmp .le off, 3)) (ht : (pc : Int) + off = (tgt : Int)) (k1 : a ≤ b → W p l e R s m args below meth c H locs cells slots Q (F0 m tgt ls rest)) (k2 : b < a → W p l e R s m args below meth c H locs cells slots Q (F0 m (pc + 3) ls rest)) : W p l e R s m args below meth c H locs cells slots Q (F0 m pc ls (.int (nI b) :: .int (nI a) :: rest)) :=
  lv_icmp_le S.1 S.2.1 hdg ht (fun h => k1 ((nI_leI ha hb).mp h)) (fun h => k2 (Nat.not_le.mp (fun z => h ((nI_leI ha hb).mpr z))))
/-- a truth value is tested -/
theorem r_if_eqB (S : CallFix p m c cc nL s args Ts own) {x : Bool} {off : Int} {tgt : Nat} (hdg : decode cc pc = .ok (.ifCond .eq off, 3)) (ht : (pc : Int) + off = (tgt : Int)) (k1 : x = false → W p l e R s m args below meth c H locs cells slots Q (F0 m tgt ls rest)) (k2 : x = true → W p l e R s m args below meth c H locs cells slots Q (F0 m (pc + 3) ls rest)) : W p l e R s m args below meth c H locs cells slots Q (F0 m pc ls (.int (bi x) :: rest)) :=
  lv_if_eq S.1 S.2.1 hdg ht (fun h => k1 (by cases x; rfl; exact absurd h (by decide))) (fun h => k2 (by cases x; exact absurd rfl h; rfl))
theorem r_if_neB (S : CallFix p m c cc nL s args Ts own) {x : Bool} {off : Int} {tgt : Nat} (hdg : decode cc pc = .ok (.ifCond .ne off, 3)) (ht : (pc : Int) + off = (tgt : Int)) (k1 : x = true → W p l e R s m args below meth c H locs cells slots Q (F0 m tgt ls rest)) (k2 : x = false → W p l e R s m args below meth c H locs cells slots Q (F0 m (pc + 3) ls rest)) : W p l e R s m args below meth c H locs cells slots Q (F0 m pc ls (.int (bi x) :: rest)) :=
  lv_if_ne S.1 S.2.1 hdg ht (fun h => k1 (by cases x; exact absurd rfl h; rfl)) (fun h => k2 (by cases x; rfl; exact absurd h (by decide)))
/-- a number is tested against 0 -/
theorem r_if_eqN (S : CallFix p m c cc nL s args Ts own) {a : Nat} (ha : a < 2 ^ 31) {off : Int} {tgt : Nat} (hdg : decode cc pc = .ok (.ifCond .eq off, 3)) (ht : (pc : Int) + off = (tgt : Int)) (k1 : a = 0 → W p l e R s m args below meth c H locs cells slots Q (F0 m tgt ls rest)) (k2 : a ≠ 0 → W p l e R s m args below meth c H locs cells slots Q (F0 m (pc + 3) ls rest)) : W p l e R s m args below meth c H locs cells slots Q (F0 m pc ls (.int (nI a) :: rest)) :=
  lv_if_eq S.1 S.2.1 hdg ht (fun h => k1 ((nI_eq ha (by decide)).mp h)) (fun h => k2 (fun z => h (by rw [z]; rfl)))
theorem r_if_neN (S : CallFix p m c cc nL s args Ts own) {a : Nat} (ha : a < 2 ^ 31) {off : Int} {tgt : Nat} (hdg : decode cc pc = .ok (.ifCond .ne off, 3)) (ht : (pc : Int) + off = (tgt : Int)) (k1 : a ≠ 0 → W p l e R s m args below meth c H locs cells slots Q (F0 m tgt ls rest)) (k2 : a = 0 → W p l e R s m args below meth c H locs cells slots Q (F0 m (pc + 3) ls rest)) : W p l e R s m args below meth c H locs cells slots Q (F0 m pc ls (.int (nI a) :: rest)) :=
  lv_if_ne S.1 S.2.1 hdg ht (fun h => k1 (fun z => h (by rw [z]; rfl))) (fun h => k2 ((nI_eq ha (by decide)).mp h))
end RO
theorem nI_inc {a b : Nat} (h : a + 1 = b) : nI a + Int32.ofInt 1 = nI b := by rw [← h]; exact nI_1 a
