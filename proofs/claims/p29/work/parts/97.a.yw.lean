/-! a world that grows: its cells in a list -/
def yI (G : wG) (w : va_W) (U : State) : Prop := gN G ≤ U.heap.size ∧ (wB G U ∧ va_AO "WideCell$Keeper" U) ∧ va_P (gD G) vwCl w U.heap ∧ va_D (gP G) w
def yZ (G : wG) (w : va_W) (s : State) (H : Heap) (locs : List Loc) : Prop := gN G ≤ s.heap.size ∧ (wB G s ∧ va_AO "WideCell$Keeper" s) ∧ va_P (gD G) vwCl w H ∧ va_D (gP G) w ∧ va_S (gP G) s.heap H locs
def yPc (G : wG) (w : va_W) (av : List Value) : Array Value → State → Prop := va_Pc av (yI G w)
theorem yPc_blind {G : wG} {w : va_W} {av : List Value} : FrameBlind (yPc G w av) := by
  intro a U g mk h
  obtain ⟨h0, h1, ⟨h2, h5⟩, h3, h4⟩ := h
  exact ⟨h0, h1, ⟨wB.same (s := U) (U := U.calling g mk a) rfl rfl h2, h5.moved (Vm.Alike.refl _)⟩, h3, h4⟩
theorem yZ_I {G : wG} {w : va_W} {s : State} {H : Heap} {locs : List Loc} (Z : yZ G w s H locs) {t : State} (ht : t.heap = H) (hW : s.WarmedH t.vm) : yI G w t := by
  obtain ⟨h1, h2, h3, h4, h5⟩ := Z
  exact ⟨by rw [ht]; exact Nat.le_trans h1 h5.1, ⟨h2.1.moved hW (fun q a b => by rw [ht]; exact h5.2.1 q a b), h2.2.moved hW.alike⟩, by rw [ht]; exact h3, h4⟩
theorem yPc_S {G : wG} {w : va_W} {s : State} {H : Heap} {locs : List Loc} {As : List Value} (Z : yZ G w s H locs) : PreS s H (yPc G w As) As := ⟨yPc_blind, fun U hU hW => ⟨rfl, yZ_I Z hU hW⟩⟩
theorem yZ_0 {G : wG} {w : va_W} {s : State} (h : yI G w s) : yZ G w s s.heap [] := ⟨h.1, h.2.1, h.2.2.1, h.2.2.2, va_S.rf⟩
theorem yZ_A {G : wG} {w : va_W} {s : State} {H : Heap} {locs : List Loc} (Z : yZ G w s H locs) : ∀ q : Nat, s.heap.size ≤ q → gP G q := fun _ h => Nat.le_trans Z.1 h
theorem yZ_call {G : wG} {w w' : va_W} {s t : State} {H H1 : Heap} {locs locs1 : List Loc} (Z : yZ G w s H locs) (hB : (fun (u : va_W) (t : State) => yI G u t) w' t) (ht : t.heap = H1) (hS : va_S (gP G) s.heap H1 locs1) : yZ G w' s H1 locs1 := ⟨Z.1, Z.2.1, by rw [← ht]; exact hB.2.2.1, hB.2.2.2, hS⟩
theorem ya {w t : va_W} {j : Nat} {x : Nat × va_E} (h : t[j]? = some x) : (w ++ t)[w.length + j]? = some x := by
  rw [List.getElem?_append_right (by omega), Nat.add_sub_cancel_left]
  exact h
theorem ys {w t : va_W} {j : Nat} {y : Nat × va_E} : (w ++ t).set (w.length + j) y = w ++ t.set j y := by
  rw [List.set_append_right _ _ (by omega), Nat.add_sub_cancel_left]
/-- the first i are v -/
def fil (f : Nat → Int32) (v : Int32) (i : Nat) : Nat → Int32 := fun j => if j < i then v else f j
theorem fil_0 (f : Nat → Int32) (v : Int32) : fil f v 0 = f := by funext j; unfold fil; rw [if_neg (Nat.not_lt_zero _)]
theorem fil_s (f : Nat → Int32) (v : Int32) (i : Nat) : upd (fil f v i) i v = fil f v (i + 1) := by
  funext j
  unfold fil upd
  show (if j = i then v else if j < i then v else f j) = if j < i + 1 then v else f j
  by_cases h : j = i
  · rw [if_pos h, if_pos (by omega)]
  · rw [if_neg h]
    by_cases h2 : j < i
    · rw [if_pos h2, if_pos (by omega)]
    · rw [if_neg h2, if_neg (by omega)]
theorem fil_in {f : Nat → Int32} {v : Int32} {i j : Nat} (h : j < i) : fil f v i j = v := if_pos h
section YW
variable {p : Program} {l : Launch} {e : Env} {R : Room} {s : State} {m : MethodId} {args : Array Value} {below : List Frame} {meth : Method} {c : Code} {H : Heap} {locs : List Loc} {cells slots : Nat} {Q : State → Prop}
variable {cc : ByteArray} {nL : Nat} {Ts : List Cond} {own : String} {G : wG} {w : va_W} {pc : Nat} {ls : Array Slot} {rest : List Value}
theorem y_newO (S : CallFix p m c cc nL s args Ts own) (Z : yZ G w s H locs) {C : String} {T : u_T} {N ci index : Nat} {fs : List Value} (ty : Nat → FieldType) (hty : ∀ k, k < N → parseFieldDescriptor (T k).2.2.1 = some (ty k)) (hin : ∀ w ∈ u_ws C T N, w ∈ Ts) (hl : Cond.classLink own index C ∈ Ts) (hi : Cond.instantiable C N ∈ Ts) (hz : Cond.initialized C ∈ Ts) (hc : vwCl[ci]? = some (C, T, N)) (hfs : ∀ j, j < N → defaultValue (ty j) = vp_V fs j) (hcells : cells + 1 ≤ R.cells) (hslots : slots + N ≤ R.slots) (hdg : decode cc pc = .ok (.new index, 3))
    (kk : ∀ (q : Nat) (H1 : Heap), yZ G (w ++ [(q, .inr (ci, fs))]) s H1 locs → W p l e R s m args below meth c H1 locs (cells + 1) (slots + N) Q (F0 m (pc + 3) ls (.ref q :: rest))) : W p l e R s m args below meth c H locs cells slots Q (F0 m pc ls rest) :=
  va_new S.1 S.2.1 S.2.2.2.2 hin ty hty S.2.2.2.1 (S.2.2.2.2 _ hl) (S.2.2.2.2 _ hi) (S.2.2.2.2 _ hz) Z.2.1.1.1 Z.2.2.1 Z.2.2.2.1 Z.2.2.2.2 (yZ_A Z) hc hfs hcells hslots hdg (fun q H1 hP hD hS => kk q H1 ⟨Z.1, Z.2.1, hP, hD, hS⟩)
theorem y_newI (S : CallFix p m c cc nL s args Ts own) (Z : yZ G w s H locs) {n : Nat} (hn : n < 1000) (harr : Cond.arrayClass .int ∈ Ts) (hcells : cells + 1 ≤ R.cells) (hslots : slots + n ≤ R.slots) (hdg : decode cc pc = .ok (.newarray .int, 2))
    (kk : ∀ (q : Nat) (H1 : Heap), yZ G (w ++ [(q, .inl (gC G 0, n, .inl (fun _ => 0)))]) s H1 locs → W p l e R s m args below meth c H1 locs (cells + 1) (slots + n) Q (F0 m (pc + 2) ls (.ref q :: rest))) : W p l e R s m args below meth c H locs cells slots Q (F0 m pc ls (.int (nI n) :: rest)) := by
  refine va_newa (atype := .int) (ty := .int) (N' := n) (a0 := (n, .inl (fun _ => 0))) S.1 S.2.1 (S.2.2.2.2 _ harr) rfl Z.2.1.1.1 Z.2.2.1 Z.2.2.2.1 Z.2.2.2.2 (yZ_A Z) (fun cA => by rw [vp_cell_i]; rfl) (nI_pos (by omega)) (nI_clamp (by omega)) (by show n * 4 ≤ 536870912; omega) hcells hslots hdg (fun q cA H1 hK hP hD hS => ?_)
  have e : cA = gC G 0 := Option.some.inj ((va_nm_int (hK.2 4 (cA, .int) rfl).2).symm.trans (va_nm_int (Z.2.1.1.1.2 0 (gC G 0, .int) rfl).2))
  subst e
  exact kk q H1 ⟨Z.1, Z.2.1, hP, hD, hS⟩
theorem y_newZ (S : CallFix p m c cc nL s args Ts own) (Z : yZ G w s H locs) {n : Nat} (hn : n < 1000) (harr : Cond.arrayClass .boolean ∈ Ts) (hcells : cells + 1 ≤ R.cells) (hslots : slots + n ≤ R.slots) (hdg : decode cc pc = .ok (.newarray .boolean, 2))
    (kk : ∀ (q : Nat) (H1 : Heap), yZ G (w ++ [(q, .inl (gC G 1, n, .inl (fun _ => 0)))]) s H1 locs → W p l e R s m args below meth c H1 locs (cells + 1) (slots + n) Q (F0 m (pc + 2) ls (.ref q :: rest))) : W p l e R s m args below meth c H locs cells slots Q (F0 m pc ls (.int (nI n) :: rest)) := by
  refine va_newa (atype := .boolean) (ty := .boolean) (N' := n) (a0 := (n, .inl (fun _ => 0))) S.1 S.2.1 (S.2.2.2.2 _ harr) rfl Z.2.1.1.1 Z.2.2.1 Z.2.2.2.1 Z.2.2.2.2 (yZ_A Z) (fun cA => by rw [vp_cell_i]; rfl) (nI_pos (by omega)) (nI_clamp (by omega)) (by show n * 1 ≤ 536870912; omega) hcells hslots hdg (fun q cA H1 hK hP hD hS => ?_)
  have e : cA = gC G 1 := by
    have h1 : s.vm.findClass ("[" ++ (FieldType.boolean).toString) = some cA := (hK.2 4 (cA, .boolean) rfl).2
    have h2 : s.vm.findClass ("[" ++ (FieldType.boolean).toString) = some (gC G 1) := (Z.2.1.1.1.2 1 (gC G 1, .boolean) rfl).2
    exact Option.some.inj (h1.symm.trans h2)
  subst e
  exact kk q H1 ⟨Z.1, Z.2.1, hP, hD, hS⟩
theorem y_newK (S : CallFix p m c cc nL s args Ts own) (Z : yZ G w s H locs) {index : Nat} (hl : Cond.classLink own index "WideCell$Keeper" ∈ Ts) (hcells : cells + 1 ≤ R.cells) (hslots : slots + 3 ≤ R.slots) (hdg : decode cc pc = .ok (.anewarray index, 3))
    (kk : ∀ (q : Nat) (H1 : Heap), yZ G (w ++ [(q, .inl (gC G 2, 3, .inr (.inr (.inr (.inr (fun _ => none))))))]) s H1 locs → W p l e R s m args below meth c H1 locs (cells + 1) (slots + 3) Q (F0 m (pc + 3) ls (.ref q :: rest))) : W p l e R s m args below meth c H locs cells slots Q (F0 m pc ls (.int (nI 3) :: rest)) := by
  refine va_newq S.1 S.2.1 S.2.2.2.1 (S.2.2.2.2 _ hl) Z.2.1.2 Z.2.1.1.1 Z.2.2.1 Z.2.2.2.1 Z.2.2.2.2 (yZ_A Z) (nI_pos (by decide)) (nI_clamp (by decide)) (by decide) hcells hslots hdg (fun q cA H1 hK hP hD hS => ?_)
  have e : cA = gC G 2 := by
    obtain ⟨-, kA, comp, -, -, -, h1⟩ := hK.2 4 (cA, .object "WideCell$Keeper") rfl
    obtain ⟨-, kB, comp2, -, -, -, h2⟩ := Z.2.1.1.1.2 2 (gC G 2, .object "WideCell$Keeper") rfl
    exact Option.some.inj (h1.symm.trans h2)
  subst e
  exact kk q H1 ⟨Z.1, Z.2.1, hP, hD, hS⟩
theorem y_get {ref C : String} {T : u_T} {N ci index k : Nat} {ad : Addr} (S : CallFix p m c cc nL s args Ts own) (Z : yZ G w s H locs) {fs : List Value} (hk : w[k]? = some (ad, .inr (ci, fs))) (hc : vwCl[ci]? = some (C, T, N)) (hin : ∀ w ∈ u_ws C T N, w ∈ Ts) (j : Nat) (hj : j < N) (hlink : Cond.fieldLink own index ref (T j).2.1 (T j).2.2.1 ∈ Ts) (hsame : (T j).1 = ref) {v : Value} (hv : fs[j]? = some v) (hdg : decode cc pc = .ok (.getfield index, 3))
    (kk : W p l e R s m args below meth c H locs cells slots Q (F0 m (pc + 3) ls (v :: rest))) : W p l e R s m args below meth c H locs cells slots Q (F0 m pc ls (.ref ad :: rest)) :=
  va_get S.1 S.2.1 S.2.2.2.2 hin S.2.2.2.1 Z.2.1.1.1 Z.2.2.1 k hk hc j hj (S.2.2.2.2 _ hlink) (fun x h => by rw [← hsame]; exact h) hv hdg kk
theorem y_put {ref C : String} {T : u_T} {N ci index k : Nat} {ad : Addr} (S : CallFix p m c cc nL s args Ts own) (Z : yZ G w s H locs) {fs : List Value} (hk : w[k]? = some (ad, .inr (ci, fs))) (hc : vwCl[ci]? = some (C, T, N)) (hin : ∀ w ∈ u_ws C T N, w ∈ Ts) (ty0 : Nat → FieldType) (hty : ∀ k, k < N → parseFieldDescriptor (T k).2.2.1 = some (ty0 k)) (hnm : ∀ a, a < N → ∀ b, b < N → a ≠ b → (T a).2.1 ≠ (T b).2.1) (j : Nat) (hj : j < N) (hlink : Cond.fieldLink own index ref (T j).2.1 (T j).2.2.1 ∈ Ts) (hsame : (T j).1 = ref) (hfin : (T j).2.2.2 = false) {ty : FieldType} {v : Value} (hd : parseFieldDescriptor (T j).2.2.1 = some ty) (hn : narrow ty v = v) (hfit : fits ty v = true) (hl : j < fs.length) (hdg : decode cc pc = .ok (.putfield index, 3))
    (kk : ∀ (H1 : Heap) (locs1 : List Loc), yZ G (w.set k (ad, .inr (ci, fs.set j v))) s H1 locs1 → W p l e R s m args below meth c H1 locs1 cells slots Q (F0 m (pc + 3) ls rest)) : W p l e R s m args below meth c H locs cells slots Q (F0 m pc ls (v :: .ref ad :: rest)) :=
  va_put S.1 S.2.1 S.2.2.2.2 hin ty0 hty hnm S.2.2.2.1 Z.2.1.1.1 Z.2.2.1 Z.2.2.2.1 Z.2.2.2.2 k hk hc j hj (S.2.2.2.2 _ hlink) (fun x h => by rw [← hsame]; exact h) hfin hd hn hfit hl hdg (fun H1 locs1 hP hD hS => kk H1 locs1 ⟨Z.1, Z.2.1, hP, hD, hS⟩)
theorem y_putF {ref C : String} {T : u_T} {N ci index k : Nat} {ad : Addr} (S : CallFix p m c cc nL s args Ts own) (Z : yZ G w s H locs) {fs : List Value} (hk : w[k]? = some (ad, .inr (ci, fs))) (hc : vwCl[ci]? = some (C, T, N)) (hin : ∀ w ∈ u_ws C T N, w ∈ Ts) (ty0 : Nat → FieldType) (hty : ∀ k, k < N → parseFieldDescriptor (T k).2.2.1 = some (ty0 k)) (hnm : ∀ a, a < N → ∀ b, b < N → a ≠ b → (T a).2.1 ≠ (T b).2.1) (j : Nat) (hj : j < N) (hlink : Cond.fieldLink own index ref (T j).2.1 (T j).2.2.1 ∈ Ts) (hsame : (T j).1 = ref) (hfin : (T j).2.2.2 = true) (hini : meth.name = "<init>") (hdecl : (T j).1 = own) {ty : FieldType} {v : Value} (hd : parseFieldDescriptor (T j).2.2.1 = some ty) (hn : narrow ty v = v) (hfit : fits ty v = true) (hl : j < fs.length) (hdg : decode cc pc = .ok (.putfield index, 3))
    (kk : ∀ (H1 : Heap) (locs1 : List Loc), yZ G (w.set k (ad, .inr (ci, fs.set j v))) s H1 locs1 → W p l e R s m args below meth c H1 locs1 cells slots Q (F0 m (pc + 3) ls rest)) : W p l e R s m args below meth c H locs cells slots Q (F0 m pc ls (v :: .ref ad :: rest)) :=
  va_putF S.1 S.2.1 S.2.2.2.2 hin ty0 hty hnm S.2.2.2.1 Z.2.1.1.1 Z.2.2.1 Z.2.2.2.1 Z.2.2.2.2 k hk hc j hj (S.2.2.2.2 _ hlink) (fun x h => by rw [← hsame]; exact h) hfin hini hdecl hd hn hfit hl hdg (fun H1 locs1 hP hD hS => kk H1 locs1 ⟨Z.1, Z.2.1, hP, hD, hS⟩)
theorem y_gets0 (S : CallFix p m c cc nL s args Ts own) (Z : yZ G w s H locs) {index : Nat} (hl : Cond.fieldLink own index "java/util/ArrayList" "DEFAULTCAPACITY_EMPTY_ELEMENTDATA" "[Ljava/lang/Object;" ∈ Ts) (hdg : decode cc pc = .ok (.getstatic index, 3))
    (kk : W p l e R s m args below meth c H locs cells slots Q (F0 m (pc + 3) ls (.ref (gX G 0) :: rest))) : W p l e R s m args below meth c H locs cells slots Q (F0 m pc ls rest) :=
  va_gets S.1 S.2.1 Z.2.1.1.2.2.2.2.2.2.2.1 Z.2.2.2.2 S.2.2.2.1 (S.2.2.2.2 _ hl) (fun _ h => h) hdg kk
theorem y_alen (S : CallFix p m c cc nL s args Ts own) (Z : yZ G w s H locs) {k n : Nat} {ad : Addr} {f : Nat → Int32} (hk : w[k]? = some (ad, .inl (gC G 0, n, .inl f))) (hdg : decode cc pc = .ok (.arraylength, 1))
    (kk : W p l e R s m args below meth c H locs cells slots Q (F0 m (pc + 1) ls (.int (nI n) :: rest))) : W p l e R s m args below meth c H locs cells slots Q (F0 m pc ls (.ref ad :: rest)) :=
  va_alen S.1 S.2.1 Z.2.1.1.1 Z.2.2.1 k 0 hk rfl rfl hdg kk
theorem y_iast (S : CallFix p m c cc nL s args Ts own) (Z : yZ G w s H locs) {k n j : Nat} {ad : Addr} {f : Nat → Int32} {x : Int32} (hk : w[k]? = some (ad, .inl (gC G 0, n, .inl f))) (hj : j < n) (hn : n < 2 ^ 31) (hdg : decode cc pc = .ok (.iastore, 1))
    (kk : ∀ (H1 : Heap) (locs1 : List Loc), yZ G (w.set k (ad, .inl (gC G 0, n, .inl (upd f j x)))) s H1 locs1 → W p l e R s m args below meth c H1 locs1 cells slots Q (F0 m (pc + 1) ls rest)) : W p l e R s m args below meth c H locs cells slots Q (F0 m pc ls (.int x :: .int (nI j) :: .ref ad :: rest)) := by
  refine va_iast S.1 S.2.1 Z.2.1.1.1 Z.2.2.1 Z.2.2.2.1 Z.2.2.2.2 k 0 hk rfl (vp_in_nI hj hn) hdg (fun H1 locs1 hP hD hS => ?_)
  rw [nI_clamp (Nat.lt_trans hj hn)] at hP hD
  exact kk H1 locs1 ⟨Z.1, Z.2.1, hP, hD, hS⟩
theorem y_zast (S : CallFix p m c cc nL s args Ts own) (Z : yZ G w s H locs) {k n j : Nat} {ad : Addr} {f : Nat → Int32} (hk : w[k]? = some (ad, .inl (gC G 1, n, .inl f))) (hj : j < n) (hn : n < 2 ^ 31) (hdg : decode cc pc = .ok (.bastore, 1))
    (kk : ∀ (H1 : Heap) (locs1 : List Loc), yZ G (w.set k (ad, .inl (gC G 1, n, .inl (upd f j (nI 1))))) s H1 locs1 → W p l e R s m args below meth c H1 locs1 cells slots Q (F0 m (pc + 1) ls rest)) : W p l e R s m args below meth c H locs cells slots Q (F0 m pc ls (.int (nI 1) :: .int (nI j) :: .ref ad :: rest)) := by
  refine va_zast S.1 S.2.1 Z.2.1.1.1 Z.2.2.1 Z.2.2.2.1 Z.2.2.2.2 k 1 hk rfl (vp_in_nI hj hn) hdg (fun H1 locs1 hP hD hS => ?_)
  rw [nI_clamp (Nat.lt_trans hj hn)] at hP hD
  have e1 : vp_nar .boolean (nI 1) = nI 1 := rfl
  first | (rw [e1] at hP hD) | skip
  exact kk H1 locs1 ⟨Z.1, Z.2.1, hP, hD, hS⟩
theorem y_astK (S : CallFix p m c cc nL s args Ts own) (Z : yZ G w s H locs) {k j qk : Nat} {ad v : Addr} {f : Nat → Option Nat} {vs : List Value} (hk : w[k]? = some (ad, .inl (gC G 2, 3, .inr (.inr (.inr (.inr f)))))) (hv : w[qk]? = some (v, .inr (3, vs))) (hj : j < 3) (hdg : decode cc pc = .ok (.aastore, 1))
    (kk : ∀ (H1 : Heap) (locs1 : List Loc), yZ G (w.set k (ad, .inl (gC G 2, 3, .inr (.inr (.inr (.inr (va_up f j (some v)))))))) s H1 locs1 → W p l e R s m args below meth c H1 locs1 cells slots Q (F0 m (pc + 1) ls rest)) : W p l e R s m args below meth c H locs cells slots Q (F0 m pc ls (.ref v :: .int (nI j) :: .ref ad :: rest)) := by
  refine va_astq (r := (RX3, TX3, 3)) S.1 S.2.1 Z.2.1.1.1 Z.2.2.1 Z.2.2.2.1 Z.2.2.2.2 k 2 qk 3 hk rfl hv rfl (vp_in_nI hj (by decide)) hdg (fun H1 locs1 hP hD hS => ?_)
  rw [nI_clamp (Nat.lt_trans hj (by decide))] at hP hD
  exact kk H1 locs1 ⟨Z.1, Z.2.1, hP, hD, hS⟩
end YW
