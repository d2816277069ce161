/-! a number of the script; a table's start and end -/
def dPc (b L : Nat) (xs : Nat → Int32) (k M : Nat) : Array Value → State → Prop := va_Pc [.ref b, .int (nI k), .int (nI M)] (fun U => va_X b L xs U U.heap)
theorem dPc_blind {b L : Nat} {xs : Nat → Int32} {k M : Nat} : FrameBlind (dPc b L xs k M) := by
  intro a U g mk h
  obtain ⟨h0, hx⟩ := h
  exact ⟨h0, va_X.moved (u := U) (U := U.calling g mk a) (H := U.heap) (Vm.Alike.refl _) hx⟩
theorem dPc_S {b L : Nat} {xs : Nat → Int32} {k M : Nat} {G : wG} {s : State} {H : Heap} {locs : List Loc} (hS : va_S (gP G) s.heap H locs) (hX : va_X b L xs s s.heap) (hbl : b < s.heap.size) (hbA : ¬ gP G b) : PreS s H (dPc b L xs k M) [.ref b, .int (nI k), .int (nI M)] :=
  ⟨dPc_blind, fun U hU hW => ⟨rfl, va_X.moved hW.alike (va_X.kept hX (by rw [hU]; exact hS.2.1 b hbl hbA))⟩⟩
theorem m_L_draw_k7 : Cond.constant RL 7 (969401809) ∈ wsL_draw := by decide +kernel
theorem m_L_draw_k8 : Cond.constant RL 8 (634501367) ∈ wsL_draw := by decide +kernel
theorem m_L_draw_k9 : Cond.constant RL 9 (2147483647) ∈ wsL_draw := by decide +kernel
abbrev rm_k_L_draw : Room := { frames := 0, cells := 0, slots := 0, locals := 0 }
set_option maxHeartbeats 4000000 in
set_option maxRecDepth 100000 in
theorem k_L_draw (l : Launch) (b L : Nat) (xs : Nat → Int32) (k M : Nat) (hL : L ≤ 260) (hk : k < 100000) (hM0 : 0 < M) (hM : M < 2 ^ 31) : Met l yL_draw wsL_draw rm_k_L_draw (dPc b L xs k M) (vp_Si (fun rr => ∃ v, v < M ∧ rr = nI v)) 0 0 (fun _ => False) := by
  refine Met.ofW (cc := cL_draw) (maxL := 4) (ret := (some .int)) (by decide) rfl ?_
  intro p e s m9 args below meth c s₁ B hml hv
  obtain ⟨hargs, hX⟩ := hv
  have S : CallFix p m9 c cL_draw 4 s args wsL_draw RL := ⟨B.exec, B.bytes, hml, findClass_of_methodNamed B.named, atoms_spec (ws := wsL_draw) B.pre⟩
  have hret := B.returns
  have hbl : b < s.heap.size := by
    obtain ⟨scr, h1, -⟩ := id hX
    exact (Array.getElem?_eq_some_iff.mp h1).1
  have hS : va_S (fun _ => False) s.heap s.heap [] := va_S.rf
  obtain ⟨Q, hQ⟩ : ∃ Q, Q = MQ below (vp_Si (fun rr => ∃ v, v < M ∧ rr = nI v)) args s 0 0 (fun _ => False) := ⟨_, rfl⟩
  rw [← hQ]
  have hl := lv_entry [.ref b, .int (nI k), .int (nI M)] (n := 4) (Nat.le_of_ble_eq_true rfl)
  rw [show entryFrame m9 args 4 = entryFrame m9 ([.ref b, .int (nI k), .int (nI M)] : List Value).toArray 4 from by rw [hargs], lg_entry_eq]
  generalize (lg_sl [.ref b, .int (nI k), .int (nI M)] ++ List.replicate (4 - (lg_sl [.ref b, .int (nI k), .int (nI M)]).length) Slot.unset).toArray = ls at hl ⊢
  have hl : lv_has ls 4 [(0, .ref b), (1, .int (nI k)), (2, .int (nI M))] := hl
  have L_22 : ∀ (v : Int32), W p l e (headSpec wsL_draw rm_k_L_draw).room s m9 args below meth c s.heap [] 0 0 Q (F0 m9 22 ls [.int v]) := by
    intro v
    refine lv_istore_n (lv' := [(3, .int v), (0, .ref b), (1, .int (nI k)), (2, .int (nI M))]) S.1 S.2.1 dL_draw_22 rfl hl (by decide) rfl (fun ls hl => ?_)
    refine lv_iload_n S.1 S.2.1 dL_draw_23 rfl (lv_at hl 0 rfl) ?_
    refine lv_ldc (v := 2147483647) S.1 S.2.1 S.2.2.2.1 (S.2.2.2.2 _ m_L_draw_k9) dL_draw_24 ?_
    refine lv_iand S.1 S.2.1 dL_draw_26 ?_
    obtain ⟨w, hw, ew⟩ := pk_andE v (m := 2147483647) 31 (by decide)
    rw [ew]
    refine lv_iload_n S.1 S.2.1 dL_draw_27 rfl (lv_at hl 3 rfl) ?_
    refine r_remN S hw hM0 hM dL_draw_28 ?_
    rw [hQ]
    exact W.iret (v := nI (w % M)) S.1 S.2.1 hret (fun _ hT9 _ => ⟨_, rfl, ⟨_, Nat.mod_lt _ hM0, rfl⟩, hT9⟩) (fun _ h => nomatch h) dL_draw_29
  refine lv_iload_n S.1 S.2.1 dL_draw_0 rfl (lv_at hl 1 rfl) ?_
  refine lv_aload_n S.1 S.2.1 dL_draw_1 rfl (lv_at hl 0 rfl) ?_
  refine va_slen S.1 S.2.1 hX hbl id hS dL_draw_2 ?_
  rw [show Int32.ofNat L = nI L from rfl]
  refine r_icmpN_ge S (tgt := 12) (by omega) (by omega) dL_draw_3 (by decide) (fun c_1 => ?_) (fun c_1 => ?_)
  · refine lv_ldc (v := 969401809) S.1 S.2.1 S.2.2.2.1 (S.2.2.2.2 _ m_L_draw_k7) dL_draw_12 ?_
    refine lv_iload_n S.1 S.2.1 dL_draw_14 rfl (lv_at hl 1 rfl) ?_
    refine lv_bipush (v := nI 79) S.1 S.2.1 dL_draw_15 (by decide) ?_
    refine lv_iadd S.1 S.2.1 dL_draw_17 ?_
    refine lv_imul S.1 S.2.1 dL_draw_18 ?_
    refine lv_ldc (v := 634501367) S.1 S.2.1 S.2.2.2.1 (S.2.2.2.2 _ m_L_draw_k8) dL_draw_19 ?_
    refine lv_iadd S.1 S.2.1 dL_draw_21 ?_
    exact L_22 _
  · refine lv_aload_n S.1 S.2.1 dL_draw_6 rfl (lv_at hl 0 rfl) ?_
    refine lv_iload_n S.1 S.2.1 dL_draw_7 rfl (lv_at hl 1 rfl) ?_
    refine va_sld S.1 S.2.1 hX hbl id hS (vp_in_nI (by omega) (by omega)) dL_draw_8 ?_
    refine lv_goto (tgt := 22) S.1 S.2.1 dL_draw_9 (by decide) ?_
    exact L_22 _
def tPc (G : wG) (b L : Nat) (xs : Nat → Int32) (at_ : Nat) (all : Bool) : Array Value → State → Prop := va_Pc [.ref b, .int (nI at_), .int (bi all)] (fun U => yI G [] U ∧ va_X b L xs U U.heap)
theorem tPc_blind {G : wG} {b L : Nat} {xs : Nat → Int32} {at_ : Nat} {all : Bool} : FrameBlind (tPc G b L xs at_ all) := by
  intro a U g mk h
  obtain ⟨h0, ⟨h1, ⟨h2, h5⟩, h3, h4⟩, hx⟩ := h
  exact ⟨h0, ⟨h1, ⟨wB.same (s := U) (U := U.calling g mk a) rfl rfl h2, h5.moved (Vm.Alike.refl _)⟩, h3, h4⟩, va_X.moved (u := U) (U := U.calling g mk a) (H := U.heap) (Vm.Alike.refl _) hx⟩
theorem tPc_S {b L : Nat} {xs : Nat → Int32} {at_ : Nat} {all : Bool} {G : wG} {s : State} {H : Heap} {locs : List Loc} (Z : yZ G [] s H locs) (hX : va_X b L xs s s.heap) (hbl : b < s.heap.size) (hbA : ¬ gP G b) : PreS s H (tPc G b L xs at_ all) [.ref b, .int (nI at_), .int (bi all)] :=
  ⟨tPc_blind, fun U hU hW => ⟨rfl, yZ_I Z hU hW, va_X.moved hW.alike (va_X.kept hX (by rw [hU]; exact Z.2.2.2.2.2.1 b hbl hbA))⟩⟩
abbrev QT (n : Nat) : Array Value → State → Outcome → State → Prop := va_Qi (fun (rr : Int32) (_ : Unit) => rr = nI 1) (fun _ _ => True) (fun q => n ≤ q)
theorem yZ_nil {G : wG} {s : State} {H H1 : Heap} {locs locs1 : List Loc} (Z : yZ G [] s H locs) (hS : va_S (gP G) s.heap H1 locs1) : yZ G [] s H1 locs1 := ⟨Z.1, Z.2.1, fun k q h => by simp at h, ⟨fun i j p q h => by simp at h, fun k q h => by simp at h⟩, hS⟩
