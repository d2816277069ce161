theorem yn_0 {w : va_W} {k : Nat} {x : Nat × va_E} (h : w[k]? = some x) : w.set k x ++ [] = w := by
  rw [List.append_nil]
  obtain ⟨h1, h2⟩ := List.getElem?_eq_some_iff.mp h
  rw [← h2, List.set_getElem_self]
theorem yn_l {w : va_W} {k : Nat} {x x0 : Nat × va_E} (h : w[k]? = some x0) : k < (w.set k x).length := by
  rw [List.length_set]; exact (List.getElem?_eq_some_iff.mp h).1
theorem yn_g {w t : va_W} {k : Nat} {x x0 : Nat × va_E} (h : w[k]? = some x0) : (w.set k x ++ t)[k]? = some x := by
  rw [List.getElem?_append_left (yn_l h), List.getElem?_set_self (List.getElem?_eq_some_iff.mp h).1]
theorem yn_s {w t : va_W} {k : Nat} {x y x0 : Nat × va_E} (h : w[k]? = some x0) : (w.set k x ++ t).set k y = w.set k y ++ t := by
  rw [List.set_append_left _ _ (yn_l h), List.set_set]
theorem yset_at {w : va_W} {k : Nat} {x y : Nat × va_E} (h : w[k]? = some x) : (w.set k y)[k]? = some y := List.getElem?_set_self (List.getElem?_eq_some_iff.mp h).1
abbrev rm_k_J7_fill_53178 : Room := { frames := 0, cells := 0, slots := 0, locals := 0 }
set_option maxHeartbeats 4000000 in
theorem k_J7_fill_53178 (l : Launch) (G : wG) (w : va_W) (ad k0 n : Nat) (f : Nat → Int32) (v : Int32) (hk : w[k0]? = some (ad, .inl (gC G 0, n, .inl f))) (hn : n < 1000) : Met l yJ7_fill_53178 wsJ7_fill_53178 rm_k_J7_fill_53178 (yPc G w [.ref ad, .int v]) (va_Qv (fun u : va_W => u = w.set k0 (ad, .inl (gC G 0, n, .inl (fil f v n)))) (fun u t => yI G u t) (gP G)) 0 0 (gP G) := by
  refine Met.ofW (cc := cJ7_fill_53178) (maxL := 4) (ret := none) (by decide) rfl ?_
  intro p e s m args below meth c s₁ B hml hv
  obtain ⟨hargs, hI⟩ := hv
  have S : CallFix p m c cJ7_fill_53178 4 s args wsJ7_fill_53178 RJ7 := ⟨B.exec, B.bytes, hml, findClass_of_methodNamed B.named, atoms_spec (ws := wsJ7_fill_53178) B.pre⟩
  have hret := B.returns
  have Z := yZ_0 hI
  clear hI
  obtain ⟨Q, hQ⟩ : ∃ Q, Q = MQ below (va_Qv (fun u : va_W => u = w.set k0 (ad, .inl (gC G 0, n, .inl (fil f v n)))) (fun u t => yI G u t) (gP G)) args s 0 0 (gP G) := ⟨_, rfl⟩
  rw [← hQ]
  have hl := lv_entry [.ref ad, .int v] (n := 4) (Nat.le_of_ble_eq_true rfl)
  rw [show entryFrame m args 4 = entryFrame m ([.ref ad, .int v] : List Value).toArray 4 from by rw [hargs], lg_entry_eq]
  generalize (lg_sl [.ref ad, .int v] ++ List.replicate (4 - (lg_sl [.ref ad, .int v]).length) Slot.unset).toArray = ls at hl ⊢
  have hl : lv_has ls 4 [(0, .ref ad), (1, .int v)] := hl
  refine lv_iconst (v := nI 0) S.1 S.2.1 dJ7_fill_53178_0 (by decide) ?_
  refine lv_istore_n (lv' := [(2, .int (nI 0)), (0, .ref ad), (1, .int v)]) S.1 S.2.1 dJ7_fill_53178_1 rfl hl (by decide) rfl (fun ls hl => ?_)
  refine lv_aload_n S.1 S.2.1 dJ7_fill_53178_2 rfl (lv_at hl 1 rfl) ?_
  refine y_alen S Z hk dJ7_fill_53178_3 ?_
  refine lv_istore_n (lv' := [(3, .int (nI n)), (2, .int (nI 0)), (0, .ref ad), (1, .int v)]) S.1 S.2.1 dJ7_fill_53178_4 rfl hl (by decide) rfl (fun ls hl => ?_)
  have L_5 : ∀ (j : Nat) (i : Nat) (hi : i ≤ n) (hj : n - i < j) (H : Heap) (locs : List Loc) (Z : yZ G (w.set k0 (ad, .inl (gC G 0, n, .inl (fil f v i)))) s H locs) (ls : Array Slot) (hl : lv_has ls 4 [(0, .ref ad), (1, .int v), (2, .int (nI i)), (3, .int (nI n))]), W p l e (headSpec wsJ7_fill_53178 rm_k_J7_fill_53178).room s m args below meth c H locs 0 0 Q (F0 m 5 ls []) := by
    intro j
    induction j with
    | zero => intro i hi hj; omega
    | succ j ih =>
      intro i hi hj H locs Z ls hl
      refine lv_iload_n S.1 S.2.1 dJ7_fill_53178_5 rfl (lv_at hl 2 rfl) ?_
      refine lv_iload_n S.1 S.2.1 dJ7_fill_53178_6 rfl (lv_at hl 3 rfl) ?_
      refine r_icmpN_ge S (tgt := 20) (by omega) (by omega) dJ7_fill_53178_7 (by decide) (fun c_1 => ?_) (fun c_1 => ?_)
      · obtain rfl : i = n := by omega
        rw [hQ]
        exact W.vret S.1 S.2.1 hret (fun _ hT9 hW => ⟨⟨w.set k0 (ad, .inl (gC G 0, i, .inl (fil f v i))), rfl, rfl, yZ_I Z hT9 hW⟩, Z.2.2.2.2.F hT9⟩) Z.2.2.2.2.2.2 dJ7_fill_53178_20
      · refine lv_aload_n S.1 S.2.1 dJ7_fill_53178_10 rfl (lv_at hl 0 rfl) ?_
        refine lv_iload_n S.1 S.2.1 dJ7_fill_53178_11 rfl (lv_at hl 2 rfl) ?_
        refine lv_iload_n S.1 S.2.1 dJ7_fill_53178_12 rfl (lv_at hl 1 rfl) ?_
        refine y_iast S Z (yset_at hk) (show i < n by omega) (by omega) dJ7_fill_53178_13 (fun H locs Z => ?_)
        have Z : yZ G (w.set k0 (ad, .inl (gC G 0, n, .inl (fil f v (i + 1))))) s H locs := by rw [List.set_set, fil_s] at Z; exact Z
        refine lv_iinc (v := nI (i + 1)) (lv' := [(2, .int (nI (i + 1))), (0, .ref ad), (1, .int v), (3, .int (nI n))]) S.1 S.2.1 dJ7_fill_53178_14 hl (k := 2) rfl (nI_inc rfl) (by decide) rfl (fun ls hl => ?_)
        refine lv_goto (tgt := 5) S.1 S.2.1 dJ7_fill_53178_17 (by decide) ?_
        exact ih (i + 1) (by omega) (by omega) _ _ Z ls (lv_sub hl [1, 2, 0, 3] rfl)
  exact L_5 (n + 1) 0 (Nat.zero_le _) (by omega) _ _ (by rw [fil_0]; rw [← List.append_nil (w.set k0 _), yn_0 hk]; exact Z) ls (lv_sub hl [2, 3, 1, 0] rfl)

theorem m_Jxa1e45_init_da8c8_l1 : Cond.methodLink RJxa1e45 1 objectInit ∈ wsJxa1e45_init_da8c8 := by decide +kernel
theorem m_Jxa1e45_init_da8c8_oi : Cond.instanceMethod objectInit ∈ wsJxa1e45_init_da8c8 := by decide +kernel
theorem m_Jxa1e45_init_da8c8_oc : Cond.code objectInit ⟨#[0xb1]⟩ 1 none ∈ wsJxa1e45_init_da8c8 := by decide +kernel
abbrev rm_k_Jxa1e45_init_da8c8 : Room := { frames := 1, cells := 0, slots := 0, locals := 20 }
set_option maxHeartbeats 4000000 in
set_option maxRecDepth 100000 in
theorem k_Jxa1e45_init_da8c8 (l : Launch) (G : wG) (w : va_W) (ad k0 : Nat)  (hk : w[k0]? = some (ad, .inr (0, [.int 0, .null, .int 0]))) : Met l yJxa1e45_init_da8c8 wsJxa1e45_init_da8c8 rm_k_Jxa1e45_init_da8c8 (yPc G w [.ref (ad)]) (va_Qv (fun u : va_W => u = w.set k0 (ad, .inr (0, [.int 0, .null, .int 0]))) (fun u t => yI G u t) (gP G)) 0 0 (gP G) := by
  refine Met.ofW (cc := cJxa1e45_init_da8c8) (maxL := 1) (ret := none) (by decide) rfl ?_
  intro p e s m args below meth c s₁ B hml hv
  obtain ⟨hargs, hI⟩ := hv
  have S : CallFix p m c cJxa1e45_init_da8c8 1 s args wsJxa1e45_init_da8c8 RJxa1e45 := ⟨B.exec, B.bytes, hml, findClass_of_methodNamed B.named, atoms_spec (ws := wsJxa1e45_init_da8c8) B.pre⟩
  have hret := B.returns
  have hlocks := B.notSynchronized
  have Z := yZ_0 hI
  clear hI
  obtain ⟨Q, hQ⟩ : ∃ Q, Q = MQ below (va_Qv (fun u : va_W => u = w.set k0 (ad, .inr (0, [.int 0, .null, .int 0]))) (fun u t => yI G u t) (gP G)) args s 0 0 (gP G) := ⟨_, rfl⟩
  rw [← hQ]
  have hl := lv_entry [.ref (ad)] (n := 1) (Nat.le_of_ble_eq_true rfl)
  rw [show entryFrame m args 1 = entryFrame m ([.ref (ad)] : List Value).toArray 1 from by rw [hargs], lg_entry_eq]
  generalize (lg_sl [.ref (ad)] ++ List.replicate (1 - (lg_sl [.ref (ad)]).length) Slot.unset).toArray = ls at hl ⊢
  have hl : lv_has ls 1 [(0, .ref (ad))] := hl
  have hini : meth.name = "<init>" := (name_of_methodNamed B.named B.method).1
  have Z : yZ G (w.set k0 (ad, .inr (0, [.int 0, .null, .int 0])) ++ []) s s.heap [] := by rw [yn_0 hk]; exact Z
  revert Z; generalize ([] : List Loc) = locs; intro Z
  refine lv_aload_n S.1 S.2.1 dJxa1e45_init_da8c8_0 rfl (lv_at hl 0 rfl) ?_
  refine W.objInit S.1 S.2.1 S.2.2.2.1 (S.2.2.2.2 _ m_Jxa1e45_init_da8c8_l1) (S.2.2.2.2 _ m_Jxa1e45_init_da8c8_oi) (S.2.2.2.2 _ m_Jxa1e45_init_da8c8_oc) rfl (by rw [S.2.2.1]; exact hl.1) rfl dJxa1e45_init_da8c8_1 (Nat.le_of_ble_eq_true rfl) (Nat.le_of_ble_eq_true rfl) ?_
  rw [hQ]
  have Z : yZ G (w.set k0 (ad, .inr (0, [.int 0, .null, .int 0]))) s s.heap locs := by rw [List.append_nil] at Z; exact Z
  exact W.vret S.1 S.2.1 hret (fun _ hT9 hW => ⟨⟨w.set k0 (ad, .inr (0, [.int 0, .null, .int 0])), rfl, rfl, yZ_I Z hT9 hW⟩, Z.2.2.2.2.F hT9⟩) Z.2.2.2.2.2.2 dJxa1e45_init_da8c8_4

theorem m_Jxc12de_init_da8c8_zRJxa1e45 : Cond.initialized RJxa1e45 ∈ wsJxc12de_init_da8c8 := by decide +kernel
theorem m_Jxc12de_init_da8c8_nJxa1e45_init_da8c8 : Cond.instanceMethod yJxa1e45_init_da8c8 ∈ wsJxc12de_init_da8c8 := by decide +kernel
theorem m_Jxc12de_init_da8c8_k1 : Cond.methodLink RJxc12de 1 yJxa1e45_init_da8c8 ∈ wsJxc12de_init_da8c8 := by decide +kernel
theorem i_Jxc12de_init_da8c8_Jx4a65c : ∀ w ∈ wsJx4a65c0, w ∈ wsJxc12de_init_da8c8 := by decide +kernel
theorem m_Jxc12de_init_da8c8_f7 : Cond.fieldLink RJxc12de 7 "java/util/AbstractList" "modCount" "I" ∈ wsJxc12de_init_da8c8 := by decide +kernel
abbrev rm_k_Jxc12de_init_da8c8 : Room := { frames := 2, cells := 0, slots := 0, locals := 40 }
set_option maxHeartbeats 4000000 in
set_option maxRecDepth 100000 in
theorem k_Jxc12de_init_da8c8 (l : Launch) (G : wG) (w : va_W) (ad k0 : Nat)  (hk : w[k0]? = some (ad, .inr (0, [.int 0, .null, .int 0]))) : Met l yJxc12de_init_da8c8 wsJxc12de_init_da8c8 rm_k_Jxc12de_init_da8c8 (yPc G w [.ref (ad)]) (va_Qv (fun u : va_W => u = w.set k0 (ad, .inr (0, [.int (nI 0), .null, .int 0]))) (fun u t => yI G u t) (gP G)) 0 0 (gP G) := by
  refine Met.ofW (cc := cJxc12de_init_da8c8) (maxL := 1) (ret := none) (by decide) rfl ?_
  intro p e s m args below meth c s₁ B hml hv
  obtain ⟨hargs, hI⟩ := hv
  have S : CallFix p m c cJxc12de_init_da8c8 1 s args wsJxc12de_init_da8c8 RJxc12de := ⟨B.exec, B.bytes, hml, findClass_of_methodNamed B.named, atoms_spec (ws := wsJxc12de_init_da8c8) B.pre⟩
  have hret := B.returns
  have hlocks := B.notSynchronized
  have Z := yZ_0 hI
  clear hI
  obtain ⟨Q, hQ⟩ : ∃ Q, Q = MQ below (va_Qv (fun u : va_W => u = w.set k0 (ad, .inr (0, [.int (nI 0), .null, .int 0]))) (fun u t => yI G u t) (gP G)) args s 0 0 (gP G) := ⟨_, rfl⟩
  rw [← hQ]
  have hl := lv_entry [.ref (ad)] (n := 1) (Nat.le_of_ble_eq_true rfl)
  rw [show entryFrame m args 1 = entryFrame m ([.ref (ad)] : List Value).toArray 1 from by rw [hargs], lg_entry_eq]
  generalize (lg_sl [.ref (ad)] ++ List.replicate (1 - (lg_sl [.ref (ad)]).length) Slot.unset).toArray = ls at hl ⊢
  have hl : lv_has ls 1 [(0, .ref (ad))] := hl
  have hini : meth.name = "<init>" := (name_of_methodNamed B.named B.method).1
  have Z : yZ G (w.set k0 (ad, .inr (0, [.int 0, .null, .int 0])) ++ []) s s.heap [] := by rw [yn_0 hk]; exact Z
  revert Z; generalize ([] : List Loc) = locs; intro Z
  refine lv_aload_n S.1 S.2.1 dJxc12de_init_da8c8_0 rfl (lv_at hl 0 rfl) ?_
  obtain ⟨w9, hw9⟩ : ∃ q, q = w.set k0 (ad, .inr (0, [.int 0, .null, .int 0])) ++ [] := ⟨_, rfl⟩
  rw [← hw9] at Z
  have hk9 : w9[k0]? = some (ad, .inr (0, [.int 0, .null, .int 0])) := by rw [hw9]; exact yn_g hk
  refine va_callv (va_runI (As := []) (rest := []) S (k_Jxa1e45_init_da8c8 l G w9 ad k0  hk9) (cwI 0 S.2.2.2.2 gJxc12de_init_da8c8_Jxa1e45_init_da8c8 rfl rfl rfl (S.2.2.2.2 _ m_Jxc12de_init_da8c8_zRJxa1e45) (S.2.2.2.2 _ m_Jxc12de_init_da8c8_k1) (S.2.2.2.2 _ m_Jxc12de_init_da8c8_nJxa1e45_init_da8c8) rfl hy_Jxa1e45_init_da8c8 ⟨Nat.le_of_ble_eq_true rfl, Nat.le_of_ble_eq_true rfl⟩) (yPc_S Z) rfl rfl hl.1 rfl (lv_room (Nat.le_of_ble_eq_true rfl)) dJxc12de_init_da8c8_1 ⟨Nat.le_of_ble_eq_true rfl, Nat.le_of_ble_eq_true rfl⟩) Z.2.2.2.2 (fun _ _ h => h) (fun _ h => h) (fun u_1 T9 H1 locs1 hT9 hvm hw hB hz hkk9 hS => ?_)
  subst hw
  have Z := yZ_call Z hB hT9 hS
  clear hB hT9 hS hkk9 hz hvm T9
  revert Z; generalize H1 = H; generalize locs1 = locs; intro Z
  have Z : yZ G (w.set k0 (ad, .inr (0, [.int 0, .null, .int 0])) ++ []) s H locs := by rw [hw9, yn_s hk] at Z; exact Z
  refine W.widen (k := 0) (n := 0) (by first | decide | omega) (by first | decide | omega) ?_
  refine lv_aload_n S.1 S.2.1 dJxc12de_init_da8c8_4 rfl (lv_at hl 0 rfl) ?_
  refine lv_iconst (v := nI 0) S.1 S.2.1 dJxc12de_init_da8c8_5 (by first | decide | rfl) ?_
  refine y_put (C := RJx4a65c) (T := TJx4a65c) (N := 3) (ci := 0) S Z (yn_g hk) rfl i_Jxc12de_init_da8c8_Jx4a65c tyJx4a65c tyJx4a65c_ok nmJx4a65c 0 (by decide) m_Jxc12de_init_da8c8_f7 rfl rfl (ty := tyJx4a65c 0) (v := .int (nI 0)) (tyJx4a65c_ok 0 (by decide)) (by first | rfl | decide) (by first | rfl | decide) (Nat.le_of_ble_eq_true rfl) dJxc12de_init_da8c8_6 (fun H locs Z => ?_)
  have Z : yZ G (w.set k0 (ad, .inr (0, [.int (nI 0), .null, .int 0])) ++ []) s H locs := by rw [yn_s hk] at Z; exact Z
  rw [hQ]
  have Z : yZ G (w.set k0 (ad, .inr (0, [.int (nI 0), .null, .int 0]))) s H locs := by rw [List.append_nil] at Z; exact Z
  exact W.vret S.1 S.2.1 hret (fun _ hT9 hW => ⟨⟨w.set k0 (ad, .inr (0, [.int (nI 0), .null, .int 0])), rfl, rfl, yZ_I Z hT9 hW⟩, Z.2.2.2.2.F hT9⟩) Z.2.2.2.2.2.2 dJxc12de_init_da8c8_9

theorem m_Jx4a65c_init_da8c8_zRJxc12de : Cond.initialized RJxc12de ∈ wsJx4a65c_init_da8c8 := by decide +kernel
theorem m_Jx4a65c_init_da8c8_nJxc12de_init_da8c8 : Cond.instanceMethod yJxc12de_init_da8c8 ∈ wsJx4a65c_init_da8c8 := by decide +kernel
theorem m_Jx4a65c_init_da8c8_k1 : Cond.methodLink RJx4a65c 1 yJxc12de_init_da8c8 ∈ wsJx4a65c_init_da8c8 := by decide +kernel
theorem m_Jx4a65c_init_da8c8_f39 : Cond.fieldLink RJx4a65c 39 "java/util/ArrayList" "DEFAULTCAPACITY_EMPTY_ELEMENTDATA" "[Ljava/lang/Object;" ∈ wsJx4a65c_init_da8c8 := by decide +kernel
theorem i_Jx4a65c_init_da8c8_Jx4a65c : ∀ w ∈ wsJx4a65c0, w ∈ wsJx4a65c_init_da8c8 := by decide +kernel
theorem m_Jx4a65c_init_da8c8_f9 : Cond.fieldLink RJx4a65c 9 "java/util/ArrayList" "elementData" "[Ljava/lang/Object;" ∈ wsJx4a65c_init_da8c8 := by decide +kernel
abbrev rm_k_Jx4a65c_init_da8c8 : Room := { frames := 3, cells := 0, slots := 0, locals := 60 }
set_option maxHeartbeats 4000000 in
set_option maxRecDepth 100000 in
theorem k_Jx4a65c_init_da8c8 (l : Launch) (G : wG) (w : va_W) (ad k0 : Nat)  (hk : w[k0]? = some (ad, .inr (0, [.int 0, .null, .int 0]))) : Met l yJx4a65c_init_da8c8 wsJx4a65c_init_da8c8 rm_k_Jx4a65c_init_da8c8 (yPc G w [.ref (ad)]) (va_Qv (fun u : va_W => u = w.set k0 (ad, .inr (0, [.int (nI 0), .ref (gX G 0), .int 0]))) (fun u t => yI G u t) (gP G)) 0 0 (gP G) := by
  refine Met.ofW (cc := cJx4a65c_init_da8c8) (maxL := 1) (ret := none) (by decide) rfl ?_
  intro p e s m args below meth c s₁ B hml hv
  obtain ⟨hargs, hI⟩ := hv
  have S : CallFix p m c cJx4a65c_init_da8c8 1 s args wsJx4a65c_init_da8c8 RJx4a65c := ⟨B.exec, B.bytes, hml, findClass_of_methodNamed B.named, atoms_spec (ws := wsJx4a65c_init_da8c8) B.pre⟩
  have hret := B.returns
  have hlocks := B.notSynchronized
  have Z := yZ_0 hI
  clear hI
  obtain ⟨Q, hQ⟩ : ∃ Q, Q = MQ below (va_Qv (fun u : va_W => u = w.set k0 (ad, .inr (0, [.int (nI 0), .ref (gX G 0), .int 0]))) (fun u t => yI G u t) (gP G)) args s 0 0 (gP G) := ⟨_, rfl⟩
  rw [← hQ]
  have hl := lv_entry [.ref (ad)] (n := 1) (Nat.le_of_ble_eq_true rfl)
  rw [show entryFrame m args 1 = entryFrame m ([.ref (ad)] : List Value).toArray 1 from by rw [hargs], lg_entry_eq]
  generalize (lg_sl [.ref (ad)] ++ List.replicate (1 - (lg_sl [.ref (ad)]).length) Slot.unset).toArray = ls at hl ⊢
  have hl : lv_has ls 1 [(0, .ref (ad))] := hl
  have hini : meth.name = "<init>" := (name_of_methodNamed B.named B.method).1
  have Z : yZ G (w.set k0 (ad, .inr (0, [.int 0, .null, .int 0])) ++ []) s s.heap [] := by rw [yn_0 hk]; exact Z
  revert Z; generalize ([] : List Loc) = locs; intro Z
  refine lv_aload_n S.1 S.2.1 dJx4a65c_init_da8c8_0 rfl (lv_at hl 0 rfl) ?_
  obtain ⟨w9, hw9⟩ : ∃ q, q = w.set k0 (ad, .inr (0, [.int 0, .null, .int 0])) ++ [] := ⟨_, rfl⟩
  rw [← hw9] at Z
  have hk9 : w9[k0]? = some (ad, .inr (0, [.int 0, .null, .int 0])) := by rw [hw9]; exact yn_g hk
  refine va_callv (va_runI (As := []) (rest := []) S (k_Jxc12de_init_da8c8 l G w9 ad k0  hk9) (cwI 0 S.2.2.2.2 gJx4a65c_init_da8c8_Jxc12de_init_da8c8 rfl rfl rfl (S.2.2.2.2 _ m_Jx4a65c_init_da8c8_zRJxc12de) (S.2.2.2.2 _ m_Jx4a65c_init_da8c8_k1) (S.2.2.2.2 _ m_Jx4a65c_init_da8c8_nJxc12de_init_da8c8) rfl hy_Jxc12de_init_da8c8 ⟨Nat.le_of_ble_eq_true rfl, Nat.le_of_ble_eq_true rfl⟩) (yPc_S Z) rfl rfl hl.1 rfl (lv_room (Nat.le_of_ble_eq_true rfl)) dJx4a65c_init_da8c8_1 ⟨Nat.le_of_ble_eq_true rfl, Nat.le_of_ble_eq_true rfl⟩) Z.2.2.2.2 (fun _ _ h => h) (fun _ h => h) (fun u_1 T9 H1 locs1 hT9 hvm hw hB hz hkk9 hS => ?_)
  subst hw
  have Z := yZ_call Z hB hT9 hS
  clear hB hT9 hS hkk9 hz hvm T9
  revert Z; generalize H1 = H; generalize locs1 = locs; intro Z
  have Z : yZ G (w.set k0 (ad, .inr (0, [.int (nI 0), .null, .int 0])) ++ []) s H locs := by rw [hw9, yn_s hk] at Z; exact Z
  refine W.widen (k := 0) (n := 0) (by first | decide | omega) (by first | decide | omega) ?_
  refine lv_aload_n S.1 S.2.1 dJx4a65c_init_da8c8_4 rfl (lv_at hl 0 rfl) ?_
  refine y_gets0 S Z m_Jx4a65c_init_da8c8_f39 dJx4a65c_init_da8c8_5 ?_
  refine y_put (C := RJx4a65c) (T := TJx4a65c) (N := 3) (ci := 0) S Z (yn_g hk) rfl i_Jx4a65c_init_da8c8_Jx4a65c tyJx4a65c tyJx4a65c_ok nmJx4a65c 1 (by decide) m_Jx4a65c_init_da8c8_f9 rfl rfl (ty := tyJx4a65c 1) (v := .ref (gX G 0)) (tyJx4a65c_ok 1 (by decide)) (by first | rfl | decide) (by first | rfl | decide) (Nat.le_of_ble_eq_true rfl) dJx4a65c_init_da8c8_8 (fun H locs Z => ?_)
  have Z : yZ G (w.set k0 (ad, .inr (0, [.int (nI 0), .ref (gX G 0), .int 0])) ++ []) s H locs := by rw [yn_s hk] at Z; exact Z
  rw [hQ]
  have Z : yZ G (w.set k0 (ad, .inr (0, [.int (nI 0), .ref (gX G 0), .int 0]))) s H locs := by rw [List.append_nil] at Z; exact Z
  exact W.vret S.1 S.2.1 hret (fun _ hT9 hW => ⟨⟨w.set k0 (ad, .inr (0, [.int (nI 0), .ref (gX G 0), .int 0])), rfl, rfl, yZ_I Z hT9 hW⟩, Z.2.2.2.2.F hT9⟩) Z.2.2.2.2.2.2 dJx4a65c_init_da8c8_11

theorem m_X4_init_l3 : Cond.methodLink RX4 3 objectInit ∈ wsX4_init := by decide +kernel
theorem m_X4_init_oi : Cond.instanceMethod objectInit ∈ wsX4_init := by decide +kernel
theorem m_X4_init_oc : Cond.code objectInit ⟨#[0xb1]⟩ 1 none ∈ wsX4_init := by decide +kernel
theorem m_X4_init_arint : Cond.arrayClass .int  ∈ wsX4_init := by decide +kernel
theorem i_X4_init_X4 : ∀ w ∈ wsX40, w ∈ wsX4_init := by decide +kernel
theorem m_X4_init_f9 : Cond.fieldLink RX4 9 "WideCell$Ranges" "firsts" "[I" ∈ wsX4_init := by decide +kernel
theorem m_X4_init_f15 : Cond.fieldLink RX4 15 "WideCell$Ranges" "lasts" "[I" ∈ wsX4_init := by decide +kernel
abbrev rm_k_X4_init : Room := { frames := 1, cells := 2, slots := 16, locals := 23 }
set_option maxHeartbeats 4000000 in
set_option maxRecDepth 100000 in
theorem k_X4_init (l : Launch) (G : wG) (w : va_W) (ad k0 : Nat)  (hk : w[k0]? = some (ad, .inr (4, [.null, .null]))) : Met l yX4_init wsX4_init rm_k_X4_init (yPc G w [.ref (ad)]) (va_Qv (fun u : va_W => ∃ q1 q2 : Nat, u = w.set k0 (ad, .inr (4, [.ref (q1), .ref (q2)])) ++ [(q1, .inl (gC G 0, 8, .inl (fil (fun _ => 0) (-1) 8))), (q2, .inl (gC G 0, 8, .inl (fil (fun _ => 0) (-1) 8)))]) (fun u t => yI G u t) (gP G)) 2 16 (gP G) := by
  refine Met.ofW (cc := cX4_init) (maxL := 1) (ret := none) (by decide) rfl ?_
  intro p e s m args below meth c s₁ B hml hv
  obtain ⟨hargs, hI⟩ := hv
  have S : CallFix p m c cX4_init 1 s args wsX4_init RX4 := ⟨B.exec, B.bytes, hml, findClass_of_methodNamed B.named, atoms_spec (ws := wsX4_init) B.pre⟩
  have hret := B.returns
  have hlocks := B.notSynchronized
  have Z := yZ_0 hI
  clear hI
  obtain ⟨Q, hQ⟩ : ∃ Q, Q = MQ below (va_Qv (fun u : va_W => ∃ q1 q2 : Nat, u = w.set k0 (ad, .inr (4, [.ref (q1), .ref (q2)])) ++ [(q1, .inl (gC G 0, 8, .inl (fil (fun _ => 0) (-1) 8))), (q2, .inl (gC G 0, 8, .inl (fil (fun _ => 0) (-1) 8)))]) (fun u t => yI G u t) (gP G)) args s 2 16 (gP G) := ⟨_, rfl⟩
  rw [← hQ]
  have hl := lv_entry [.ref (ad)] (n := 1) (Nat.le_of_ble_eq_true rfl)
  rw [show entryFrame m args 1 = entryFrame m ([.ref (ad)] : List Value).toArray 1 from by rw [hargs], lg_entry_eq]
  generalize (lg_sl [.ref (ad)] ++ List.replicate (1 - (lg_sl [.ref (ad)]).length) Slot.unset).toArray = ls at hl ⊢
  have hl : lv_has ls 1 [(0, .ref (ad))] := hl
  have hini : meth.name = "<init>" := (name_of_methodNamed B.named B.method).1
  have Z : yZ G (w.set k0 (ad, .inr (4, [.null, .null])) ++ []) s s.heap [] := by rw [yn_0 hk]; exact Z
  revert Z; generalize ([] : List Loc) = locs; intro Z
  refine lv_aload_n S.1 S.2.1 dX4_init_0 rfl (lv_at hl 0 rfl) ?_
  refine W.objInit S.1 S.2.1 S.2.2.2.1 (S.2.2.2.2 _ m_X4_init_l3) (S.2.2.2.2 _ m_X4_init_oi) (S.2.2.2.2 _ m_X4_init_oc) rfl (by rw [S.2.2.1]; exact hl.1) rfl dX4_init_1 (Nat.le_of_ble_eq_true rfl) (Nat.le_of_ble_eq_true rfl) ?_
  refine lv_aload_n S.1 S.2.1 dX4_init_4 rfl (lv_at hl 0 rfl) ?_
  refine lv_bipush (v := nI 8) S.1 S.2.1 dX4_init_5 (by first | decide | rfl) ?_
  refine y_newI S Z (n := 8) (by decide) m_X4_init_arint (Nat.le_of_ble_eq_true rfl) (Nat.le_of_ble_eq_true rfl) dX4_init_7 (fun q1 H Z => ?_)
  have Z : yZ G (w.set k0 (ad, .inr (4, [.null, .null])) ++ [(q1, .inl (gC G 0, 8, .inl (fun _ => 0)))]) s H locs := by rw [List.append_assoc] at Z; exact Z
  refine y_putF (C := RX4) (T := TX4) (N := 2) (ci := 4) S Z (yn_g hk) rfl i_X4_init_X4 tyX4 tyX4_ok nmX4 0 (by decide) m_X4_init_f9 rfl rfl hini rfl (ty := tyX4 0) (v := .ref (q1)) (tyX4_ok 0 (by decide)) (by first | rfl | decide) (by first | rfl | decide) (Nat.le_of_ble_eq_true rfl) dX4_init_9 (fun H locs Z => ?_)
  have Z : yZ G (w.set k0 (ad, .inr (4, [.ref (q1), .null])) ++ [(q1, .inl (gC G 0, 8, .inl (fun _ => 0)))]) s H locs := by rw [yn_s hk] at Z; exact Z
  refine lv_aload_n S.1 S.2.1 dX4_init_12 rfl (lv_at hl 0 rfl) ?_
  refine lv_bipush (v := nI 8) S.1 S.2.1 dX4_init_13 (by first | decide | rfl) ?_
  refine y_newI S Z (n := 8) (by decide) m_X4_init_arint (Nat.le_of_ble_eq_true rfl) (Nat.le_of_ble_eq_true rfl) dX4_init_15 (fun q2 H Z => ?_)
  have Z : yZ G (w.set k0 (ad, .inr (4, [.ref (q1), .null])) ++ [(q1, .inl (gC G 0, 8, .inl (fun _ => 0))), (q2, .inl (gC G 0, 8, .inl (fun _ => 0)))]) s H locs := by rw [List.append_assoc] at Z; exact Z
  refine y_putF (C := RX4) (T := TX4) (N := 2) (ci := 4) S Z (yn_g hk) rfl i_X4_init_X4 tyX4 tyX4_ok nmX4 1 (by decide) m_X4_init_f15 rfl rfl hini rfl (ty := tyX4 1) (v := .ref (q2)) (tyX4_ok 1 (by decide)) (by first | rfl | decide) (by first | rfl | decide) (Nat.le_of_ble_eq_true rfl) dX4_init_17 (fun H locs Z => ?_)
  have Z : yZ G (w.set k0 (ad, .inr (4, [.ref (q1), .ref (q2)])) ++ [(q1, .inl (gC G 0, 8, .inl (fun _ => 0))), (q2, .inl (gC G 0, 8, .inl (fun _ => 0)))]) s H locs := by rw [yn_s hk] at Z; exact Z
  refine lv_aload_n S.1 S.2.1 dX4_init_20 rfl (lv_at hl 0 rfl) ?_
  refine y_get (C := RX4) (T := TX4) (N := 2) (ci := 4) S Z (yn_g hk) rfl i_X4_init_X4 0 (by decide) m_X4_init_f9 rfl (v := .ref (q1)) rfl dX4_init_21 ?_
  refine lv_iconst (v := -1) S.1 S.2.1 dX4_init_24 (by first | decide | rfl) ?_
  obtain ⟨w9, hw9⟩ : ∃ q, q = w.set k0 (ad, .inr (4, [.ref (q1), .ref (q2)])) ++ [(q1, .inl (gC G 0, 8, .inl (fun _ => 0))), (q2, .inl (gC G 0, 8, .inl (fun _ => 0)))] := ⟨_, rfl⟩
  rw [← hw9] at Z
  have hk9 : w9[(w.set k0 (ad, .inr (4, [.ref (q1), .ref (q2)]))).length + 0]? = some (q1, .inl (gC G 0, 8, .inl (fun _ => 0))) := by rw [hw9]; exact ya rfl
  refine va_callv (va_runS (As := [.ref (q1), .int (-1)]) (rest := []) S (k_J7_fill_53178 l G w9 q1 ((w.set k0 (ad, .inr (4, [.ref (q1), .ref (q2)]))).length + 0) 8 (fun _ => 0) (-1) hk9 (by decide)) (va_cwS 2 S.2.2.2.2 gX4_init_J7_fill_53178 rfl rfl rfl hy_J7_fill_53178 ⟨Nat.le_of_ble_eq_true rfl, Nat.le_of_ble_eq_true rfl⟩) (yPc_S Z) rfl rfl hl.1 rfl (lv_room (Nat.le_of_ble_eq_true rfl)) dX4_init_25 ⟨Nat.le_of_ble_eq_true rfl, Nat.le_of_ble_eq_true rfl⟩) Z.2.2.2.2 (fun _ _ h => h) (fun _ h => h) (fun u_1 T9 H1 locs1 hT9 hvm hw hB hz hkk9 hS => ?_)
  subst hw
  have Z := yZ_call Z hB hT9 hS
  clear hB hT9 hS hkk9 hz hvm T9
  revert Z; generalize H1 = H; generalize locs1 = locs; intro Z
  have Z : yZ G (w.set k0 (ad, .inr (4, [.ref (q1), .ref (q2)])) ++ [(q1, .inl (gC G 0, 8, .inl (fil (fun _ => 0) (-1) 8))), (q2, .inl (gC G 0, 8, .inl (fun _ => 0)))]) s H locs := by rw [hw9, ys] at Z; exact Z
  refine W.widen (k := 2) (n := 16) (by first | decide | omega) (by first | decide | omega) ?_
  refine lv_aload_n S.1 S.2.1 dX4_init_28 rfl (lv_at hl 0 rfl) ?_
  refine y_get (C := RX4) (T := TX4) (N := 2) (ci := 4) S Z (yn_g hk) rfl i_X4_init_X4 1 (by decide) m_X4_init_f15 rfl (v := .ref (q2)) rfl dX4_init_29 ?_
  refine lv_iconst (v := -1) S.1 S.2.1 dX4_init_32 (by first | decide | rfl) ?_
  obtain ⟨w9, hw9⟩ : ∃ q, q = w.set k0 (ad, .inr (4, [.ref (q1), .ref (q2)])) ++ [(q1, .inl (gC G 0, 8, .inl (fil (fun _ => 0) (-1) 8))), (q2, .inl (gC G 0, 8, .inl (fun _ => 0)))] := ⟨_, rfl⟩
  rw [← hw9] at Z
  have hk9 : w9[(w.set k0 (ad, .inr (4, [.ref (q1), .ref (q2)]))).length + 1]? = some (q2, .inl (gC G 0, 8, .inl (fun _ => 0))) := by rw [hw9]; exact ya rfl
  refine va_callv (va_runS (As := [.ref (q2), .int (-1)]) (rest := []) S (k_J7_fill_53178 l G w9 q2 ((w.set k0 (ad, .inr (4, [.ref (q1), .ref (q2)]))).length + 1) 8 (fun _ => 0) (-1) hk9 (by decide)) (va_cwS 2 S.2.2.2.2 gX4_init_J7_fill_53178 rfl rfl rfl hy_J7_fill_53178 ⟨Nat.le_of_ble_eq_true rfl, Nat.le_of_ble_eq_true rfl⟩) (yPc_S Z) rfl rfl hl.1 rfl (lv_room (Nat.le_of_ble_eq_true rfl)) dX4_init_33 ⟨Nat.le_of_ble_eq_true rfl, Nat.le_of_ble_eq_true rfl⟩) Z.2.2.2.2 (fun _ _ h => h) (fun _ h => h) (fun u_2 T9 H1 locs1 hT9 hvm hw hB hz hkk9 hS => ?_)
  subst hw
  have Z := yZ_call Z hB hT9 hS
  clear hB hT9 hS hkk9 hz hvm T9
  revert Z; generalize H1 = H; generalize locs1 = locs; intro Z
  have Z : yZ G (w.set k0 (ad, .inr (4, [.ref (q1), .ref (q2)])) ++ [(q1, .inl (gC G 0, 8, .inl (fil (fun _ => 0) (-1) 8))), (q2, .inl (gC G 0, 8, .inl (fil (fun _ => 0) (-1) 8)))]) s H locs := by rw [hw9, ys] at Z; exact Z
  refine W.widen (k := 2) (n := 16) (by first | decide | omega) (by first | decide | omega) ?_
  rw [hQ]
  exact W.vret S.1 S.2.1 hret (fun _ hT9 hW => ⟨⟨w.set k0 (ad, .inr (4, [.ref (q1), .ref (q2)])) ++ [(q1, .inl (gC G 0, 8, .inl (fil (fun _ => 0) (-1) 8))), (q2, .inl (gC G 0, 8, .inl (fil (fun _ => 0) (-1) 8)))], rfl, ⟨q1, q2, rfl⟩, yZ_I Z hT9 hW⟩, Z.2.2.2.2.F hT9⟩) Z.2.2.2.2.2.2 dX4_init_36

theorem m_X5_init_l3 : Cond.methodLink RX5 3 objectInit ∈ wsX5_init := by decide +kernel
theorem m_X5_init_oi : Cond.instanceMethod objectInit ∈ wsX5_init := by decide +kernel
theorem m_X5_init_oc : Cond.code objectInit ⟨#[0xb1]⟩ 1 none ∈ wsX5_init := by decide +kernel
theorem m_X5_init_arint : Cond.arrayClass .int  ∈ wsX5_init := by decide +kernel
theorem i_X5_init_X5 : ∀ w ∈ wsX50, w ∈ wsX5_init := by decide +kernel
theorem m_X5_init_f9 : Cond.fieldLink RX5 9 "WideCell$Table" "stamps" "[I" ∈ wsX5_init := by decide +kernel
theorem m_X5_init_f15 : Cond.fieldLink RX5 15 "WideCell$Table" "values" "[I" ∈ wsX5_init := by decide +kernel
theorem m_X5_init_f18 : Cond.fieldLink RX5 18 "WideCell$Table" "ends" "[I" ∈ wsX5_init := by decide +kernel
theorem m_X5_init_f21 : Cond.fieldLink RX5 21 "WideCell$Table" "burials" "[I" ∈ wsX5_init := by decide +kernel
theorem m_X5_init_f24 : Cond.fieldLink RX5 24 "WideCell$Table" "madeAts" "[I" ∈ wsX5_init := by decide +kernel
theorem m_X5_init_f27 : Cond.fieldLink RX5 27 "WideCell$Table" "ranges" "LWideCell$Ranges;" ∈ wsX5_init := by decide +kernel
abbrev rm_k_X5_init : Room := { frames := 1, cells := 5, slots := 376, locals := 23 }
set_option maxHeartbeats 4000000 in
set_option maxRecDepth 100000 in
theorem k_X5_init (l : Launch) (G : wG) (w : va_W) (ad k0 : Nat) (r0 : Nat) (hk : w[k0]? = some (ad, .inr (5, [.null, .null, .null, .null, .null, .null]))) : Met l yX5_init wsX5_init rm_k_X5_init (yPc G w [.ref (ad), .ref (r0)]) (va_Qv (fun u : va_W => ∃ q1 q2 q3 q4 q5 : Nat, u = w.set k0 (ad, .inr (5, [.ref (r0), .ref (q1), .ref (q2), .ref (q3), .ref (q4), .ref (q5)])) ++ [(q1, .inl (gC G 0, 64, .inl (fil (fun _ => 0) (-1) 64))), (q2, .inl (gC G 0, 64, .inl (fun _ => 0))), (q3, .inl (gC G 0, 64, .inl (fun _ => 0))), (q4, .inl (gC G 0, 92, .inl (fil (fun _ => 0) (-1) 92))), (q5, .inl (gC G 0, 92, .inl (fun _ => 0)))]) (fun u t => yI G u t) (gP G)) 5 376 (gP G) := by
  refine Met.ofW (cc := cX5_init) (maxL := 2) (ret := none) (by decide) rfl ?_
  intro p e s m args below meth c s₁ B hml hv
  obtain ⟨hargs, hI⟩ := hv
  have S : CallFix p m c cX5_init 2 s args wsX5_init RX5 := ⟨B.exec, B.bytes, hml, findClass_of_methodNamed B.named, atoms_spec (ws := wsX5_init) B.pre⟩
  have hret := B.returns
  have hlocks := B.notSynchronized
  have Z := yZ_0 hI
  clear hI
  obtain ⟨Q, hQ⟩ : ∃ Q, Q = MQ below (va_Qv (fun u : va_W => ∃ q1 q2 q3 q4 q5 : Nat, u = w.set k0 (ad, .inr (5, [.ref (r0), .ref (q1), .ref (q2), .ref (q3), .ref (q4), .ref (q5)])) ++ [(q1, .inl (gC G 0, 64, .inl (fil (fun _ => 0) (-1) 64))), (q2, .inl (gC G 0, 64, .inl (fun _ => 0))), (q3, .inl (gC G 0, 64, .inl (fun _ => 0))), (q4, .inl (gC G 0, 92, .inl (fil (fun _ => 0) (-1) 92))), (q5, .inl (gC G 0, 92, .inl (fun _ => 0)))]) (fun u t => yI G u t) (gP G)) args s 5 376 (gP G) := ⟨_, rfl⟩
  rw [← hQ]
  have hl := lv_entry [.ref (ad), .ref (r0)] (n := 2) (Nat.le_of_ble_eq_true rfl)
  rw [show entryFrame m args 2 = entryFrame m ([.ref (ad), .ref (r0)] : List Value).toArray 2 from by rw [hargs], lg_entry_eq]
  generalize (lg_sl [.ref (ad), .ref (r0)] ++ List.replicate (2 - (lg_sl [.ref (ad), .ref (r0)]).length) Slot.unset).toArray = ls at hl ⊢
  have hl : lv_has ls 2 [(0, .ref (ad)), (1, .ref (r0))] := hl
  have hini : meth.name = "<init>" := (name_of_methodNamed B.named B.method).1
  have Z : yZ G (w.set k0 (ad, .inr (5, [.null, .null, .null, .null, .null, .null])) ++ []) s s.heap [] := by rw [yn_0 hk]; exact Z
  revert Z; generalize ([] : List Loc) = locs; intro Z
  refine lv_aload_n S.1 S.2.1 dX5_init_0 rfl (lv_at hl 0 rfl) ?_
  refine W.objInit S.1 S.2.1 S.2.2.2.1 (S.2.2.2.2 _ m_X5_init_l3) (S.2.2.2.2 _ m_X5_init_oi) (S.2.2.2.2 _ m_X5_init_oc) rfl (by rw [S.2.2.1]; exact hl.1) rfl dX5_init_1 (Nat.le_of_ble_eq_true rfl) (Nat.le_of_ble_eq_true rfl) ?_
  refine lv_aload_n S.1 S.2.1 dX5_init_4 rfl (lv_at hl 0 rfl) ?_
  refine lv_bipush (v := nI 64) S.1 S.2.1 dX5_init_5 (by first | decide | rfl) ?_
  refine y_newI S Z (n := 64) (by decide) m_X5_init_arint (Nat.le_of_ble_eq_true rfl) (Nat.le_of_ble_eq_true rfl) dX5_init_7 (fun q1 H Z => ?_)
  have Z : yZ G (w.set k0 (ad, .inr (5, [.null, .null, .null, .null, .null, .null])) ++ [(q1, .inl (gC G 0, 64, .inl (fun _ => 0)))]) s H locs := by rw [List.append_assoc] at Z; exact Z
  refine y_putF (C := RX5) (T := TX5) (N := 6) (ci := 5) S Z (yn_g hk) rfl i_X5_init_X5 tyX5 tyX5_ok nmX5 1 (by decide) m_X5_init_f9 rfl rfl hini rfl (ty := tyX5 1) (v := .ref (q1)) (tyX5_ok 1 (by decide)) (by first | rfl | decide) (by first | rfl | decide) (Nat.le_of_ble_eq_true rfl) dX5_init_9 (fun H locs Z => ?_)
  have Z : yZ G (w.set k0 (ad, .inr (5, [.null, .ref (q1), .null, .null, .null, .null])) ++ [(q1, .inl (gC G 0, 64, .inl (fun _ => 0)))]) s H locs := by rw [yn_s hk] at Z; exact Z
  refine lv_aload_n S.1 S.2.1 dX5_init_12 rfl (lv_at hl 0 rfl) ?_
  refine lv_bipush (v := nI 64) S.1 S.2.1 dX5_init_13 (by first | decide | rfl) ?_
  refine y_newI S Z (n := 64) (by decide) m_X5_init_arint (Nat.le_of_ble_eq_true rfl) (Nat.le_of_ble_eq_true rfl) dX5_init_15 (fun q2 H Z => ?_)
  have Z : yZ G (w.set k0 (ad, .inr (5, [.null, .ref (q1), .null, .null, .null, .null])) ++ [(q1, .inl (gC G 0, 64, .inl (fun _ => 0))), (q2, .inl (gC G 0, 64, .inl (fun _ => 0)))]) s H locs := by rw [List.append_assoc] at Z; exact Z
  refine y_putF (C := RX5) (T := TX5) (N := 6) (ci := 5) S Z (yn_g hk) rfl i_X5_init_X5 tyX5 tyX5_ok nmX5 2 (by decide) m_X5_init_f15 rfl rfl hini rfl (ty := tyX5 2) (v := .ref (q2)) (tyX5_ok 2 (by decide)) (by first | rfl | decide) (by first | rfl | decide) (Nat.le_of_ble_eq_true rfl) dX5_init_17 (fun H locs Z => ?_)
  have Z : yZ G (w.set k0 (ad, .inr (5, [.null, .ref (q1), .ref (q2), .null, .null, .null])) ++ [(q1, .inl (gC G 0, 64, .inl (fun _ => 0))), (q2, .inl (gC G 0, 64, .inl (fun _ => 0)))]) s H locs := by rw [yn_s hk] at Z; exact Z
  refine lv_aload_n S.1 S.2.1 dX5_init_20 rfl (lv_at hl 0 rfl) ?_
  refine lv_bipush (v := nI 64) S.1 S.2.1 dX5_init_21 (by first | decide | rfl) ?_
  refine y_newI S Z (n := 64) (by decide) m_X5_init_arint (Nat.le_of_ble_eq_true rfl) (Nat.le_of_ble_eq_true rfl) dX5_init_23 (fun q3 H Z => ?_)
  have Z : yZ G (w.set k0 (ad, .inr (5, [.null, .ref (q1), .ref (q2), .null, .null, .null])) ++ [(q1, .inl (gC G 0, 64, .inl (fun _ => 0))), (q2, .inl (gC G 0, 64, .inl (fun _ => 0))), (q3, .inl (gC G 0, 64, .inl (fun _ => 0)))]) s H locs := by rw [List.append_assoc] at Z; exact Z
  refine y_putF (C := RX5) (T := TX5) (N := 6) (ci := 5) S Z (yn_g hk) rfl i_X5_init_X5 tyX5 tyX5_ok nmX5 3 (by decide) m_X5_init_f18 rfl rfl hini rfl (ty := tyX5 3) (v := .ref (q3)) (tyX5_ok 3 (by decide)) (by first | rfl | decide) (by first | rfl | decide) (Nat.le_of_ble_eq_true rfl) dX5_init_25 (fun H locs Z => ?_)
  have Z : yZ G (w.set k0 (ad, .inr (5, [.null, .ref (q1), .ref (q2), .ref (q3), .null, .null])) ++ [(q1, .inl (gC G 0, 64, .inl (fun _ => 0))), (q2, .inl (gC G 0, 64, .inl (fun _ => 0))), (q3, .inl (gC G 0, 64, .inl (fun _ => 0)))]) s H locs := by rw [yn_s hk] at Z; exact Z
  refine lv_aload_n S.1 S.2.1 dX5_init_28 rfl (lv_at hl 0 rfl) ?_
  refine lv_bipush (v := nI 92) S.1 S.2.1 dX5_init_29 (by first | decide | rfl) ?_
  refine y_newI S Z (n := 92) (by decide) m_X5_init_arint (Nat.le_of_ble_eq_true rfl) (Nat.le_of_ble_eq_true rfl) dX5_init_31 (fun q4 H Z => ?_)
  have Z : yZ G (w.set k0 (ad, .inr (5, [.null, .ref (q1), .ref (q2), .ref (q3), .null, .null])) ++ [(q1, .inl (gC G 0, 64, .inl (fun _ => 0))), (q2, .inl (gC G 0, 64, .inl (fun _ => 0))), (q3, .inl (gC G 0, 64, .inl (fun _ => 0))), (q4, .inl (gC G 0, 92, .inl (fun _ => 0)))]) s H locs := by rw [List.append_assoc] at Z; exact Z
  refine y_putF (C := RX5) (T := TX5) (N := 6) (ci := 5) S Z (yn_g hk) rfl i_X5_init_X5 tyX5 tyX5_ok nmX5 4 (by decide) m_X5_init_f21 rfl rfl hini rfl (ty := tyX5 4) (v := .ref (q4)) (tyX5_ok 4 (by decide)) (by first | rfl | decide) (by first | rfl | decide) (Nat.le_of_ble_eq_true rfl) dX5_init_33 (fun H locs Z => ?_)
  have Z : yZ G (w.set k0 (ad, .inr (5, [.null, .ref (q1), .ref (q2), .ref (q3), .ref (q4), .null])) ++ [(q1, .inl (gC G 0, 64, .inl (fun _ => 0))), (q2, .inl (gC G 0, 64, .inl (fun _ => 0))), (q3, .inl (gC G 0, 64, .inl (fun _ => 0))), (q4, .inl (gC G 0, 92, .inl (fun _ => 0)))]) s H locs := by rw [yn_s hk] at Z; exact Z
  refine lv_aload_n S.1 S.2.1 dX5_init_36 rfl (lv_at hl 0 rfl) ?_
  refine lv_bipush (v := nI 92) S.1 S.2.1 dX5_init_37 (by first | decide | rfl) ?_
  refine y_newI S Z (n := 92) (by decide) m_X5_init_arint (Nat.le_of_ble_eq_true rfl) (Nat.le_of_ble_eq_true rfl) dX5_init_39 (fun q5 H Z => ?_)
  have Z : yZ G (w.set k0 (ad, .inr (5, [.null, .ref (q1), .ref (q2), .ref (q3), .ref (q4), .null])) ++ [(q1, .inl (gC G 0, 64, .inl (fun _ => 0))), (q2, .inl (gC G 0, 64, .inl (fun _ => 0))), (q3, .inl (gC G 0, 64, .inl (fun _ => 0))), (q4, .inl (gC G 0, 92, .inl (fun _ => 0))), (q5, .inl (gC G 0, 92, .inl (fun _ => 0)))]) s H locs := by rw [List.append_assoc] at Z; exact Z
  refine y_putF (C := RX5) (T := TX5) (N := 6) (ci := 5) S Z (yn_g hk) rfl i_X5_init_X5 tyX5 tyX5_ok nmX5 5 (by decide) m_X5_init_f24 rfl rfl hini rfl (ty := tyX5 5) (v := .ref (q5)) (tyX5_ok 5 (by decide)) (by first | rfl | decide) (by first | rfl | decide) (Nat.le_of_ble_eq_true rfl) dX5_init_41 (fun H locs Z => ?_)
  have Z : yZ G (w.set k0 (ad, .inr (5, [.null, .ref (q1), .ref (q2), .ref (q3), .ref (q4), .ref (q5)])) ++ [(q1, .inl (gC G 0, 64, .inl (fun _ => 0))), (q2, .inl (gC G 0, 64, .inl (fun _ => 0))), (q3, .inl (gC G 0, 64, .inl (fun _ => 0))), (q4, .inl (gC G 0, 92, .inl (fun _ => 0))), (q5, .inl (gC G 0, 92, .inl (fun _ => 0)))]) s H locs := by rw [yn_s hk] at Z; exact Z
  refine lv_aload_n S.1 S.2.1 dX5_init_44 rfl (lv_at hl 0 rfl) ?_
  refine lv_aload_n S.1 S.2.1 dX5_init_45 rfl (lv_at hl 1 rfl) ?_
  refine y_putF (C := RX5) (T := TX5) (N := 6) (ci := 5) S Z (yn_g hk) rfl i_X5_init_X5 tyX5 tyX5_ok nmX5 0 (by decide) m_X5_init_f27 rfl rfl hini rfl (ty := tyX5 0) (v := .ref (r0)) (tyX5_ok 0 (by decide)) (by first | rfl | decide) (by first | rfl | decide) (Nat.le_of_ble_eq_true rfl) dX5_init_46 (fun H locs Z => ?_)
  have Z : yZ G (w.set k0 (ad, .inr (5, [.ref (r0), .ref (q1), .ref (q2), .ref (q3), .ref (q4), .ref (q5)])) ++ [(q1, .inl (gC G 0, 64, .inl (fun _ => 0))), (q2, .inl (gC G 0, 64, .inl (fun _ => 0))), (q3, .inl (gC G 0, 64, .inl (fun _ => 0))), (q4, .inl (gC G 0, 92, .inl (fun _ => 0))), (q5, .inl (gC G 0, 92, .inl (fun _ => 0)))]) s H locs := by rw [yn_s hk] at Z; exact Z
  refine lv_aload_n S.1 S.2.1 dX5_init_49 rfl (lv_at hl 0 rfl) ?_
  refine y_get (C := RX5) (T := TX5) (N := 6) (ci := 5) S Z (yn_g hk) rfl i_X5_init_X5 1 (by decide) m_X5_init_f9 rfl (v := .ref (q1)) rfl dX5_init_50 ?_
  refine lv_iconst (v := -1) S.1 S.2.1 dX5_init_53 (by first | decide | rfl) ?_
  obtain ⟨w9, hw9⟩ : ∃ q, q = w.set k0 (ad, .inr (5, [.ref (r0), .ref (q1), .ref (q2), .ref (q3), .ref (q4), .ref (q5)])) ++ [(q1, .inl (gC G 0, 64, .inl (fun _ => 0))), (q2, .inl (gC G 0, 64, .inl (fun _ => 0))), (q3, .inl (gC G 0, 64, .inl (fun _ => 0))), (q4, .inl (gC G 0, 92, .inl (fun _ => 0))), (q5, .inl (gC G 0, 92, .inl (fun _ => 0)))] := ⟨_, rfl⟩
  rw [← hw9] at Z
  have hk9 : w9[(w.set k0 (ad, .inr (5, [.ref (r0), .ref (q1), .ref (q2), .ref (q3), .ref (q4), .ref (q5)]))).length + 0]? = some (q1, .inl (gC G 0, 64, .inl (fun _ => 0))) := by rw [hw9]; exact ya rfl
  refine va_callv (va_runS (As := [.ref (q1), .int (-1)]) (rest := []) S (k_J7_fill_53178 l G w9 q1 ((w.set k0 (ad, .inr (5, [.ref (r0), .ref (q1), .ref (q2), .ref (q3), .ref (q4), .ref (q5)]))).length + 0) 64 (fun _ => 0) (-1) hk9 (by decide)) (va_cwS 2 S.2.2.2.2 gX5_init_J7_fill_53178 rfl rfl rfl hy_J7_fill_53178 ⟨Nat.le_of_ble_eq_true rfl, Nat.le_of_ble_eq_true rfl⟩) (yPc_S Z) rfl rfl hl.1 rfl (lv_room (Nat.le_of_ble_eq_true rfl)) dX5_init_54 ⟨Nat.le_of_ble_eq_true rfl, Nat.le_of_ble_eq_true rfl⟩) Z.2.2.2.2 (fun _ _ h => h) (fun _ h => h) (fun u_1 T9 H1 locs1 hT9 hvm hw hB hz hkk9 hS => ?_)
  subst hw
  have Z := yZ_call Z hB hT9 hS
  clear hB hT9 hS hkk9 hz hvm T9
  revert Z; generalize H1 = H; generalize locs1 = locs; intro Z
  have Z : yZ G (w.set k0 (ad, .inr (5, [.ref (r0), .ref (q1), .ref (q2), .ref (q3), .ref (q4), .ref (q5)])) ++ [(q1, .inl (gC G 0, 64, .inl (fil (fun _ => 0) (-1) 64))), (q2, .inl (gC G 0, 64, .inl (fun _ => 0))), (q3, .inl (gC G 0, 64, .inl (fun _ => 0))), (q4, .inl (gC G 0, 92, .inl (fun _ => 0))), (q5, .inl (gC G 0, 92, .inl (fun _ => 0)))]) s H locs := by rw [hw9, ys] at Z; exact Z
  refine W.widen (k := 5) (n := 376) (by first | decide | omega) (by first | decide | omega) ?_
  refine lv_aload_n S.1 S.2.1 dX5_init_57 rfl (lv_at hl 0 rfl) ?_
  refine y_get (C := RX5) (T := TX5) (N := 6) (ci := 5) S Z (yn_g hk) rfl i_X5_init_X5 4 (by decide) m_X5_init_f21 rfl (v := .ref (q4)) rfl dX5_init_58 ?_
  refine lv_iconst (v := -1) S.1 S.2.1 dX5_init_61 (by first | decide | rfl) ?_
  obtain ⟨w9, hw9⟩ : ∃ q, q = w.set k0 (ad, .inr (5, [.ref (r0), .ref (q1), .ref (q2), .ref (q3), .ref (q4), .ref (q5)])) ++ [(q1, .inl (gC G 0, 64, .inl (fil (fun _ => 0) (-1) 64))), (q2, .inl (gC G 0, 64, .inl (fun _ => 0))), (q3, .inl (gC G 0, 64, .inl (fun _ => 0))), (q4, .inl (gC G 0, 92, .inl (fun _ => 0))), (q5, .inl (gC G 0, 92, .inl (fun _ => 0)))] := ⟨_, rfl⟩
  rw [← hw9] at Z
  have hk9 : w9[(w.set k0 (ad, .inr (5, [.ref (r0), .ref (q1), .ref (q2), .ref (q3), .ref (q4), .ref (q5)]))).length + 3]? = some (q4, .inl (gC G 0, 92, .inl (fun _ => 0))) := by rw [hw9]; exact ya rfl
  refine va_callv (va_runS (As := [.ref (q4), .int (-1)]) (rest := []) S (k_J7_fill_53178 l G w9 q4 ((w.set k0 (ad, .inr (5, [.ref (r0), .ref (q1), .ref (q2), .ref (q3), .ref (q4), .ref (q5)]))).length + 3) 92 (fun _ => 0) (-1) hk9 (by decide)) (va_cwS 2 S.2.2.2.2 gX5_init_J7_fill_53178 rfl rfl rfl hy_J7_fill_53178 ⟨Nat.le_of_ble_eq_true rfl, Nat.le_of_ble_eq_true rfl⟩) (yPc_S Z) rfl rfl hl.1 rfl (lv_room (Nat.le_of_ble_eq_true rfl)) dX5_init_62 ⟨Nat.le_of_ble_eq_true rfl, Nat.le_of_ble_eq_true rfl⟩) Z.2.2.2.2 (fun _ _ h => h) (fun _ h => h) (fun u_2 T9 H1 locs1 hT9 hvm hw hB hz hkk9 hS => ?_)
  subst hw
  have Z := yZ_call Z hB hT9 hS
  clear hB hT9 hS hkk9 hz hvm T9
  revert Z; generalize H1 = H; generalize locs1 = locs; intro Z
  have Z : yZ G (w.set k0 (ad, .inr (5, [.ref (r0), .ref (q1), .ref (q2), .ref (q3), .ref (q4), .ref (q5)])) ++ [(q1, .inl (gC G 0, 64, .inl (fil (fun _ => 0) (-1) 64))), (q2, .inl (gC G 0, 64, .inl (fun _ => 0))), (q3, .inl (gC G 0, 64, .inl (fun _ => 0))), (q4, .inl (gC G 0, 92, .inl (fil (fun _ => 0) (-1) 92))), (q5, .inl (gC G 0, 92, .inl (fun _ => 0)))]) s H locs := by rw [hw9, ys] at Z; exact Z
  refine W.widen (k := 5) (n := 376) (by first | decide | omega) (by first | decide | omega) ?_
  rw [hQ]
  exact W.vret S.1 S.2.1 hret (fun _ hT9 hW => ⟨⟨w.set k0 (ad, .inr (5, [.ref (r0), .ref (q1), .ref (q2), .ref (q3), .ref (q4), .ref (q5)])) ++ [(q1, .inl (gC G 0, 64, .inl (fil (fun _ => 0) (-1) 64))), (q2, .inl (gC G 0, 64, .inl (fun _ => 0))), (q3, .inl (gC G 0, 64, .inl (fun _ => 0))), (q4, .inl (gC G 0, 92, .inl (fil (fun _ => 0) (-1) 92))), (q5, .inl (gC G 0, 92, .inl (fun _ => 0)))], rfl, ⟨q1, q2, q3, q4, q5, rfl⟩, yZ_I Z hT9 hW⟩, Z.2.2.2.2.F hT9⟩) Z.2.2.2.2.2.2 dX5_init_65

theorem m_X1_init_l3 : Cond.methodLink RX1 3 objectInit ∈ wsX1_init := by decide +kernel
theorem m_X1_init_oi : Cond.instanceMethod objectInit ∈ wsX1_init := by decide +kernel
theorem m_X1_init_oc : Cond.code objectInit ⟨#[0xb1]⟩ 1 none ∈ wsX1_init := by decide +kernel
theorem m_X1_init_arint : Cond.arrayClass .int  ∈ wsX1_init := by decide +kernel
theorem i_X1_init_X1 : ∀ w ∈ wsX10, w ∈ wsX1_init := by decide +kernel
theorem m_X1_init_f9 : Cond.fieldLink RX1 9 "WideCell$Comparison" "sums" "[I" ∈ wsX1_init := by decide +kernel
theorem m_X1_init_f15 : Cond.fieldLink RX1 15 "WideCell$Comparison" "otherSums" "[I" ∈ wsX1_init := by decide +kernel
theorem m_X1_init_arboolean : Cond.arrayClass .boolean  ∈ wsX1_init := by decide +kernel
theorem m_X1_init_f18 : Cond.fieldLink RX1 18 "WideCell$Comparison" "differs" "[Z" ∈ wsX1_init := by decide +kernel
abbrev rm_k_X1_init : Room := { frames := 1, cells := 3, slots := 96, locals := 20 }
set_option maxHeartbeats 4000000 in
set_option maxRecDepth 100000 in
theorem k_X1_init (l : Launch) (G : wG) (w : va_W) (ad k0 : Nat)  (hk : w[k0]? = some (ad, .inr (1, [.null, .null, .null]))) : Met l yX1_init wsX1_init rm_k_X1_init (yPc G w [.ref (ad)]) (va_Qv (fun u : va_W => ∃ q1 q2 q3 : Nat, u = w.set k0 (ad, .inr (1, [.ref (q1), .ref (q2), .ref (q3)])) ++ [(q1, .inl (gC G 0, 32, .inl (fun _ => 0))), (q2, .inl (gC G 0, 32, .inl (fun _ => 0))), (q3, .inl (gC G 1, 32, .inl (fun _ => 0)))]) (fun u t => yI G u t) (gP G)) 3 96 (gP G) := by
  refine Met.ofW (cc := cX1_init) (maxL := 1) (ret := none) (by decide) rfl ?_
  intro p e s m args below meth c s₁ B hml hv
  obtain ⟨hargs, hI⟩ := hv
  have S : CallFix p m c cX1_init 1 s args wsX1_init RX1 := ⟨B.exec, B.bytes, hml, findClass_of_methodNamed B.named, atoms_spec (ws := wsX1_init) B.pre⟩
  have hret := B.returns
  have hlocks := B.notSynchronized
  have Z := yZ_0 hI
  clear hI
  obtain ⟨Q, hQ⟩ : ∃ Q, Q = MQ below (va_Qv (fun u : va_W => ∃ q1 q2 q3 : Nat, u = w.set k0 (ad, .inr (1, [.ref (q1), .ref (q2), .ref (q3)])) ++ [(q1, .inl (gC G 0, 32, .inl (fun _ => 0))), (q2, .inl (gC G 0, 32, .inl (fun _ => 0))), (q3, .inl (gC G 1, 32, .inl (fun _ => 0)))]) (fun u t => yI G u t) (gP G)) args s 3 96 (gP G) := ⟨_, rfl⟩
  rw [← hQ]
  have hl := lv_entry [.ref (ad)] (n := 1) (Nat.le_of_ble_eq_true rfl)
  rw [show entryFrame m args 1 = entryFrame m ([.ref (ad)] : List Value).toArray 1 from by rw [hargs], lg_entry_eq]
  generalize (lg_sl [.ref (ad)] ++ List.replicate (1 - (lg_sl [.ref (ad)]).length) Slot.unset).toArray = ls at hl ⊢
  have hl : lv_has ls 1 [(0, .ref (ad))] := hl
  have hini : meth.name = "<init>" := (name_of_methodNamed B.named B.method).1
  have Z : yZ G (w.set k0 (ad, .inr (1, [.null, .null, .null])) ++ []) s s.heap [] := by rw [yn_0 hk]; exact Z
  revert Z; generalize ([] : List Loc) = locs; intro Z
  refine lv_aload_n S.1 S.2.1 dX1_init_0 rfl (lv_at hl 0 rfl) ?_
  refine W.objInit S.1 S.2.1 S.2.2.2.1 (S.2.2.2.2 _ m_X1_init_l3) (S.2.2.2.2 _ m_X1_init_oi) (S.2.2.2.2 _ m_X1_init_oc) rfl (by rw [S.2.2.1]; exact hl.1) rfl dX1_init_1 (Nat.le_of_ble_eq_true rfl) (Nat.le_of_ble_eq_true rfl) ?_
  refine lv_aload_n S.1 S.2.1 dX1_init_4 rfl (lv_at hl 0 rfl) ?_
  refine lv_bipush (v := nI 32) S.1 S.2.1 dX1_init_5 (by first | decide | rfl) ?_
  refine y_newI S Z (n := 32) (by decide) m_X1_init_arint (Nat.le_of_ble_eq_true rfl) (Nat.le_of_ble_eq_true rfl) dX1_init_7 (fun q1 H Z => ?_)
  have Z : yZ G (w.set k0 (ad, .inr (1, [.null, .null, .null])) ++ [(q1, .inl (gC G 0, 32, .inl (fun _ => 0)))]) s H locs := by rw [List.append_assoc] at Z; exact Z
  refine y_putF (C := RX1) (T := TX1) (N := 3) (ci := 1) S Z (yn_g hk) rfl i_X1_init_X1 tyX1 tyX1_ok nmX1 0 (by decide) m_X1_init_f9 rfl rfl hini rfl (ty := tyX1 0) (v := .ref (q1)) (tyX1_ok 0 (by decide)) (by first | rfl | decide) (by first | rfl | decide) (Nat.le_of_ble_eq_true rfl) dX1_init_9 (fun H locs Z => ?_)
  have Z : yZ G (w.set k0 (ad, .inr (1, [.ref (q1), .null, .null])) ++ [(q1, .inl (gC G 0, 32, .inl (fun _ => 0)))]) s H locs := by rw [yn_s hk] at Z; exact Z
  refine lv_aload_n S.1 S.2.1 dX1_init_12 rfl (lv_at hl 0 rfl) ?_
  refine lv_bipush (v := nI 32) S.1 S.2.1 dX1_init_13 (by first | decide | rfl) ?_
  refine y_newI S Z (n := 32) (by decide) m_X1_init_arint (Nat.le_of_ble_eq_true rfl) (Nat.le_of_ble_eq_true rfl) dX1_init_15 (fun q2 H Z => ?_)
  have Z : yZ G (w.set k0 (ad, .inr (1, [.ref (q1), .null, .null])) ++ [(q1, .inl (gC G 0, 32, .inl (fun _ => 0))), (q2, .inl (gC G 0, 32, .inl (fun _ => 0)))]) s H locs := by rw [List.append_assoc] at Z; exact Z
  refine y_putF (C := RX1) (T := TX1) (N := 3) (ci := 1) S Z (yn_g hk) rfl i_X1_init_X1 tyX1 tyX1_ok nmX1 1 (by decide) m_X1_init_f15 rfl rfl hini rfl (ty := tyX1 1) (v := .ref (q2)) (tyX1_ok 1 (by decide)) (by first | rfl | decide) (by first | rfl | decide) (Nat.le_of_ble_eq_true rfl) dX1_init_17 (fun H locs Z => ?_)
  have Z : yZ G (w.set k0 (ad, .inr (1, [.ref (q1), .ref (q2), .null])) ++ [(q1, .inl (gC G 0, 32, .inl (fun _ => 0))), (q2, .inl (gC G 0, 32, .inl (fun _ => 0)))]) s H locs := by rw [yn_s hk] at Z; exact Z
  refine lv_aload_n S.1 S.2.1 dX1_init_20 rfl (lv_at hl 0 rfl) ?_
  refine lv_bipush (v := nI 32) S.1 S.2.1 dX1_init_21 (by first | decide | rfl) ?_
  refine y_newZ S Z (n := 32) (by decide) m_X1_init_arboolean (Nat.le_of_ble_eq_true rfl) (Nat.le_of_ble_eq_true rfl) dX1_init_23 (fun q3 H Z => ?_)
  have Z : yZ G (w.set k0 (ad, .inr (1, [.ref (q1), .ref (q2), .null])) ++ [(q1, .inl (gC G 0, 32, .inl (fun _ => 0))), (q2, .inl (gC G 0, 32, .inl (fun _ => 0))), (q3, .inl (gC G 1, 32, .inl (fun _ => 0)))]) s H locs := by rw [List.append_assoc] at Z; exact Z
  refine y_putF (C := RX1) (T := TX1) (N := 3) (ci := 1) S Z (yn_g hk) rfl i_X1_init_X1 tyX1 tyX1_ok nmX1 2 (by decide) m_X1_init_f18 rfl rfl hini rfl (ty := tyX1 2) (v := .ref (q3)) (tyX1_ok 2 (by decide)) (by first | rfl | decide) (by first | rfl | decide) (Nat.le_of_ble_eq_true rfl) dX1_init_25 (fun H locs Z => ?_)
  have Z : yZ G (w.set k0 (ad, .inr (1, [.ref (q1), .ref (q2), .ref (q3)])) ++ [(q1, .inl (gC G 0, 32, .inl (fun _ => 0))), (q2, .inl (gC G 0, 32, .inl (fun _ => 0))), (q3, .inl (gC G 1, 32, .inl (fun _ => 0)))]) s H locs := by rw [yn_s hk] at Z; exact Z
  rw [hQ]
  exact W.vret S.1 S.2.1 hret (fun _ hT9 hW => ⟨⟨w.set k0 (ad, .inr (1, [.ref (q1), .ref (q2), .ref (q3)])) ++ [(q1, .inl (gC G 0, 32, .inl (fun _ => 0))), (q2, .inl (gC G 0, 32, .inl (fun _ => 0))), (q3, .inl (gC G 1, 32, .inl (fun _ => 0)))], rfl, ⟨q1, q2, q3, rfl⟩, yZ_I Z hT9 hW⟩, Z.2.2.2.2.F hT9⟩) Z.2.2.2.2.2.2 dX1_init_28

theorem m_X3_init_l3 : Cond.methodLink RX3 3 objectInit ∈ wsX3_init := by decide +kernel
theorem m_X3_init_oi : Cond.instanceMethod objectInit ∈ wsX3_init := by decide +kernel
theorem m_X3_init_oc : Cond.code objectInit ⟨#[0xb1]⟩ 1 none ∈ wsX3_init := by decide +kernel
theorem i_X3_init_Jx4a65c : ∀ w ∈ wsJx4a65c0, w ∈ wsX3_init := by decide +kernel
theorem m_X3_init_c9 : Cond.classLink RX3 9 RJx4a65c ∈ wsX3_init := by decide +kernel
theorem m_X3_init_iJx4a65c_ : Cond.instantiable RJx4a65c 3 ∈ wsX3_init := by decide +kernel
theorem m_X3_init_zRJx4a65c : Cond.initialized RJx4a65c ∈ wsX3_init := by decide +kernel
theorem m_X3_init_nJx4a65c_init_da8c8 : Cond.instanceMethod yJx4a65c_init_da8c8 ∈ wsX3_init := by decide +kernel
theorem m_X3_init_k11 : Cond.methodLink RX3 11 yJx4a65c_init_da8c8 ∈ wsX3_init := by decide +kernel
theorem i_X3_init_X3 : ∀ w ∈ wsX30, w ∈ wsX3_init := by decide +kernel
theorem m_X3_init_f12 : Cond.fieldLink RX3 12 "WideCell$Keeper" "waiting" "Ljava/util/ArrayList;" ∈ wsX3_init := by decide +kernel
theorem m_X3_init_f18 : Cond.fieldLink RX3 18 "WideCell$Keeper" "isRunning" "Z" ∈ wsX3_init := by decide +kernel
theorem m_X3_init_f22 : Cond.fieldLink RX3 22 "WideCell$Keeper" "table" "LWideCell$Table;" ∈ wsX3_init := by decide +kernel
abbrev rm_k_X3_init : Room := { frames := 4, cells := 1, slots := 3, locals := 80 }
set_option maxHeartbeats 4000000 in
set_option maxRecDepth 100000 in
theorem k_X3_init (l : Launch) (G : wG) (w : va_W) (ad k0 : Nat) (r0 : Nat) (hk : w[k0]? = some (ad, .inr (3, [.null, .null, .int 0]))) : Met l yX3_init wsX3_init rm_k_X3_init (yPc G w [.ref (ad), .ref (r0)]) (va_Qv (fun u : va_W => ∃ q1 : Nat, u = w.set k0 (ad, .inr (3, [.ref (r0), .ref (q1), .int (nI 1)])) ++ [(q1, .inr (0, [.int (nI 0), .ref (gX G 0), .int 0]))]) (fun u t => yI G u t) (gP G)) 1 3 (gP G) := by
  refine Met.ofW (cc := cX3_init) (maxL := 2) (ret := none) (by decide) rfl ?_
  intro p e s m args below meth c s₁ B hml hv
  obtain ⟨hargs, hI⟩ := hv
  have S : CallFix p m c cX3_init 2 s args wsX3_init RX3 := ⟨B.exec, B.bytes, hml, findClass_of_methodNamed B.named, atoms_spec (ws := wsX3_init) B.pre⟩
  have hret := B.returns
  have hlocks := B.notSynchronized
  have Z := yZ_0 hI
  clear hI
  obtain ⟨Q, hQ⟩ : ∃ Q, Q = MQ below (va_Qv (fun u : va_W => ∃ q1 : Nat, u = w.set k0 (ad, .inr (3, [.ref (r0), .ref (q1), .int (nI 1)])) ++ [(q1, .inr (0, [.int (nI 0), .ref (gX G 0), .int 0]))]) (fun u t => yI G u t) (gP G)) args s 1 3 (gP G) := ⟨_, rfl⟩
  rw [← hQ]
  have hl := lv_entry [.ref (ad), .ref (r0)] (n := 2) (Nat.le_of_ble_eq_true rfl)
  rw [show entryFrame m args 2 = entryFrame m ([.ref (ad), .ref (r0)] : List Value).toArray 2 from by rw [hargs], lg_entry_eq]
  generalize (lg_sl [.ref (ad), .ref (r0)] ++ List.replicate (2 - (lg_sl [.ref (ad), .ref (r0)]).length) Slot.unset).toArray = ls at hl ⊢
  have hl : lv_has ls 2 [(0, .ref (ad)), (1, .ref (r0))] := hl
  have hini : meth.name = "<init>" := (name_of_methodNamed B.named B.method).1
  have Z : yZ G (w.set k0 (ad, .inr (3, [.null, .null, .int 0])) ++ []) s s.heap [] := by rw [yn_0 hk]; exact Z
  revert Z; generalize ([] : List Loc) = locs; intro Z
  refine lv_aload_n S.1 S.2.1 dX3_init_0 rfl (lv_at hl 0 rfl) ?_
  refine W.objInit S.1 S.2.1 S.2.2.2.1 (S.2.2.2.2 _ m_X3_init_l3) (S.2.2.2.2 _ m_X3_init_oi) (S.2.2.2.2 _ m_X3_init_oc) rfl (by rw [S.2.2.1]; exact hl.1) rfl dX3_init_1 (Nat.le_of_ble_eq_true rfl) (Nat.le_of_ble_eq_true rfl) ?_
  refine lv_aload_n S.1 S.2.1 dX3_init_4 rfl (lv_at hl 0 rfl) ?_
  refine y_newO (C := RJx4a65c) (T := TJx4a65c) (N := 3) (ci := 0) (fs := [.int 0, .null, .int 0]) S Z tyJx4a65c tyJx4a65c_ok i_X3_init_Jx4a65c m_X3_init_c9 m_X3_init_iJx4a65c_ m_X3_init_zRJx4a65c rfl (fun j hj => by rcases (show j = 0 ∨ j = 1 ∨ j = 2 by omega) with rfl | rfl | rfl <;> rfl) (Nat.le_of_ble_eq_true rfl) (Nat.le_of_ble_eq_true rfl) dX3_init_5 (fun q1 H Z => ?_)
  have Z : yZ G (w.set k0 (ad, .inr (3, [.null, .null, .int 0])) ++ [(q1, .inr (0, [.int 0, .null, .int 0]))]) s H locs := by rw [List.append_assoc] at Z; exact Z
  refine lv_dup S.1 S.2.1 dX3_init_8 rfl ?_
  obtain ⟨w9, hw9⟩ : ∃ q, q = w.set k0 (ad, .inr (3, [.null, .null, .int 0])) ++ [(q1, .inr (0, [.int 0, .null, .int 0]))] := ⟨_, rfl⟩
  rw [← hw9] at Z
  have hk9 : w9[((w.set k0 (ad, .inr (3, [.null, .null, .int 0]))).length + 0)]? = some (q1, .inr (0, [.int 0, .null, .int 0])) := by rw [hw9]; exact ya rfl
  refine va_callv (va_runI (As := []) (rest := [.ref (q1), .ref (ad)]) S (k_Jx4a65c_init_da8c8 l G w9 q1 ((w.set k0 (ad, .inr (3, [.null, .null, .int 0]))).length + 0)  hk9) (cwI 0 S.2.2.2.2 gX3_init_Jx4a65c_init_da8c8 rfl rfl rfl (S.2.2.2.2 _ m_X3_init_zRJx4a65c) (S.2.2.2.2 _ m_X3_init_k11) (S.2.2.2.2 _ m_X3_init_nJx4a65c_init_da8c8) rfl hy_Jx4a65c_init_da8c8 ⟨Nat.le_of_ble_eq_true rfl, Nat.le_of_ble_eq_true rfl⟩) (yPc_S Z) rfl rfl hl.1 rfl (lv_room (Nat.le_of_ble_eq_true rfl)) dX3_init_9 ⟨Nat.le_of_ble_eq_true rfl, Nat.le_of_ble_eq_true rfl⟩) Z.2.2.2.2 (fun _ _ h => h) (fun _ h => h) (fun u_1 T9 H1 locs1 hT9 hvm hw hB hz hkk9 hS => ?_)
  subst hw
  have Z := yZ_call Z hB hT9 hS
  clear hB hT9 hS hkk9 hz hvm T9
  revert Z; generalize H1 = H; generalize locs1 = locs; intro Z
  have Z : yZ G (w.set k0 (ad, .inr (3, [.null, .null, .int 0])) ++ [(q1, .inr (0, [.int (nI 0), .ref (gX G 0), .int 0]))]) s H locs := by rw [hw9, ys] at Z; exact Z
  refine W.widen (k := 1) (n := 3) (by first | decide | omega) (by first | decide | omega) ?_
  refine y_putF (C := RX3) (T := TX3) (N := 3) (ci := 3) S Z (yn_g hk) rfl i_X3_init_X3 tyX3 tyX3_ok nmX3 1 (by decide) m_X3_init_f12 rfl rfl hini rfl (ty := tyX3 1) (v := .ref (q1)) (tyX3_ok 1 (by decide)) (by first | rfl | decide) (by first | rfl | decide) (Nat.le_of_ble_eq_true rfl) dX3_init_12 (fun H locs Z => ?_)
  have Z : yZ G (w.set k0 (ad, .inr (3, [.null, .ref (q1), .int 0])) ++ [(q1, .inr (0, [.int (nI 0), .ref (gX G 0), .int 0]))]) s H locs := by rw [yn_s hk] at Z; exact Z
  refine lv_aload_n S.1 S.2.1 dX3_init_15 rfl (lv_at hl 0 rfl) ?_
  refine lv_iconst (v := nI 1) S.1 S.2.1 dX3_init_16 (by first | decide | rfl) ?_
  refine y_put (C := RX3) (T := TX3) (N := 3) (ci := 3) S Z (yn_g hk) rfl i_X3_init_X3 tyX3 tyX3_ok nmX3 2 (by decide) m_X3_init_f18 rfl rfl (ty := tyX3 2) (v := .int (nI 1)) (tyX3_ok 2 (by decide)) (by first | rfl | decide) (by first | rfl | decide) (Nat.le_of_ble_eq_true rfl) dX3_init_17 (fun H locs Z => ?_)
  have Z : yZ G (w.set k0 (ad, .inr (3, [.null, .ref (q1), .int (nI 1)])) ++ [(q1, .inr (0, [.int (nI 0), .ref (gX G 0), .int 0]))]) s H locs := by rw [yn_s hk] at Z; exact Z
  refine lv_aload_n S.1 S.2.1 dX3_init_20 rfl (lv_at hl 0 rfl) ?_
  refine lv_aload_n S.1 S.2.1 dX3_init_21 rfl (lv_at hl 1 rfl) ?_
  refine y_putF (C := RX3) (T := TX3) (N := 3) (ci := 3) S Z (yn_g hk) rfl i_X3_init_X3 tyX3 tyX3_ok nmX3 0 (by decide) m_X3_init_f22 rfl rfl hini rfl (ty := tyX3 0) (v := .ref (r0)) (tyX3_ok 0 (by decide)) (by first | rfl | decide) (by first | rfl | decide) (Nat.le_of_ble_eq_true rfl) dX3_init_22 (fun H locs Z => ?_)
  have Z : yZ G (w.set k0 (ad, .inr (3, [.ref (r0), .ref (q1), .int (nI 1)])) ++ [(q1, .inr (0, [.int (nI 0), .ref (gX G 0), .int 0]))]) s H locs := by rw [yn_s hk] at Z; exact Z
  rw [hQ]
  exact W.vret S.1 S.2.1 hret (fun _ hT9 hW => ⟨⟨w.set k0 (ad, .inr (3, [.ref (r0), .ref (q1), .int (nI 1)])) ++ [(q1, .inr (0, [.int (nI 0), .ref (gX G 0), .int 0]))], rfl, ⟨q1, rfl⟩, yZ_I Z hT9 hW⟩, Z.2.2.2.2.F hT9⟩) Z.2.2.2.2.2.2 dX3_init_25

theorem m_X7_init_l3 : Cond.methodLink RX7 3 objectInit ∈ wsX7_init := by decide +kernel
theorem m_X7_init_oi : Cond.instanceMethod objectInit ∈ wsX7_init := by decide +kernel
theorem m_X7_init_oc : Cond.code objectInit ⟨#[0xb1]⟩ 1 none ∈ wsX7_init := by decide +kernel
theorem i_X7_init_X4 : ∀ w ∈ wsX40, w ∈ wsX7_init := by decide +kernel
theorem m_X7_init_c9 : Cond.classLink RX7 9 RX4 ∈ wsX7_init := by decide +kernel
theorem m_X7_init_iX4_ : Cond.instantiable RX4 2 ∈ wsX7_init := by decide +kernel
theorem m_X7_init_zRX4 : Cond.initialized RX4 ∈ wsX7_init := by decide +kernel
theorem m_X7_init_nX4_init : Cond.instanceMethod yX4_init ∈ wsX7_init := by decide +kernel
theorem m_X7_init_k11 : Cond.methodLink RX7 11 yX4_init ∈ wsX7_init := by decide +kernel
theorem i_X7_init_X7 : ∀ w ∈ wsX70, w ∈ wsX7_init := by decide +kernel
theorem m_X7_init_f12 : Cond.fieldLink RX7 12 "WideCell" "ranges" "LWideCell$Ranges;" ∈ wsX7_init := by decide +kernel
theorem i_X7_init_X5 : ∀ w ∈ wsX50, w ∈ wsX7_init := by decide +kernel
theorem m_X7_init_c16 : Cond.classLink RX7 16 RX5 ∈ wsX7_init := by decide +kernel
theorem m_X7_init_iX5_ : Cond.instantiable RX5 6 ∈ wsX7_init := by decide +kernel
theorem m_X7_init_zRX5 : Cond.initialized RX5 ∈ wsX7_init := by decide +kernel
theorem m_X7_init_nX5_init : Cond.instanceMethod yX5_init ∈ wsX7_init := by decide +kernel
theorem m_X7_init_k18 : Cond.methodLink RX7 18 yX5_init ∈ wsX7_init := by decide +kernel
theorem m_X7_init_f21 : Cond.fieldLink RX7 21 "WideCell" "idealTable" "LWideCell$Table;" ∈ wsX7_init := by decide +kernel
theorem m_X7_init_c25 : Cond.classLink RX7 25 "WideCell$Keeper" ∈ wsX7_init := by decide +kernel
theorem m_X7_init_f27 : Cond.fieldLink RX7 27 "WideCell" "keepers" "[LWideCell$Keeper;" ∈ wsX7_init := by decide +kernel
theorem i_X7_init_X3 : ∀ w ∈ wsX30, w ∈ wsX7_init := by decide +kernel
theorem m_X7_init_iX3_ : Cond.instantiable RX3 3 ∈ wsX7_init := by decide +kernel
theorem m_X7_init_zRX3 : Cond.initialized RX3 ∈ wsX7_init := by decide +kernel
theorem m_X7_init_nX3_init : Cond.instanceMethod yX3_init ∈ wsX7_init := by decide +kernel
theorem m_X7_init_k31 : Cond.methodLink RX7 31 yX3_init ∈ wsX7_init := by decide +kernel
theorem i_X7_init_X1 : ∀ w ∈ wsX10, w ∈ wsX7_init := by decide +kernel
theorem m_X7_init_c34 : Cond.classLink RX7 34 RX1 ∈ wsX7_init := by decide +kernel
theorem m_X7_init_iX1_ : Cond.instantiable RX1 3 ∈ wsX7_init := by decide +kernel
theorem m_X7_init_zRX1 : Cond.initialized RX1 ∈ wsX7_init := by decide +kernel
theorem m_X7_init_nX1_init : Cond.instanceMethod yX1_init ∈ wsX7_init := by decide +kernel
theorem m_X7_init_f37 : Cond.fieldLink RX7 37 "WideCell" "comparison" "LWideCell$Comparison;" ∈ wsX7_init := by decide +kernel
theorem m_X7_init_f41 : Cond.fieldLink RX7 41 "WideCell" "now" "I" ∈ wsX7_init := by decide +kernel
theorem m_X7_init_f45 : Cond.fieldLink RX7 45 "WideCell" "grace" "I" ∈ wsX7_init := by decide +kernel
theorem m_X7_init_f48 : Cond.fieldLink RX7 48 "WideCell" "repairCount" "I" ∈ wsX7_init := by decide +kernel
abbrev rm_k_X7_init : Room := { frames := 5, cells := 38, slots := 1666, locals := 101 }
set_option maxHeartbeats 4000000 in
set_option maxRecDepth 100000 in
theorem k_X7_init (l : Launch) (G : wG) (w : va_W) (ad k0 : Nat)  (hk : w[k0]? = some (ad, .inr (7, [.null, .null, .null, .null, .int 0, .int 0, .int 0]))) : Met l yX7_init wsX7_init rm_k_X7_init (yPc G w [.ref (ad)]) (va_Qv (fun u : va_W => ∃ q1 q2 q3 q4 q5 q6 q7 q8 q9 q10 q11 q12 q13 q14 q15 q16 q17 q18 q19 q20 q21 q22 q23 q24 q25 q26 q27 q28 q29 q30 q31 q32 q33 q34 q35 q36 q37 q38 : Nat, u = w.set k0 (ad, .inr (7, [.ref (q1), .ref (q4), .ref (q10), .ref (q35), .int (nI 0), .int (nI 10), .int (nI 0)])) ++ [(q1, .inr (4, [.ref (q2), .ref (q3)])), (q2, .inl (gC G 0, 8, .inl (fil (fun _ => 0) (-1) 8))), (q3, .inl (gC G 0, 8, .inl (fil (fun _ => 0) (-1) 8))), (q4, .inr (5, [.ref (q1), .ref (q5), .ref (q6), .ref (q7), .ref (q8), .ref (q9)])), (q5, .inl (gC G 0, 64, .inl (fil (fun _ => 0) (-1) 64))), (q6, .inl (gC G 0, 64, .inl (fun _ => 0))), (q7, .inl (gC G 0, 64, .inl (fun _ => 0))), (q8, .inl (gC G 0, 92, .inl (fil (fun _ => 0) (-1) 92))), (q9, .inl (gC G 0, 92, .inl (fun _ => 0))), (q10, .inl (gC G 2, 3, .inr (.inr (.inr (.inr (va_up (va_up (va_up (fun _ => none) 0 (some q11)) 1 (some q19)) 2 (some q27))))))), (q11, .inr (3, [.ref (q12), .ref (q18), .int (nI 1)])), (q12, .inr (5, [.ref (q1), .ref (q13), .ref (q14), .ref (q15), .ref (q16), .ref (q17)])), (q13, .inl (gC G 0, 64, .inl (fil (fun _ => 0) (-1) 64))), (q14, .inl (gC G 0, 64, .inl (fun _ => 0))), (q15, .inl (gC G 0, 64, .inl (fun _ => 0))), (q16, .inl (gC G 0, 92, .inl (fil (fun _ => 0) (-1) 92))), (q17, .inl (gC G 0, 92, .inl (fun _ => 0))), (q18, .inr (0, [.int (nI 0), .ref (gX G 0), .int 0])), (q19, .inr (3, [.ref (q20), .ref (q26), .int (nI 1)])), (q20, .inr (5, [.ref (q1), .ref (q21), .ref (q22), .ref (q23), .ref (q24), .ref (q25)])), (q21, .inl (gC G 0, 64, .inl (fil (fun _ => 0) (-1) 64))), (q22, .inl (gC G 0, 64, .inl (fun _ => 0))), (q23, .inl (gC G 0, 64, .inl (fun _ => 0))), (q24, .inl (gC G 0, 92, .inl (fil (fun _ => 0) (-1) 92))), (q25, .inl (gC G 0, 92, .inl (fun _ => 0))), (q26, .inr (0, [.int (nI 0), .ref (gX G 0), .int 0])), (q27, .inr (3, [.ref (q28), .ref (q34), .int (nI 1)])), (q28, .inr (5, [.ref (q1), .ref (q29), .ref (q30), .ref (q31), .ref (q32), .ref (q33)])), (q29, .inl (gC G 0, 64, .inl (fil (fun _ => 0) (-1) 64))), (q30, .inl (gC G 0, 64, .inl (fun _ => 0))), (q31, .inl (gC G 0, 64, .inl (fun _ => 0))), (q32, .inl (gC G 0, 92, .inl (fil (fun _ => 0) (-1) 92))), (q33, .inl (gC G 0, 92, .inl (fun _ => 0))), (q34, .inr (0, [.int (nI 0), .ref (gX G 0), .int 0])), (q35, .inr (1, [.ref (q36), .ref (q37), .ref (q38)])), (q36, .inl (gC G 0, 32, .inl (fun _ => 0))), (q37, .inl (gC G 0, 32, .inl (fun _ => 0))), (q38, .inl (gC G 1, 32, .inl (fun _ => 0)))]) (fun u t => yI G u t) (gP G)) 38 1666 (gP G) := by
  refine Met.ofW (cc := cX7_init) (maxL := 2) (ret := none) (by decide) rfl ?_
  intro p e s m args below meth c s₁ B hml hv
  obtain ⟨hargs, hI⟩ := hv
  have S : CallFix p m c cX7_init 2 s args wsX7_init RX7 := ⟨B.exec, B.bytes, hml, findClass_of_methodNamed B.named, atoms_spec (ws := wsX7_init) B.pre⟩
  have hret := B.returns
  have hlocks := B.notSynchronized
  have Z := yZ_0 hI
  clear hI
  obtain ⟨Q, hQ⟩ : ∃ Q, Q = MQ below (va_Qv (fun u : va_W => ∃ q1 q2 q3 q4 q5 q6 q7 q8 q9 q10 q11 q12 q13 q14 q15 q16 q17 q18 q19 q20 q21 q22 q23 q24 q25 q26 q27 q28 q29 q30 q31 q32 q33 q34 q35 q36 q37 q38 : Nat, u = w.set k0 (ad, .inr (7, [.ref (q1), .ref (q4), .ref (q10), .ref (q35), .int (nI 0), .int (nI 10), .int (nI 0)])) ++ [(q1, .inr (4, [.ref (q2), .ref (q3)])), (q2, .inl (gC G 0, 8, .inl (fil (fun _ => 0) (-1) 8))), (q3, .inl (gC G 0, 8, .inl (fil (fun _ => 0) (-1) 8))), (q4, .inr (5, [.ref (q1), .ref (q5), .ref (q6), .ref (q7), .ref (q8), .ref (q9)])), (q5, .inl (gC G 0, 64, .inl (fil (fun _ => 0) (-1) 64))), (q6, .inl (gC G 0, 64, .inl (fun _ => 0))), (q7, .inl (gC G 0, 64, .inl (fun _ => 0))), (q8, .inl (gC G 0, 92, .inl (fil (fun _ => 0) (-1) 92))), (q9, .inl (gC G 0, 92, .inl (fun _ => 0))), (q10, .inl (gC G 2, 3, .inr (.inr (.inr (.inr (va_up (va_up (va_up (fun _ => none) 0 (some q11)) 1 (some q19)) 2 (some q27))))))), (q11, .inr (3, [.ref (q12), .ref (q18), .int (nI 1)])), (q12, .inr (5, [.ref (q1), .ref (q13), .ref (q14), .ref (q15), .ref (q16), .ref (q17)])), (q13, .inl (gC G 0, 64, .inl (fil (fun _ => 0) (-1) 64))), (q14, .inl (gC G 0, 64, .inl (fun _ => 0))), (q15, .inl (gC G 0, 64, .inl (fun _ => 0))), (q16, .inl (gC G 0, 92, .inl (fil (fun _ => 0) (-1) 92))), (q17, .inl (gC G 0, 92, .inl (fun _ => 0))), (q18, .inr (0, [.int (nI 0), .ref (gX G 0), .int 0])), (q19, .inr (3, [.ref (q20), .ref (q26), .int (nI 1)])), (q20, .inr (5, [.ref (q1), .ref (q21), .ref (q22), .ref (q23), .ref (q24), .ref (q25)])), (q21, .inl (gC G 0, 64, .inl (fil (fun _ => 0) (-1) 64))), (q22, .inl (gC G 0, 64, .inl (fun _ => 0))), (q23, .inl (gC G 0, 64, .inl (fun _ => 0))), (q24, .inl (gC G 0, 92, .inl (fil (fun _ => 0) (-1) 92))), (q25, .inl (gC G 0, 92, .inl (fun _ => 0))), (q26, .inr (0, [.int (nI 0), .ref (gX G 0), .int 0])), (q27, .inr (3, [.ref (q28), .ref (q34), .int (nI 1)])), (q28, .inr (5, [.ref (q1), .ref (q29), .ref (q30), .ref (q31), .ref (q32), .ref (q33)])), (q29, .inl (gC G 0, 64, .inl (fil (fun _ => 0) (-1) 64))), (q30, .inl (gC G 0, 64, .inl (fun _ => 0))), (q31, .inl (gC G 0, 64, .inl (fun _ => 0))), (q32, .inl (gC G 0, 92, .inl (fil (fun _ => 0) (-1) 92))), (q33, .inl (gC G 0, 92, .inl (fun _ => 0))), (q34, .inr (0, [.int (nI 0), .ref (gX G 0), .int 0])), (q35, .inr (1, [.ref (q36), .ref (q37), .ref (q38)])), (q36, .inl (gC G 0, 32, .inl (fun _ => 0))), (q37, .inl (gC G 0, 32, .inl (fun _ => 0))), (q38, .inl (gC G 1, 32, .inl (fun _ => 0)))]) (fun u t => yI G u t) (gP G)) args s 38 1666 (gP G) := ⟨_, rfl⟩
  rw [← hQ]
  have hl := lv_entry [.ref (ad)] (n := 2) (Nat.le_of_ble_eq_true rfl)
  rw [show entryFrame m args 2 = entryFrame m ([.ref (ad)] : List Value).toArray 2 from by rw [hargs], lg_entry_eq]
  generalize (lg_sl [.ref (ad)] ++ List.replicate (2 - (lg_sl [.ref (ad)]).length) Slot.unset).toArray = ls at hl ⊢
  have hl : lv_has ls 2 [(0, .ref (ad))] := hl
  have hini : meth.name = "<init>" := (name_of_methodNamed B.named B.method).1
  have Z : yZ G (w.set k0 (ad, .inr (7, [.null, .null, .null, .null, .int 0, .int 0, .int 0])) ++ []) s s.heap [] := by rw [yn_0 hk]; exact Z
  revert Z; generalize ([] : List Loc) = locs; intro Z
  refine lv_aload_n S.1 S.2.1 dX7_init_0 rfl (lv_at hl 0 rfl) ?_
  refine W.objInit S.1 S.2.1 S.2.2.2.1 (S.2.2.2.2 _ m_X7_init_l3) (S.2.2.2.2 _ m_X7_init_oi) (S.2.2.2.2 _ m_X7_init_oc) rfl (by rw [S.2.2.1]; exact hl.1) rfl dX7_init_1 (Nat.le_of_ble_eq_true rfl) (Nat.le_of_ble_eq_true rfl) ?_
  refine lv_aload_n S.1 S.2.1 dX7_init_4 rfl (lv_at hl 0 rfl) ?_
  refine y_newO (C := RX4) (T := TX4) (N := 2) (ci := 4) (fs := [.null, .null]) S Z tyX4 tyX4_ok i_X7_init_X4 m_X7_init_c9 m_X7_init_iX4_ m_X7_init_zRX4 rfl (fun j hj => by rcases (show j = 0 ∨ j = 1 by omega) with rfl | rfl <;> rfl) (Nat.le_of_ble_eq_true rfl) (Nat.le_of_ble_eq_true rfl) dX7_init_5 (fun q1 H Z => ?_)
  have Z : yZ G (w.set k0 (ad, .inr (7, [.null, .null, .null, .null, .int 0, .int 0, .int 0])) ++ [(q1, .inr (4, [.null, .null]))]) s H locs := by rw [List.append_assoc] at Z; exact Z
  refine lv_dup S.1 S.2.1 dX7_init_8 rfl ?_
  obtain ⟨w9, hw9⟩ : ∃ q, q = w.set k0 (ad, .inr (7, [.null, .null, .null, .null, .int 0, .int 0, .int 0])) ++ [(q1, .inr (4, [.null, .null]))] := ⟨_, rfl⟩
  rw [← hw9] at Z
  have hk9 : w9[((w.set k0 (ad, .inr (7, [.null, .null, .null, .null, .int 0, .int 0, .int 0]))).length + 0)]? = some (q1, .inr (4, [.null, .null])) := by rw [hw9]; exact ya rfl
  refine va_callv (va_runI (As := []) (rest := [.ref (q1), .ref (ad)]) S (k_X4_init l G w9 q1 ((w.set k0 (ad, .inr (7, [.null, .null, .null, .null, .int 0, .int 0, .int 0]))).length + 0)  hk9) (cwI 0 S.2.2.2.2 gX7_init_X4_init rfl rfl rfl (S.2.2.2.2 _ m_X7_init_zRX4) (S.2.2.2.2 _ m_X7_init_k11) (S.2.2.2.2 _ m_X7_init_nX4_init) rfl hy_X4_init ⟨Nat.le_of_ble_eq_true rfl, Nat.le_of_ble_eq_true rfl⟩) (yPc_S Z) rfl rfl hl.1 rfl (lv_room (Nat.le_of_ble_eq_true rfl)) dX7_init_9 ⟨Nat.le_of_ble_eq_true rfl, Nat.le_of_ble_eq_true rfl⟩) Z.2.2.2.2 (fun _ _ h => h) (fun _ h => h) (fun u_1 T9 H1 locs1 hT9 hvm hw hB hz hkk9 hS => ?_)
  obtain ⟨q2, q3, rfl⟩ := hw
  have Z := yZ_call Z hB hT9 hS
  clear hB hT9 hS hkk9 hz hvm T9
  revert Z; generalize H1 = H; generalize locs1 = locs; intro Z
  have Z : yZ G (w.set k0 (ad, .inr (7, [.null, .null, .null, .null, .int 0, .int 0, .int 0])) ++ [(q1, .inr (4, [.ref (q2), .ref (q3)])), (q2, .inl (gC G 0, 8, .inl (fil (fun _ => 0) (-1) 8))), (q3, .inl (gC G 0, 8, .inl (fil (fun _ => 0) (-1) 8)))]) s H locs := by rw [hw9, ys, List.append_assoc] at Z; exact Z
  refine W.widen (k := 3) (n := 18) (by first | decide | omega) (by first | decide | omega) ?_
  refine y_putF (C := RX7) (T := TX7) (N := 7) (ci := 7) S Z (yn_g hk) rfl i_X7_init_X7 tyX7 tyX7_ok nmX7 0 (by decide) m_X7_init_f12 rfl rfl hini rfl (ty := tyX7 0) (v := .ref (q1)) (tyX7_ok 0 (by decide)) (by first | rfl | decide) (by first | rfl | decide) (Nat.le_of_ble_eq_true rfl) dX7_init_12 (fun H locs Z => ?_)
  have Z : yZ G (w.set k0 (ad, .inr (7, [.ref (q1), .null, .null, .null, .int 0, .int 0, .int 0])) ++ [(q1, .inr (4, [.ref (q2), .ref (q3)])), (q2, .inl (gC G 0, 8, .inl (fil (fun _ => 0) (-1) 8))), (q3, .inl (gC G 0, 8, .inl (fil (fun _ => 0) (-1) 8)))]) s H locs := by rw [yn_s hk] at Z; exact Z
  refine lv_aload_n S.1 S.2.1 dX7_init_15 rfl (lv_at hl 0 rfl) ?_
  refine y_newO (C := RX5) (T := TX5) (N := 6) (ci := 5) (fs := [.null, .null, .null, .null, .null, .null]) S Z tyX5 tyX5_ok i_X7_init_X5 m_X7_init_c16 m_X7_init_iX5_ m_X7_init_zRX5 rfl (fun j hj => by rcases (show j = 0 ∨ j = 1 ∨ j = 2 ∨ j = 3 ∨ j = 4 ∨ j = 5 by omega) with rfl | rfl | rfl | rfl | rfl | rfl <;> rfl) (Nat.le_of_ble_eq_true rfl) (Nat.le_of_ble_eq_true rfl) dX7_init_16 (fun q4 H Z => ?_)
  have Z : yZ G (w.set k0 (ad, .inr (7, [.ref (q1), .null, .null, .null, .int 0, .int 0, .int 0])) ++ [(q1, .inr (4, [.ref (q2), .ref (q3)])), (q2, .inl (gC G 0, 8, .inl (fil (fun _ => 0) (-1) 8))), (q3, .inl (gC G 0, 8, .inl (fil (fun _ => 0) (-1) 8))), (q4, .inr (5, [.null, .null, .null, .null, .null, .null]))]) s H locs := by rw [List.append_assoc] at Z; exact Z
  refine lv_dup S.1 S.2.1 dX7_init_19 rfl ?_
  refine lv_aload_n S.1 S.2.1 dX7_init_20 rfl (lv_at hl 0 rfl) ?_
  refine y_get (C := RX7) (T := TX7) (N := 7) (ci := 7) S Z (yn_g hk) rfl i_X7_init_X7 0 (by decide) m_X7_init_f12 rfl (v := .ref (q1)) rfl dX7_init_21 ?_
  obtain ⟨w9, hw9⟩ : ∃ q, q = w.set k0 (ad, .inr (7, [.ref (q1), .null, .null, .null, .int 0, .int 0, .int 0])) ++ [(q1, .inr (4, [.ref (q2), .ref (q3)])), (q2, .inl (gC G 0, 8, .inl (fil (fun _ => 0) (-1) 8))), (q3, .inl (gC G 0, 8, .inl (fil (fun _ => 0) (-1) 8))), (q4, .inr (5, [.null, .null, .null, .null, .null, .null]))] := ⟨_, rfl⟩
  rw [← hw9] at Z
  have hk9 : w9[((w.set k0 (ad, .inr (7, [.ref (q1), .null, .null, .null, .int 0, .int 0, .int 0]))).length + 3)]? = some (q4, .inr (5, [.null, .null, .null, .null, .null, .null])) := by rw [hw9]; exact ya rfl
  refine va_callv (va_runI (As := [.ref (q1)]) (rest := [.ref (q4), .ref (ad)]) S (k_X5_init l G w9 q4 ((w.set k0 (ad, .inr (7, [.ref (q1), .null, .null, .null, .int 0, .int 0, .int 0]))).length + 3) q1 hk9) (cwI 1 S.2.2.2.2 gX7_init_X5_init rfl rfl rfl (S.2.2.2.2 _ m_X7_init_zRX5) (S.2.2.2.2 _ m_X7_init_k18) (S.2.2.2.2 _ m_X7_init_nX5_init) rfl hy_X5_init ⟨Nat.le_of_ble_eq_true rfl, Nat.le_of_ble_eq_true rfl⟩) (yPc_S Z) rfl rfl hl.1 rfl (lv_room (Nat.le_of_ble_eq_true rfl)) dX7_init_24 ⟨Nat.le_of_ble_eq_true rfl, Nat.le_of_ble_eq_true rfl⟩) Z.2.2.2.2 (fun _ _ h => h) (fun _ h => h) (fun u_2 T9 H1 locs1 hT9 hvm hw hB hz hkk9 hS => ?_)
  obtain ⟨q5, q6, q7, q8, q9, rfl⟩ := hw
  have Z := yZ_call Z hB hT9 hS
  clear hB hT9 hS hkk9 hz hvm T9
  revert Z; generalize H1 = H; generalize locs1 = locs; intro Z
  have Z : yZ G (w.set k0 (ad, .inr (7, [.ref (q1), .null, .null, .null, .int 0, .int 0, .int 0])) ++ [(q1, .inr (4, [.ref (q2), .ref (q3)])), (q2, .inl (gC G 0, 8, .inl (fil (fun _ => 0) (-1) 8))), (q3, .inl (gC G 0, 8, .inl (fil (fun _ => 0) (-1) 8))), (q4, .inr (5, [.ref (q1), .ref (q5), .ref (q6), .ref (q7), .ref (q8), .ref (q9)])), (q5, .inl (gC G 0, 64, .inl (fil (fun _ => 0) (-1) 64))), (q6, .inl (gC G 0, 64, .inl (fun _ => 0))), (q7, .inl (gC G 0, 64, .inl (fun _ => 0))), (q8, .inl (gC G 0, 92, .inl (fil (fun _ => 0) (-1) 92))), (q9, .inl (gC G 0, 92, .inl (fun _ => 0)))]) s H locs := by rw [hw9, ys, List.append_assoc] at Z; exact Z
  refine W.widen (k := 9) (n := 400) (by first | decide | omega) (by first | decide | omega) ?_
  refine y_putF (C := RX7) (T := TX7) (N := 7) (ci := 7) S Z (yn_g hk) rfl i_X7_init_X7 tyX7 tyX7_ok nmX7 1 (by decide) m_X7_init_f21 rfl rfl hini rfl (ty := tyX7 1) (v := .ref (q4)) (tyX7_ok 1 (by decide)) (by first | rfl | decide) (by first | rfl | decide) (Nat.le_of_ble_eq_true rfl) dX7_init_27 (fun H locs Z => ?_)
  have Z : yZ G (w.set k0 (ad, .inr (7, [.ref (q1), .ref (q4), .null, .null, .int 0, .int 0, .int 0])) ++ [(q1, .inr (4, [.ref (q2), .ref (q3)])), (q2, .inl (gC G 0, 8, .inl (fil (fun _ => 0) (-1) 8))), (q3, .inl (gC G 0, 8, .inl (fil (fun _ => 0) (-1) 8))), (q4, .inr (5, [.ref (q1), .ref (q5), .ref (q6), .ref (q7), .ref (q8), .ref (q9)])), (q5, .inl (gC G 0, 64, .inl (fil (fun _ => 0) (-1) 64))), (q6, .inl (gC G 0, 64, .inl (fun _ => 0))), (q7, .inl (gC G 0, 64, .inl (fun _ => 0))), (q8, .inl (gC G 0, 92, .inl (fil (fun _ => 0) (-1) 92))), (q9, .inl (gC G 0, 92, .inl (fun _ => 0)))]) s H locs := by rw [yn_s hk] at Z; exact Z
  refine lv_aload_n S.1 S.2.1 dX7_init_30 rfl (lv_at hl 0 rfl) ?_
  refine lv_iconst (v := nI 3) S.1 S.2.1 dX7_init_31 (by first | decide | rfl) ?_
  refine y_newK S Z m_X7_init_c25 (Nat.le_of_ble_eq_true rfl) (Nat.le_of_ble_eq_true rfl) dX7_init_32 (fun q10 H Z => ?_)
  have Z : yZ G (w.set k0 (ad, .inr (7, [.ref (q1), .ref (q4), .null, .null, .int 0, .int 0, .int 0])) ++ [(q1, .inr (4, [.ref (q2), .ref (q3)])), (q2, .inl (gC G 0, 8, .inl (fil (fun _ => 0) (-1) 8))), (q3, .inl (gC G 0, 8, .inl (fil (fun _ => 0) (-1) 8))), (q4, .inr (5, [.ref (q1), .ref (q5), .ref (q6), .ref (q7), .ref (q8), .ref (q9)])), (q5, .inl (gC G 0, 64, .inl (fil (fun _ => 0) (-1) 64))), (q6, .inl (gC G 0, 64, .inl (fun _ => 0))), (q7, .inl (gC G 0, 64, .inl (fun _ => 0))), (q8, .inl (gC G 0, 92, .inl (fil (fun _ => 0) (-1) 92))), (q9, .inl (gC G 0, 92, .inl (fun _ => 0))), (q10, .inl (gC G 2, 3, .inr (.inr (.inr (.inr (fun _ => none))))))]) s H locs := by rw [List.append_assoc] at Z; exact Z
  refine y_putF (C := RX7) (T := TX7) (N := 7) (ci := 7) S Z (yn_g hk) rfl i_X7_init_X7 tyX7 tyX7_ok nmX7 2 (by decide) m_X7_init_f27 rfl rfl hini rfl (ty := tyX7 2) (v := .ref (q10)) (tyX7_ok 2 (by decide)) (by first | rfl | decide) (by first | rfl | decide) (Nat.le_of_ble_eq_true rfl) dX7_init_35 (fun H locs Z => ?_)
  have Z : yZ G (w.set k0 (ad, .inr (7, [.ref (q1), .ref (q4), .ref (q10), .null, .int 0, .int 0, .int 0])) ++ [(q1, .inr (4, [.ref (q2), .ref (q3)])), (q2, .inl (gC G 0, 8, .inl (fil (fun _ => 0) (-1) 8))), (q3, .inl (gC G 0, 8, .inl (fil (fun _ => 0) (-1) 8))), (q4, .inr (5, [.ref (q1), .ref (q5), .ref (q6), .ref (q7), .ref (q8), .ref (q9)])), (q5, .inl (gC G 0, 64, .inl (fil (fun _ => 0) (-1) 64))), (q6, .inl (gC G 0, 64, .inl (fun _ => 0))), (q7, .inl (gC G 0, 64, .inl (fun _ => 0))), (q8, .inl (gC G 0, 92, .inl (fil (fun _ => 0) (-1) 92))), (q9, .inl (gC G 0, 92, .inl (fun _ => 0))), (q10, .inl (gC G 2, 3, .inr (.inr (.inr (.inr (fun _ => none))))))]) s H locs := by rw [yn_s hk] at Z; exact Z
  refine lv_iconst (v := nI 0) S.1 S.2.1 dX7_init_38 (by first | decide | rfl) ?_
  refine lv_istore_n (lv' := [(1, .int (nI 0)), (0, .ref (ad))]) S.1 S.2.1 dX7_init_39 rfl hl (by decide) rfl (fun ls hl => ?_)
  refine lv_iload_n S.1 S.2.1 dX7_init_40 rfl (lv_at hl 0 rfl) ?_
  refine lv_iconst (v := nI 3) S.1 S.2.1 dX7_init_41 (by first | decide | rfl) ?_
  refine r_icmpN_ge S (tgt := 75) (by decide) (by decide) dX7_init_42 (by first | decide | rfl) (fun c_3 => absurd c_3 (by decide)) (fun c_3 => ?_)
  refine lv_aload_n S.1 S.2.1 dX7_init_45 rfl (lv_at hl 1 rfl) ?_
  refine y_get (C := RX7) (T := TX7) (N := 7) (ci := 7) S Z (yn_g hk) rfl i_X7_init_X7 2 (by decide) m_X7_init_f27 rfl (v := .ref (q10)) rfl dX7_init_46 ?_
  refine lv_iload_n S.1 S.2.1 dX7_init_49 rfl (lv_at hl 0 rfl) ?_
  refine y_newO (C := RX3) (T := TX3) (N := 3) (ci := 3) (fs := [.null, .null, .int 0]) S Z tyX3 tyX3_ok i_X7_init_X3 m_X7_init_c25 m_X7_init_iX3_ m_X7_init_zRX3 rfl (fun j hj => by rcases (show j = 0 ∨ j = 1 ∨ j = 2 by omega) with rfl | rfl | rfl <;> rfl) (Nat.le_of_ble_eq_true rfl) (Nat.le_of_ble_eq_true rfl) dX7_init_50 (fun q11 H Z => ?_)
  have Z : yZ G (w.set k0 (ad, .inr (7, [.ref (q1), .ref (q4), .ref (q10), .null, .int 0, .int 0, .int 0])) ++ [(q1, .inr (4, [.ref (q2), .ref (q3)])), (q2, .inl (gC G 0, 8, .inl (fil (fun _ => 0) (-1) 8))), (q3, .inl (gC G 0, 8, .inl (fil (fun _ => 0) (-1) 8))), (q4, .inr (5, [.ref (q1), .ref (q5), .ref (q6), .ref (q7), .ref (q8), .ref (q9)])), (q5, .inl (gC G 0, 64, .inl (fil (fun _ => 0) (-1) 64))), (q6, .inl (gC G 0, 64, .inl (fun _ => 0))), (q7, .inl (gC G 0, 64, .inl (fun _ => 0))), (q8, .inl (gC G 0, 92, .inl (fil (fun _ => 0) (-1) 92))), (q9, .inl (gC G 0, 92, .inl (fun _ => 0))), (q10, .inl (gC G 2, 3, .inr (.inr (.inr (.inr (fun _ => none)))))), (q11, .inr (3, [.null, .null, .int 0]))]) s H locs := by rw [List.append_assoc] at Z; exact Z
  refine lv_dup S.1 S.2.1 dX7_init_53 rfl ?_
  refine y_newO (C := RX5) (T := TX5) (N := 6) (ci := 5) (fs := [.null, .null, .null, .null, .null, .null]) S Z tyX5 tyX5_ok i_X7_init_X5 m_X7_init_c16 m_X7_init_iX5_ m_X7_init_zRX5 rfl (fun j hj => by rcases (show j = 0 ∨ j = 1 ∨ j = 2 ∨ j = 3 ∨ j = 4 ∨ j = 5 by omega) with rfl | rfl | rfl | rfl | rfl | rfl <;> rfl) (Nat.le_of_ble_eq_true rfl) (Nat.le_of_ble_eq_true rfl) dX7_init_54 (fun q12 H Z => ?_)
  have Z : yZ G (w.set k0 (ad, .inr (7, [.ref (q1), .ref (q4), .ref (q10), .null, .int 0, .int 0, .int 0])) ++ [(q1, .inr (4, [.ref (q2), .ref (q3)])), (q2, .inl (gC G 0, 8, .inl (fil (fun _ => 0) (-1) 8))), (q3, .inl (gC G 0, 8, .inl (fil (fun _ => 0) (-1) 8))), (q4, .inr (5, [.ref (q1), .ref (q5), .ref (q6), .ref (q7), .ref (q8), .ref (q9)])), (q5, .inl (gC G 0, 64, .inl (fil (fun _ => 0) (-1) 64))), (q6, .inl (gC G 0, 64, .inl (fun _ => 0))), (q7, .inl (gC G 0, 64, .inl (fun _ => 0))), (q8, .inl (gC G 0, 92, .inl (fil (fun _ => 0) (-1) 92))), (q9, .inl (gC G 0, 92, .inl (fun _ => 0))), (q10, .inl (gC G 2, 3, .inr (.inr (.inr (.inr (fun _ => none)))))), (q11, .inr (3, [.null, .null, .int 0])), (q12, .inr (5, [.null, .null, .null, .null, .null, .null]))]) s H locs := by rw [List.append_assoc] at Z; exact Z
  refine lv_dup S.1 S.2.1 dX7_init_57 rfl ?_
  refine lv_aload_n S.1 S.2.1 dX7_init_58 rfl (lv_at hl 1 rfl) ?_
  refine y_get (C := RX7) (T := TX7) (N := 7) (ci := 7) S Z (yn_g hk) rfl i_X7_init_X7 0 (by decide) m_X7_init_f12 rfl (v := .ref (q1)) rfl dX7_init_59 ?_
  obtain ⟨w9, hw9⟩ : ∃ q, q = w.set k0 (ad, .inr (7, [.ref (q1), .ref (q4), .ref (q10), .null, .int 0, .int 0, .int 0])) ++ [(q1, .inr (4, [.ref (q2), .ref (q3)])), (q2, .inl (gC G 0, 8, .inl (fil (fun _ => 0) (-1) 8))), (q3, .inl (gC G 0, 8, .inl (fil (fun _ => 0) (-1) 8))), (q4, .inr (5, [.ref (q1), .ref (q5), .ref (q6), .ref (q7), .ref (q8), .ref (q9)])), (q5, .inl (gC G 0, 64, .inl (fil (fun _ => 0) (-1) 64))), (q6, .inl (gC G 0, 64, .inl (fun _ => 0))), (q7, .inl (gC G 0, 64, .inl (fun _ => 0))), (q8, .inl (gC G 0, 92, .inl (fil (fun _ => 0) (-1) 92))), (q9, .inl (gC G 0, 92, .inl (fun _ => 0))), (q10, .inl (gC G 2, 3, .inr (.inr (.inr (.inr (fun _ => none)))))), (q11, .inr (3, [.null, .null, .int 0])), (q12, .inr (5, [.null, .null, .null, .null, .null, .null]))] := ⟨_, rfl⟩
  rw [← hw9] at Z
  have hk9 : w9[((w.set k0 (ad, .inr (7, [.ref (q1), .ref (q4), .ref (q10), .null, .int 0, .int 0, .int 0]))).length + 11)]? = some (q12, .inr (5, [.null, .null, .null, .null, .null, .null])) := by rw [hw9]; exact ya rfl
  refine va_callv (va_runI (As := [.ref (q1)]) (rest := [.ref (q12), .ref (q11), .ref (q11), .int (nI 0), .ref (q10)]) S (k_X5_init l G w9 q12 ((w.set k0 (ad, .inr (7, [.ref (q1), .ref (q4), .ref (q10), .null, .int 0, .int 0, .int 0]))).length + 11) q1 hk9) (cwI 1 S.2.2.2.2 gX7_init_X5_init rfl rfl rfl (S.2.2.2.2 _ m_X7_init_zRX5) (S.2.2.2.2 _ m_X7_init_k18) (S.2.2.2.2 _ m_X7_init_nX5_init) rfl hy_X5_init ⟨Nat.le_of_ble_eq_true rfl, Nat.le_of_ble_eq_true rfl⟩) (yPc_S Z) rfl rfl hl.1 rfl (lv_room (Nat.le_of_ble_eq_true rfl)) dX7_init_62 ⟨Nat.le_of_ble_eq_true rfl, Nat.le_of_ble_eq_true rfl⟩) Z.2.2.2.2 (fun _ _ h => h) (fun _ h => h) (fun u_4 T9 H1 locs1 hT9 hvm hw hB hz hkk9 hS => ?_)
  obtain ⟨q13, q14, q15, q16, q17, rfl⟩ := hw
  have Z := yZ_call Z hB hT9 hS
  clear hB hT9 hS hkk9 hz hvm T9
  revert Z; generalize H1 = H; generalize locs1 = locs; intro Z
  have Z : yZ G (w.set k0 (ad, .inr (7, [.ref (q1), .ref (q4), .ref (q10), .null, .int 0, .int 0, .int 0])) ++ [(q1, .inr (4, [.ref (q2), .ref (q3)])), (q2, .inl (gC G 0, 8, .inl (fil (fun _ => 0) (-1) 8))), (q3, .inl (gC G 0, 8, .inl (fil (fun _ => 0) (-1) 8))), (q4, .inr (5, [.ref (q1), .ref (q5), .ref (q6), .ref (q7), .ref (q8), .ref (q9)])), (q5, .inl (gC G 0, 64, .inl (fil (fun _ => 0) (-1) 64))), (q6, .inl (gC G 0, 64, .inl (fun _ => 0))), (q7, .inl (gC G 0, 64, .inl (fun _ => 0))), (q8, .inl (gC G 0, 92, .inl (fil (fun _ => 0) (-1) 92))), (q9, .inl (gC G 0, 92, .inl (fun _ => 0))), (q10, .inl (gC G 2, 3, .inr (.inr (.inr (.inr (fun _ => none)))))), (q11, .inr (3, [.null, .null, .int 0])), (q12, .inr (5, [.ref (q1), .ref (q13), .ref (q14), .ref (q15), .ref (q16), .ref (q17)])), (q13, .inl (gC G 0, 64, .inl (fil (fun _ => 0) (-1) 64))), (q14, .inl (gC G 0, 64, .inl (fun _ => 0))), (q15, .inl (gC G 0, 64, .inl (fun _ => 0))), (q16, .inl (gC G 0, 92, .inl (fil (fun _ => 0) (-1) 92))), (q17, .inl (gC G 0, 92, .inl (fun _ => 0)))]) s H locs := by rw [hw9, ys, List.append_assoc] at Z; exact Z
  refine W.widen (k := 17) (n := 788) (by first | decide | omega) (by first | decide | omega) ?_
  obtain ⟨w9, hw9⟩ : ∃ q, q = w.set k0 (ad, .inr (7, [.ref (q1), .ref (q4), .ref (q10), .null, .int 0, .int 0, .int 0])) ++ [(q1, .inr (4, [.ref (q2), .ref (q3)])), (q2, .inl (gC G 0, 8, .inl (fil (fun _ => 0) (-1) 8))), (q3, .inl (gC G 0, 8, .inl (fil (fun _ => 0) (-1) 8))), (q4, .inr (5, [.ref (q1), .ref (q5), .ref (q6), .ref (q7), .ref (q8), .ref (q9)])), (q5, .inl (gC G 0, 64, .inl (fil (fun _ => 0) (-1) 64))), (q6, .inl (gC G 0, 64, .inl (fun _ => 0))), (q7, .inl (gC G 0, 64, .inl (fun _ => 0))), (q8, .inl (gC G 0, 92, .inl (fil (fun _ => 0) (-1) 92))), (q9, .inl (gC G 0, 92, .inl (fun _ => 0))), (q10, .inl (gC G 2, 3, .inr (.inr (.inr (.inr (fun _ => none)))))), (q11, .inr (3, [.null, .null, .int 0])), (q12, .inr (5, [.ref (q1), .ref (q13), .ref (q14), .ref (q15), .ref (q16), .ref (q17)])), (q13, .inl (gC G 0, 64, .inl (fil (fun _ => 0) (-1) 64))), (q14, .inl (gC G 0, 64, .inl (fun _ => 0))), (q15, .inl (gC G 0, 64, .inl (fun _ => 0))), (q16, .inl (gC G 0, 92, .inl (fil (fun _ => 0) (-1) 92))), (q17, .inl (gC G 0, 92, .inl (fun _ => 0)))] := ⟨_, rfl⟩
  rw [← hw9] at Z
  have hk9 : w9[((w.set k0 (ad, .inr (7, [.ref (q1), .ref (q4), .ref (q10), .null, .int 0, .int 0, .int 0]))).length + 10)]? = some (q11, .inr (3, [.null, .null, .int 0])) := by rw [hw9]; exact ya rfl
  refine va_callv (va_runI (As := [.ref (q12)]) (rest := [.ref (q11), .int (nI 0), .ref (q10)]) S (k_X3_init l G w9 q11 ((w.set k0 (ad, .inr (7, [.ref (q1), .ref (q4), .ref (q10), .null, .int 0, .int 0, .int 0]))).length + 10) q12 hk9) (cwI 1 S.2.2.2.2 gX7_init_X3_init rfl rfl rfl (S.2.2.2.2 _ m_X7_init_zRX3) (S.2.2.2.2 _ m_X7_init_k31) (S.2.2.2.2 _ m_X7_init_nX3_init) rfl hy_X3_init ⟨Nat.le_of_ble_eq_true rfl, Nat.le_of_ble_eq_true rfl⟩) (yPc_S Z) rfl rfl hl.1 rfl (lv_room (Nat.le_of_ble_eq_true rfl)) dX7_init_65 ⟨Nat.le_of_ble_eq_true rfl, Nat.le_of_ble_eq_true rfl⟩) Z.2.2.2.2 (fun _ _ h => h) (fun _ h => h) (fun u_5 T9 H1 locs1 hT9 hvm hw hB hz hkk9 hS => ?_)
  obtain ⟨q18, rfl⟩ := hw
  have Z := yZ_call Z hB hT9 hS
  clear hB hT9 hS hkk9 hz hvm T9
  revert Z; generalize H1 = H; generalize locs1 = locs; intro Z
  have Z : yZ G (w.set k0 (ad, .inr (7, [.ref (q1), .ref (q4), .ref (q10), .null, .int 0, .int 0, .int 0])) ++ [(q1, .inr (4, [.ref (q2), .ref (q3)])), (q2, .inl (gC G 0, 8, .inl (fil (fun _ => 0) (-1) 8))), (q3, .inl (gC G 0, 8, .inl (fil (fun _ => 0) (-1) 8))), (q4, .inr (5, [.ref (q1), .ref (q5), .ref (q6), .ref (q7), .ref (q8), .ref (q9)])), (q5, .inl (gC G 0, 64, .inl (fil (fun _ => 0) (-1) 64))), (q6, .inl (gC G 0, 64, .inl (fun _ => 0))), (q7, .inl (gC G 0, 64, .inl (fun _ => 0))), (q8, .inl (gC G 0, 92, .inl (fil (fun _ => 0) (-1) 92))), (q9, .inl (gC G 0, 92, .inl (fun _ => 0))), (q10, .inl (gC G 2, 3, .inr (.inr (.inr (.inr (fun _ => none)))))), (q11, .inr (3, [.ref (q12), .ref (q18), .int (nI 1)])), (q12, .inr (5, [.ref (q1), .ref (q13), .ref (q14), .ref (q15), .ref (q16), .ref (q17)])), (q13, .inl (gC G 0, 64, .inl (fil (fun _ => 0) (-1) 64))), (q14, .inl (gC G 0, 64, .inl (fun _ => 0))), (q15, .inl (gC G 0, 64, .inl (fun _ => 0))), (q16, .inl (gC G 0, 92, .inl (fil (fun _ => 0) (-1) 92))), (q17, .inl (gC G 0, 92, .inl (fun _ => 0))), (q18, .inr (0, [.int (nI 0), .ref (gX G 0), .int 0]))]) s H locs := by rw [hw9, ys, List.append_assoc] at Z; exact Z
  refine W.widen (k := 18) (n := 791) (by first | decide | omega) (by first | decide | omega) ?_
  refine y_astK S Z (f := (fun _ => none)) (vs := [.ref (q12), .ref (q18), .int (nI 1)]) (ya (w := w.set k0 (ad, .inr (7, [.ref (q1), .ref (q4), .ref (q10), .null, .int 0, .int 0, .int 0]))) (j := 9) rfl) (ya (w := w.set k0 (ad, .inr (7, [.ref (q1), .ref (q4), .ref (q10), .null, .int 0, .int 0, .int 0]))) (j := 10) rfl) (by decide) dX7_init_68 (fun H locs Z => ?_)
  have Z : yZ G (w.set k0 (ad, .inr (7, [.ref (q1), .ref (q4), .ref (q10), .null, .int 0, .int 0, .int 0])) ++ [(q1, .inr (4, [.ref (q2), .ref (q3)])), (q2, .inl (gC G 0, 8, .inl (fil (fun _ => 0) (-1) 8))), (q3, .inl (gC G 0, 8, .inl (fil (fun _ => 0) (-1) 8))), (q4, .inr (5, [.ref (q1), .ref (q5), .ref (q6), .ref (q7), .ref (q8), .ref (q9)])), (q5, .inl (gC G 0, 64, .inl (fil (fun _ => 0) (-1) 64))), (q6, .inl (gC G 0, 64, .inl (fun _ => 0))), (q7, .inl (gC G 0, 64, .inl (fun _ => 0))), (q8, .inl (gC G 0, 92, .inl (fil (fun _ => 0) (-1) 92))), (q9, .inl (gC G 0, 92, .inl (fun _ => 0))), (q10, .inl (gC G 2, 3, .inr (.inr (.inr (.inr (va_up (fun _ => none) 0 (some q11))))))), (q11, .inr (3, [.ref (q12), .ref (q18), .int (nI 1)])), (q12, .inr (5, [.ref (q1), .ref (q13), .ref (q14), .ref (q15), .ref (q16), .ref (q17)])), (q13, .inl (gC G 0, 64, .inl (fil (fun _ => 0) (-1) 64))), (q14, .inl (gC G 0, 64, .inl (fun _ => 0))), (q15, .inl (gC G 0, 64, .inl (fun _ => 0))), (q16, .inl (gC G 0, 92, .inl (fil (fun _ => 0) (-1) 92))), (q17, .inl (gC G 0, 92, .inl (fun _ => 0))), (q18, .inr (0, [.int (nI 0), .ref (gX G 0), .int 0]))]) s H locs := by rw [ys] at Z; exact Z
  refine lv_iinc (v := nI (0 + 1)) (lv' := [(1, .int (nI (0 + 1))), (0, .ref (ad))]) S.1 S.2.1 dX7_init_69 hl (k := 0) rfl (nI_inc rfl) (by decide) rfl (fun ls hl => ?_)
  have hl : lv_has ls 2 [(1, .int (nI 1)), (0, .ref (ad))] := hl
  refine lv_goto (tgt := 40) S.1 S.2.1 dX7_init_72 (by first | decide | rfl) ?_
  refine lv_iload_n S.1 S.2.1 dX7_init_40 rfl (lv_at hl 0 rfl) ?_
  refine lv_iconst (v := nI 3) S.1 S.2.1 dX7_init_41 (by first | decide | rfl) ?_
  refine r_icmpN_ge S (tgt := 75) (by decide) (by decide) dX7_init_42 (by first | decide | rfl) (fun c_6 => absurd c_6 (by decide)) (fun c_6 => ?_)
  refine lv_aload_n S.1 S.2.1 dX7_init_45 rfl (lv_at hl 1 rfl) ?_
  refine y_get (C := RX7) (T := TX7) (N := 7) (ci := 7) S Z (yn_g hk) rfl i_X7_init_X7 2 (by decide) m_X7_init_f27 rfl (v := .ref (q10)) rfl dX7_init_46 ?_
  refine lv_iload_n S.1 S.2.1 dX7_init_49 rfl (lv_at hl 0 rfl) ?_
  refine y_newO (C := RX3) (T := TX3) (N := 3) (ci := 3) (fs := [.null, .null, .int 0]) S Z tyX3 tyX3_ok i_X7_init_X3 m_X7_init_c25 m_X7_init_iX3_ m_X7_init_zRX3 rfl (fun j hj => by rcases (show j = 0 ∨ j = 1 ∨ j = 2 by omega) with rfl | rfl | rfl <;> rfl) (Nat.le_of_ble_eq_true rfl) (Nat.le_of_ble_eq_true rfl) dX7_init_50 (fun q19 H Z => ?_)
  have Z : yZ G (w.set k0 (ad, .inr (7, [.ref (q1), .ref (q4), .ref (q10), .null, .int 0, .int 0, .int 0])) ++ [(q1, .inr (4, [.ref (q2), .ref (q3)])), (q2, .inl (gC G 0, 8, .inl (fil (fun _ => 0) (-1) 8))), (q3, .inl (gC G 0, 8, .inl (fil (fun _ => 0) (-1) 8))), (q4, .inr (5, [.ref (q1), .ref (q5), .ref (q6), .ref (q7), .ref (q8), .ref (q9)])), (q5, .inl (gC G 0, 64, .inl (fil (fun _ => 0) (-1) 64))), (q6, .inl (gC G 0, 64, .inl (fun _ => 0))), (q7, .inl (gC G 0, 64, .inl (fun _ => 0))), (q8, .inl (gC G 0, 92, .inl (fil (fun _ => 0) (-1) 92))), (q9, .inl (gC G 0, 92, .inl (fun _ => 0))), (q10, .inl (gC G 2, 3, .inr (.inr (.inr (.inr (va_up (fun _ => none) 0 (some q11))))))), (q11, .inr (3, [.ref (q12), .ref (q18), .int (nI 1)])), (q12, .inr (5, [.ref (q1), .ref (q13), .ref (q14), .ref (q15), .ref (q16), .ref (q17)])), (q13, .inl (gC G 0, 64, .inl (fil (fun _ => 0) (-1) 64))), (q14, .inl (gC G 0, 64, .inl (fun _ => 0))), (q15, .inl (gC G 0, 64, .inl (fun _ => 0))), (q16, .inl (gC G 0, 92, .inl (fil (fun _ => 0) (-1) 92))), (q17, .inl (gC G 0, 92, .inl (fun _ => 0))), (q18, .inr (0, [.int (nI 0), .ref (gX G 0), .int 0])), (q19, .inr (3, [.null, .null, .int 0]))]) s H locs := by rw [List.append_assoc] at Z; exact Z
  refine lv_dup S.1 S.2.1 dX7_init_53 rfl ?_
  refine y_newO (C := RX5) (T := TX5) (N := 6) (ci := 5) (fs := [.null, .null, .null, .null, .null, .null]) S Z tyX5 tyX5_ok i_X7_init_X5 m_X7_init_c16 m_X7_init_iX5_ m_X7_init_zRX5 rfl (fun j hj => by rcases (show j = 0 ∨ j = 1 ∨ j = 2 ∨ j = 3 ∨ j = 4 ∨ j = 5 by omega) with rfl | rfl | rfl | rfl | rfl | rfl <;> rfl) (Nat.le_of_ble_eq_true rfl) (Nat.le_of_ble_eq_true rfl) dX7_init_54 (fun q20 H Z => ?_)
  have Z : yZ G (w.set k0 (ad, .inr (7, [.ref (q1), .ref (q4), .ref (q10), .null, .int 0, .int 0, .int 0])) ++ [(q1, .inr (4, [.ref (q2), .ref (q3)])), (q2, .inl (gC G 0, 8, .inl (fil (fun _ => 0) (-1) 8))), (q3, .inl (gC G 0, 8, .inl (fil (fun _ => 0) (-1) 8))), (q4, .inr (5, [.ref (q1), .ref (q5), .ref (q6), .ref (q7), .ref (q8), .ref (q9)])), (q5, .inl (gC G 0, 64, .inl (fil (fun _ => 0) (-1) 64))), (q6, .inl (gC G 0, 64, .inl (fun _ => 0))), (q7, .inl (gC G 0, 64, .inl (fun _ => 0))), (q8, .inl (gC G 0, 92, .inl (fil (fun _ => 0) (-1) 92))), (q9, .inl (gC G 0, 92, .inl (fun _ => 0))), (q10, .inl (gC G 2, 3, .inr (.inr (.inr (.inr (va_up (fun _ => none) 0 (some q11))))))), (q11, .inr (3, [.ref (q12), .ref (q18), .int (nI 1)])), (q12, .inr (5, [.ref (q1), .ref (q13), .ref (q14), .ref (q15), .ref (q16), .ref (q17)])), (q13, .inl (gC G 0, 64, .inl (fil (fun _ => 0) (-1) 64))), (q14, .inl (gC G 0, 64, .inl (fun _ => 0))), (q15, .inl (gC G 0, 64, .inl (fun _ => 0))), (q16, .inl (gC G 0, 92, .inl (fil (fun _ => 0) (-1) 92))), (q17, .inl (gC G 0, 92, .inl (fun _ => 0))), (q18, .inr (0, [.int (nI 0), .ref (gX G 0), .int 0])), (q19, .inr (3, [.null, .null, .int 0])), (q20, .inr (5, [.null, .null, .null, .null, .null, .null]))]) s H locs := by rw [List.append_assoc] at Z; exact Z
  refine lv_dup S.1 S.2.1 dX7_init_57 rfl ?_
  refine lv_aload_n S.1 S.2.1 dX7_init_58 rfl (lv_at hl 1 rfl) ?_
  refine y_get (C := RX7) (T := TX7) (N := 7) (ci := 7) S Z (yn_g hk) rfl i_X7_init_X7 0 (by decide) m_X7_init_f12 rfl (v := .ref (q1)) rfl dX7_init_59 ?_
  obtain ⟨w9, hw9⟩ : ∃ q, q = w.set k0 (ad, .inr (7, [.ref (q1), .ref (q4), .ref (q10), .null, .int 0, .int 0, .int 0])) ++ [(q1, .inr (4, [.ref (q2), .ref (q3)])), (q2, .inl (gC G 0, 8, .inl (fil (fun _ => 0) (-1) 8))), (q3, .inl (gC G 0, 8, .inl (fil (fun _ => 0) (-1) 8))), (q4, .inr (5, [.ref (q1), .ref (q5), .ref (q6), .ref (q7), .ref (q8), .ref (q9)])), (q5, .inl (gC G 0, 64, .inl (fil (fun _ => 0) (-1) 64))), (q6, .inl (gC G 0, 64, .inl (fun _ => 0))), (q7, .inl (gC G 0, 64, .inl (fun _ => 0))), (q8, .inl (gC G 0, 92, .inl (fil (fun _ => 0) (-1) 92))), (q9, .inl (gC G 0, 92, .inl (fun _ => 0))), (q10, .inl (gC G 2, 3, .inr (.inr (.inr (.inr (va_up (fun _ => none) 0 (some q11))))))), (q11, .inr (3, [.ref (q12), .ref (q18), .int (nI 1)])), (q12, .inr (5, [.ref (q1), .ref (q13), .ref (q14), .ref (q15), .ref (q16), .ref (q17)])), (q13, .inl (gC G 0, 64, .inl (fil (fun _ => 0) (-1) 64))), (q14, .inl (gC G 0, 64, .inl (fun _ => 0))), (q15, .inl (gC G 0, 64, .inl (fun _ => 0))), (q16, .inl (gC G 0, 92, .inl (fil (fun _ => 0) (-1) 92))), (q17, .inl (gC G 0, 92, .inl (fun _ => 0))), (q18, .inr (0, [.int (nI 0), .ref (gX G 0), .int 0])), (q19, .inr (3, [.null, .null, .int 0])), (q20, .inr (5, [.null, .null, .null, .null, .null, .null]))] := ⟨_, rfl⟩
  rw [← hw9] at Z
  have hk9 : w9[((w.set k0 (ad, .inr (7, [.ref (q1), .ref (q4), .ref (q10), .null, .int 0, .int 0, .int 0]))).length + 19)]? = some (q20, .inr (5, [.null, .null, .null, .null, .null, .null])) := by rw [hw9]; exact ya rfl
  refine va_callv (va_runI (As := [.ref (q1)]) (rest := [.ref (q20), .ref (q19), .ref (q19), .int (nI 1), .ref (q10)]) S (k_X5_init l G w9 q20 ((w.set k0 (ad, .inr (7, [.ref (q1), .ref (q4), .ref (q10), .null, .int 0, .int 0, .int 0]))).length + 19) q1 hk9) (cwI 1 S.2.2.2.2 gX7_init_X5_init rfl rfl rfl (S.2.2.2.2 _ m_X7_init_zRX5) (S.2.2.2.2 _ m_X7_init_k18) (S.2.2.2.2 _ m_X7_init_nX5_init) rfl hy_X5_init ⟨Nat.le_of_ble_eq_true rfl, Nat.le_of_ble_eq_true rfl⟩) (yPc_S Z) rfl rfl hl.1 rfl (lv_room (Nat.le_of_ble_eq_true rfl)) dX7_init_62 ⟨Nat.le_of_ble_eq_true rfl, Nat.le_of_ble_eq_true rfl⟩) Z.2.2.2.2 (fun _ _ h => h) (fun _ h => h) (fun u_7 T9 H1 locs1 hT9 hvm hw hB hz hkk9 hS => ?_)
  obtain ⟨q21, q22, q23, q24, q25, rfl⟩ := hw
  have Z := yZ_call Z hB hT9 hS
  clear hB hT9 hS hkk9 hz hvm T9
  revert Z; generalize H1 = H; generalize locs1 = locs; intro Z
  have Z : yZ G (w.set k0 (ad, .inr (7, [.ref (q1), .ref (q4), .ref (q10), .null, .int 0, .int 0, .int 0])) ++ [(q1, .inr (4, [.ref (q2), .ref (q3)])), (q2, .inl (gC G 0, 8, .inl (fil (fun _ => 0) (-1) 8))), (q3, .inl (gC G 0, 8, .inl (fil (fun _ => 0) (-1) 8))), (q4, .inr (5, [.ref (q1), .ref (q5), .ref (q6), .ref (q7), .ref (q8), .ref (q9)])), (q5, .inl (gC G 0, 64, .inl (fil (fun _ => 0) (-1) 64))), (q6, .inl (gC G 0, 64, .inl (fun _ => 0))), (q7, .inl (gC G 0, 64, .inl (fun _ => 0))), (q8, .inl (gC G 0, 92, .inl (fil (fun _ => 0) (-1) 92))), (q9, .inl (gC G 0, 92, .inl (fun _ => 0))), (q10, .inl (gC G 2, 3, .inr (.inr (.inr (.inr (va_up (fun _ => none) 0 (some q11))))))), (q11, .inr (3, [.ref (q12), .ref (q18), .int (nI 1)])), (q12, .inr (5, [.ref (q1), .ref (q13), .ref (q14), .ref (q15), .ref (q16), .ref (q17)])), (q13, .inl (gC G 0, 64, .inl (fil (fun _ => 0) (-1) 64))), (q14, .inl (gC G 0, 64, .inl (fun _ => 0))), (q15, .inl (gC G 0, 64, .inl (fun _ => 0))), (q16, .inl (gC G 0, 92, .inl (fil (fun _ => 0) (-1) 92))), (q17, .inl (gC G 0, 92, .inl (fun _ => 0))), (q18, .inr (0, [.int (nI 0), .ref (gX G 0), .int 0])), (q19, .inr (3, [.null, .null, .int 0])), (q20, .inr (5, [.ref (q1), .ref (q21), .ref (q22), .ref (q23), .ref (q24), .ref (q25)])), (q21, .inl (gC G 0, 64, .inl (fil (fun _ => 0) (-1) 64))), (q22, .inl (gC G 0, 64, .inl (fun _ => 0))), (q23, .inl (gC G 0, 64, .inl (fun _ => 0))), (q24, .inl (gC G 0, 92, .inl (fil (fun _ => 0) (-1) 92))), (q25, .inl (gC G 0, 92, .inl (fun _ => 0)))]) s H locs := by rw [hw9, ys, List.append_assoc] at Z; exact Z
  refine W.widen (k := 25) (n := 1176) (by first | decide | omega) (by first | decide | omega) ?_
  obtain ⟨w9, hw9⟩ : ∃ q, q = w.set k0 (ad, .inr (7, [.ref (q1), .ref (q4), .ref (q10), .null, .int 0, .int 0, .int 0])) ++ [(q1, .inr (4, [.ref (q2), .ref (q3)])), (q2, .inl (gC G 0, 8, .inl (fil (fun _ => 0) (-1) 8))), (q3, .inl (gC G 0, 8, .inl (fil (fun _ => 0) (-1) 8))), (q4, .inr (5, [.ref (q1), .ref (q5), .ref (q6), .ref (q7), .ref (q8), .ref (q9)])), (q5, .inl (gC G 0, 64, .inl (fil (fun _ => 0) (-1) 64))), (q6, .inl (gC G 0, 64, .inl (fun _ => 0))), (q7, .inl (gC G 0, 64, .inl (fun _ => 0))), (q8, .inl (gC G 0, 92, .inl (fil (fun _ => 0) (-1) 92))), (q9, .inl (gC G 0, 92, .inl (fun _ => 0))), (q10, .inl (gC G 2, 3, .inr (.inr (.inr (.inr (va_up (fun _ => none) 0 (some q11))))))), (q11, .inr (3, [.ref (q12), .ref (q18), .int (nI 1)])), (q12, .inr (5, [.ref (q1), .ref (q13), .ref (q14), .ref (q15), .ref (q16), .ref (q17)])), (q13, .inl (gC G 0, 64, .inl (fil (fun _ => 0) (-1) 64))), (q14, .inl (gC G 0, 64, .inl (fun _ => 0))), (q15, .inl (gC G 0, 64, .inl (fun _ => 0))), (q16, .inl (gC G 0, 92, .inl (fil (fun _ => 0) (-1) 92))), (q17, .inl (gC G 0, 92, .inl (fun _ => 0))), (q18, .inr (0, [.int (nI 0), .ref (gX G 0), .int 0])), (q19, .inr (3, [.null, .null, .int 0])), (q20, .inr (5, [.ref (q1), .ref (q21), .ref (q22), .ref (q23), .ref (q24), .ref (q25)])), (q21, .inl (gC G 0, 64, .inl (fil (fun _ => 0) (-1) 64))), (q22, .inl (gC G 0, 64, .inl (fun _ => 0))), (q23, .inl (gC G 0, 64, .inl (fun _ => 0))), (q24, .inl (gC G 0, 92, .inl (fil (fun _ => 0) (-1) 92))), (q25, .inl (gC G 0, 92, .inl (fun _ => 0)))] := ⟨_, rfl⟩
  rw [← hw9] at Z
  have hk9 : w9[((w.set k0 (ad, .inr (7, [.ref (q1), .ref (q4), .ref (q10), .null, .int 0, .int 0, .int 0]))).length + 18)]? = some (q19, .inr (3, [.null, .null, .int 0])) := by rw [hw9]; exact ya rfl
  refine va_callv (va_runI (As := [.ref (q20)]) (rest := [.ref (q19), .int (nI 1), .ref (q10)]) S (k_X3_init l G w9 q19 ((w.set k0 (ad, .inr (7, [.ref (q1), .ref (q4), .ref (q10), .null, .int 0, .int 0, .int 0]))).length + 18) q20 hk9) (cwI 1 S.2.2.2.2 gX7_init_X3_init rfl rfl rfl (S.2.2.2.2 _ m_X7_init_zRX3) (S.2.2.2.2 _ m_X7_init_k31) (S.2.2.2.2 _ m_X7_init_nX3_init) rfl hy_X3_init ⟨Nat.le_of_ble_eq_true rfl, Nat.le_of_ble_eq_true rfl⟩) (yPc_S Z) rfl rfl hl.1 rfl (lv_room (Nat.le_of_ble_eq_true rfl)) dX7_init_65 ⟨Nat.le_of_ble_eq_true rfl, Nat.le_of_ble_eq_true rfl⟩) Z.2.2.2.2 (fun _ _ h => h) (fun _ h => h) (fun u_8 T9 H1 locs1 hT9 hvm hw hB hz hkk9 hS => ?_)
  obtain ⟨q26, rfl⟩ := hw
  have Z := yZ_call Z hB hT9 hS
  clear hB hT9 hS hkk9 hz hvm T9
  revert Z; generalize H1 = H; generalize locs1 = locs; intro Z
  have Z : yZ G (w.set k0 (ad, .inr (7, [.ref (q1), .ref (q4), .ref (q10), .null, .int 0, .int 0, .int 0])) ++ [(q1, .inr (4, [.ref (q2), .ref (q3)])), (q2, .inl (gC G 0, 8, .inl (fil (fun _ => 0) (-1) 8))), (q3, .inl (gC G 0, 8, .inl (fil (fun _ => 0) (-1) 8))), (q4, .inr (5, [.ref (q1), .ref (q5), .ref (q6), .ref (q7), .ref (q8), .ref (q9)])), (q5, .inl (gC G 0, 64, .inl (fil (fun _ => 0) (-1) 64))), (q6, .inl (gC G 0, 64, .inl (fun _ => 0))), (q7, .inl (gC G 0, 64, .inl (fun _ => 0))), (q8, .inl (gC G 0, 92, .inl (fil (fun _ => 0) (-1) 92))), (q9, .inl (gC G 0, 92, .inl (fun _ => 0))), (q10, .inl (gC G 2, 3, .inr (.inr (.inr (.inr (va_up (fun _ => none) 0 (some q11))))))), (q11, .inr (3, [.ref (q12), .ref (q18), .int (nI 1)])), (q12, .inr (5, [.ref (q1), .ref (q13), .ref (q14), .ref (q15), .ref (q16), .ref (q17)])), (q13, .inl (gC G 0, 64, .inl (fil (fun _ => 0) (-1) 64))), (q14, .inl (gC G 0, 64, .inl (fun _ => 0))), (q15, .inl (gC G 0, 64, .inl (fun _ => 0))), (q16, .inl (gC G 0, 92, .inl (fil (fun _ => 0) (-1) 92))), (q17, .inl (gC G 0, 92, .inl (fun _ => 0))), (q18, .inr (0, [.int (nI 0), .ref (gX G 0), .int 0])), (q19, .inr (3, [.ref (q20), .ref (q26), .int (nI 1)])), (q20, .inr (5, [.ref (q1), .ref (q21), .ref (q22), .ref (q23), .ref (q24), .ref (q25)])), (q21, .inl (gC G 0, 64, .inl (fil (fun _ => 0) (-1) 64))), (q22, .inl (gC G 0, 64, .inl (fun _ => 0))), (q23, .inl (gC G 0, 64, .inl (fun _ => 0))), (q24, .inl (gC G 0, 92, .inl (fil (fun _ => 0) (-1) 92))), (q25, .inl (gC G 0, 92, .inl (fun _ => 0))), (q26, .inr (0, [.int (nI 0), .ref (gX G 0), .int 0]))]) s H locs := by rw [hw9, ys, List.append_assoc] at Z; exact Z
  refine W.widen (k := 26) (n := 1179) (by first | decide | omega) (by first | decide | omega) ?_
  refine y_astK S Z (f := (va_up (fun _ => none) 0 (some q11))) (vs := [.ref (q20), .ref (q26), .int (nI 1)]) (ya (w := w.set k0 (ad, .inr (7, [.ref (q1), .ref (q4), .ref (q10), .null, .int 0, .int 0, .int 0]))) (j := 9) rfl) (ya (w := w.set k0 (ad, .inr (7, [.ref (q1), .ref (q4), .ref (q10), .null, .int 0, .int 0, .int 0]))) (j := 18) rfl) (by decide) dX7_init_68 (fun H locs Z => ?_)
  have Z : yZ G (w.set k0 (ad, .inr (7, [.ref (q1), .ref (q4), .ref (q10), .null, .int 0, .int 0, .int 0])) ++ [(q1, .inr (4, [.ref (q2), .ref (q3)])), (q2, .inl (gC G 0, 8, .inl (fil (fun _ => 0) (-1) 8))), (q3, .inl (gC G 0, 8, .inl (fil (fun _ => 0) (-1) 8))), (q4, .inr (5, [.ref (q1), .ref (q5), .ref (q6), .ref (q7), .ref (q8), .ref (q9)])), (q5, .inl (gC G 0, 64, .inl (fil (fun _ => 0) (-1) 64))), (q6, .inl (gC G 0, 64, .inl (fun _ => 0))), (q7, .inl (gC G 0, 64, .inl (fun _ => 0))), (q8, .inl (gC G 0, 92, .inl (fil (fun _ => 0) (-1) 92))), (q9, .inl (gC G 0, 92, .inl (fun _ => 0))), (q10, .inl (gC G 2, 3, .inr (.inr (.inr (.inr (va_up (va_up (fun _ => none) 0 (some q11)) 1 (some q19))))))), (q11, .inr (3, [.ref (q12), .ref (q18), .int (nI 1)])), (q12, .inr (5, [.ref (q1), .ref (q13), .ref (q14), .ref (q15), .ref (q16), .ref (q17)])), (q13, .inl (gC G 0, 64, .inl (fil (fun _ => 0) (-1) 64))), (q14, .inl (gC G 0, 64, .inl (fun _ => 0))), (q15, .inl (gC G 0, 64, .inl (fun _ => 0))), (q16, .inl (gC G 0, 92, .inl (fil (fun _ => 0) (-1) 92))), (q17, .inl (gC G 0, 92, .inl (fun _ => 0))), (q18, .inr (0, [.int (nI 0), .ref (gX G 0), .int 0])), (q19, .inr (3, [.ref (q20), .ref (q26), .int (nI 1)])), (q20, .inr (5, [.ref (q1), .ref (q21), .ref (q22), .ref (q23), .ref (q24), .ref (q25)])), (q21, .inl (gC G 0, 64, .inl (fil (fun _ => 0) (-1) 64))), (q22, .inl (gC G 0, 64, .inl (fun _ => 0))), (q23, .inl (gC G 0, 64, .inl (fun _ => 0))), (q24, .inl (gC G 0, 92, .inl (fil (fun _ => 0) (-1) 92))), (q25, .inl (gC G 0, 92, .inl (fun _ => 0))), (q26, .inr (0, [.int (nI 0), .ref (gX G 0), .int 0]))]) s H locs := by rw [ys] at Z; exact Z
  refine lv_iinc (v := nI (1 + 1)) (lv' := [(1, .int (nI (1 + 1))), (0, .ref (ad))]) S.1 S.2.1 dX7_init_69 hl (k := 0) rfl (nI_inc rfl) (by decide) rfl (fun ls hl => ?_)
  have hl : lv_has ls 2 [(1, .int (nI 2)), (0, .ref (ad))] := hl
  refine lv_goto (tgt := 40) S.1 S.2.1 dX7_init_72 (by first | decide | rfl) ?_
  refine lv_iload_n S.1 S.2.1 dX7_init_40 rfl (lv_at hl 0 rfl) ?_
  refine lv_iconst (v := nI 3) S.1 S.2.1 dX7_init_41 (by first | decide | rfl) ?_
  refine r_icmpN_ge S (tgt := 75) (by decide) (by decide) dX7_init_42 (by first | decide | rfl) (fun c_9 => absurd c_9 (by decide)) (fun c_9 => ?_)
  refine lv_aload_n S.1 S.2.1 dX7_init_45 rfl (lv_at hl 1 rfl) ?_
  refine y_get (C := RX7) (T := TX7) (N := 7) (ci := 7) S Z (yn_g hk) rfl i_X7_init_X7 2 (by decide) m_X7_init_f27 rfl (v := .ref (q10)) rfl dX7_init_46 ?_
  refine lv_iload_n S.1 S.2.1 dX7_init_49 rfl (lv_at hl 0 rfl) ?_
  refine y_newO (C := RX3) (T := TX3) (N := 3) (ci := 3) (fs := [.null, .null, .int 0]) S Z tyX3 tyX3_ok i_X7_init_X3 m_X7_init_c25 m_X7_init_iX3_ m_X7_init_zRX3 rfl (fun j hj => by rcases (show j = 0 ∨ j = 1 ∨ j = 2 by omega) with rfl | rfl | rfl <;> rfl) (Nat.le_of_ble_eq_true rfl) (Nat.le_of_ble_eq_true rfl) dX7_init_50 (fun q27 H Z => ?_)
  have Z : yZ G (w.set k0 (ad, .inr (7, [.ref (q1), .ref (q4), .ref (q10), .null, .int 0, .int 0, .int 0])) ++ [(q1, .inr (4, [.ref (q2), .ref (q3)])), (q2, .inl (gC G 0, 8, .inl (fil (fun _ => 0) (-1) 8))), (q3, .inl (gC G 0, 8, .inl (fil (fun _ => 0) (-1) 8))), (q4, .inr (5, [.ref (q1), .ref (q5), .ref (q6), .ref (q7), .ref (q8), .ref (q9)])), (q5, .inl (gC G 0, 64, .inl (fil (fun _ => 0) (-1) 64))), (q6, .inl (gC G 0, 64, .inl (fun _ => 0))), (q7, .inl (gC G 0, 64, .inl (fun _ => 0))), (q8, .inl (gC G 0, 92, .inl (fil (fun _ => 0) (-1) 92))), (q9, .inl (gC G 0, 92, .inl (fun _ => 0))), (q10, .inl (gC G 2, 3, .inr (.inr (.inr (.inr (va_up (va_up (fun _ => none) 0 (some q11)) 1 (some q19))))))), (q11, .inr (3, [.ref (q12), .ref (q18), .int (nI 1)])), (q12, .inr (5, [.ref (q1), .ref (q13), .ref (q14), .ref (q15), .ref (q16), .ref (q17)])), (q13, .inl (gC G 0, 64, .inl (fil (fun _ => 0) (-1) 64))), (q14, .inl (gC G 0, 64, .inl (fun _ => 0))), (q15, .inl (gC G 0, 64, .inl (fun _ => 0))), (q16, .inl (gC G 0, 92, .inl (fil (fun _ => 0) (-1) 92))), (q17, .inl (gC G 0, 92, .inl (fun _ => 0))), (q18, .inr (0, [.int (nI 0), .ref (gX G 0), .int 0])), (q19, .inr (3, [.ref (q20), .ref (q26), .int (nI 1)])), (q20, .inr (5, [.ref (q1), .ref (q21), .ref (q22), .ref (q23), .ref (q24), .ref (q25)])), (q21, .inl (gC G 0, 64, .inl (fil (fun _ => 0) (-1) 64))), (q22, .inl (gC G 0, 64, .inl (fun _ => 0))), (q23, .inl (gC G 0, 64, .inl (fun _ => 0))), (q24, .inl (gC G 0, 92, .inl (fil (fun _ => 0) (-1) 92))), (q25, .inl (gC G 0, 92, .inl (fun _ => 0))), (q26, .inr (0, [.int (nI 0), .ref (gX G 0), .int 0])), (q27, .inr (3, [.null, .null, .int 0]))]) s H locs := by rw [List.append_assoc] at Z; exact Z
  refine lv_dup S.1 S.2.1 dX7_init_53 rfl ?_
  refine y_newO (C := RX5) (T := TX5) (N := 6) (ci := 5) (fs := [.null, .null, .null, .null, .null, .null]) S Z tyX5 tyX5_ok i_X7_init_X5 m_X7_init_c16 m_X7_init_iX5_ m_X7_init_zRX5 rfl (fun j hj => by rcases (show j = 0 ∨ j = 1 ∨ j = 2 ∨ j = 3 ∨ j = 4 ∨ j = 5 by omega) with rfl | rfl | rfl | rfl | rfl | rfl <;> rfl) (Nat.le_of_ble_eq_true rfl) (Nat.le_of_ble_eq_true rfl) dX7_init_54 (fun q28 H Z => ?_)
  have Z : yZ G (w.set k0 (ad, .inr (7, [.ref (q1), .ref (q4), .ref (q10), .null, .int 0, .int 0, .int 0])) ++ [(q1, .inr (4, [.ref (q2), .ref (q3)])), (q2, .inl (gC G 0, 8, .inl (fil (fun _ => 0) (-1) 8))), (q3, .inl (gC G 0, 8, .inl (fil (fun _ => 0) (-1) 8))), (q4, .inr (5, [.ref (q1), .ref (q5), .ref (q6), .ref (q7), .ref (q8), .ref (q9)])), (q5, .inl (gC G 0, 64, .inl (fil (fun _ => 0) (-1) 64))), (q6, .inl (gC G 0, 64, .inl (fun _ => 0))), (q7, .inl (gC G 0, 64, .inl (fun _ => 0))), (q8, .inl (gC G 0, 92, .inl (fil (fun _ => 0) (-1) 92))), (q9, .inl (gC G 0, 92, .inl (fun _ => 0))), (q10, .inl (gC G 2, 3, .inr (.inr (.inr (.inr (va_up (va_up (fun _ => none) 0 (some q11)) 1 (some q19))))))), (q11, .inr (3, [.ref (q12), .ref (q18), .int (nI 1)])), (q12, .inr (5, [.ref (q1), .ref (q13), .ref (q14), .ref (q15), .ref (q16), .ref (q17)])), (q13, .inl (gC G 0, 64, .inl (fil (fun _ => 0) (-1) 64))), (q14, .inl (gC G 0, 64, .inl (fun _ => 0))), (q15, .inl (gC G 0, 64, .inl (fun _ => 0))), (q16, .inl (gC G 0, 92, .inl (fil (fun _ => 0) (-1) 92))), (q17, .inl (gC G 0, 92, .inl (fun _ => 0))), (q18, .inr (0, [.int (nI 0), .ref (gX G 0), .int 0])), (q19, .inr (3, [.ref (q20), .ref (q26), .int (nI 1)])), (q20, .inr (5, [.ref (q1), .ref (q21), .ref (q22), .ref (q23), .ref (q24), .ref (q25)])), (q21, .inl (gC G 0, 64, .inl (fil (fun _ => 0) (-1) 64))), (q22, .inl (gC G 0, 64, .inl (fun _ => 0))), (q23, .inl (gC G 0, 64, .inl (fun _ => 0))), (q24, .inl (gC G 0, 92, .inl (fil (fun _ => 0) (-1) 92))), (q25, .inl (gC G 0, 92, .inl (fun _ => 0))), (q26, .inr (0, [.int (nI 0), .ref (gX G 0), .int 0])), (q27, .inr (3, [.null, .null, .int 0])), (q28, .inr (5, [.null, .null, .null, .null, .null, .null]))]) s H locs := by rw [List.append_assoc] at Z; exact Z
  refine lv_dup S.1 S.2.1 dX7_init_57 rfl ?_
  refine lv_aload_n S.1 S.2.1 dX7_init_58 rfl (lv_at hl 1 rfl) ?_
  refine y_get (C := RX7) (T := TX7) (N := 7) (ci := 7) S Z (yn_g hk) rfl i_X7_init_X7 0 (by decide) m_X7_init_f12 rfl (v := .ref (q1)) rfl dX7_init_59 ?_
  obtain ⟨w9, hw9⟩ : ∃ q, q = w.set k0 (ad, .inr (7, [.ref (q1), .ref (q4), .ref (q10), .null, .int 0, .int 0, .int 0])) ++ [(q1, .inr (4, [.ref (q2), .ref (q3)])), (q2, .inl (gC G 0, 8, .inl (fil (fun _ => 0) (-1) 8))), (q3, .inl (gC G 0, 8, .inl (fil (fun _ => 0) (-1) 8))), (q4, .inr (5, [.ref (q1), .ref (q5), .ref (q6), .ref (q7), .ref (q8), .ref (q9)])), (q5, .inl (gC G 0, 64, .inl (fil (fun _ => 0) (-1) 64))), (q6, .inl (gC G 0, 64, .inl (fun _ => 0))), (q7, .inl (gC G 0, 64, .inl (fun _ => 0))), (q8, .inl (gC G 0, 92, .inl (fil (fun _ => 0) (-1) 92))), (q9, .inl (gC G 0, 92, .inl (fun _ => 0))), (q10, .inl (gC G 2, 3, .inr (.inr (.inr (.inr (va_up (va_up (fun _ => none) 0 (some q11)) 1 (some q19))))))), (q11, .inr (3, [.ref (q12), .ref (q18), .int (nI 1)])), (q12, .inr (5, [.ref (q1), .ref (q13), .ref (q14), .ref (q15), .ref (q16), .ref (q17)])), (q13, .inl (gC G 0, 64, .inl (fil (fun _ => 0) (-1) 64))), (q14, .inl (gC G 0, 64, .inl (fun _ => 0))), (q15, .inl (gC G 0, 64, .inl (fun _ => 0))), (q16, .inl (gC G 0, 92, .inl (fil (fun _ => 0) (-1) 92))), (q17, .inl (gC G 0, 92, .inl (fun _ => 0))), (q18, .inr (0, [.int (nI 0), .ref (gX G 0), .int 0])), (q19, .inr (3, [.ref (q20), .ref (q26), .int (nI 1)])), (q20, .inr (5, [.ref (q1), .ref (q21), .ref (q22), .ref (q23), .ref (q24), .ref (q25)])), (q21, .inl (gC G 0, 64, .inl (fil (fun _ => 0) (-1) 64))), (q22, .inl (gC G 0, 64, .inl (fun _ => 0))), (q23, .inl (gC G 0, 64, .inl (fun _ => 0))), (q24, .inl (gC G 0, 92, .inl (fil (fun _ => 0) (-1) 92))), (q25, .inl (gC G 0, 92, .inl (fun _ => 0))), (q26, .inr (0, [.int (nI 0), .ref (gX G 0), .int 0])), (q27, .inr (3, [.null, .null, .int 0])), (q28, .inr (5, [.null, .null, .null, .null, .null, .null]))] := ⟨_, rfl⟩
  rw [← hw9] at Z
  have hk9 : w9[((w.set k0 (ad, .inr (7, [.ref (q1), .ref (q4), .ref (q10), .null, .int 0, .int 0, .int 0]))).length + 27)]? = some (q28, .inr (5, [.null, .null, .null, .null, .null, .null])) := by rw [hw9]; exact ya rfl
  refine va_callv (va_runI (As := [.ref (q1)]) (rest := [.ref (q28), .ref (q27), .ref (q27), .int (nI 2), .ref (q10)]) S (k_X5_init l G w9 q28 ((w.set k0 (ad, .inr (7, [.ref (q1), .ref (q4), .ref (q10), .null, .int 0, .int 0, .int 0]))).length + 27) q1 hk9) (cwI 1 S.2.2.2.2 gX7_init_X5_init rfl rfl rfl (S.2.2.2.2 _ m_X7_init_zRX5) (S.2.2.2.2 _ m_X7_init_k18) (S.2.2.2.2 _ m_X7_init_nX5_init) rfl hy_X5_init ⟨Nat.le_of_ble_eq_true rfl, Nat.le_of_ble_eq_true rfl⟩) (yPc_S Z) rfl rfl hl.1 rfl (lv_room (Nat.le_of_ble_eq_true rfl)) dX7_init_62 ⟨Nat.le_of_ble_eq_true rfl, Nat.le_of_ble_eq_true rfl⟩) Z.2.2.2.2 (fun _ _ h => h) (fun _ h => h) (fun u_10 T9 H1 locs1 hT9 hvm hw hB hz hkk9 hS => ?_)
  obtain ⟨q29, q30, q31, q32, q33, rfl⟩ := hw
  have Z := yZ_call Z hB hT9 hS
  clear hB hT9 hS hkk9 hz hvm T9
  revert Z; generalize H1 = H; generalize locs1 = locs; intro Z
  have Z : yZ G (w.set k0 (ad, .inr (7, [.ref (q1), .ref (q4), .ref (q10), .null, .int 0, .int 0, .int 0])) ++ [(q1, .inr (4, [.ref (q2), .ref (q3)])), (q2, .inl (gC G 0, 8, .inl (fil (fun _ => 0) (-1) 8))), (q3, .inl (gC G 0, 8, .inl (fil (fun _ => 0) (-1) 8))), (q4, .inr (5, [.ref (q1), .ref (q5), .ref (q6), .ref (q7), .ref (q8), .ref (q9)])), (q5, .inl (gC G 0, 64, .inl (fil (fun _ => 0) (-1) 64))), (q6, .inl (gC G 0, 64, .inl (fun _ => 0))), (q7, .inl (gC G 0, 64, .inl (fun _ => 0))), (q8, .inl (gC G 0, 92, .inl (fil (fun _ => 0) (-1) 92))), (q9, .inl (gC G 0, 92, .inl (fun _ => 0))), (q10, .inl (gC G 2, 3, .inr (.inr (.inr (.inr (va_up (va_up (fun _ => none) 0 (some q11)) 1 (some q19))))))), (q11, .inr (3, [.ref (q12), .ref (q18), .int (nI 1)])), (q12, .inr (5, [.ref (q1), .ref (q13), .ref (q14), .ref (q15), .ref (q16), .ref (q17)])), (q13, .inl (gC G 0, 64, .inl (fil (fun _ => 0) (-1) 64))), (q14, .inl (gC G 0, 64, .inl (fun _ => 0))), (q15, .inl (gC G 0, 64, .inl (fun _ => 0))), (q16, .inl (gC G 0, 92, .inl (fil (fun _ => 0) (-1) 92))), (q17, .inl (gC G 0, 92, .inl (fun _ => 0))), (q18, .inr (0, [.int (nI 0), .ref (gX G 0), .int 0])), (q19, .inr (3, [.ref (q20), .ref (q26), .int (nI 1)])), (q20, .inr (5, [.ref (q1), .ref (q21), .ref (q22), .ref (q23), .ref (q24), .ref (q25)])), (q21, .inl (gC G 0, 64, .inl (fil (fun _ => 0) (-1) 64))), (q22, .inl (gC G 0, 64, .inl (fun _ => 0))), (q23, .inl (gC G 0, 64, .inl (fun _ => 0))), (q24, .inl (gC G 0, 92, .inl (fil (fun _ => 0) (-1) 92))), (q25, .inl (gC G 0, 92, .inl (fun _ => 0))), (q26, .inr (0, [.int (nI 0), .ref (gX G 0), .int 0])), (q27, .inr (3, [.null, .null, .int 0])), (q28, .inr (5, [.ref (q1), .ref (q29), .ref (q30), .ref (q31), .ref (q32), .ref (q33)])), (q29, .inl (gC G 0, 64, .inl (fil (fun _ => 0) (-1) 64))), (q30, .inl (gC G 0, 64, .inl (fun _ => 0))), (q31, .inl (gC G 0, 64, .inl (fun _ => 0))), (q32, .inl (gC G 0, 92, .inl (fil (fun _ => 0) (-1) 92))), (q33, .inl (gC G 0, 92, .inl (fun _ => 0)))]) s H locs := by rw [hw9, ys, List.append_assoc] at Z; exact Z
  refine W.widen (k := 33) (n := 1564) (by first | decide | omega) (by first | decide | omega) ?_
  obtain ⟨w9, hw9⟩ : ∃ q, q = w.set k0 (ad, .inr (7, [.ref (q1), .ref (q4), .ref (q10), .null, .int 0, .int 0, .int 0])) ++ [(q1, .inr (4, [.ref (q2), .ref (q3)])), (q2, .inl (gC G 0, 8, .inl (fil (fun _ => 0) (-1) 8))), (q3, .inl (gC G 0, 8, .inl (fil (fun _ => 0) (-1) 8))), (q4, .inr (5, [.ref (q1), .ref (q5), .ref (q6), .ref (q7), .ref (q8), .ref (q9)])), (q5, .inl (gC G 0, 64, .inl (fil (fun _ => 0) (-1) 64))), (q6, .inl (gC G 0, 64, .inl (fun _ => 0))), (q7, .inl (gC G 0, 64, .inl (fun _ => 0))), (q8, .inl (gC G 0, 92, .inl (fil (fun _ => 0) (-1) 92))), (q9, .inl (gC G 0, 92, .inl (fun _ => 0))), (q10, .inl (gC G 2, 3, .inr (.inr (.inr (.inr (va_up (va_up (fun _ => none) 0 (some q11)) 1 (some q19))))))), (q11, .inr (3, [.ref (q12), .ref (q18), .int (nI 1)])), (q12, .inr (5, [.ref (q1), .ref (q13), .ref (q14), .ref (q15), .ref (q16), .ref (q17)])), (q13, .inl (gC G 0, 64, .inl (fil (fun _ => 0) (-1) 64))), (q14, .inl (gC G 0, 64, .inl (fun _ => 0))), (q15, .inl (gC G 0, 64, .inl (fun _ => 0))), (q16, .inl (gC G 0, 92, .inl (fil (fun _ => 0) (-1) 92))), (q17, .inl (gC G 0, 92, .inl (fun _ => 0))), (q18, .inr (0, [.int (nI 0), .ref (gX G 0), .int 0])), (q19, .inr (3, [.ref (q20), .ref (q26), .int (nI 1)])), (q20, .inr (5, [.ref (q1), .ref (q21), .ref (q22), .ref (q23), .ref (q24), .ref (q25)])), (q21, .inl (gC G 0, 64, .inl (fil (fun _ => 0) (-1) 64))), (q22, .inl (gC G 0, 64, .inl (fun _ => 0))), (q23, .inl (gC G 0, 64, .inl (fun _ => 0))), (q24, .inl (gC G 0, 92, .inl (fil (fun _ => 0) (-1) 92))), (q25, .inl (gC G 0, 92, .inl (fun _ => 0))), (q26, .inr (0, [.int (nI 0), .ref (gX G 0), .int 0])), (q27, .inr (3, [.null, .null, .int 0])), (q28, .inr (5, [.ref (q1), .ref (q29), .ref (q30), .ref (q31), .ref (q32), .ref (q33)])), (q29, .inl (gC G 0, 64, .inl (fil (fun _ => 0) (-1) 64))), (q30, .inl (gC G 0, 64, .inl (fun _ => 0))), (q31, .inl (gC G 0, 64, .inl (fun _ => 0))), (q32, .inl (gC G 0, 92, .inl (fil (fun _ => 0) (-1) 92))), (q33, .inl (gC G 0, 92, .inl (fun _ => 0)))] := ⟨_, rfl⟩
  rw [← hw9] at Z
  have hk9 : w9[((w.set k0 (ad, .inr (7, [.ref (q1), .ref (q4), .ref (q10), .null, .int 0, .int 0, .int 0]))).length + 26)]? = some (q27, .inr (3, [.null, .null, .int 0])) := by rw [hw9]; exact ya rfl
  refine va_callv (va_runI (As := [.ref (q28)]) (rest := [.ref (q27), .int (nI 2), .ref (q10)]) S (k_X3_init l G w9 q27 ((w.set k0 (ad, .inr (7, [.ref (q1), .ref (q4), .ref (q10), .null, .int 0, .int 0, .int 0]))).length + 26) q28 hk9) (cwI 1 S.2.2.2.2 gX7_init_X3_init rfl rfl rfl (S.2.2.2.2 _ m_X7_init_zRX3) (S.2.2.2.2 _ m_X7_init_k31) (S.2.2.2.2 _ m_X7_init_nX3_init) rfl hy_X3_init ⟨Nat.le_of_ble_eq_true rfl, Nat.le_of_ble_eq_true rfl⟩) (yPc_S Z) rfl rfl hl.1 rfl (lv_room (Nat.le_of_ble_eq_true rfl)) dX7_init_65 ⟨Nat.le_of_ble_eq_true rfl, Nat.le_of_ble_eq_true rfl⟩) Z.2.2.2.2 (fun _ _ h => h) (fun _ h => h) (fun u_11 T9 H1 locs1 hT9 hvm hw hB hz hkk9 hS => ?_)
  obtain ⟨q34, rfl⟩ := hw
  have Z := yZ_call Z hB hT9 hS
  clear hB hT9 hS hkk9 hz hvm T9
  revert Z; generalize H1 = H; generalize locs1 = locs; intro Z
  have Z : yZ G (w.set k0 (ad, .inr (7, [.ref (q1), .ref (q4), .ref (q10), .null, .int 0, .int 0, .int 0])) ++ [(q1, .inr (4, [.ref (q2), .ref (q3)])), (q2, .inl (gC G 0, 8, .inl (fil (fun _ => 0) (-1) 8))), (q3, .inl (gC G 0, 8, .inl (fil (fun _ => 0) (-1) 8))), (q4, .inr (5, [.ref (q1), .ref (q5), .ref (q6), .ref (q7), .ref (q8), .ref (q9)])), (q5, .inl (gC G 0, 64, .inl (fil (fun _ => 0) (-1) 64))), (q6, .inl (gC G 0, 64, .inl (fun _ => 0))), (q7, .inl (gC G 0, 64, .inl (fun _ => 0))), (q8, .inl (gC G 0, 92, .inl (fil (fun _ => 0) (-1) 92))), (q9, .inl (gC G 0, 92, .inl (fun _ => 0))), (q10, .inl (gC G 2, 3, .inr (.inr (.inr (.inr (va_up (va_up (fun _ => none) 0 (some q11)) 1 (some q19))))))), (q11, .inr (3, [.ref (q12), .ref (q18), .int (nI 1)])), (q12, .inr (5, [.ref (q1), .ref (q13), .ref (q14), .ref (q15), .ref (q16), .ref (q17)])), (q13, .inl (gC G 0, 64, .inl (fil (fun _ => 0) (-1) 64))), (q14, .inl (gC G 0, 64, .inl (fun _ => 0))), (q15, .inl (gC G 0, 64, .inl (fun _ => 0))), (q16, .inl (gC G 0, 92, .inl (fil (fun _ => 0) (-1) 92))), (q17, .inl (gC G 0, 92, .inl (fun _ => 0))), (q18, .inr (0, [.int (nI 0), .ref (gX G 0), .int 0])), (q19, .inr (3, [.ref (q20), .ref (q26), .int (nI 1)])), (q20, .inr (5, [.ref (q1), .ref (q21), .ref (q22), .ref (q23), .ref (q24), .ref (q25)])), (q21, .inl (gC G 0, 64, .inl (fil (fun _ => 0) (-1) 64))), (q22, .inl (gC G 0, 64, .inl (fun _ => 0))), (q23, .inl (gC G 0, 64, .inl (fun _ => 0))), (q24, .inl (gC G 0, 92, .inl (fil (fun _ => 0) (-1) 92))), (q25, .inl (gC G 0, 92, .inl (fun _ => 0))), (q26, .inr (0, [.int (nI 0), .ref (gX G 0), .int 0])), (q27, .inr (3, [.ref (q28), .ref (q34), .int (nI 1)])), (q28, .inr (5, [.ref (q1), .ref (q29), .ref (q30), .ref (q31), .ref (q32), .ref (q33)])), (q29, .inl (gC G 0, 64, .inl (fil (fun _ => 0) (-1) 64))), (q30, .inl (gC G 0, 64, .inl (fun _ => 0))), (q31, .inl (gC G 0, 64, .inl (fun _ => 0))), (q32, .inl (gC G 0, 92, .inl (fil (fun _ => 0) (-1) 92))), (q33, .inl (gC G 0, 92, .inl (fun _ => 0))), (q34, .inr (0, [.int (nI 0), .ref (gX G 0), .int 0]))]) s H locs := by rw [hw9, ys, List.append_assoc] at Z; exact Z
  refine W.widen (k := 34) (n := 1567) (by first | decide | omega) (by first | decide | omega) ?_
  refine y_astK S Z (f := (va_up (va_up (fun _ => none) 0 (some q11)) 1 (some q19))) (vs := [.ref (q28), .ref (q34), .int (nI 1)]) (ya (w := w.set k0 (ad, .inr (7, [.ref (q1), .ref (q4), .ref (q10), .null, .int 0, .int 0, .int 0]))) (j := 9) rfl) (ya (w := w.set k0 (ad, .inr (7, [.ref (q1), .ref (q4), .ref (q10), .null, .int 0, .int 0, .int 0]))) (j := 26) rfl) (by decide) dX7_init_68 (fun H locs Z => ?_)
  have Z : yZ G (w.set k0 (ad, .inr (7, [.ref (q1), .ref (q4), .ref (q10), .null, .int 0, .int 0, .int 0])) ++ [(q1, .inr (4, [.ref (q2), .ref (q3)])), (q2, .inl (gC G 0, 8, .inl (fil (fun _ => 0) (-1) 8))), (q3, .inl (gC G 0, 8, .inl (fil (fun _ => 0) (-1) 8))), (q4, .inr (5, [.ref (q1), .ref (q5), .ref (q6), .ref (q7), .ref (q8), .ref (q9)])), (q5, .inl (gC G 0, 64, .inl (fil (fun _ => 0) (-1) 64))), (q6, .inl (gC G 0, 64, .inl (fun _ => 0))), (q7, .inl (gC G 0, 64, .inl (fun _ => 0))), (q8, .inl (gC G 0, 92, .inl (fil (fun _ => 0) (-1) 92))), (q9, .inl (gC G 0, 92, .inl (fun _ => 0))), (q10, .inl (gC G 2, 3, .inr (.inr (.inr (.inr (va_up (va_up (va_up (fun _ => none) 0 (some q11)) 1 (some q19)) 2 (some q27))))))), (q11, .inr (3, [.ref (q12), .ref (q18), .int (nI 1)])), (q12, .inr (5, [.ref (q1), .ref (q13), .ref (q14), .ref (q15), .ref (q16), .ref (q17)])), (q13, .inl (gC G 0, 64, .inl (fil (fun _ => 0) (-1) 64))), (q14, .inl (gC G 0, 64, .inl (fun _ => 0))), (q15, .inl (gC G 0, 64, .inl (fun _ => 0))), (q16, .inl (gC G 0, 92, .inl (fil (fun _ => 0) (-1) 92))), (q17, .inl (gC G 0, 92, .inl (fun _ => 0))), (q18, .inr (0, [.int (nI 0), .ref (gX G 0), .int 0])), (q19, .inr (3, [.ref (q20), .ref (q26), .int (nI 1)])), (q20, .inr (5, [.ref (q1), .ref (q21), .ref (q22), .ref (q23), .ref (q24), .ref (q25)])), (q21, .inl (gC G 0, 64, .inl (fil (fun _ => 0) (-1) 64))), (q22, .inl (gC G 0, 64, .inl (fun _ => 0))), (q23, .inl (gC G 0, 64, .inl (fun _ => 0))), (q24, .inl (gC G 0, 92, .inl (fil (fun _ => 0) (-1) 92))), (q25, .inl (gC G 0, 92, .inl (fun _ => 0))), (q26, .inr (0, [.int (nI 0), .ref (gX G 0), .int 0])), (q27, .inr (3, [.ref (q28), .ref (q34), .int (nI 1)])), (q28, .inr (5, [.ref (q1), .ref (q29), .ref (q30), .ref (q31), .ref (q32), .ref (q33)])), (q29, .inl (gC G 0, 64, .inl (fil (fun _ => 0) (-1) 64))), (q30, .inl (gC G 0, 64, .inl (fun _ => 0))), (q31, .inl (gC G 0, 64, .inl (fun _ => 0))), (q32, .inl (gC G 0, 92, .inl (fil (fun _ => 0) (-1) 92))), (q33, .inl (gC G 0, 92, .inl (fun _ => 0))), (q34, .inr (0, [.int (nI 0), .ref (gX G 0), .int 0]))]) s H locs := by rw [ys] at Z; exact Z
  refine lv_iinc (v := nI (2 + 1)) (lv' := [(1, .int (nI (2 + 1))), (0, .ref (ad))]) S.1 S.2.1 dX7_init_69 hl (k := 0) rfl (nI_inc rfl) (by decide) rfl (fun ls hl => ?_)
  have hl : lv_has ls 2 [(1, .int (nI 3)), (0, .ref (ad))] := hl
  refine lv_goto (tgt := 40) S.1 S.2.1 dX7_init_72 (by first | decide | rfl) ?_
  refine lv_iload_n S.1 S.2.1 dX7_init_40 rfl (lv_at hl 0 rfl) ?_
  refine lv_iconst (v := nI 3) S.1 S.2.1 dX7_init_41 (by first | decide | rfl) ?_
  refine r_icmpN_ge S (tgt := 75) (by decide) (by decide) dX7_init_42 (by first | decide | rfl) (fun c_12 => ?_) (fun c_12 => absurd c_12 (by decide))
  refine lv_aload_n S.1 S.2.1 dX7_init_75 rfl (lv_at hl 1 rfl) ?_
  refine y_newO (C := RX1) (T := TX1) (N := 3) (ci := 1) (fs := [.null, .null, .null]) S Z tyX1 tyX1_ok i_X7_init_X1 m_X7_init_c34 m_X7_init_iX1_ m_X7_init_zRX1 rfl (fun j hj => by rcases (show j = 0 ∨ j = 1 ∨ j = 2 by omega) with rfl | rfl | rfl <;> rfl) (Nat.le_of_ble_eq_true rfl) (Nat.le_of_ble_eq_true rfl) dX7_init_76 (fun q35 H Z => ?_)
  have Z : yZ G (w.set k0 (ad, .inr (7, [.ref (q1), .ref (q4), .ref (q10), .null, .int 0, .int 0, .int 0])) ++ [(q1, .inr (4, [.ref (q2), .ref (q3)])), (q2, .inl (gC G 0, 8, .inl (fil (fun _ => 0) (-1) 8))), (q3, .inl (gC G 0, 8, .inl (fil (fun _ => 0) (-1) 8))), (q4, .inr (5, [.ref (q1), .ref (q5), .ref (q6), .ref (q7), .ref (q8), .ref (q9)])), (q5, .inl (gC G 0, 64, .inl (fil (fun _ => 0) (-1) 64))), (q6, .inl (gC G 0, 64, .inl (fun _ => 0))), (q7, .inl (gC G 0, 64, .inl (fun _ => 0))), (q8, .inl (gC G 0, 92, .inl (fil (fun _ => 0) (-1) 92))), (q9, .inl (gC G 0, 92, .inl (fun _ => 0))), (q10, .inl (gC G 2, 3, .inr (.inr (.inr (.inr (va_up (va_up (va_up (fun _ => none) 0 (some q11)) 1 (some q19)) 2 (some q27))))))), (q11, .inr (3, [.ref (q12), .ref (q18), .int (nI 1)])), (q12, .inr (5, [.ref (q1), .ref (q13), .ref (q14), .ref (q15), .ref (q16), .ref (q17)])), (q13, .inl (gC G 0, 64, .inl (fil (fun _ => 0) (-1) 64))), (q14, .inl (gC G 0, 64, .inl (fun _ => 0))), (q15, .inl (gC G 0, 64, .inl (fun _ => 0))), (q16, .inl (gC G 0, 92, .inl (fil (fun _ => 0) (-1) 92))), (q17, .inl (gC G 0, 92, .inl (fun _ => 0))), (q18, .inr (0, [.int (nI 0), .ref (gX G 0), .int 0])), (q19, .inr (3, [.ref (q20), .ref (q26), .int (nI 1)])), (q20, .inr (5, [.ref (q1), .ref (q21), .ref (q22), .ref (q23), .ref (q24), .ref (q25)])), (q21, .inl (gC G 0, 64, .inl (fil (fun _ => 0) (-1) 64))), (q22, .inl (gC G 0, 64, .inl (fun _ => 0))), (q23, .inl (gC G 0, 64, .inl (fun _ => 0))), (q24, .inl (gC G 0, 92, .inl (fil (fun _ => 0) (-1) 92))), (q25, .inl (gC G 0, 92, .inl (fun _ => 0))), (q26, .inr (0, [.int (nI 0), .ref (gX G 0), .int 0])), (q27, .inr (3, [.ref (q28), .ref (q34), .int (nI 1)])), (q28, .inr (5, [.ref (q1), .ref (q29), .ref (q30), .ref (q31), .ref (q32), .ref (q33)])), (q29, .inl (gC G 0, 64, .inl (fil (fun _ => 0) (-1) 64))), (q30, .inl (gC G 0, 64, .inl (fun _ => 0))), (q31, .inl (gC G 0, 64, .inl (fun _ => 0))), (q32, .inl (gC G 0, 92, .inl (fil (fun _ => 0) (-1) 92))), (q33, .inl (gC G 0, 92, .inl (fun _ => 0))), (q34, .inr (0, [.int (nI 0), .ref (gX G 0), .int 0])), (q35, .inr (1, [.null, .null, .null]))]) s H locs := by rw [List.append_assoc] at Z; exact Z
  refine lv_dup S.1 S.2.1 dX7_init_79 rfl ?_
  obtain ⟨w9, hw9⟩ : ∃ q, q = w.set k0 (ad, .inr (7, [.ref (q1), .ref (q4), .ref (q10), .null, .int 0, .int 0, .int 0])) ++ [(q1, .inr (4, [.ref (q2), .ref (q3)])), (q2, .inl (gC G 0, 8, .inl (fil (fun _ => 0) (-1) 8))), (q3, .inl (gC G 0, 8, .inl (fil (fun _ => 0) (-1) 8))), (q4, .inr (5, [.ref (q1), .ref (q5), .ref (q6), .ref (q7), .ref (q8), .ref (q9)])), (q5, .inl (gC G 0, 64, .inl (fil (fun _ => 0) (-1) 64))), (q6, .inl (gC G 0, 64, .inl (fun _ => 0))), (q7, .inl (gC G 0, 64, .inl (fun _ => 0))), (q8, .inl (gC G 0, 92, .inl (fil (fun _ => 0) (-1) 92))), (q9, .inl (gC G 0, 92, .inl (fun _ => 0))), (q10, .inl (gC G 2, 3, .inr (.inr (.inr (.inr (va_up (va_up (va_up (fun _ => none) 0 (some q11)) 1 (some q19)) 2 (some q27))))))), (q11, .inr (3, [.ref (q12), .ref (q18), .int (nI 1)])), (q12, .inr (5, [.ref (q1), .ref (q13), .ref (q14), .ref (q15), .ref (q16), .ref (q17)])), (q13, .inl (gC G 0, 64, .inl (fil (fun _ => 0) (-1) 64))), (q14, .inl (gC G 0, 64, .inl (fun _ => 0))), (q15, .inl (gC G 0, 64, .inl (fun _ => 0))), (q16, .inl (gC G 0, 92, .inl (fil (fun _ => 0) (-1) 92))), (q17, .inl (gC G 0, 92, .inl (fun _ => 0))), (q18, .inr (0, [.int (nI 0), .ref (gX G 0), .int 0])), (q19, .inr (3, [.ref (q20), .ref (q26), .int (nI 1)])), (q20, .inr (5, [.ref (q1), .ref (q21), .ref (q22), .ref (q23), .ref (q24), .ref (q25)])), (q21, .inl (gC G 0, 64, .inl (fil (fun _ => 0) (-1) 64))), (q22, .inl (gC G 0, 64, .inl (fun _ => 0))), (q23, .inl (gC G 0, 64, .inl (fun _ => 0))), (q24, .inl (gC G 0, 92, .inl (fil (fun _ => 0) (-1) 92))), (q25, .inl (gC G 0, 92, .inl (fun _ => 0))), (q26, .inr (0, [.int (nI 0), .ref (gX G 0), .int 0])), (q27, .inr (3, [.ref (q28), .ref (q34), .int (nI 1)])), (q28, .inr (5, [.ref (q1), .ref (q29), .ref (q30), .ref (q31), .ref (q32), .ref (q33)])), (q29, .inl (gC G 0, 64, .inl (fil (fun _ => 0) (-1) 64))), (q30, .inl (gC G 0, 64, .inl (fun _ => 0))), (q31, .inl (gC G 0, 64, .inl (fun _ => 0))), (q32, .inl (gC G 0, 92, .inl (fil (fun _ => 0) (-1) 92))), (q33, .inl (gC G 0, 92, .inl (fun _ => 0))), (q34, .inr (0, [.int (nI 0), .ref (gX G 0), .int 0])), (q35, .inr (1, [.null, .null, .null]))] := ⟨_, rfl⟩
  rw [← hw9] at Z
  have hk9 : w9[((w.set k0 (ad, .inr (7, [.ref (q1), .ref (q4), .ref (q10), .null, .int 0, .int 0, .int 0]))).length + 34)]? = some (q35, .inr (1, [.null, .null, .null])) := by rw [hw9]; exact ya rfl
  refine va_callv (va_runIN (As := []) (rest := [.ref (q35), .ref (ad)]) S (k_X1_init l G w9 q35 ((w.set k0 (ad, .inr (7, [.ref (q1), .ref (q4), .ref (q10), .null, .int 0, .int 0, .int 0]))).length + 34)  hk9) ⟨va_cnB 0 S.2.2.2.2 gX7_init_X1_init_n36 rfl rfl rfl (Z.2.1.1.2.1 _ n_RX7_36) (S.2.2.2.2 _ m_X7_init_zRX1) hy_X1_init ⟨Nat.le_of_ble_eq_true rfl, Nat.le_of_ble_eq_true rfl⟩, rfl, S.2.2.2.2 _ m_X7_init_nX1_init⟩ (yPc_S Z) rfl rfl hl.1 rfl (lv_room (Nat.le_of_ble_eq_true rfl)) dX7_init_80 ⟨Nat.le_of_ble_eq_true rfl, Nat.le_of_ble_eq_true rfl⟩) Z.2.2.2.2 (fun _ _ h => h) (fun _ h => h) (fun u_13 T9 H1 locs1 hT9 hvm hw hB hz hkk9 hS => ?_)
  obtain ⟨q36, q37, q38, rfl⟩ := hw
  have Z := yZ_call Z hB hT9 hS
  clear hB hT9 hS hkk9 hz hvm T9
  revert Z; generalize H1 = H; generalize locs1 = locs; intro Z
  have Z : yZ G (w.set k0 (ad, .inr (7, [.ref (q1), .ref (q4), .ref (q10), .null, .int 0, .int 0, .int 0])) ++ [(q1, .inr (4, [.ref (q2), .ref (q3)])), (q2, .inl (gC G 0, 8, .inl (fil (fun _ => 0) (-1) 8))), (q3, .inl (gC G 0, 8, .inl (fil (fun _ => 0) (-1) 8))), (q4, .inr (5, [.ref (q1), .ref (q5), .ref (q6), .ref (q7), .ref (q8), .ref (q9)])), (q5, .inl (gC G 0, 64, .inl (fil (fun _ => 0) (-1) 64))), (q6, .inl (gC G 0, 64, .inl (fun _ => 0))), (q7, .inl (gC G 0, 64, .inl (fun _ => 0))), (q8, .inl (gC G 0, 92, .inl (fil (fun _ => 0) (-1) 92))), (q9, .inl (gC G 0, 92, .inl (fun _ => 0))), (q10, .inl (gC G 2, 3, .inr (.inr (.inr (.inr (va_up (va_up (va_up (fun _ => none) 0 (some q11)) 1 (some q19)) 2 (some q27))))))), (q11, .inr (3, [.ref (q12), .ref (q18), .int (nI 1)])), (q12, .inr (5, [.ref (q1), .ref (q13), .ref (q14), .ref (q15), .ref (q16), .ref (q17)])), (q13, .inl (gC G 0, 64, .inl (fil (fun _ => 0) (-1) 64))), (q14, .inl (gC G 0, 64, .inl (fun _ => 0))), (q15, .inl (gC G 0, 64, .inl (fun _ => 0))), (q16, .inl (gC G 0, 92, .inl (fil (fun _ => 0) (-1) 92))), (q17, .inl (gC G 0, 92, .inl (fun _ => 0))), (q18, .inr (0, [.int (nI 0), .ref (gX G 0), .int 0])), (q19, .inr (3, [.ref (q20), .ref (q26), .int (nI 1)])), (q20, .inr (5, [.ref (q1), .ref (q21), .ref (q22), .ref (q23), .ref (q24), .ref (q25)])), (q21, .inl (gC G 0, 64, .inl (fil (fun _ => 0) (-1) 64))), (q22, .inl (gC G 0, 64, .inl (fun _ => 0))), (q23, .inl (gC G 0, 64, .inl (fun _ => 0))), (q24, .inl (gC G 0, 92, .inl (fil (fun _ => 0) (-1) 92))), (q25, .inl (gC G 0, 92, .inl (fun _ => 0))), (q26, .inr (0, [.int (nI 0), .ref (gX G 0), .int 0])), (q27, .inr (3, [.ref (q28), .ref (q34), .int (nI 1)])), (q28, .inr (5, [.ref (q1), .ref (q29), .ref (q30), .ref (q31), .ref (q32), .ref (q33)])), (q29, .inl (gC G 0, 64, .inl (fil (fun _ => 0) (-1) 64))), (q30, .inl (gC G 0, 64, .inl (fun _ => 0))), (q31, .inl (gC G 0, 64, .inl (fun _ => 0))), (q32, .inl (gC G 0, 92, .inl (fil (fun _ => 0) (-1) 92))), (q33, .inl (gC G 0, 92, .inl (fun _ => 0))), (q34, .inr (0, [.int (nI 0), .ref (gX G 0), .int 0])), (q35, .inr (1, [.ref (q36), .ref (q37), .ref (q38)])), (q36, .inl (gC G 0, 32, .inl (fun _ => 0))), (q37, .inl (gC G 0, 32, .inl (fun _ => 0))), (q38, .inl (gC G 1, 32, .inl (fun _ => 0)))]) s H locs := by rw [hw9, ys, List.append_assoc] at Z; exact Z
  refine W.widen (k := 38) (n := 1666) (by first | decide | omega) (by first | decide | omega) ?_
  refine y_putF (C := RX7) (T := TX7) (N := 7) (ci := 7) S Z (yn_g hk) rfl i_X7_init_X7 tyX7 tyX7_ok nmX7 3 (by decide) m_X7_init_f37 rfl rfl hini rfl (ty := tyX7 3) (v := .ref (q35)) (tyX7_ok 3 (by decide)) (by first | rfl | decide) (by first | rfl | decide) (Nat.le_of_ble_eq_true rfl) dX7_init_83 (fun H locs Z => ?_)
  have Z : yZ G (w.set k0 (ad, .inr (7, [.ref (q1), .ref (q4), .ref (q10), .ref (q35), .int 0, .int 0, .int 0])) ++ [(q1, .inr (4, [.ref (q2), .ref (q3)])), (q2, .inl (gC G 0, 8, .inl (fil (fun _ => 0) (-1) 8))), (q3, .inl (gC G 0, 8, .inl (fil (fun _ => 0) (-1) 8))), (q4, .inr (5, [.ref (q1), .ref (q5), .ref (q6), .ref (q7), .ref (q8), .ref (q9)])), (q5, .inl (gC G 0, 64, .inl (fil (fun _ => 0) (-1) 64))), (q6, .inl (gC G 0, 64, .inl (fun _ => 0))), (q7, .inl (gC G 0, 64, .inl (fun _ => 0))), (q8, .inl (gC G 0, 92, .inl (fil (fun _ => 0) (-1) 92))), (q9, .inl (gC G 0, 92, .inl (fun _ => 0))), (q10, .inl (gC G 2, 3, .inr (.inr (.inr (.inr (va_up (va_up (va_up (fun _ => none) 0 (some q11)) 1 (some q19)) 2 (some q27))))))), (q11, .inr (3, [.ref (q12), .ref (q18), .int (nI 1)])), (q12, .inr (5, [.ref (q1), .ref (q13), .ref (q14), .ref (q15), .ref (q16), .ref (q17)])), (q13, .inl (gC G 0, 64, .inl (fil (fun _ => 0) (-1) 64))), (q14, .inl (gC G 0, 64, .inl (fun _ => 0))), (q15, .inl (gC G 0, 64, .inl (fun _ => 0))), (q16, .inl (gC G 0, 92, .inl (fil (fun _ => 0) (-1) 92))), (q17, .inl (gC G 0, 92, .inl (fun _ => 0))), (q18, .inr (0, [.int (nI 0), .ref (gX G 0), .int 0])), (q19, .inr (3, [.ref (q20), .ref (q26), .int (nI 1)])), (q20, .inr (5, [.ref (q1), .ref (q21), .ref (q22), .ref (q23), .ref (q24), .ref (q25)])), (q21, .inl (gC G 0, 64, .inl (fil (fun _ => 0) (-1) 64))), (q22, .inl (gC G 0, 64, .inl (fun _ => 0))), (q23, .inl (gC G 0, 64, .inl (fun _ => 0))), (q24, .inl (gC G 0, 92, .inl (fil (fun _ => 0) (-1) 92))), (q25, .inl (gC G 0, 92, .inl (fun _ => 0))), (q26, .inr (0, [.int (nI 0), .ref (gX G 0), .int 0])), (q27, .inr (3, [.ref (q28), .ref (q34), .int (nI 1)])), (q28, .inr (5, [.ref (q1), .ref (q29), .ref (q30), .ref (q31), .ref (q32), .ref (q33)])), (q29, .inl (gC G 0, 64, .inl (fil (fun _ => 0) (-1) 64))), (q30, .inl (gC G 0, 64, .inl (fun _ => 0))), (q31, .inl (gC G 0, 64, .inl (fun _ => 0))), (q32, .inl (gC G 0, 92, .inl (fil (fun _ => 0) (-1) 92))), (q33, .inl (gC G 0, 92, .inl (fun _ => 0))), (q34, .inr (0, [.int (nI 0), .ref (gX G 0), .int 0])), (q35, .inr (1, [.ref (q36), .ref (q37), .ref (q38)])), (q36, .inl (gC G 0, 32, .inl (fun _ => 0))), (q37, .inl (gC G 0, 32, .inl (fun _ => 0))), (q38, .inl (gC G 1, 32, .inl (fun _ => 0)))]) s H locs := by rw [yn_s hk] at Z; exact Z
  refine lv_aload_n S.1 S.2.1 dX7_init_86 rfl (lv_at hl 1 rfl) ?_
  refine lv_iconst (v := nI 0) S.1 S.2.1 dX7_init_87 (by first | decide | rfl) ?_
  refine y_put (C := RX7) (T := TX7) (N := 7) (ci := 7) S Z (yn_g hk) rfl i_X7_init_X7 tyX7 tyX7_ok nmX7 4 (by decide) m_X7_init_f41 rfl rfl (ty := tyX7 4) (v := .int (nI 0)) (tyX7_ok 4 (by decide)) (by first | rfl | decide) (by first | rfl | decide) (Nat.le_of_ble_eq_true rfl) dX7_init_88 (fun H locs Z => ?_)
  have Z : yZ G (w.set k0 (ad, .inr (7, [.ref (q1), .ref (q4), .ref (q10), .ref (q35), .int (nI 0), .int 0, .int 0])) ++ [(q1, .inr (4, [.ref (q2), .ref (q3)])), (q2, .inl (gC G 0, 8, .inl (fil (fun _ => 0) (-1) 8))), (q3, .inl (gC G 0, 8, .inl (fil (fun _ => 0) (-1) 8))), (q4, .inr (5, [.ref (q1), .ref (q5), .ref (q6), .ref (q7), .ref (q8), .ref (q9)])), (q5, .inl (gC G 0, 64, .inl (fil (fun _ => 0) (-1) 64))), (q6, .inl (gC G 0, 64, .inl (fun _ => 0))), (q7, .inl (gC G 0, 64, .inl (fun _ => 0))), (q8, .inl (gC G 0, 92, .inl (fil (fun _ => 0) (-1) 92))), (q9, .inl (gC G 0, 92, .inl (fun _ => 0))), (q10, .inl (gC G 2, 3, .inr (.inr (.inr (.inr (va_up (va_up (va_up (fun _ => none) 0 (some q11)) 1 (some q19)) 2 (some q27))))))), (q11, .inr (3, [.ref (q12), .ref (q18), .int (nI 1)])), (q12, .inr (5, [.ref (q1), .ref (q13), .ref (q14), .ref (q15), .ref (q16), .ref (q17)])), (q13, .inl (gC G 0, 64, .inl (fil (fun _ => 0) (-1) 64))), (q14, .inl (gC G 0, 64, .inl (fun _ => 0))), (q15, .inl (gC G 0, 64, .inl (fun _ => 0))), (q16, .inl (gC G 0, 92, .inl (fil (fun _ => 0) (-1) 92))), (q17, .inl (gC G 0, 92, .inl (fun _ => 0))), (q18, .inr (0, [.int (nI 0), .ref (gX G 0), .int 0])), (q19, .inr (3, [.ref (q20), .ref (q26), .int (nI 1)])), (q20, .inr (5, [.ref (q1), .ref (q21), .ref (q22), .ref (q23), .ref (q24), .ref (q25)])), (q21, .inl (gC G 0, 64, .inl (fil (fun _ => 0) (-1) 64))), (q22, .inl (gC G 0, 64, .inl (fun _ => 0))), (q23, .inl (gC G 0, 64, .inl (fun _ => 0))), (q24, .inl (gC G 0, 92, .inl (fil (fun _ => 0) (-1) 92))), (q25, .inl (gC G 0, 92, .inl (fun _ => 0))), (q26, .inr (0, [.int (nI 0), .ref (gX G 0), .int 0])), (q27, .inr (3, [.ref (q28), .ref (q34), .int (nI 1)])), (q28, .inr (5, [.ref (q1), .ref (q29), .ref (q30), .ref (q31), .ref (q32), .ref (q33)])), (q29, .inl (gC G 0, 64, .inl (fil (fun _ => 0) (-1) 64))), (q30, .inl (gC G 0, 64, .inl (fun _ => 0))), (q31, .inl (gC G 0, 64, .inl (fun _ => 0))), (q32, .inl (gC G 0, 92, .inl (fil (fun _ => 0) (-1) 92))), (q33, .inl (gC G 0, 92, .inl (fun _ => 0))), (q34, .inr (0, [.int (nI 0), .ref (gX G 0), .int 0])), (q35, .inr (1, [.ref (q36), .ref (q37), .ref (q38)])), (q36, .inl (gC G 0, 32, .inl (fun _ => 0))), (q37, .inl (gC G 0, 32, .inl (fun _ => 0))), (q38, .inl (gC G 1, 32, .inl (fun _ => 0)))]) s H locs := by rw [yn_s hk] at Z; exact Z
  refine lv_aload_n S.1 S.2.1 dX7_init_91 rfl (lv_at hl 1 rfl) ?_
  refine lv_bipush (v := nI 10) S.1 S.2.1 dX7_init_92 (by first | decide | rfl) ?_
  refine y_put (C := RX7) (T := TX7) (N := 7) (ci := 7) S Z (yn_g hk) rfl i_X7_init_X7 tyX7 tyX7_ok nmX7 5 (by decide) m_X7_init_f45 rfl rfl (ty := tyX7 5) (v := .int (nI 10)) (tyX7_ok 5 (by decide)) (by first | rfl | decide) (by first | rfl | decide) (Nat.le_of_ble_eq_true rfl) dX7_init_94 (fun H locs Z => ?_)
  have Z : yZ G (w.set k0 (ad, .inr (7, [.ref (q1), .ref (q4), .ref (q10), .ref (q35), .int (nI 0), .int (nI 10), .int 0])) ++ [(q1, .inr (4, [.ref (q2), .ref (q3)])), (q2, .inl (gC G 0, 8, .inl (fil (fun _ => 0) (-1) 8))), (q3, .inl (gC G 0, 8, .inl (fil (fun _ => 0) (-1) 8))), (q4, .inr (5, [.ref (q1), .ref (q5), .ref (q6), .ref (q7), .ref (q8), .ref (q9)])), (q5, .inl (gC G 0, 64, .inl (fil (fun _ => 0) (-1) 64))), (q6, .inl (gC G 0, 64, .inl (fun _ => 0))), (q7, .inl (gC G 0, 64, .inl (fun _ => 0))), (q8, .inl (gC G 0, 92, .inl (fil (fun _ => 0) (-1) 92))), (q9, .inl (gC G 0, 92, .inl (fun _ => 0))), (q10, .inl (gC G 2, 3, .inr (.inr (.inr (.inr (va_up (va_up (va_up (fun _ => none) 0 (some q11)) 1 (some q19)) 2 (some q27))))))), (q11, .inr (3, [.ref (q12), .ref (q18), .int (nI 1)])), (q12, .inr (5, [.ref (q1), .ref (q13), .ref (q14), .ref (q15), .ref (q16), .ref (q17)])), (q13, .inl (gC G 0, 64, .inl (fil (fun _ => 0) (-1) 64))), (q14, .inl (gC G 0, 64, .inl (fun _ => 0))), (q15, .inl (gC G 0, 64, .inl (fun _ => 0))), (q16, .inl (gC G 0, 92, .inl (fil (fun _ => 0) (-1) 92))), (q17, .inl (gC G 0, 92, .inl (fun _ => 0))), (q18, .inr (0, [.int (nI 0), .ref (gX G 0), .int 0])), (q19, .inr (3, [.ref (q20), .ref (q26), .int (nI 1)])), (q20, .inr (5, [.ref (q1), .ref (q21), .ref (q22), .ref (q23), .ref (q24), .ref (q25)])), (q21, .inl (gC G 0, 64, .inl (fil (fun _ => 0) (-1) 64))), (q22, .inl (gC G 0, 64, .inl (fun _ => 0))), (q23, .inl (gC G 0, 64, .inl (fun _ => 0))), (q24, .inl (gC G 0, 92, .inl (fil (fun _ => 0) (-1) 92))), (q25, .inl (gC G 0, 92, .inl (fun _ => 0))), (q26, .inr (0, [.int (nI 0), .ref (gX G 0), .int 0])), (q27, .inr (3, [.ref (q28), .ref (q34), .int (nI 1)])), (q28, .inr (5, [.ref (q1), .ref (q29), .ref (q30), .ref (q31), .ref (q32), .ref (q33)])), (q29, .inl (gC G 0, 64, .inl (fil (fun _ => 0) (-1) 64))), (q30, .inl (gC G 0, 64, .inl (fun _ => 0))), (q31, .inl (gC G 0, 64, .inl (fun _ => 0))), (q32, .inl (gC G 0, 92, .inl (fil (fun _ => 0) (-1) 92))), (q33, .inl (gC G 0, 92, .inl (fun _ => 0))), (q34, .inr (0, [.int (nI 0), .ref (gX G 0), .int 0])), (q35, .inr (1, [.ref (q36), .ref (q37), .ref (q38)])), (q36, .inl (gC G 0, 32, .inl (fun _ => 0))), (q37, .inl (gC G 0, 32, .inl (fun _ => 0))), (q38, .inl (gC G 1, 32, .inl (fun _ => 0)))]) s H locs := by rw [yn_s hk] at Z; exact Z
  refine lv_aload_n S.1 S.2.1 dX7_init_97 rfl (lv_at hl 1 rfl) ?_
  refine lv_iconst (v := nI 0) S.1 S.2.1 dX7_init_98 (by first | decide | rfl) ?_
  refine y_put (C := RX7) (T := TX7) (N := 7) (ci := 7) S Z (yn_g hk) rfl i_X7_init_X7 tyX7 tyX7_ok nmX7 6 (by decide) m_X7_init_f48 rfl rfl (ty := tyX7 6) (v := .int (nI 0)) (tyX7_ok 6 (by decide)) (by first | rfl | decide) (by first | rfl | decide) (Nat.le_of_ble_eq_true rfl) dX7_init_99 (fun H locs Z => ?_)
  have Z : yZ G (w.set k0 (ad, .inr (7, [.ref (q1), .ref (q4), .ref (q10), .ref (q35), .int (nI 0), .int (nI 10), .int (nI 0)])) ++ [(q1, .inr (4, [.ref (q2), .ref (q3)])), (q2, .inl (gC G 0, 8, .inl (fil (fun _ => 0) (-1) 8))), (q3, .inl (gC G 0, 8, .inl (fil (fun _ => 0) (-1) 8))), (q4, .inr (5, [.ref (q1), .ref (q5), .ref (q6), .ref (q7), .ref (q8), .ref (q9)])), (q5, .inl (gC G 0, 64, .inl (fil (fun _ => 0) (-1) 64))), (q6, .inl (gC G 0, 64, .inl (fun _ => 0))), (q7, .inl (gC G 0, 64, .inl (fun _ => 0))), (q8, .inl (gC G 0, 92, .inl (fil (fun _ => 0) (-1) 92))), (q9, .inl (gC G 0, 92, .inl (fun _ => 0))), (q10, .inl (gC G 2, 3, .inr (.inr (.inr (.inr (va_up (va_up (va_up (fun _ => none) 0 (some q11)) 1 (some q19)) 2 (some q27))))))), (q11, .inr (3, [.ref (q12), .ref (q18), .int (nI 1)])), (q12, .inr (5, [.ref (q1), .ref (q13), .ref (q14), .ref (q15), .ref (q16), .ref (q17)])), (q13, .inl (gC G 0, 64, .inl (fil (fun _ => 0) (-1) 64))), (q14, .inl (gC G 0, 64, .inl (fun _ => 0))), (q15, .inl (gC G 0, 64, .inl (fun _ => 0))), (q16, .inl (gC G 0, 92, .inl (fil (fun _ => 0) (-1) 92))), (q17, .inl (gC G 0, 92, .inl (fun _ => 0))), (q18, .inr (0, [.int (nI 0), .ref (gX G 0), .int 0])), (q19, .inr (3, [.ref (q20), .ref (q26), .int (nI 1)])), (q20, .inr (5, [.ref (q1), .ref (q21), .ref (q22), .ref (q23), .ref (q24), .ref (q25)])), (q21, .inl (gC G 0, 64, .inl (fil (fun _ => 0) (-1) 64))), (q22, .inl (gC G 0, 64, .inl (fun _ => 0))), (q23, .inl (gC G 0, 64, .inl (fun _ => 0))), (q24, .inl (gC G 0, 92, .inl (fil (fun _ => 0) (-1) 92))), (q25, .inl (gC G 0, 92, .inl (fun _ => 0))), (q26, .inr (0, [.int (nI 0), .ref (gX G 0), .int 0])), (q27, .inr (3, [.ref (q28), .ref (q34), .int (nI 1)])), (q28, .inr (5, [.ref (q1), .ref (q29), .ref (q30), .ref (q31), .ref (q32), .ref (q33)])), (q29, .inl (gC G 0, 64, .inl (fil (fun _ => 0) (-1) 64))), (q30, .inl (gC G 0, 64, .inl (fun _ => 0))), (q31, .inl (gC G 0, 64, .inl (fun _ => 0))), (q32, .inl (gC G 0, 92, .inl (fil (fun _ => 0) (-1) 92))), (q33, .inl (gC G 0, 92, .inl (fun _ => 0))), (q34, .inr (0, [.int (nI 0), .ref (gX G 0), .int 0])), (q35, .inr (1, [.ref (q36), .ref (q37), .ref (q38)])), (q36, .inl (gC G 0, 32, .inl (fun _ => 0))), (q37, .inl (gC G 0, 32, .inl (fun _ => 0))), (q38, .inl (gC G 1, 32, .inl (fun _ => 0)))]) s H locs := by rw [yn_s hk] at Z; exact Z
  rw [hQ]
  exact W.vret S.1 S.2.1 hret (fun _ hT9 hW => ⟨⟨w.set k0 (ad, .inr (7, [.ref (q1), .ref (q4), .ref (q10), .ref (q35), .int (nI 0), .int (nI 10), .int (nI 0)])) ++ [(q1, .inr (4, [.ref (q2), .ref (q3)])), (q2, .inl (gC G 0, 8, .inl (fil (fun _ => 0) (-1) 8))), (q3, .inl (gC G 0, 8, .inl (fil (fun _ => 0) (-1) 8))), (q4, .inr (5, [.ref (q1), .ref (q5), .ref (q6), .ref (q7), .ref (q8), .ref (q9)])), (q5, .inl (gC G 0, 64, .inl (fil (fun _ => 0) (-1) 64))), (q6, .inl (gC G 0, 64, .inl (fun _ => 0))), (q7, .inl (gC G 0, 64, .inl (fun _ => 0))), (q8, .inl (gC G 0, 92, .inl (fil (fun _ => 0) (-1) 92))), (q9, .inl (gC G 0, 92, .inl (fun _ => 0))), (q10, .inl (gC G 2, 3, .inr (.inr (.inr (.inr (va_up (va_up (va_up (fun _ => none) 0 (some q11)) 1 (some q19)) 2 (some q27))))))), (q11, .inr (3, [.ref (q12), .ref (q18), .int (nI 1)])), (q12, .inr (5, [.ref (q1), .ref (q13), .ref (q14), .ref (q15), .ref (q16), .ref (q17)])), (q13, .inl (gC G 0, 64, .inl (fil (fun _ => 0) (-1) 64))), (q14, .inl (gC G 0, 64, .inl (fun _ => 0))), (q15, .inl (gC G 0, 64, .inl (fun _ => 0))), (q16, .inl (gC G 0, 92, .inl (fil (fun _ => 0) (-1) 92))), (q17, .inl (gC G 0, 92, .inl (fun _ => 0))), (q18, .inr (0, [.int (nI 0), .ref (gX G 0), .int 0])), (q19, .inr (3, [.ref (q20), .ref (q26), .int (nI 1)])), (q20, .inr (5, [.ref (q1), .ref (q21), .ref (q22), .ref (q23), .ref (q24), .ref (q25)])), (q21, .inl (gC G 0, 64, .inl (fil (fun _ => 0) (-1) 64))), (q22, .inl (gC G 0, 64, .inl (fun _ => 0))), (q23, .inl (gC G 0, 64, .inl (fun _ => 0))), (q24, .inl (gC G 0, 92, .inl (fil (fun _ => 0) (-1) 92))), (q25, .inl (gC G 0, 92, .inl (fun _ => 0))), (q26, .inr (0, [.int (nI 0), .ref (gX G 0), .int 0])), (q27, .inr (3, [.ref (q28), .ref (q34), .int (nI 1)])), (q28, .inr (5, [.ref (q1), .ref (q29), .ref (q30), .ref (q31), .ref (q32), .ref (q33)])), (q29, .inl (gC G 0, 64, .inl (fil (fun _ => 0) (-1) 64))), (q30, .inl (gC G 0, 64, .inl (fun _ => 0))), (q31, .inl (gC G 0, 64, .inl (fun _ => 0))), (q32, .inl (gC G 0, 92, .inl (fil (fun _ => 0) (-1) 92))), (q33, .inl (gC G 0, 92, .inl (fun _ => 0))), (q34, .inr (0, [.int (nI 0), .ref (gX G 0), .int 0])), (q35, .inr (1, [.ref (q36), .ref (q37), .ref (q38)])), (q36, .inl (gC G 0, 32, .inl (fun _ => 0))), (q37, .inl (gC G 0, 32, .inl (fun _ => 0))), (q38, .inl (gC G 1, 32, .inl (fun _ => 0)))], rfl, ⟨q1, q2, q3, q4, q5, q6, q7, q8, q9, q10, q11, q12, q13, q14, q15, q16, q17, q18, q19, q20, q21, q22, q23, q24, q25, q26, q27, q28, q29, q30, q31, q32, q33, q34, q35, q36, q37, q38, rfl⟩, yZ_I Z hT9 hW⟩, Z.2.2.2.2.F hT9⟩) Z.2.2.2.2.2.2 dX7_init_102
