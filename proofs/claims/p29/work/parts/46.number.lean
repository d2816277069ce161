theorem i_X4_numberOf_X4 : ∀ w ∈ wsX40, w ∈ wsX4_numberOf := by decide +kernel
theorem m_X4_numberOf_f9 : Cond.fieldLink RX4 9 "WideCell$Ranges" "firsts" "[I" ∈ wsX4_numberOf := by decide +kernel
theorem m_X4_numberOf_f15 : Cond.fieldLink RX4 15 "WideCell$Ranges" "lasts" "[I" ∈ wsX4_numberOf := by decide +kernel
abbrev rm_k_X4_numberOf : Room := { frames := 0, cells := 0, slots := 0, locals := 0 }
set_option maxHeartbeats 4000000 in
set_option maxRecDepth 100000 in
theorem k_X4_numberOf (l : Launch) (G : wG) (σ : cS) (μ : mS) (o : Nat → Int64) (a : Nat) (b : Nat)  : Met l yX4_numberOf wsX4_numberOf rm_k_X4_numberOf (wPc G σ μ o [.ref (gA G 1), .int (nI a), .int (nI b)]) (va_Qi (fun (rr : Int32) (u : cS × mS) => rr = rgR σ a b ∧ u = (rgS σ a b, μ)) (fun u t => wI G u.1 u.2 o t) (gP G)) 0 0 (gP G) := by
  refine Met.ofW (cc := cX4_numberOf) (maxL := 4) (ret := (some .int)) (by decide) rfl ?_
  intro p e s m args below meth c s₁ B hml hv
  obtain ⟨hargs, hI⟩ := hv
  have S : CallFix p m c cX4_numberOf 4 s args wsX4_numberOf RX4 := ⟨B.exec, B.bytes, hml, findClass_of_methodNamed B.named, atoms_spec (ws := wsX4_numberOf) B.pre⟩
  have hret := B.returns
  have hlocks := B.notSynchronized
  have Z := wZ_0 hI
  clear hI
  obtain ⟨Q, hQ⟩ : ∃ Q, Q = MQ below (va_Qi (fun (rr : Int32) (u : cS × mS) => rr = rgR σ a b ∧ u = (rgS σ a b, μ)) (fun u t => wI G u.1 u.2 o t) (gP G)) args s 0 0 (gP G) := ⟨_, rfl⟩
  rw [← hQ]
  have hl := lv_entry [.ref (gA G 1), .int (nI a), .int (nI b)] (n := 4) (Nat.le_of_ble_eq_true rfl)
  rw [show entryFrame m args 4 = entryFrame m ([.ref (gA G 1), .int (nI a), .int (nI b)] : List Value).toArray 4 from by rw [hargs], lg_entry_eq]
  generalize (lg_sl [.ref (gA G 1), .int (nI a), .int (nI b)] ++ List.replicate (4 - (lg_sl [.ref (gA G 1), .int (nI a), .int (nI b)]).length) Slot.unset).toArray = ls at hl ⊢
  have hl : lv_has ls 4 [(0, .ref (gA G 1)), (1, .int (nI a)), (2, .int (nI b))] := hl
  refine lv_iconst (v := nI 0) S.1 S.2.1 dX4_numberOf_0 (by decide) ?_
  refine lv_istore_n (lv' := [(3, .int (nI 0)), (0, .ref (gA G 1)), (1, .int (nI a)), (2, .int (nI b))]) S.1 S.2.1 dX4_numberOf_1 rfl hl (by decide) rfl (fun ls hl => ?_)
  have L_2 : ∀ (n : Nat) (i : Nat) (hi : i ≤ 8) (hg : rg σ a b (8 - i) i = rgi σ a b) (hn : 8 - i < n) (H : Heap) (locs : List Loc) (Z : wZ G (σ) (μ) o s H locs) (ls : Array Slot) (hl : lv_has ls 4 [(0, .ref (gA G 1)), (1, .int (nI a)), (2, .int (nI b)), (3, .int (nI i))]), W p l e (headSpec wsX4_numberOf rm_k_X4_numberOf).room s m args below meth c H locs 0 0 Q (F0 m 2 ls []) := by
    intro n
    induction n with
    | zero => intro i hi hg hn; omega
    | succ n ih_2 =>
      intro i hi hg hn H locs Z ls hl
      refine lv_iload_n S.1 S.2.1 dX4_numberOf_2 rfl (lv_at hl 3 rfl) ?_
      refine lv_bipush (v := nI 8) S.1 S.2.1 dX4_numberOf_3 (by decide) ?_
      refine r_icmpN_ge S (tgt := 60) (by omega) (by omega) dX4_numberOf_5 (by decide) (fun c_1 => ?_) (fun c_1 => ?_)
      · skip
        obtain rfl : i = 8 := by omega
        refine lv_iconst (v := -1) S.1 S.2.1 dX4_numberOf_60 (by decide) ?_
        rw [hQ]
        have q9 : (rgS σ a b : cS) = σ := by first | exact (rgA (by omega) hg (by assumption)).2 | exact (rgB (by omega) hg (by assumption) (by assumption) (by assumption)).2 | exact (rgC (by omega) (by omega) hg).2
        rw [← q9] at Z
        exact W.iret (v := -1) S.1 S.2.1 hret (fun _ hT9 hW => ⟨⟨_, (rgS σ a b, μ), rfl, ⟨(by first | exact (rgA (by omega) hg (by assumption)).1.symm | exact (rgB (by omega) hg (by assumption) (by assumption) (by assumption)).1.symm | exact (rgC (by omega) (by omega) hg).1.symm), rfl⟩, wZ_P Z hT9 hW⟩, Z.2.2.2.2.F hT9⟩) Z.2.2.2.2.2.2 dX4_numberOf_61
      · skip
        refine lv_aload_n S.1 S.2.1 dX4_numberOf_8 rfl (lv_at hl 0 rfl) ?_
        refine r_get (C := RX4) (T := TX4) (N := 2) (ci := 4) S Z (by decide) rfl rfl i_X4_numberOf_X4 0 (by decide) m_X4_numberOf_f9 rfl (v := .ref (gA G 2)) rfl dX4_numberOf_9 ?_
        refine lv_iload_n S.1 S.2.1 dX4_numberOf_12 rfl (lv_at hl 3 rfl) ?_
        refine r_ialdC S Z (n := 8) ⟨rfl, rfl⟩ (by omega) (by decide) dX4_numberOf_13 ?_
        refine lv_iconst (v := -1) S.1 S.2.1 dX4_numberOf_14 (by decide) ?_
        refine lv_icmp_ne (tgt := 32) S.1 S.2.1 dX4_numberOf_15 (by decide) (fun c_2 => ?_) (fun c_2 => ?_)
        · skip
          refine lv_aload_n S.1 S.2.1 dX4_numberOf_32 rfl (lv_at hl 0 rfl) ?_
          refine r_get (C := RX4) (T := TX4) (N := 2) (ci := 4) S Z (by decide) rfl rfl i_X4_numberOf_X4 0 (by decide) m_X4_numberOf_f9 rfl (v := .ref (gA G 2)) rfl dX4_numberOf_33 ?_
          refine lv_iload_n S.1 S.2.1 dX4_numberOf_36 rfl (lv_at hl 3 rfl) ?_
          refine r_ialdC S Z (n := 8) ⟨rfl, rfl⟩ (by omega) (by decide) dX4_numberOf_37 ?_
          refine lv_iload_n S.1 S.2.1 dX4_numberOf_38 rfl (lv_at hl 1 rfl) ?_
          refine lv_icmp_ne (tgt := 54) S.1 S.2.1 dX4_numberOf_39 (by decide) (fun c_3 => ?_) (fun c_3 => ?_)
          · skip
            refine lv_iinc (v := nI (i + 1)) (lv' := [(3, .int (nI (i + 1))), (0, .ref (gA G 1)), (1, .int (nI a)), (2, .int (nI b))]) S.1 S.2.1 dX4_numberOf_54 hl (k := 3) rfl (nI_inc rfl) (by decide) rfl (fun ls hl => ?_)
            refine lv_goto (tgt := 2) S.1 S.2.1 dX4_numberOf_57 (by decide) ?_
            exact ih_2 (i + 1) (by first | omega | exact Nat.zero_le _) (by first | exact rgN (by omega) hg (by assumption) (fun q_ => by first | exact absurd q_.1 (by assumption) | exact absurd q_.2 (by assumption)) | rfl) (by omega) _ _ Z ls (lv_sub hl [1, 2, 3, 0] rfl)
          · skip
            refine lv_aload_n S.1 S.2.1 dX4_numberOf_42 rfl (lv_at hl 0 rfl) ?_
            refine r_get (C := RX4) (T := TX4) (N := 2) (ci := 4) S Z (by decide) rfl rfl i_X4_numberOf_X4 1 (by decide) m_X4_numberOf_f15 rfl (v := .ref (gA G 3)) rfl dX4_numberOf_43 ?_
            refine lv_iload_n S.1 S.2.1 dX4_numberOf_46 rfl (lv_at hl 3 rfl) ?_
            refine r_ialdC S Z (n := 8) ⟨rfl, rfl⟩ (by omega) (by decide) dX4_numberOf_47 ?_
            refine lv_iload_n S.1 S.2.1 dX4_numberOf_48 rfl (lv_at hl 2 rfl) ?_
            refine lv_icmp_ne (tgt := 54) S.1 S.2.1 dX4_numberOf_49 (by decide) (fun c_4 => ?_) (fun c_4 => ?_)
            · skip
              refine lv_iinc (v := nI (i + 1)) (lv' := [(3, .int (nI (i + 1))), (0, .ref (gA G 1)), (1, .int (nI a)), (2, .int (nI b))]) S.1 S.2.1 dX4_numberOf_54 hl (k := 3) rfl (nI_inc rfl) (by decide) rfl (fun ls hl => ?_)
              refine lv_goto (tgt := 2) S.1 S.2.1 dX4_numberOf_57 (by decide) ?_
              exact ih_2 (i + 1) (by first | omega | exact Nat.zero_le _) (by first | exact rgN (by omega) hg (by assumption) (fun q_ => by first | exact absurd q_.1 (by assumption) | exact absurd q_.2 (by assumption)) | rfl) (by omega) _ _ Z ls (lv_sub hl [1, 2, 3, 0] rfl)
            · skip
              refine lv_iload_n S.1 S.2.1 dX4_numberOf_52 rfl (lv_at hl 3 rfl) ?_
              rw [hQ]
              have q9 : (rgS σ a b : cS) = σ := by first | exact (rgA (by omega) hg (by assumption)).2 | exact (rgB (by omega) hg (by assumption) (by assumption) (by assumption)).2 | exact (rgC (by omega) (by omega) hg).2
              rw [← q9] at Z
              exact W.iret (v := nI i) S.1 S.2.1 hret (fun _ hT9 hW => ⟨⟨_, (rgS σ a b, μ), rfl, ⟨(by first | exact (rgA (by omega) hg (by assumption)).1.symm | exact (rgB (by omega) hg (by assumption) (by assumption) (by assumption)).1.symm | exact (rgC (by omega) (by omega) hg).1.symm), rfl⟩, wZ_P Z hT9 hW⟩, Z.2.2.2.2.F hT9⟩) Z.2.2.2.2.2.2 dX4_numberOf_53
        · skip
          refine lv_aload_n S.1 S.2.1 dX4_numberOf_18 rfl (lv_at hl 0 rfl) ?_
          refine r_get (C := RX4) (T := TX4) (N := 2) (ci := 4) S Z (by decide) rfl rfl i_X4_numberOf_X4 0 (by decide) m_X4_numberOf_f9 rfl (v := .ref (gA G 2)) rfl dX4_numberOf_19 ?_
          refine lv_iload_n S.1 S.2.1 dX4_numberOf_22 rfl (lv_at hl 3 rfl) ?_
          refine lv_iload_n S.1 S.2.1 dX4_numberOf_23 rfl (lv_at hl 1 rfl) ?_
          refine r_wC S Z (n := 8) ⟨rfl, rfl⟩ (by omega) (by decide) dX4_numberOf_24 (fun H locs Z => ?_)
          refine lv_aload_n S.1 S.2.1 dX4_numberOf_25 rfl (lv_at hl 0 rfl) ?_
          refine r_get (C := RX4) (T := TX4) (N := 2) (ci := 4) S Z (by decide) rfl rfl i_X4_numberOf_X4 1 (by decide) m_X4_numberOf_f15 rfl (v := .ref (gA G 3)) rfl dX4_numberOf_26 ?_
          refine lv_iload_n S.1 S.2.1 dX4_numberOf_29 rfl (lv_at hl 3 rfl) ?_
          refine lv_iload_n S.1 S.2.1 dX4_numberOf_30 rfl (lv_at hl 2 rfl) ?_
          refine r_wC S Z (n := 8) ⟨rfl, rfl⟩ (by omega) (by decide) dX4_numberOf_31 (fun H locs Z => ?_)
          refine lv_aload_n S.1 S.2.1 dX4_numberOf_32 rfl (lv_at hl 0 rfl) ?_
          refine r_get (C := RX4) (T := TX4) (N := 2) (ci := 4) S Z (by decide) rfl rfl i_X4_numberOf_X4 0 (by decide) m_X4_numberOf_f9 rfl (v := .ref (gA G 2)) rfl dX4_numberOf_33 ?_
          refine lv_iload_n S.1 S.2.1 dX4_numberOf_36 rfl (lv_at hl 3 rfl) ?_
          refine r_ialdC S Z (n := 8) ⟨rfl, rfl⟩ (by omega) (by decide) dX4_numberOf_37 ?_
          refine lv_iload_n S.1 S.2.1 dX4_numberOf_38 rfl (lv_at hl 1 rfl) ?_
          refine lv_icmp_ne (tgt := 54) S.1 S.2.1 dX4_numberOf_39 (by decide) (fun c_5 => absurd c_5 (by exact not_not_intro (by rw [w1_n (by decide), w1_s]))) (fun c_5 => ?_)
          refine lv_aload_n S.1 S.2.1 dX4_numberOf_42 rfl (lv_at hl 0 rfl) ?_
          refine r_get (C := RX4) (T := TX4) (N := 2) (ci := 4) S Z (by decide) rfl rfl i_X4_numberOf_X4 1 (by decide) m_X4_numberOf_f15 rfl (v := .ref (gA G 3)) rfl dX4_numberOf_43 ?_
          refine lv_iload_n S.1 S.2.1 dX4_numberOf_46 rfl (lv_at hl 3 rfl) ?_
          refine r_ialdC S Z (n := 8) ⟨rfl, rfl⟩ (by omega) (by decide) dX4_numberOf_47 ?_
          refine lv_iload_n S.1 S.2.1 dX4_numberOf_48 rfl (lv_at hl 2 rfl) ?_
          refine lv_icmp_ne (tgt := 54) S.1 S.2.1 dX4_numberOf_49 (by decide) (fun c_6 => absurd c_6 (by exact not_not_intro w1_s)) (fun c_6 => ?_)
          refine lv_iload_n S.1 S.2.1 dX4_numberOf_52 rfl (lv_at hl 3 rfl) ?_
          rw [hQ]
          have q9 : (rgS σ a b : cS) = w1 (w1 σ 2 i (nI a)) 3 i (nI b) := by first | exact (rgA (by omega) hg (by assumption)).2 | exact (rgB (by omega) hg (by assumption) (by assumption) (by assumption)).2 | exact (rgC (by omega) (by omega) hg).2
          rw [← q9] at Z
          exact W.iret (v := nI i) S.1 S.2.1 hret (fun _ hT9 hW => ⟨⟨_, (rgS σ a b, μ), rfl, ⟨(by first | exact (rgA (by omega) hg (by assumption)).1.symm | exact (rgB (by omega) hg (by assumption) (by assumption) (by assumption)).1.symm | exact (rgC (by omega) (by omega) hg).1.symm), rfl⟩, wZ_P Z hT9 hW⟩, Z.2.2.2.2.F hT9⟩) Z.2.2.2.2.2.2 dX4_numberOf_53
  exact L_2 (8 - 0 + 1) 0 (by first | omega | exact Nat.zero_le _) (by first | exact rgN (by omega) hg (by assumption) (fun q_ => by first | exact absurd q_.1 (by assumption) | exact absurd q_.2 (by assumption)) | rfl) (Nat.lt_succ_self _) _ _ Z ls (lv_sub hl [1, 2, 3, 0] rfl)
