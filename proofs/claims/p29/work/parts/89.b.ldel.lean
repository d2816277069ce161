/-! what a deletion leaves -/
def tg (what a b row col : Nat) : Prop := (what = 0 ∧ row = a ∧ col = b % 4) ∨ (what = 1 ∧ col = b % 4) ∨ (what = 2 ∧ row = a) ∨ (what = 3 ∧ row = a)
def DL (G : wG) (σ : cS) (L : Nat → List Ch) (n cs what a b sp : Nat) (ns : cS) : Prop := ∃ (n' : Nat) (τ : cS) (P : Nat), n ≤ n' ∧ n' ≤ 8 ∧ (n' ≤ n ∨ (what = 3 ∧ n' ≤ n + 1)) ∧ KP G τ L n' ∧ τ.2 = σ.2 ∧ (∀ t k, sE τ t k = sE σ t k) ∧ (∀ t p, sT τ t p = sT σ t p) ∧ P < 84 + n' ∧ P < 92 ∧ sc ns (sdS τ (64 + P, nI sp, cV σ 4, nI 0) (nI cs) 3) ∧ HI G ns (sdLL τ (nI cs) (64 + P, nI sp, cV σ 4, nI 0) L) ∧ ∀ row col, tg what a b row col → (∀ p, cv τ row col p ↔ (cv σ row col p ∨ p = P)) ∧ (cv σ row col P ∨ ∀ t, t < 4 → (sT σ t P).1 = -1)
section DLs
variable {G : wG} {σ ns : cS} {L : Nat → List Ch} {n cs what a b sp P : Nat}
theorem DL_fix (hK : KP G σ L n) (hP : P < 84) (hc : ∀ row col, tg what a b row col → cv σ row col P) (hs : sc ns (sdS σ (64 + P, nI sp, cV σ 4, nI 0) (nI cs) 3)) (hH : HI G ns (sdLL σ (nI cs) (64 + P, nI sp, cV σ 4, nI 0) L)) : DL G σ L n cs what a b sp ns :=
  ⟨n, σ, P, Nat.le_refl _, hK.2.2.2.1.1, Or.inl (Nat.le_refl _), hK, rfl, fun _ _ => rfl, fun _ _ => rfl, by omega, by omega, hs, hH, fun row col h => ⟨fun p => ⟨Or.inl, fun z => z.elim id (fun e => by rw [e]; exact hc row col h)⟩, Or.inl (hc row col h)⟩⟩
theorem DL_cell (hK : KP G σ L n) (hw : what = 0) (ha : a < 16) (hs : sc ns (sdS σ (64 + (a * 4 + b % 4), nI sp, cV σ 4, nI 0) (nI cs) 3)) (hH : HI G ns (sdLL σ (nI cs) (64 + (a * 4 + b % 4), nI sp, cV σ 4, nI 0) L)) : DL G σ L n cs what a b sp ns :=
  DL_fix (P := a * 4 + b % 4) hK (by omega) (fun row col h => cv_iff.mpr (Or.inl (by unfold tg at h; omega))) hs hH
theorem DL_col (hK : KP G σ L n) (hw : what = 1) (hs : sc ns (sdS σ (64 + (64 + b % 4), nI sp, cV σ 4, nI 0) (nI cs) 3)) (hH : HI G ns (sdLL σ (nI cs) (64 + (64 + b % 4), nI sp, cV σ 4, nI 0) L)) : DL G σ L n cs what a b sp ns :=
  DL_fix (P := 64 + b % 4) hK (by omega) (fun row col h => cv_iff.mpr (Or.inr (Or.inl (by unfold tg at h; omega)))) hs hH
theorem DL_row (hK : KP G σ L n) (hw : what = 2) (ha : a < 16) (hs : sc ns (sdS σ (64 + (68 + a), nI sp, cV σ 4, nI 0) (nI cs) 3)) (hH : HI G ns (sdLL σ (nI cs) (64 + (68 + a), nI sp, cV σ 4, nI 0) L)) : DL G σ L n cs what a b sp ns :=
  DL_fix (P := 68 + a) hK (by omega) (fun row col h => cv_iff.mpr (Or.inr (Or.inr (Or.inl (by unfold tg at h; omega))))) hs hH
theorem DL_range (hK : KP G σ L n) (hw : what = 3) (hab : a ≤ b) (hb : b < 16) (h8 : rgi σ a b < 8) (hs : sc ns (sdS (rgS σ a b) (64 + (84 + rgi σ a b), nI sp, cV (rgS σ a b) 4, nI 0) (nI cs) 3)) (hH : HI G ns (sdLL (rgS σ a b) (nI cs) (64 + (84 + rgi σ a b), nI sp, cV (rgS σ a b) 4, nI 0) L)) : DL G σ L n cs what a b sp ns := by
  obtain ⟨n', h1, h2, h3, h4, h5, h6, h7, hc⟩ := range_all hK hab hb h8
  have hV : cV (rgS σ a b) = cV σ := (c_of range_V).1
  rw [hV] at hs hH
  refine ⟨n', rgS σ a b, 84 + rgi σ a b, h1, h3, Or.inr ⟨hw, h2⟩, h5, range_V, h6, h7, by omega, by omega, hs, hH, fun row col h => ?_⟩
  have e : row = a := by unfold tg at h; omega
  rw [e]
  exact hc col
theorem sdN_cg {σ τ : cS} {cs : Int32} (h : cU τ = cU σ) : ∀ k, sdN τ cs k = sdN σ cs k
  | 0 => rfl
  | k + 1 => by
    unfold sdN
    rw [sdN_cg h k, h]
theorem rg_full (hK : KP G σ L n) (h8 : ¬ rgi σ a b < 8) : n = 8 ∧ rgR σ a b = -1 ∧ rgS σ a b = σ := by
  rcases rg_cases (a := a) (b := b) hK.2.2.2.1 with ⟨-, z, -⟩ | ⟨z, e, -⟩ | ⟨e, -, e1, e2⟩
  · exact absurd z h8
  · omega
  · exact ⟨e, e1, e2⟩
end DLs
theorem nI_m8 {q : Nat} (h : q ≤ 3) : ¬ nI q = -8 := by
  rcases (show q = 0 ∨ q = 1 ∨ q = 2 ∨ q = 3 by omega) with rfl | rfl | rfl | rfl <;> decide
theorem gB_bu {σ τ ns : cS} {cs P t row col sp : Nat} {ma en : Int32} (hsp : sp ≤ 999) (hs : sc ns (sdS τ (64 + P, nI sp, ma, en) (nI cs) 3)) (hr : τ.2 = σ.2) (hT : ∀ t p, sT τ t p = sT σ t p) (hc : (∀ p, cv τ row col p ↔ (cv σ row col p ∨ p = P)) ∧ (cv σ row col P ∨ ∀ t, t < 4 → (sT σ t P).1 = -1)) (ht : t < 3) : gB ns t row col = if bitB (nI cs) t = true ∧ cU σ t = true then mx (gB σ t row col) (nI sp) else gB σ t row col :=
  send_bu (m1_le (by omega)) hs hT (c_of hr).2.1 hc.1 (hc.2.imp id (fun z => z t (by omega))) ht
/-! a method with handlers, a throw over another state -/
theorem m_ofWH {l : Launch} {y : MethodName} {ws ws' : List Cond} {rm : Room} {Pc : Array Value → State → Prop} {Qc : Array Value → State → Outcome → State → Prop} {mc ms : Nat} {free : Addr → Prop} {cc : ByteArray} {maxL : Nat} {ret : Option FieldType} {hh : List (Nat × Nat × Nat × Nat)}
    (hy : plainName y.cls = true) (hw : ws = Cond.codeWith y cc maxL ret hh :: ws')
    (body : ∀ p e s m args below meth c s₁, BodyLoose p l y (headSpec ws rm) cc maxL ret e s m args below meth c s₁ → c.maxLocals = maxL → c.exceptionTable.toList = tableOf hh → Pc args s →
      W p l e (headSpec ws rm).room s m args below meth c s.heap [] 0 0 (MQ below Qc args s mc ms free) (entryFrame m args maxL)) : Met l y ws rm Pc Qc mc ms free := by
  refine MetFree.of_bodyS (code := cc) (maxLocals := maxL) (ret := ret) hy ?_ ?_
  · intro args s m h hn
    obtain ⟨m9, meth, c, hn9, h1, h2, h3, h4, -, h5, h6, -⟩ := Cond.codeWith_spec (atoms_spec (ws := ws) h _ (by rw [hw]; exact List.mem_cons_self))
    cases hn.symm.trans hn9
    exact ⟨meth, c, h1, h2, h3, h4, h5, h6⟩
  · intro p e s m args below meth c s₁ B hml hP _
    have hh0 : s₁.heap = s.heap := by rw [B.state]; rfl
    have ht := vx_table (x := y) B (atoms_spec (ws := ws) B.pre _ (by rw [hw]; exact List.mem_cons_self))
    obtain ⟨t, a1, o, b1, b2, b3⟩ := body p e s m args below meth c s₁ B hml ht hP s₁ hh0 (Stand.of_body B)
    exact ⟨t, o, a1, b1, b2, ⟨b3.1, b3.2⟩⟩
section RL2
variable {p : Program} {l : Launch} {e : Env} {R : Room} {s : State} {m : MethodId} {args : Array Value} {below : List Frame} {meth : Method} {c : Code} {H : Heap} {locs : List Loc} {cells slots : Nat} {Q : State → Prop}
variable {cc : ByteArray} {nL : Nat} {Ts : List Cond} {own : String} {G : wG} {σ : cS} {μ : mS} {o : Nat → Int64} {pc : Nat} {ls : Array Slot} {rest : List Value}
theorem ca_use {E : String} (Z : wZ G σ μ o s H locs) (h : Cond.castable E E ∈ wN) : (Cond.castable E E).before args s = true := va_Nw.use rfl (Z.2.1.2.1 _ h)
end RL2
section XR2
variable {p : Program} {l : Launch} {e : Env} {R : Room} {s : State} {m : MethodId} {args : Array Value} {below : List Frame} {meth : Method} {c : Code} {H : Heap} {locs : List Loc} {cells slots : Nat} {Q : State → Prop}
variable {cc : ByteArray} {nL : Nat} {Ts : List Cond} {own : String} {G : wG} {σ : cS} {μ : mS} {o : Nat → Int64} {pc mc ms : Nat} {ls : Array Slot} {rest st0 : List Value} {Qc : Array Value → State → Outcome → State → Prop}
/-- thrown, with another state -/
theorem x_callS {σ' : cS} {Qa : State → Outcome → State → Prop} {E0 : String} (hr : vx_Run p l e R s m args below meth c H locs cells slots mc ms (F0 m pc ls st0) rest Qa (XX G σ' μ o E0) (gP G)) (hno : ∀ st oc t, Qa st oc t → False) (Z : wZ G σ μ o s H locs)
    (kx : ∀ (ce : Cell) (q9 : Addr) (H1 : Heap) (locs1 : List Loc), wZ G σ' μ o s H1 locs1 → H1[q9]? = some ce → ce.vm = .none → s.vm.findClass E0 = some ce.cls → vx_W p l e R s m args below meth c H1 locs1 (cells + mc) (slots + ms) Q (F0 m pc ls rest) q9) : W p l e R s m args below meth c H locs cells slots Q (F0 m pc ls st0) := by
  intro T hT X
  rcases hr T hT X with ⟨v, st₀, t, T', L, h0, X', hL, e1, e2, hq, st⟩ | ⟨q, st₀, t, T', L, E, ce, h0, X', hL, e1, e2, ⟨u, hp, ⟨hE, hP, hD⟩, hF⟩, hce, hcv, hcl, st⟩
  · exact (hno _ _ _ hq).elim
  · subst hE
    obtain ⟨k1, k2, k3⟩ := vx_keep h0 e1 Z.2.2.2.2 (fun _ _ h => h) (fun _ h => h) hL hF
    obtain ⟨t2, a1, b1⟩ := kx ce q T'.heap (locs ++ L) ⟨Z.1, Z.2.1, by rw [e1]; exact hP, hD, k3⟩ (by rw [e1]; exact hce) hcv hcl T' rfl X'
    exact ⟨t2, st.trans a1, b1⟩
end XR2
theorem n_caC : Cond.castable "java/lang/IllegalStateException" "java/lang/IllegalStateException" ∈ wN := List.mem_of_getElem? (i := 10) rfl
