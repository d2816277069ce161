/-! the law's own callers: what they answer, as the model will -/
theorem m_ofWH {l : Launch} {y : MethodName} {ws ws' : List Cond} {rm : Room} {Pc : Array Value → State → Prop} {Qc : Array Value → State → Outcome → State → Prop} {mc ms : Nat} {free : Addr → Prop} {cc : ByteArray} {maxL : Nat} {ret : Option FieldType} {hh : List (Nat × Nat × Nat × Nat)}
    (hy : plainName y.cls = true) (hw : ws = Cond.codeWith y cc maxL ret hh :: ws')
    (body : ∀ p e s m args below meth c s₁, BodyLoose p l y (headSpec ws rm) cc maxL ret e s m args below meth c s₁ → c.maxLocals = maxL → c.exceptionTable.toList = tableOf hh → Pc args s →
      W p l e (headSpec ws rm).room s m args below meth c s.heap [] 0 0 (MQ below Qc args s mc ms free) (entryFrame m args maxL)) : Met l y ws rm Pc Qc mc ms free := by
  refine MetFree.of_bodyS (code := cc) (maxLocals := maxL) (ret := ret) hy ?_ ?_
  · intro args s m h hn
    obtain ⟨m9, meth, c, hn9, h1, h2, h3, h4, -, h5, h6, -⟩ := Cond.codeWith_spec (atoms_spec (ws := ws) h _ (by rw [hw]; exact List.mem_cons_self))
    cases hn.symm.trans hn9
    exact ⟨meth, c, h1, h2, h3, h4, h5, h6⟩
  · intro p e s m args below meth c s₁ B hml hP _
    have hh0 : s₁.heap = s.heap := by rw [B.state]; rfl
    have ht := vx_table (x := y) B (atoms_spec (ws := ws) B.pre _ (by rw [hw]; exact List.mem_cons_self))
    obtain ⟨t, a1, o, b1, b2, b3⟩ := body p e s m args below meth c s₁ B hml ht hP s₁ hh0 (Stand.of_body B)
    exact ⟨t, o, a1, b1, b2, ⟨b3.1, b3.2⟩⟩
/-- class and model, related; the model's hints are the class' lists -/
def Rel (σ : cS) (μ : mS) : Prop := RE σ μ ∧ RT σ μ ∧ RR σ μ ∧ RV σ μ ∧ RU σ μ ∧ mOK μ ∧ ∀ i, i < 3 → ∀ c ∈ hL μ i, okC c
def RH (G : wG) (σ : cS) (μ : mS) : Prop := Rel σ μ ∧ HI G σ (hL μ)
/-- the law's caller answers what the model will: the code, then the value -/
def LQ (G : wG) (μ MS : mS) (MR : Int32) (rr : Int32) (u : cS × mS × (Nat → Int64)) : Prop := u.2.1 = μ ∧ rr = mV MS 18 ∧ (mV MS 18 = nI 0 → u.2.2 0 = MR.toInt64) ∧ RH G u.1 MS
def QLP (G : wG) (μ MS : mS) (MR : Int32) : Array Value → State → Outcome → State → Prop := va_Qi (fun (rr : Int32) (u : cS × mS × (Nat → Int64)) => LQ G μ MS MR rr u) (fun u t => wI G u.1 u.2.1 u.2.2 t) (gP G)
abbrev rmL : Room := { frames := 10, cells := 4, slots := 34, locals := 200 }
section RL
variable {p : Program} {l : Launch} {e : Env} {R : Room} {s : State} {m : MethodId} {args : Array Value} {below : List Frame} {meth : Method} {c : Code} {H : Heap} {locs : List Loc} {cells slots : Nat} {Q : State → Prop}
variable {cc : ByteArray} {nL : Nat} {Ts : List Cond} {own : String} {G : wG} {σ : cS} {μ : mS} {o : Nat → Int64} {pc : Nat} {ls : Array Slot} {rest : List Value}
theorem r_last (S : CallFix p m c cc nL s args Ts own) (Z : wZ G σ μ o s H locs) {x : Int64} (hdg : decode cc pc = .ok (.lastore, 1))
    (kk : ∀ (H1 : Heap) (locs1 : List Loc), wZ G σ μ (vp_updL o 0 x) s H1 locs1 → W p l e R s m args below meth c H1 locs1 cells slots Q (F0 m (pc + 1) ls rest)) : W p l e R s m args below meth c H locs cells slots Q (F0 m pc ls (.long x :: .int (nI 0) :: .ref (gA G 53) :: rest)) := by
  refine va_last S.1 S.2.1 Z.2.1.1 Z.2.2.1 Z.2.2.2.1 Z.2.2.2.2 53 4 (wl_at (by decide) rfl) rfl (vp_in_nI (by decide) (by decide)) hdg (fun H1 locs1 hP hD hS => ?_)
  rw [nI_clamp (by decide)] at hP hD
  exact kk H1 locs1 (wZ_set Z (by decide) rfl (sO _) hP hD hS)
/-- what is not caught by the rows ahead -/
theorem pass_1 {pc0 : Nat} {E : String} {x : ExceptionTableEntry} {nm : String} (h0 : x.catchType ≠ 0) (hl : (Cond.classLink own x.catchType nm).before args s = true) (hn : va_Nc E nm s) : ∀ z ∈ [x], covers z pc0 = false ∨ (z.catchType ≠ 0 ∧ ∃ nm : String, (Cond.classLink own z.catchType nm).before args s = true ∧ va_Nc E nm s) := by
  intro z hz
  rw [List.mem_singleton] at hz
  subst hz
  exact Or.inr ⟨h0, nm, hl, hn⟩
theorem pass_2 {pc0 : Nat} {E : String} {x y : ExceptionTableEntry} {nm nm2 : String} (h0 : x.catchType ≠ 0) (hl : (Cond.classLink own x.catchType nm).before args s = true) (hn : va_Nc E nm s) (g0 : y.catchType ≠ 0) (gl : (Cond.classLink own y.catchType nm2).before args s = true) (gn : va_Nc E nm2 s) : ∀ z ∈ [x, y], covers z pc0 = false ∨ (z.catchType ≠ 0 ∧ ∃ nm : String, (Cond.classLink own z.catchType nm).before args s = true ∧ va_Nc E nm s) := by
  intro z hz
  simp only [List.mem_cons, List.not_mem_nil, or_false] at hz
  rcases hz with rfl | rfl
  · exact Or.inr ⟨h0, nm, hl, hn⟩
  · exact Or.inr ⟨g0, nm2, gl, gn⟩
theorem nc_BA (Z : wZ G σ μ o s H locs) : va_Nc "java/lang/IllegalArgumentException" "java/lang/IndexOutOfBoundsException" s := Z.2.1.2.2.2.2.2.2.2.2.2.2.2.1
theorem nc_CA (Z : wZ G σ μ o s H locs) : va_Nc "java/lang/IllegalStateException" "java/lang/IndexOutOfBoundsException" s := Z.2.1.2.2.2.2.2.2.2.2.2.2.2.2.1
theorem nc_CB (Z : wZ G σ μ o s H locs) : va_Nc "java/lang/IllegalStateException" "java/lang/IllegalArgumentException" s := Z.2.1.2.2.2.2.2.2.2.2.2.2.2.2.2
theorem ca_use {E : String} (Z : wZ G σ μ o s H locs) (h : Cond.castable E E ∈ wN) : (Cond.castable E E).before args s = true := va_Nw.use rfl (Z.2.1.2.1 _ h)
end RL
section XR2
variable {p : Program} {l : Launch} {e : Env} {R : Room} {s : State} {m : MethodId} {args : Array Value} {below : List Frame} {meth : Method} {c : Code} {H : Heap} {locs : List Loc} {cells slots : Nat} {Q : State → Prop}
variable {cc : ByteArray} {nL : Nat} {Ts : List Cond} {own : String} {G : wG} {σ : cS} {μ : mS} {o : Nat → Int64} {pc mc ms : Nat} {ls : Array Slot} {rest st0 : List Value} {Qc : Array Value → State → Outcome → State → Prop}
/-- thrown, with another state -/
theorem x_callS {σ' : cS} {Qa : State → Outcome → State → Prop} {E0 : String} (hr : vx_Run p l e R s m args below meth c H locs cells slots mc ms (F0 m pc ls st0) rest Qa (XX G σ' μ o E0) (gP G)) (hno : ∀ st oc t, Qa st oc t → False) (Z : wZ G σ μ o s H locs)
    (kx : ∀ (ce : Cell) (q9 : Addr) (H1 : Heap) (locs1 : List Loc), wZ G σ' μ o s H1 locs1 → H1[q9]? = some ce → ce.vm = .none → s.vm.findClass E0 = some ce.cls → vx_W p l e R s m args below meth c H1 locs1 (cells + mc) (slots + ms) Q (F0 m pc ls rest) q9) : W p l e R s m args below meth c H locs cells slots Q (F0 m pc ls st0) := by
  intro T hT X
  rcases hr T hT X with ⟨v, st₀, t, T', L, h0, X', hL, e1, e2, hq, st⟩ | ⟨q, st₀, t, T', L, E, ce, h0, X', hL, e1, e2, ⟨u, hp, ⟨hE, hP, hD⟩, hF⟩, hce, hcv, hcl, st⟩
  · exact (hno _ _ _ hq).elim
  · subst hE
    obtain ⟨k1, k2, k3⟩ := vx_keep h0 e1 Z.2.2.2.2 (fun _ _ h => h) (fun _ h => h) hL hF
    obtain ⟨t2, a1, b1⟩ := kx ce q T'.heap (locs ++ L) ⟨Z.1, Z.2.1, by rw [e1]; exact hP, hD, k3⟩ (by rw [e1]; exact hce) hcv hcl T' rfl X'
    exact ⟨t2, st.trans a1, b1⟩
end XR2
theorem n_caA : Cond.castable "java/lang/IndexOutOfBoundsException" "java/lang/IndexOutOfBoundsException" ∈ wN := List.mem_of_getElem? (i := 8) rfl
theorem n_caB : Cond.castable "java/lang/IllegalArgumentException" "java/lang/IllegalArgumentException" ∈ wN := List.mem_of_getElem? (i := 9) rfl
theorem n_caC : Cond.castable "java/lang/IllegalStateException" "java/lang/IllegalStateException" ∈ wN := List.mem_of_getElem? (i := 10) rfl
