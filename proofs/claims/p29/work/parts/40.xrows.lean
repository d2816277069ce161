/-! throws: a method that always throws, the state as it was -/
def wH (G : wG) (σ : cS) (μ : mS) (o : Nat → Int64) (U : State) : Prop := va_P (gD G) vwCl (Wl G σ μ o) U.heap ∧ va_D (gP G) (Wl G σ μ o)
def XX (G : wG) (σ : cS) (μ : mS) (o : Nat → Int64) (E0 : String) : String → State → State → Prop := vx_X (fun _ : Unit => True) (fun E (_ : Unit) t => E = E0 ∧ wH G σ μ o t) (gP G)
def QX : Array Value → State → Outcome → State → Prop := fun _ _ _ _ => False
def nmsX : List String := ["java/lang/RuntimeException", "java/lang/Exception"]
section XR
variable {p : Program} {l : Launch} {e : Env} {R : Room} {s : State} {m : MethodId} {args : Array Value} {below : List Frame} {meth : Method} {c : Code} {H : Heap} {locs : List Loc} {cells slots : Nat} {Q : State → Prop}
variable {cc : ByteArray} {nL : Nat} {Ts : List Cond} {own : String} {G : wG} {σ : cS} {μ : mS} {o : Nat → Int64} {pc mc ms : Nat} {ls : Array Slot} {rest st0 : List Value} {Qc : Array Value → State → Outcome → State → Prop}
theorem x_call {Qa : State → Outcome → State → Prop} {E0 : String} (hr : vx_Run p l e R s m args below meth c H locs cells slots mc ms (F0 m pc ls st0) rest Qa (XX G σ μ o E0) (gP G)) (hno : ∀ st oc t, Qa st oc t → False) (Z : wZ G σ μ o s H locs)
    (kx : ∀ (ce : Cell) (q9 : Addr) (H1 : Heap) (locs1 : List Loc), wZ G σ μ o s H1 locs1 → H1[q9]? = some ce → ce.vm = .none → s.vm.findClass E0 = some ce.cls → vx_W p l e R s m args below meth c H1 locs1 (cells + mc) (slots + ms) Q (F0 m pc ls rest) q9) : W p l e R s m args below meth c H locs cells slots Q (F0 m pc ls st0) := by
  intro T hT X
  rcases hr T hT X with ⟨v, st₀, t, T', L, h0, X', hL, e1, e2, hq, st⟩ | ⟨q, st₀, t, T', L, E, ce, h0, X', hL, e1, e2, ⟨u, hp, ⟨hE, hP, hD⟩, hF⟩, hce, hcv, hcl, st⟩
  · exact (hno _ _ _ hq).elim
  · subst hE
    obtain ⟨k1, k2, k3⟩ := vx_keep h0 e1 Z.2.2.2.2 (fun _ _ h => h) (fun _ h => h) hL hF
    obtain ⟨t2, a1, b1⟩ := kx ce q T'.heap (locs ++ L) ⟨Z.1, Z.2.1, by rw [e1]; exact hP, hD, k3⟩ (by rw [e1]; exact hce) hcv hcl T' rfl X'
    exact ⟨t2, st.trans a1, b1⟩
theorem x_out {E0 : String} (hout : ∀ x ∈ c.exceptionTable.toList, False) (hlocks : meth.locks = false) (Z : wZ G σ μ o s H locs) {ce : Cell} {q9 : Addr} (h1 : H[q9]? = some ce) (h2 : ce.vm = .none) (h3 : s.vm.findClass E0 = some ce.cls) (hc : cells ≤ mc) (hs : slots ≤ ms) :
    vx_W p l e R s m args below meth c H locs cells slots (vx_MQ below Qc (XX G σ μ o E0) args s mc ms (gP G)) (F0 m pc ls rest) q9 :=
  vx_out (fun x hx => (hout x hx).elim) hlocks h1 h2 h3 (fun t ht _ => ⟨(), trivial, ⟨rfl, by rw [ht]; exact Z.2.2.1, Z.2.2.2.1⟩, Z.2.2.2.2.F ht⟩) Z.2.2.2.2.2.2 hc hs
theorem x_hat (S : CallFix p m c cc nL s args Ts own) (Z : wZ G σ μ o s H locs) {L : List Cond} (h1 : ∀ w ∈ L.filter goodWord, w ∈ Ts) (h2 : ∀ w ∈ L.filter (fun w => !goodWord w), w ∈ wN) (h3 : ∀ w ∈ wN, w.onTables = true) : ∀ w ∈ L, w.before args s = true :=
  vx_hat (fun w hw => S.2.2.2.2 w (h1 w hw)) h2 (fun w hw => va_Nw.use (h3 w hw) (Z.2.1.2.1 w hw))
theorem wN_on : ∀ w ∈ wN, w.onTables = true := by decide +kernel
theorem x_throw {cls text : String} {ik is ic sa : Nat} (hst : l.stackTraces = false) (S : CallFix p m c cc nL s args Ts own) (Z : wZ G σ μ o s H locs) (hcls : Bundle.fit cls = true)
    (hk : Cond.classLink own ik cls ∈ Ts) (hini : Cond.initialized cls ∈ Ts) (hstr : vk_R own is text sa s) (h1 : ∀ w ∈ (vx_atS own ic cls nmsX).filter goodWord, w ∈ Ts) (h2 : ∀ w ∈ (vx_atS own ic cls nmsX).filter (fun w => !goodWord w), w ∈ wN)
    (hgood : ∀ w ∈ Cond.classLink own ik cls :: Cond.initialized cls :: vx_atS own ic cls nmsX, vx_ot w = true) (hsize : ls.size = c.maxLocals)
    (d0 : decode cc pc = .ok (.new ik, 3)) (d3 : decode cc (pc + 3) = .ok (.dup, 1)) (d4 : decode cc (pc + 4) = .ok (.ldc is, 2)) (d6 : decode cc (pc + 6) = .ok (.invokespecial ic, 3)) (d9 : decode cc (pc + 9) = .ok (.athrow, 1))
    (hout : ∀ x ∈ c.exceptionTable.toList, False) (hRframes : 5 < R.frames) (hRlocals : (rest.map fun v => v.category).sum + 82 ≤ R.locals) (hRcells : cells + 1 ≤ R.cells) (hRslots : slots + 6 ≤ R.slots) (hlocks : meth.locks = false) (hc : cells + 1 ≤ mc) (hs : slots + 6 ≤ ms) :
    W p l e R s m args below meth c H locs cells slots (vx_MQ below Qc (XX G σ μ o cls) args s mc ms (gP G)) (F0 m pc ls rest) :=
  vx_throwS (names := nmsX) S.1 S.2.1 hst S.2.2.2.1 hcls (by decide +kernel) (S.2.2.2.2 _ hk) (S.2.2.2.2 _ hini) hstr (x_hat S Z h1 h2 wN_on) hgood Z.2.1.2.2.1 Z.2.1.2.2.2.1 Z.2.2.2.2 hsize d0 d3 d4 d6 d9 (fun x hx => (hout x hx).elim) hRframes hRlocals hRcells hRslots hlocks
    (fun t hvm hz hq => ⟨(), trivial, ⟨rfl, Z.2.2.1.kept (fun k q hk => hq q.1 (Z.2.2.1 k q hk).lt), Z.2.2.2.1⟩, Nat.le_trans Z.2.2.2.2.1 hz, fun q h1 h2 => by rw [hq q (Nat.lt_of_lt_of_le h1 Z.2.2.2.2.1)]; exact Z.2.2.2.2.2.1 q h1 h2⟩) Z.2.2.2.2.2.2 hc hs
end XR
theorem x_atA : ∀ w ∈ (vx_atS RX7 200 "java/lang/IndexOutOfBoundsException" nmsX).filter (fun w => !goodWord w), w ∈ wN := by decide +kernel
theorem x_otA : ∀ w ∈ Cond.classLink RX7 196 "java/lang/IndexOutOfBoundsException" :: Cond.initialized "java/lang/IndexOutOfBoundsException" :: vx_atS RX7 200 "java/lang/IndexOutOfBoundsException" nmsX, vx_ot w = true := by decide +kernel
theorem x_atB : ∀ w ∈ (vx_atS RX7 207 "java/lang/IllegalArgumentException" nmsX).filter (fun w => !goodWord w), w ∈ wN := by decide +kernel
theorem x_otB : ∀ w ∈ Cond.classLink RX7 203 "java/lang/IllegalArgumentException" :: Cond.initialized "java/lang/IllegalArgumentException" :: vx_atS RX7 207 "java/lang/IllegalArgumentException" nmsX, vx_ot w = true := by decide +kernel
theorem x_atC : ∀ w ∈ (vx_atS RX7 212 "java/lang/IllegalStateException" nmsX).filter (fun w => !goodWord w), w ∈ wN := by decide +kernel
theorem x_otC : ∀ w ∈ Cond.classLink RX7 208 "java/lang/IllegalStateException" :: Cond.initialized "java/lang/IllegalStateException" :: vx_atS RX7 212 "java/lang/IllegalStateException" nmsX, vx_ot w = true := by decide +kernel
/-- within 0 and y -/
def wi (x y : Int32) : Bool := !decide (x < 0) && !decide (y < x)
theorem wi_n1 {a b : Nat} (hab : a ≤ b) (hb : b < 2 ^ 31) : ¬ (nI a < 0) := fun h => Nat.not_lt_zero _ ((nI_ltI (b := 0) (Nat.lt_of_le_of_lt hab hb) (by decide)).mp h)
section RK
variable {p : Program} {l : Launch} {e : Env} {R : Room} {s : State} {m : MethodId} {args : Array Value} {below : List Frame} {meth : Method} {c : Code} {H : Heap} {locs : List Loc} {cells slots : Nat} {Q : State → Prop}
variable {cc : ByteArray} {nL : Nat} {Ts : List Cond} {own : String} {G : wG} {σ : cS} {μ : mS} {o : Nat → Int64} {pc : Nat} {ls : Array Slot} {rest : List Value}
theorem r_aldK (S : CallFix p m c cc nL s args Ts own) (Z : wZ G σ μ o s H locs) {j : Nat} (hj : j < 3) (hdg : decode cc pc = .ok (.aaload, 1))
    (kk : W p l e R s m args below meth c H locs cells slots Q (F0 m (pc + 1) ls (.ref (gA G (9 + j)) :: rest))) : W p l e R s m args below meth c H locs cells slots Q (F0 m pc ls (.int (nI j) :: .ref (gA G 4) :: rest)) :=
  va_aldq S.1 S.2.1 Z.2.1.1 Z.2.2.1 4 2 (wl_at (by decide) rfl) rfl (vp_in_nI hj (by decide)) hdg (by rw [nI_clamp (Nat.lt_trans hj (by decide))]; exact kk)
end RK
