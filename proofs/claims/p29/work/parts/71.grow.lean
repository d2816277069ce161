/-- a list's first row -/
def growS (G : wG) (σ : cS) (i q : Nat) : cS := cE' (cW' σ (cW σ ++ [(q, rwE G (fun _ => none))])) i q
theorem grow_row (G : wG) (σ : cS) (i q : Nat) : (cW (growS G σ i q))[(cW σ).length]? = some (cE (growS G σ i q) i, rwE G (fun _ => none)) := by
  show (cW σ ++ [_])[(cW σ).length]? = some (va_up (cE σ) i q i, _)
  rw [List.getElem?_append_right (Nat.le_refl _), va_up_self]
  simp
theorem grow_kp {G : wG} {σ : cS} {i q k : Nat} {x : Nat × va_E} (h : (cW σ)[k]? = some x) : (cW (growS G σ i q))[k]? = some x := by
  show (cW σ ++ [_])[k]? = some x
  rw [List.getElem?_append_left (List.getElem?_eq_some_iff.mp h).1]
  exact h
theorem app_set {α : Type} {l : List α} {x y : α} : (l ++ [x]).set l.length y = l ++ [y] := by
  rw [List.set_append_right _ _ (Nat.le_refl _)]
  simp
theorem grow_set {G : wG} {σ : cS} {i q e0 : Nat} : cL' (cW' (growS G σ i q) ((cW (growS G σ i q)).set (cW σ).length (cE (growS G σ i q) i, rwE G (va_up (fun _ => none) 0 (some e0))))) i (0 + 1) = cL' (cE' (cW' σ (cW σ ++ [(q, rwE G (va_up (fun _ => none) 0 (some e0)))])) i q) i 1 := by
  have h : (cW (growS G σ i q)).set (cW σ).length (cE (growS G σ i q) i, rwE G (va_up (fun _ => none) 0 (some e0))) = cW σ ++ [(q, rwE G (va_up (fun _ => none) 0 (some e0)))] := by
    show (cW σ ++ [_]).set (cW σ).length (va_up (cE σ) i q i, _) = _
    rw [app_set, va_up_self]
  rw [h]
  rfl
theorem clr_first {G : wG} {σ : cS} {i r : Nat} {f : Nat → Option Nat} (hr : (cW σ)[r]? = some (cE σ i, rwE G f)) : clrS G σ i r f 0 = cL' (cM' σ i (cM σ i + nI 1)) i 0 := by
  unfold clrS
  rw [nul_0, set_same hr]
  rfl
theorem clr_row {G : wG} {σ : cS} {i r j : Nat} {f : Nat → Option Nat} (hr : (cW σ)[r]? = some (cE σ i, rwE G f)) : (cW (clrS G σ i r f j))[r]? = some (cE σ i, rwE G (nul f j)) := by
  show ((cW σ).set r _)[r]? = _
  rw [List.getElem?_set_self (List.getElem?_eq_some_iff.mp hr).1]
theorem clr_step {G : wG} {σ : cS} {i r j : Nat} {f : Nat → Option Nat} : cW' (clrS G σ i r f j) ((cW (clrS G σ i r f j)).set r (cE σ i, rwE G (va_up (nul f j) j none))) = clrS G σ i r f (j + 1) := by
  rw [nul_s]
  show cW' (cL' (cM' σ i (cM σ i + nI 1)) i 0) (((cW σ).set r (cE σ i, rwE G (nul f j))).set r (cE σ i, rwE G (nul f (j + 1)))) = _
  rw [List.set_set]
  rfl
section RS
variable {p : Program} {l : Launch} {e : Env} {R : Room} {s : State} {m : MethodId} {args : Array Value} {below : List Frame} {meth : Method} {c : Code} {H : Heap} {locs : List Loc} {cells slots : Nat} {Q : State → Prop}
variable {cc : ByteArray} {nL : Nat} {Ts : List Cond} {own : String} {G : wG} {σ : cS} {μ : mS} {o : Nat → Int64} {pc : Nat} {ls : Array Slot} {rest : List Value}
/-- an inherited field -/
theorem r_getS {ref C : String} {T : u_T} {N ci index k : Nat} (S : CallFix p m c cc nL s args Ts own) (Z : wZ G σ μ o s H locs) {fs : List Value} (hk : k < 39) (he : wE G σ μ o k = .inr (ci, fs)) (hc : vwCl[ci]? = some (C, T, N)) (hin : ∀ w ∈ u_ws C T N, w ∈ Ts) (j : Nat) (hj : j < N) (hlink : Cond.fieldLink own index ref (T j).2.1 (T j).2.2.1 ∈ Ts) (hsame : Cond.sameField ref (T j).1 (T j).2.1 (T j).2.2.1 ∈ Ts) {v : Value} (hv : fs[j]? = some v) (hdg : decode cc pc = .ok (.getfield index, 3))
    (kk : W p l e R s m args below meth c H locs cells slots Q (F0 m (pc + 3) ls (v :: rest))) : W p l e R s m args below meth c H locs cells slots Q (F0 m pc ls (.ref (gA G k) :: rest)) :=
  va_get S.1 S.2.1 S.2.2.2.2 hin S.2.2.2.1 Z.2.1.1 Z.2.2.1 k (wl_at hk he) hc j hj (S.2.2.2.2 _ hlink) (fun x h => u_same (S.2.2.2.2 _ hsame) x h) hv hdg kk
theorem r_putS {ref C : String} {T : u_T} {N ci index k : Nat} (S : CallFix p m c cc nL s args Ts own) (Z : wZ G σ μ o s H locs) {σ' : cS} {μ' : mS} {fs fs' : List Value} (hk : k < 39) (he : wE G σ μ o k = .inr (ci, fs)) (hc : vwCl[ci]? = some (C, T, N)) (hin : ∀ w ∈ u_ws C T N, w ∈ Ts) (ty0 : Nat → FieldType) (hty : ∀ k, k < N → parseFieldDescriptor (T k).2.2.1 = some (ty0 k)) (hnm : ∀ a, a < N → ∀ b, b < N → a ≠ b → (T a).2.1 ≠ (T b).2.1) (j : Nat) (hj : j < N) (hlink : Cond.fieldLink own index ref (T j).2.1 (T j).2.2.1 ∈ Ts) (hsame : Cond.sameField ref (T j).1 (T j).2.1 (T j).2.2.1 ∈ Ts) (hfin : (T j).2.2.2 = false) {ty : FieldType} {v : Value} (hd : parseFieldDescriptor (T j).2.2.1 = some ty) (hn : narrow ty v = v) (hfit : fits ty v = true) (hl : j < fs.length) (hf : fs.set j v = fs') (hw : (μ', cW σ') = (μ, cW σ)) (hs : ∀ q, q < 39 → wE G σ' μ' o q = if q = k then .inr (ci, fs') else wE G σ μ o q) (hdg : decode cc pc = .ok (.putfield index, 3))
    (kk : ∀ (H1 : Heap) (locs1 : List Loc), wZ G σ' μ' o s H1 locs1 → W p l e R s m args below meth c H1 locs1 cells slots Q (F0 m (pc + 3) ls rest)) : W p l e R s m args below meth c H locs cells slots Q (F0 m pc ls (v :: .ref (gA G k) :: rest)) := by
  subst hf
  refine va_put S.1 S.2.1 S.2.2.2.2 hin ty0 hty hnm S.2.2.2.1 Z.2.1.1 Z.2.2.1 Z.2.2.2.1 Z.2.2.2.2 k (wl_at hk he) hc j hj (S.2.2.2.2 _ hlink) (fun x h => u_same (S.2.2.2.2 _ hsame) x h) hfin hd hn hfit hl hdg (fun H1 locs1 hP hD hS => ?_)
  exact kk H1 locs1 (wZ_set Z hk hw hs hP hD hS)
end RS
