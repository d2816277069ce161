section RW
variable {p : Program} {l : Launch} {e : Env} {R : Room} {s : State} {m : MethodId} {args : Array Value} {below : List Frame} {meth : Method} {c : Code} {H : Heap} {locs : List Loc} {cells slots : Nat} {Q : State → Prop}
variable {cc : ByteArray} {nL : Nat} {Ts : List Cond} {own : String} {G : wG} {σ : cS} {μ : mS} {o : Nat → Int64} {pc : Nat} {ls : Array Slot} {rest : List Value}
/-- a field of an object that lies at any place of the world -/
theorem r_getW {ref C : String} {T : u_T} {N ci index q : Nat} {ad : Addr} (S : CallFix p m c cc nL s args Ts own) (Z : wZ G σ μ o s H locs) {fs : List Value} (hq : (Wl G σ μ o)[q]? = some (ad, .inr (ci, fs))) (hc : vwCl[ci]? = some (C, T, N)) (hin : ∀ w ∈ u_ws C T N, w ∈ Ts) (j : Nat) (hj : j < N) (hlink : Cond.fieldLink own index ref (T j).2.1 (T j).2.2.1 ∈ Ts) (hsame : (T j).1 = ref) {v : Value} (hv : fs[j]? = some v) (hdg : decode cc pc = .ok (.getfield index, 3))
    (kk : W p l e R s m args below meth c H locs cells slots Q (F0 m (pc + 3) ls (v :: rest))) : W p l e R s m args below meth c H locs cells slots Q (F0 m pc ls (.ref ad :: rest)) :=
  va_get S.1 S.2.1 S.2.2.2.2 hin S.2.2.2.1 Z.2.1.1 Z.2.2.1 q hq hc j hj (S.2.2.2.2 _ hlink) (fun x h => by rw [← hsame]; exact h) hv hdg kk
theorem wPc_VW {As : List Value} {q ci : Nat} {ad : Addr} {fs : List Value} {r : vw_C} (Z : wZ G σ μ o s H locs) (hq : (Wl G σ μ o)[q]? = some (ad, .inr (ci, fs))) (hc : vwCl[ci]? = some r) : PreV s H r.1 ad (wPc G σ μ o (.ref ad :: As)) As :=
  ⟨wPc_blind, va_recv Z.2.1.1 Z.2.2.1 hc hq, fun U hU hW => ⟨rfl, wZ_I Z hU hW⟩⟩
end RW
