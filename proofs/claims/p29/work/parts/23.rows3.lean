section RO3
variable {p : Program} {l : Launch} {e : Env} {R : Room} {s : State} {m : MethodId} {args : Array Value} {below : List Frame} {meth : Method} {c : Code} {H : Heap} {locs : List Loc} {cells slots : Nat} {Q : State → Prop}
variable {cc : ByteArray} {nL : Nat} {Ts : List Cond} {own : String} {G : wG} {σ : cS} {μ : mS} {o : Nat → Int64} {pc : Nat} {ls : Array Slot} {rest : List Value}
theorem r_wC (S : CallFix p m c cc nL s args Ts own) (Z : wZ G σ μ o s H locs) {k n j : Nat} {x : Int32} (h : pC k n) (hj : j < n) (hn : n < 2 ^ 31) (hdg : decode cc pc = .ok (.iastore, 1))
    (kk : ∀ (H1 : Heap) (locs1 : List Loc), wZ G (w1 σ k j x) μ o s H1 locs1 → W p l e R s m args below meth c H1 locs1 cells slots Q (F0 m (pc + 1) ls rest)) : W p l e R s m args below meth c H locs cells slots Q (F0 m pc ls (.int x :: .int (nI j) :: .ref (gA G k) :: rest)) :=
  r_iastC S Z h hj hn hdg kk
theorem wZ_P {t : State} (Z : wZ G σ μ o s H locs) (ht : t.heap = H) (hW : s.WarmedH t.vm) : (fun (u : cS × mS) (t : State) => wI G u.1 u.2 o t) (σ, μ) t := wZ_I Z ht hW
theorem wZ_callP {σ' : cS} {μ' : mS} {t : State} {H1 : Heap} {locs1 : List Loc} (Z : wZ G σ μ o s H locs) (hB : (fun (u : cS × mS) (t : State) => wI G u.1 u.2 o t) (σ', μ') t) (ht : t.heap = H1) (hS : va_S (gP G) s.heap H1 locs1) : wZ G σ' μ' o s H1 locs1 := wZ_call Z hB ht hS
end RO3
