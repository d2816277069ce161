/-! more rows -/
theorem nI_e1 : nI 1 = 1 := rfl
theorem nI_nm1 {n : Nat} (h : n < 2 ^ 31) : ¬ nI n = -1 := fun z => by
  have h1 := congrArg Int32.toInt z
  rw [nI_toInt h, show (-1 : Int32).toInt = -1 from by decide] at h1
  omega
theorem bi_nar (x : Bool) : narrow .boolean (.int (bi x)) = .int (bi x) := by cases x <;> rfl
theorem bi_fit (x : Bool) : fits .boolean (.int (bi x)) = true := by cases x <;> rfl
def jrem (x y : Int32) : Int32 := x - x / y * y
theorem n_RX7_147 : Cond.fieldLinkNest RX7 147 "WideCell$Keeper" "isRunning" "Z" "WideCell" ∈ wN := List.mem_of_getElem? (i := 0) rfl
theorem n_RX7_151 : Cond.fieldLinkNest RX7 151 "WideCell$Keeper" "table" "LWideCell$Table;" "WideCell" ∈ wN := List.mem_of_getElem? (i := 1) rfl
theorem n_RX7_163 : Cond.fieldLinkNest RX7 163 "WideCell$Keeper" "waiting" "Ljava/util/ArrayList;" "WideCell" ∈ wN := List.mem_of_getElem? (i := 2) rfl
theorem n_RX7_172 : Cond.fieldLinkNest RX7 172 "WideCell$Table" "stamps" "[I" "WideCell" ∈ wN := List.mem_of_getElem? (i := 3) rfl
theorem n_RX7_36 : Cond.methodLinkNest RX7 36 yX1_init "WideCell" ∈ wN := List.mem_of_getElem? (i := 4) rfl
theorem n_RX2_1 : Cond.methodLinkNest RX2 1 yX0_init "WideCell" ∈ wN := List.mem_of_getElem? (i := 5) rfl
theorem n_RX5_53 : Cond.methodLinkNest RX5 53 yX7_cellAt "WideCell" ∈ wN := List.mem_of_getElem? (i := 6) rfl
theorem n_RX6_1 : Cond.methodLinkNest RX6 1 yX0_init "WideCell" ∈ wN := List.mem_of_getElem? (i := 7) rfl
section RO2
variable {p : Program} {l : Launch} {e : Env} {R : Room} {s : State} {m : MethodId} {args : Array Value} {below : List Frame} {meth : Method} {c : Code} {H : Heap} {locs : List Loc} {cells slots : Nat} {Q : State → Prop}
variable {cc : ByteArray} {nL : Nat} {Ts : List Cond} {own : String} {G : wG} {σ : cS} {μ : mS} {o : Nat → Int64} {pc : Nat} {ls : Array Slot} {rest : List Value}
theorem r_irem (S : CallFix p m c cc nL s args Ts own) {x y : Int32} (h : ¬ y = 0) (hdg : decode cc pc = .ok (.irem, 1)) (kk : W p l e R s m args below meth c H locs cells slots Q (F0 m (pc + 1) ls (.int (jrem x y) :: rest))) : W p l e R s m args below meth c H locs cells slots Q (F0 m pc ls (.int y :: .int x :: rest)) :=
  lv_irem S.1 S.2.1 hdg h kk
theorem r_remN (S : CallFix p m c cc nL s args Ts own) {a b : Nat} (ha : a < 2 ^ 31) (h0 : 0 < b) (hb : b < 2 ^ 31) (hdg : decode cc pc = .ok (.irem, 1)) (kk : W p l e R s m args below meth c H locs cells slots Q (F0 m (pc + 1) ls (.int (nI (a % b)) :: rest))) : W p l e R s m args below meth c H locs cells slots Q (F0 m pc ls (.int (nI b) :: .int (nI a) :: rest)) :=
  lv_irem S.1 S.2.1 hdg (nI_ne0 h0 hb) (by rw [pk_rem ha h0 hb]; exact kk)
theorem r_tswIn (S : CallFix p m c cc nL s args Ts own) {dflt lo hi : Int} {offs : Array Int} {len a : Nat} {off : Int} {tgt : Nat} (ha : a < 2 ^ 31) (hdg : decode cc pc = .ok (.tableswitch dflt lo hi offs, len)) (h1 : lo ≤ (a : Int)) (h2 : (a : Int) ≤ hi) (ho : offs[((a : Int) - lo).toNat]? = some off) (ht : (pc : Int) + off = (tgt : Int)) (kk : W p l e R s m args below meth c H locs cells slots Q (F0 m tgt ls rest)) : W p l e R s m args below meth c H locs cells slots Q (F0 m pc ls (.int (nI a) :: rest)) :=
  lv_tableIn S.1 S.2.1 hdg (by rw [nI_toInt ha]; omega) (by rw [nI_toInt ha]; omega) (by rw [nI_toInt ha]; exact ho) ht kk
theorem r_tswOut (S : CallFix p m c cc nL s args Ts own) {dflt lo hi : Int} {offs : Array Int} {len a : Nat} {tgt : Nat} (ha : a < 2 ^ 31) (hdg : decode cc pc = .ok (.tableswitch dflt lo hi offs, len)) (h : hi < (a : Int)) (ht : (pc : Int) + dflt = (tgt : Int)) (kk : W p l e R s m args below meth c H locs cells slots Q (F0 m tgt ls rest)) : W p l e R s m args below meth c H locs cells slots Q (F0 m pc ls (.int (nI a) :: rest)) :=
  lv_tableOut S.1 S.2.1 hdg (Or.inr (by rw [nI_toInt ha]; exact h)) ht kk
theorem wZ_call {σ' : cS} {μ' : mS} {t : State} {H1 : Heap} {locs1 : List Loc} (Z : wZ G σ μ o s H locs) (hB : wI G σ' μ' o t) (ht : t.heap = H1) (hS : va_S (gP G) s.heap H1 locs1) : wZ G σ' μ' o s H1 locs1 :=
  ⟨Z.1, Z.2.1, by rw [← ht]; exact hB.2.2.1, hB.2.2.2, hS⟩
end RO2
