/-! what is sent, in the law's words -/
theorem bit_and {a b k : Nat} (hk : k < 32) : bitB (nI (a &&& b)) k = (bitB (nI a) k && bitB (nI b) k) := by
  rw [tb_bitB hk, tb_bitB hk, tb_bitB hk, Nat.testBit_and]
theorem bit_lt : ∀ cs, cs < 8 → ∀ k, k < 3 → bitB (nI cs) k = cs.testBit k := fun cs _ k hk => tb_bitB (by omega)
theorem bit_7 : ∀ k, k < 3 → bitB (nI 7) k = true := by decide
theorem mny_and : ∀ cs, cs < 8 → ∀ u, u < 8 → (if (cs.testBit 2 && u.testBit 2) = true then (if (cs.testBit 1 && u.testBit 1) = true then (if (cs.testBit 0 && u.testBit 0) = true then 0 + 1 else 0) + 1 else (if (cs.testBit 0 && u.testBit 0) = true then 0 + 1 else 0)) + 1 else (if (cs.testBit 1 && u.testBit 1) = true then (if (cs.testBit 0 && u.testBit 0) = true then 0 + 1 else 0) + 1 else (if (cs.testBit 0 && u.testBit 0) = true then 0 + 1 else 0))) = mny (cs &&& u) := by decide
theorem sdN_mny {σ : cS} {cs u : Nat} (hcs : cs < 8) (hu : u < 8) (h : ∀ i, i < 3 → u.testBit i = cU σ i) : sdN σ (nI cs) 3 = mny (cs &&& u) := by
  rw [← mny_and cs hcs u hu]
  have e : ∀ i, i < 3 → ((bitB (nI cs) i = true ∧ cU σ i = true) ↔ (cs.testBit i && u.testBit i) = true) := fun i hi => by
    rw [bit_lt cs hcs i hi, h i hi, Bool.and_eq_true]
  simp only [sdN, e 0 (by decide), e 1 (by decide), e 2 (by decide)]
theorem sdN_le {σ : cS} {cs : Int32} : ∀ n, sdN σ cs n ≤ n
  | 0 => Nat.le_refl _
  | n + 1 => by
    have := sdN_le (σ := σ) (cs := cs) n
    unfold sdN
    split <;> omega
theorem wr_1 {new was sp : Int32} {P : Prop} [Decidable P] (h : new = if P then mx was sp else was) (hp : P) (c : ¬ sp ≤ was) : new = sp := by
  rw [h, if_pos hp]
  unfold mx
  rw [if_pos (fa_of_nle c)]
theorem wr_2 {new was sp : Int32} {P : Prop} [Decidable P] (h : new = if P then mx was sp else was) (hp : P) (c : sp ≤ was) : new = was := by
  rw [h, if_pos hp]
  unfold mx
  rw [if_neg (i_le_lt.mp c)]
theorem wr_3 {new was sp : Int32} {P : Prop} [Decidable P] (h : new = if P then mx was sp else was) (hp : ¬ P) : new = was := by
  rw [h, if_neg hp]
theorem LI_send {G : wG} {σ τ ns : cS} {m m1 : Nat → Nat} {L : Nat → List Ch} {nn cs : Nat} {c : Ch} (hK : KP G τ L nn) (hr : τ.2 = σ.2) (hJ : Jp σ L → Jp τ L) (hc : okN nn c) (hs : sc ns (sdS τ c (nI cs) 3)) (hH : HI G ns (sdLL τ (nI cs) c L)) (h0 : cV σ 4 = nI (m 0)) (h1 : cV σ 5 = nI (m 1)) (h1b : m 1 ≤ 1000) (h2 : ∀ i, i < 3 → m (2 + i) = (L i).length) (h5 : m 5 < 8) (h5b : ∀ i, i < 3 → (m 5).testBit i = cU σ i) (h7 : m 7 ≤ 1) (h7b : m 7 = 1 → m 6 = 0 ∧ Jp σ L) (h8 : nn ≤ m 8) (h8b : m 8 ≤ 8) (hN : HN m m1 cs 3) (hcs : m 7 = 1 → cs = 7) : LI G ns m1 := by
  obtain ⟨g0, g1, g5, g8, g2, g6, g6b, g6c, g7, g7b⟩ := hN
  obtain ⟨eV, eU, -⟩ := c_of hr
  have hdn : ∀ i, i < 3 → (dn m cs i ↔ bitB (nI cs) i = true ∧ cU τ i = false) := fun i hi => by
    unfold dn
    rw [tb_bitB (k := m 5) (by omega), h5b i hi, eU]
  have hlen : ∀ i, i < 3 → (L i).length ≤ 10 := fun i hi => (hK.1.1 i hi).1
  refine ⟨sdLL τ (nI cs) c L, nn, send_KP hK hc hs hH, ?_, ?_, by rw [g1]; exact h1b, fun i hi => ?_, by rw [g5]; exact h5, fun i hi => ?_, by omega, fun z => ?_, by rw [g8]; exact h8, by rw [g8]; exact h8b⟩
  · rw [sd_V hs, eV, g0]; exact h0
  · rw [sd_V hs, eV, g1]; exact h1
  · unfold sdLL
    by_cases q : bitB (nI cs) i = true ∧ cU τ i = false ∧ (L i).length < 10
    · have hd : dn m cs i := (hdn i hi).mpr ⟨q.1, q.2.1⟩
      rw [if_pos q, (g2 i hi).1 ⟨hi, hd, by rw [h2 i hi]; exact q.2.2⟩, h2 i hi]
      simp
    · rw [if_neg q, (g2 i hi).2 (fun y => q ⟨((hdn i hi).mp y.2.1).1, ((hdn i hi).mp y.2.1).2, by rw [← h2 i hi]; exact y.2.2⟩), h2 i hi]
  · rw [g5, sd_U hs, eU]; exact h5b i hi
  · have z7 : m 7 = 1 := by omega
    have z6 : m1 6 = 0 := by
      rcases Nat.eq_zero_or_pos (m1 6) with q | q
      · exact q
      · have := g7b (by decide) q; omega
    refine ⟨z6, send_Jp hK hc hs (fun i hi => by rw [hcs z7]; exact bit_7 i hi) (fun i hi hu => ?_) (hJ (h7b z7).2)⟩
    have q := g6c (by rw [z6, (h7b z7).1]) i hi ((hdn i hi).mpr ⟨by rw [hcs z7]; exact bit_7 i hi, hu⟩)
    have := hlen i hi
    rw [h2 i hi] at q
    omega
section LR2
variable {p : Program} {l : Launch} {e : Env} {R : Room} {s : State} {m : MethodId} {args : Array Value} {below : List Frame} {meth : Method} {c : Code} {H : Heap} {locs : List Loc} {cells slots : Nat} {Q : State → Prop}
variable {cc : ByteArray} {nL : Nat} {Ts : List Cond} {own : String} {pc : Nat} {ls : Array Slot} {rest : List Value}
theorem r_andN (S : CallFix p m c cc nL s args Ts own) {a b : Nat} (hdg : decode cc pc = .ok (.iand, 1)) (kk : W p l e R s m args below meth c H locs cells slots Q (F0 m (pc + 1) ls (.int (nI (a &&& b)) :: rest))) : W p l e R s m args below meth c H locs cells slots Q (F0 m pc ls (.int (nI b) :: .int (nI a) :: rest)) :=
  lv_iand S.1 S.2.1 hdg (by rw [fa_and]; exact kk)
end LR2
/-- an entry that was written -/
theorem okN_write {σ : cS} {n k v sp li a : Nat} (hk : k < 64) (hv : v ≤ 999) (hsp : sp ≤ 999) (hli : li ≤ 1000) (hV : cV σ 4 = nI a) (ha : a ≤ 10000) : okN n (k, nI sp, nI v, enW σ li) := by
  refine ⟨Or.inl ⟨hk, ?_⟩, by show k < _; omega⟩
  unfold enW
  by_cases h : li = 0
  · rw [if_pos h]
    exact ⟨sp, v, 1, hsp, hv, by decide, by decide, Or.inl rfl⟩
  · rw [if_neg h, hV, nI_add]
    exact ⟨sp, v, a + li, hsp, hv, by omega, by omega, Or.inr rfl⟩
theorem okN_tomb {σ : cS} {n P sp a : Nat} {x : Int32} (hP : P < 84 + n) (h92 : P < 92) (hsp : sp ≤ 999) (hV : cV σ 4 = nI a) (ha : a ≤ 10000) : okN n (64 + P, nI sp, cV σ 4, x) := by
  refine ⟨Or.inr ⟨by show 64 ≤ 64 + P; omega, by show 64 + P < 156; omega, ?_⟩, by show 64 + P < _; omega⟩
  rw [hV]
  exact ⟨sp, a, hsp, ha, rfl⟩
theorem bit_P {σ : cS} {m : Nat → Nat} {cs i : Nat} (hi : i < 3) (h5b : ∀ i, i < 3 → (m 5).testBit i = cU σ i) : (bitB (nI cs) i = true ∧ cU σ i = true) ↔ bitB (nI (cs &&& m 5)) i = true := by
  rw [bit_and (by omega), Bool.and_eq_true, tb_bitB (k := m 5) (by omega), h5b i hi]
/-- what a step leaves -/
def SQ (G : wG) (ca : Nat) (m : Nat → Nat) (u : cS × mS) : Prop := ∃ m1, u.2 = [(ca, cA G m1)] ∧ LI G u.1 m1 ∧ m1 0 ≤ m 0 + 100 ∧ m1 6 ≤ m 6 + 3
