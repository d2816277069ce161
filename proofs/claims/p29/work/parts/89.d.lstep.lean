/-! what cleaning, time, setting up and down leave -/
section LIs
variable {G : wG} {σ ns : cS} {m : Nat → Nat} {L : Nat → List Ch} {nn : Nat}
theorem KP_V {k : Nat} {x : Int32} (hK : KP G σ L nn) : KP G (cV' σ k x) L nn := ⟨HI_of rfl rfl rfl hK.1, hK.2.1, hK.2.2.1, hK.2.2.2.1, hK.2.2.2.2⟩
theorem KP_U {k : Nat} {x : Bool} (hK : KP G σ L nn) : KP G (cU' σ k x) L nn := ⟨HI_of rfl rfl rfl hK.1, hK.2.1, hK.2.2.1, hK.2.2.2.1, hK.2.2.2.2⟩
theorem LI_clean {i : Nat} {la : Int32} (hi : i < 3) (hK : KP G σ L nn) (h0 : cV σ 4 = nI (m 0)) (h1 : cV σ 5 = nI (m 1)) (h1b : m 1 ≤ 1000) (h2 : ∀ i, i < 3 → m (2 + i) = (L i).length) (h5 : m 5 < 8) (h5b : ∀ i, i < 3 → (m 5).testBit i = cU σ i) (h8 : nn ≤ m 8) (h8b : m 8 ≤ 8) : LI G (clS σ i la) (va_up m 7 0) := by
  obtain ⟨eV, eU, -⟩ := c_of (cl_r (σ := σ) (t := i) (la := la))
  have e : ∀ j, j ≠ 7 → va_up m 7 0 j = m j := fun j hj => va_up_ne _ _ hj
  refine ⟨L, nn, cl_KP (by omega) hK, ?_, ?_, ?_, fun j hj => ?_, ?_, fun j hj => ?_, ?_, fun z => ?_, ?_, ?_⟩
  · rw [eV, e 0 (by decide)]; exact h0
  · rw [eV, e 1 (by decide)]; exact h1
  · rw [e 1 (by decide)]; exact h1b
  · rw [e _ (by omega)]; exact h2 j hj
  · rw [e 5 (by decide)]; exact h5
  · rw [e 5 (by decide), eU]; exact h5b j hj
  · rw [va_up_self]; decide
  · rw [va_up_self] at z; exact absurd z (by decide)
  · rw [e 8 (by decide)]; exact h8
  · rw [e 8 (by decide)]; exact h8b
theorem LI_cleanE {i : Nat} {la : Int32} (hns : ns = clS σ i la) (hi : i < 3) (hK : KP G σ L nn) (h0 : cV σ 4 = nI (m 0)) (h1 : cV σ 5 = nI (m 1)) (h1b : m 1 ≤ 1000) (h2 : ∀ i, i < 3 → m (2 + i) = (L i).length) (h5 : m 5 < 8) (h5b : ∀ i, i < 3 → (m 5).testBit i = cU σ i) (h8 : nn ≤ m 8) (h8b : m 8 ≤ 8) : LI G ns (va_up m 7 0) := by
  rw [hns]
  exact LI_clean hi hK h0 h1 h1b h2 h5 h5b h8 h8b
theorem LI_pass {a : Nat} (hK : KP G σ L nn) (h0 : cV σ 4 = nI (m 0)) (h1 : cV σ 5 = nI (m 1)) (h1b : m 1 ≤ 1000) (h2 : ∀ i, i < 3 → m (2 + i) = (L i).length) (h5 : m 5 < 8) (h5b : ∀ i, i < 3 → (m 5).testBit i = cU σ i) (h7 : m 7 ≤ 1) (h7b : m 7 = 1 → m 6 = 0 ∧ Jp σ L) (h8 : nn ≤ m 8) (h8b : m 8 ≤ 8) : LI G (cV' σ 4 (cV σ 4 + nI a)) (va_up m 0 (m 0 + a)) := by
  have e : ∀ j, j ≠ 0 → va_up m 0 (m 0 + a) j = m j := fun j hj => va_up_ne _ _ hj
  refine ⟨L, nn, KP_V hK, ?_, ?_, ?_, fun j hj => ?_, ?_, fun j hj => ?_, ?_, fun z => ?_, ?_, ?_⟩
  · rw [va_up_self, ← nI_add, ← h0]; rfl
  · rw [e 1 (by decide)]; exact h1
  · rw [e 1 (by decide)]; exact h1b
  · rw [e _ (by omega)]; exact h2 j hj
  · rw [e 5 (by decide)]; exact h5
  · rw [e 5 (by decide)]; exact h5b j hj
  · rw [e 7 (by decide)]; exact h7
  · rw [e 7 (by decide)] at z
    rw [e 6 (by decide)]
    exact h7b z
  · rw [e 8 (by decide)]; exact h8
  · rw [e 8 (by decide)]; exact h8b
theorem LI_grace {g : Nat} (hg : g ≤ 1000) (hK : KP G σ L nn) (h0 : cV σ 4 = nI (m 0)) (h2 : ∀ i, i < 3 → m (2 + i) = (L i).length) (h5 : m 5 < 8) (h5b : ∀ i, i < 3 → (m 5).testBit i = cU σ i) (h7 : m 7 ≤ 1) (h7b : m 7 = 1 → m 6 = 0 ∧ Jp σ L) (h8 : nn ≤ m 8) (h8b : m 8 ≤ 8) : LI G (cV' σ 5 (nI g)) (va_up m 1 g) := by
  have e : ∀ j, j ≠ 1 → va_up m 1 g j = m j := fun j hj => va_up_ne _ _ hj
  refine ⟨L, nn, KP_V hK, ?_, ?_, ?_, fun j hj => ?_, ?_, fun j hj => ?_, ?_, fun z => ?_, ?_, ?_⟩
  · rw [e 0 (by decide)]; exact h0
  · rw [va_up_self]; rfl
  · rw [va_up_self]; exact hg
  · rw [e _ (by omega)]; exact h2 j hj
  · rw [e 5 (by decide)]; exact h5
  · rw [e 5 (by decide)]; exact h5b j hj
  · rw [e 7 (by decide)]; exact h7
  · rw [e 7 (by decide)] at z
    rw [e 6 (by decide)]
    exact h7b z
  · rw [e 8 (by decide)]; exact h8
  · rw [e 8 (by decide)]; exact h8b
theorem or_bits : ∀ a, a < 8 → ∀ i, i < 3 → (a ||| 2 ^ i) < 8 ∧ ∀ j, j < 3 → (a ||| 2 ^ i).testBit j = (a.testBit j || decide (j = i)) := by decide
def clr (a i : Nat) : Nat := if a.testBit i = true then a - 2 ^ i else a
theorem clr_bits : ∀ a, a < 8 → ∀ i, i < 3 → clr a i < 8 ∧ ∀ j, j < 3 → (clr a i).testBit j = (a.testBit j && !decide (j = i)) := by decide
theorem clr_eq : ∀ a, a < 8 → ∀ i, i < 3 → nI a &&& (nI (2 ^ i) ^^^ -1) = nI (clr a i) := by decide
theorem LI_up {i a : Nat} (hi : i < 3) (ha : a = 0) (hK : KP G σ L nn) (hs : sc ns (cuS σ i (L i))) (hH : HI G ns (va_up L i [])) (h0 : cV σ 4 = nI (m 0)) (h1 : cV σ 5 = nI (m 1)) (h1b : m 1 ≤ 1000) (h2 : ∀ i, i < 3 → m (2 + i) = (L i).length) (h5 : m 5 < 8) (h5b : ∀ i, i < 3 → (m 5).testBit i = cU σ i) (h7 : m 7 ≤ 1) (h7b : m 7 = 1 → m 6 = 0 ∧ Jp σ L) (h8 : nn ≤ m 8) (h8b : m 8 ≤ 8) : LI G ns (va_up (va_up m (2 + i) a) 5 (m 5 ||| 2 ^ i)) := by
  obtain ⟨g1, g2, g3, g4⟩ := up_KP hi hK hs hH
  obtain ⟨o1, o2⟩ := or_bits (m 5) h5 i hi
  have e : ∀ j, j ≠ 5 → j ≠ 2 + i → va_up (va_up m (2 + i) a) 5 (m 5 ||| 2 ^ i) j = m j := fun j hj hk => by rw [va_up_ne _ _ hj, va_up_ne _ _ hk]
  refine ⟨va_up L i [], nn, g1, ?_, ?_, ?_, fun j hj => ?_, ?_, fun j hj => ?_, ?_, fun z => ?_, ?_, ?_⟩
  · rw [g3, e 0 (by omega) (by omega)]; exact h0
  · rw [g3, e 1 (by omega) (by omega)]; exact h1
  · rw [e 1 (by omega) (by omega)]; exact h1b
  · by_cases hji : j = i
    · subst hji
      rw [va_up_ne _ _ (by omega), va_up_self, va_up_self, ha]; rfl
    · rw [e _ (by omega) (by omega), va_up_ne _ _ hji]; exact h2 j hj
  · rw [va_up_self]; exact o1
  · rw [va_up_self, o2 j hj, g4]
    by_cases hji : j = i
    · subst hji
      rw [va_up_self, decide_eq_true rfl, Bool.or_true]
    · rw [va_up_ne _ _ hji, decide_eq_false hji, Bool.or_false]; exact h5b j hj
  · rw [e 7 (by omega) (by omega)]; exact h7
  · rw [e 7 (by omega) (by omega)] at z
    rw [e 6 (by omega) (by omega)]
    exact ⟨(h7b z).1, g2 (h7b z).2⟩
  · rw [e 8 (by omega) (by omega)]; exact h8
  · rw [e 8 (by omega) (by omega)]; exact h8b
theorem LI_down {i a : Nat} (hi : i < 3) (ha : a = m (2 + i)) (hK : KP G σ L nn) (h0 : cV σ 4 = nI (m 0)) (h1 : cV σ 5 = nI (m 1)) (h1b : m 1 ≤ 1000) (h2 : ∀ i, i < 3 → m (2 + i) = (L i).length) (h5 : m 5 < 8) (h5b : ∀ i, i < 3 → (m 5).testBit i = cU σ i) (h7 : m 7 ≤ 1) (h7b : m 7 = 1 → m 6 = 0 ∧ Jp σ L) (h8 : nn ≤ m 8) (h8b : m 8 ≤ 8) : LI G (cU' σ i false) (va_up (va_up m (2 + i) a) 5 (clr (m 5) i)) := by
  obtain ⟨o1, o2⟩ := clr_bits (m 5) h5 i hi
  have e : ∀ j, j ≠ 5 → va_up (va_up m (2 + i) a) 5 (clr (m 5) i) j = m j := fun j hj => by
    rw [va_up_ne _ _ hj]
    by_cases q : j = 2 + i
    · rw [q, va_up_self, ha]
    · rw [va_up_ne _ _ q]
  refine ⟨L, nn, KP_U hK, ?_, ?_, ?_, fun j hj => ?_, ?_, fun j hj => ?_, ?_, fun z => ?_, ?_, ?_⟩
  · rw [e 0 (by decide)]; exact h0
  · rw [e 1 (by decide)]; exact h1
  · rw [e 1 (by decide)]; exact h1b
  · rw [e _ (by omega)]; exact h2 j hj
  · rw [va_up_self]; exact o1
  · rw [va_up_self, o2 j hj]
    show _ = va_up (cU σ) i false j
    by_cases hji : j = i
    · subst hji
      rw [va_up_self, decide_eq_true rfl, Bool.not_true, Bool.and_false]
    · rw [va_up_ne _ _ hji, decide_eq_false hji, Bool.not_false, Bool.and_true]; exact h5b j hj
  · rw [e 7 (by decide)]; exact h7
  · rw [e 7 (by decide)] at z
    rw [e 6 (by decide)]
    exact h7b z
  · rw [e 8 (by decide)]; exact h8
  · rw [e 8 (by decide)]; exact h8b
end LIs
section LR4
variable {p : Program} {l : Launch} {e : Env} {R : Room} {s : State} {m : MethodId} {args : Array Value} {below : List Frame} {meth : Method} {c : Code} {H : Heap} {locs : List Loc} {cells slots : Nat} {Q : State → Prop}
variable {cc : ByteArray} {nL : Nat} {Ts : List Cond} {own : String} {pc : Nat} {ls : Array Slot} {rest : List Value}
theorem r_orN (S : CallFix p m c cc nL s args Ts own) {a b : Nat} (hdg : decode cc pc = .ok (.ior, 1)) (kk : W p l e R s m args below meth c H locs cells slots Q (F0 m (pc + 1) ls (.int (nI (a ||| b)) :: rest))) : W p l e R s m args below meth c H locs cells slots Q (F0 m pc ls (.int (nI b) :: .int (nI a) :: rest)) :=
  lv_ior S.1 S.2.1 hdg (by rw [fa_or]; exact kk)
end LR4
