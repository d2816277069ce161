/-! the class' state and the model's, cell by cell -/
abbrev tE : Type := Int32 × Int32 × Int32
abbrev tT : Type := Int32 × Int32
/-- stamp, value, end of an entry; stamp and time of a tombstone -/
def sE (σ : cS) (t k : Nat) : tE := (cI σ (15 + 6 * t + 1) k, cI σ (15 + 6 * t + 2) k, cI σ (15 + 6 * t + 3) k)
def sT (σ : cS) (t k : Nat) : tT := (cI σ (15 + 6 * t + 4) k, cI σ (15 + 6 * t + 5) k)
def bE (x y : tE) : Bool := if y.1 = x.1 then (if y.2.1 = x.2.1 then decide (endR x.2.2 < endR y.2.2) else decide (x.2.1 < y.2.1)) else decide (x.1 < y.1)
def bE2 (x y : tE) : Bool := if x.1 < y.1 then true else if y.1 = x.1 then (if x.2.1 < y.2.1 then true else if y.2.1 = x.2.1 then laterB y.2.2 x.2.2 else false) else false
def tkE (x y : tE) : tE := if bE x y = true then y else x
def tkE2 (x y : tE) : tE := if bE2 x y = true then y else x
def nE (x : tE) : tE := if x.1 = -1 then (-1, nI 0, nI 0) else x
def bT (x y : tT) : Bool := if y.1 = x.1 then decide (x.2 < y.2) else decide (x.1 < y.1)
def bT2 (x y : tT) : Bool := if x.1 < y.1 then true else if y.1 = x.1 then !decide (y.2 ≤ x.2) else false
def tkT (x y : tT) : tT := if bT x y = true then y else x
def tkT2 (x y : tT) : tT := if bT2 x y = true then y else x
def nT (x : tT) : tT := if x.1 = -1 then (-1, nI 0) else x
def okE (x : tE) : Prop := ∃ a b c : Nat, a ≤ 999 ∧ b ≤ 999 ∧ 1 ≤ c ∧ c ≤ 11000 ∧ (x = (nI a, nI b, -1) ∨ x = (nI a, nI b, nI c))
def okX (x : tE) : Prop := x.1 = -1 ∨ okE x
def okT (x : tT) : Prop := ∃ a b : Nat, a ≤ 999 ∧ b ≤ 10000 ∧ x = (nI a, nI b)
def okY (x : tT) : Prop := x.1 = -1 ∨ okT x
theorem m1_lt {n : Nat} (h : n < 2 ^ 31) : (-1 : Int32) < nI n := by
  rw [fa_lt, nI_toInt h, show (-1 : Int32).toInt = -1 from by decide]
  omega
theorem m1_le {n : Nat} (h : n < 2 ^ 31) : (-1 : Int32) ≤ nI n := (fa_of_lt (m1_lt h)).1
theorem nI_m1 {n : Nat} (h : n < 2 ^ 31) : ¬ (-1 : Int32) = nI n := fun z => nI_nm1 h z.symm
theorem i_irr (a : Int32) : ¬ a < a := fun h => (fa_of_lt h).2.2.1 h
theorem i_asy {a b : Int32} (h : a < b) : ¬ b < a := (fa_of_lt h).2.2.1
theorem i_le_lt {a b : Int32} : a ≤ b ↔ ¬ b < a := ⟨fun h z => (fa_of_lt z).2.1 h, fun h => fa_of_nlt h⟩
theorem i_nlt {a b : Int32} : ¬ a < b ↔ b ≤ a := i_le_lt.symm
theorem endR_i {c : Nat} (h : c < 2 ^ 31) : endR (nI c) = nI c := by unfold endR; rw [if_neg (nI_nm1 h)]
theorem endR_m : endR (-1) = nI 11001 := rfl
theorem okE_1 {x : tE} (h : okE x) : (-1 : Int32) < x.1 ∧ x.1 ≠ -1 := by
  obtain ⟨a, b, c, ha, -, -, -, rfl | rfl⟩ := h
  · exact ⟨m1_lt (by omega), nI_nm1 (by omega)⟩
  · exact ⟨m1_lt (by omega), nI_nm1 (by omega)⟩
theorem okT_1 {x : tT} (h : okT x) : (-1 : Int32) < x.1 ∧ x.1 ≠ -1 := by
  obtain ⟨a, b, ha, -, rfl⟩ := h
  exact ⟨m1_lt (by omega), nI_nm1 (by omega)⟩
theorem dec_nle (x y : Nat) : (!decide (y ≤ x)) = decide (x < y) := by
  by_cases h : x < y
  · simp [h, Nat.not_le.mpr h]
  · simp [h, Nat.not_lt.mp h]
/-- better: the class' word and the model's -/
theorem bE_eq {x y : tE} (hx : okE x) (hy : okE y) : bE x y = bE2 x y := by
  obtain ⟨a, b, c, ha, hb, hc1, hc, hx⟩ := hx
  obtain ⟨a', b', c', ha', hb', hc1', hc', hy⟩ := hy
  have A : a < 2 ^ 31 := by omega
  have B : b < 2 ^ 31 := by omega
  have C : c < 2 ^ 31 := by omega
  have A' : a' < 2 ^ 31 := by omega
  have B' : b' < 2 ^ 31 := by omega
  have C' : c' < 2 ^ 31 := by omega
  have D : 11001 < 2 ^ 31 := by decide
  unfold bE bE2
  rcases hx with rfl | rfl <;> rcases hy with rfl | rfl <;> simp only [nI_eq A' A, nI_eq B' B, nI_ltI A A', nI_ltI B B', laterB, endR_m, endR_i C, endR_i C', nI_ltI D D, nI_ltI D C', nI_ltI C D, nI_ltI C C', nI_leI C' C, nI_nm1 C, nI_nm1 C', if_true, if_false, reduceIte]
  all_goals (try simp only [dec_nle])
  all_goals grind
theorem bT_eq {x y : tT} (hx : okT x) (hy : okT y) : bT x y = bT2 x y := by
  obtain ⟨a, b, ha, hb, rfl⟩ := hx
  obtain ⟨a', b', ha', hb', rfl⟩ := hy
  have A : a < 2 ^ 31 := by omega
  have B : b < 2 ^ 31 := by omega
  have A' : a' < 2 ^ 31 := by omega
  have B' : b' < 2 ^ 31 := by omega
  unfold bT bT2
  simp only [nI_eq A' A, nI_ltI A A', nI_ltI B B', nI_leI B' B, dec_nle]
  grind
theorem bE_irr (x : tE) : bE x x = false := by unfold bE; simp [i_irr]
theorem bT_irr (x : tT) : bT x x = false := by unfold bT; simp [i_irr]
theorem bE_asy {x y : tE} (h : bE x y = true) : bE y x = false := by
  unfold bE at h ⊢
  by_cases h1 : y.1 = x.1
  · rw [if_pos h1] at h
    rw [if_pos h1.symm]
    by_cases h2 : y.2.1 = x.2.1
    · rw [if_pos h2] at h
      rw [if_pos h2.symm]
      exact decide_eq_false (i_asy (of_decide_eq_true h))
    · rw [if_neg h2] at h
      rw [if_neg (fun z => h2 z.symm)]
      exact decide_eq_false (i_asy (of_decide_eq_true h))
  · rw [if_neg h1] at h
    rw [if_neg (fun z => h1 z.symm)]
    exact decide_eq_false (i_asy (of_decide_eq_true h))
theorem bT_asy {x y : tT} (h : bT x y = true) : bT y x = false := by
  unfold bT at h ⊢
  by_cases h1 : y.1 = x.1
  · rw [if_pos h1] at h
    rw [if_pos h1.symm]
    exact decide_eq_false (i_asy (of_decide_eq_true h))
  · rw [if_neg h1] at h
    rw [if_neg (fun z => h1 z.symm)]
    exact decide_eq_false (i_asy (of_decide_eq_true h))
theorem tkE_self (x : tE) : tkE x x = x := by unfold tkE; split <;> rfl
theorem tkT_self (x : tT) : tkT x x = x := by unfold tkT; split <;> rfl
/-- taken from one that has taken -/
theorem tkE_back (x y : tE) : tkE x (tkE y x) = tkE x y := by
  by_cases h : bE y x = true
  · rw [show tkE y x = x from if_pos h, tkE_self]
    exact (if_neg (by rw [bE_asy h]; decide)).symm
  · rw [show tkE y x = y from if_neg h]
theorem tkT_back (x y : tT) : tkT x (tkT y x) = tkT x y := by
  by_cases h : bT y x = true
  · rw [show tkT y x = x from if_pos h, tkT_self]
    exact (if_neg (by rw [bT_asy h]; decide)).symm
  · rw [show tkT y x = y from if_neg h]
theorem tkT_twice (x y : tT) : tkT (tkT x y) y = tkT x y := by
  by_cases h : bT x y = true
  · rw [show tkT x y = y from if_pos h, tkT_self]
  · rw [show tkT x y = x from if_neg h]; exact if_neg h
theorem nE_ok {x : tE} (h : okE x) : nE x = x := if_neg (okE_1 h).2
theorem nT_ok {x : tT} (h : okT x) : nT x = x := if_neg (okT_1 h).2
/-- an entry is taken: both ways alike -/
theorem tkE_eq {x y : tE} (hx : okX x) (hy : okE y) : nE (tkE2 x y) = tkE (nE x) y ∧ okX (tkE2 x y) := by
  rcases hx with h | h
  · have e1 : bE2 x y = true := by unfold bE2; rw [if_pos (by rw [h]; exact (okE_1 hy).1)]
    have e2 : bE (nE x) y = true := by
      unfold nE
      rw [if_pos h]
      unfold bE
      rw [if_neg (okE_1 hy).2]
      exact decide_eq_true (okE_1 hy).1
    rw [show tkE2 x y = y from if_pos e1, show tkE (nE x) y = y from if_pos e2]
    exact ⟨nE_ok hy, Or.inr hy⟩
  · rw [nE_ok h]
    unfold tkE tkE2
    rw [bE_eq h hy]
    split
    · exact ⟨nE_ok hy, Or.inr hy⟩
    · exact ⟨nE_ok h, Or.inr h⟩
theorem tkT_eq {x y : tT} (hx : okY x) (hy : okT y) : nT (tkT2 x y) = tkT (nT x) y ∧ okY (tkT2 x y) := by
  rcases hx with h | h
  · have e1 : bT2 x y = true := by unfold bT2; rw [if_pos (by rw [h]; exact (okT_1 hy).1)]
    have e2 : bT (nT x) y = true := by
      unfold nT
      rw [if_pos h]
      unfold bT
      rw [if_neg (okT_1 hy).2]
      exact decide_eq_true (okT_1 hy).1
    rw [show tkT2 x y = y from if_pos e1, show tkT (nT x) y = y from if_pos e2]
    exact ⟨nT_ok hy, Or.inr hy⟩
  · rw [nT_ok h]
    unfold tkT tkT2
    rw [bT_eq h hy]
    split
    · exact ⟨nT_ok hy, Or.inr hy⟩
    · exact ⟨nT_ok h, Or.inr h⟩
/-- given by another: nothing, where it has none -/
def gvE (x y : tE) : tE := if y.1 = -1 then x else tkE2 x y
def gvT (x y : tT) : tT := if y.1 = -1 then x else tkT2 x y
theorem tkE_none {x : tE} (hx : okX x) : tkE (nE x) (-1, nI 0, nI 0) = nE x := by
  rcases hx with h | h
  · rw [show nE x = (-1, nI 0, nI 0) from if_pos h, tkE_self]
  · rw [nE_ok h]
    refine if_neg ?_
    unfold bE
    rw [if_neg (fun z => (okE_1 h).2 z.symm)]
    intro z
    exact i_asy (okE_1 h).1 (of_decide_eq_true z)
theorem tkT_none {x : tT} (hx : okY x) : tkT (nT x) (-1, nI 0) = nT x := by
  rcases hx with h | h
  · rw [show nT x = (-1, nI 0) from if_pos h, tkT_self]
  · rw [nT_ok h]
    refine if_neg ?_
    unfold bT
    rw [if_neg (fun z => (okT_1 h).2 z.symm)]
    intro z
    exact i_asy (okT_1 h).1 (of_decide_eq_true z)
theorem gvE_eq {x y : tE} (hx : okX x) (hy : okX y) : nE (gvE x y) = tkE (nE x) (nE y) ∧ okX (gvE x y) := by
  unfold gvE
  by_cases h : y.1 = -1
  · rw [if_pos h, show nE y = (-1, nI 0, nI 0) from if_pos h, tkE_none hx]
    exact ⟨rfl, hx⟩
  · rw [if_neg h]
    have h2 : okE y := hy.resolve_left h
    rw [nE_ok h2]
    exact tkE_eq hx h2
theorem gvT_eq {x y : tT} (hx : okY x) (hy : okY y) : nT (gvT x y) = tkT (nT x) (nT y) ∧ okY (gvT x y) := by
  unfold gvT
  by_cases h : y.1 = -1
  · rw [if_pos h, show nT y = (-1, nI 0) from if_pos h, tkT_none hx]
    exact ⟨rfl, hx⟩
  · rw [if_neg h]
    have h2 : okT y := hy.resolve_left h
    rw [nT_ok h2]
    exact tkT_eq hx h2
/-! what is written, read cell by cell -/
theorem cI_w1 {σ : cS} {p k q j : Nat} {x : Int32} : cI (w1 σ p k x) q j = if q = p ∧ j = k then x else cI σ q j := by
  by_cases h : q = p
  · subst h
    by_cases h2 : j = k
    · subst h2; rw [if_pos ⟨rfl, rfl⟩]; exact w1_s
    · rw [if_neg (fun z => h2 z.2)]; exact w1_k h2
  · rw [if_neg (fun z => h z.1)]; exact w1_n h
theorem ixT {t t' a b : Nat} (ha : a < 6) (hb : b < 6) : (15 + 6 * t' + a = 15 + 6 * t + b) ↔ (t' = t ∧ a = b) := by omega
theorem sE_putE {σ : cS} {t k t' k' : Nat} {v sp en : Int32} : sE (putE σ t k v sp en) t' k' = if t' = t ∧ k' = k then (sp, v, en) else sE σ t' k' := by
  unfold sE putE
  simp only [cI_w1, ixT (show 1 < 6 by decide) (show 1 < 6 by decide), ixT (show 1 < 6 by decide) (show 2 < 6 by decide), ixT (show 1 < 6 by decide) (show 3 < 6 by decide), ixT (show 2 < 6 by decide) (show 1 < 6 by decide), ixT (show 2 < 6 by decide) (show 2 < 6 by decide), ixT (show 2 < 6 by decide) (show 3 < 6 by decide), ixT (show 3 < 6 by decide) (show 1 < 6 by decide), ixT (show 3 < 6 by decide) (show 2 < 6 by decide), ixT (show 3 < 6 by decide) (show 3 < 6 by decide)]
  by_cases h : t' = t ∧ k' = k
  · simp [h.1, h.2]
  · by_cases h1 : t' = t
    · have h2 : ¬ k' = k := fun z => h ⟨h1, z⟩
      simp [h1, h2]
    · simp [h1]
theorem sT_putE {σ : cS} {t k t' k' : Nat} {v sp en : Int32} : sT (putE σ t k v sp en) t' k' = sT σ t' k' := by
  unfold sT putE
  simp only [cI_w1, ixT (show 4 < 6 by decide) (show 1 < 6 by decide), ixT (show 4 < 6 by decide) (show 2 < 6 by decide), ixT (show 4 < 6 by decide) (show 3 < 6 by decide), ixT (show 5 < 6 by decide) (show 1 < 6 by decide), ixT (show 5 < 6 by decide) (show 2 < 6 by decide), ixT (show 5 < 6 by decide) (show 3 < 6 by decide)]
  simp
theorem sT_putT {σ : cS} {t k t' k' : Nat} {sp ma : Int32} : sT (putT σ t k sp ma) t' k' = if t' = t ∧ k' = k then (sp, ma) else sT σ t' k' := by
  unfold sT putT
  simp only [cI_w1, ixT (show 4 < 6 by decide) (show 4 < 6 by decide), ixT (show 4 < 6 by decide) (show 5 < 6 by decide), ixT (show 5 < 6 by decide) (show 4 < 6 by decide), ixT (show 5 < 6 by decide) (show 5 < 6 by decide)]
  by_cases h : t' = t ∧ k' = k
  · simp [h.1, h.2]
  · by_cases h1 : t' = t
    · have h2 : ¬ k' = k := fun z => h ⟨h1, z⟩
      simp [h1, h2]
    · simp [h1]
theorem sE_putT {σ : cS} {t k t' k' : Nat} {sp ma : Int32} : sE (putT σ t k sp ma) t' k' = sE σ t' k' := by
  unfold sE putT
  simp only [cI_w1, ixT (show 1 < 6 by decide) (show 4 < 6 by decide), ixT (show 1 < 6 by decide) (show 5 < 6 by decide), ixT (show 2 < 6 by decide) (show 4 < 6 by decide), ixT (show 2 < 6 by decide) (show 5 < 6 by decide), ixT (show 3 < 6 by decide) (show 4 < 6 by decide), ixT (show 3 < 6 by decide) (show 5 < 6 by decide)]
  simp
theorem takE_eq {σ : cS} {t k : Nat} {v sp en : Int32} : takE σ t k v sp en = if bE (sE σ t k) (sp, v, en) = true then putE σ t k v sp en else σ := rfl
theorem takT_eq {σ : cS} {t k : Nat} {sp ma : Int32} : takT σ t k sp ma = if bT (sT σ t k) (sp, ma) = true then putT σ t k sp ma else σ := rfl
theorem sE_takE {σ : cS} {t k t' k' : Nat} {v sp en : Int32} : sE (takE σ t k v sp en) t' k' = if t' = t ∧ k' = k then tkE (sE σ t k) (sp, v, en) else sE σ t' k' := by
  rw [takE_eq]
  unfold tkE
  split
  · exact sE_putE
  · split
    · rename_i h; rw [h.1, h.2]
    · rfl
theorem sT_takE {σ : cS} {t k t' k' : Nat} {v sp en : Int32} : sT (takE σ t k v sp en) t' k' = sT σ t' k' := by
  rw [takE_eq]
  split
  · exact sT_putE
  · rfl
theorem sT_takT {σ : cS} {t k t' k' : Nat} {sp ma : Int32} : sT (takT σ t k sp ma) t' k' = if t' = t ∧ k' = k then tkT (sT σ t k) (sp, ma) else sT σ t' k' := by
  rw [takT_eq]
  unfold tkT
  split
  · exact sT_putT
  · split
    · rename_i h; rw [h.1, h.2]
    · rfl
theorem sE_takT {σ : cS} {t k t' k' : Nat} {sp ma : Int32} : sE (takT σ t k sp ma) t' k' = sE σ t' k' := by
  rw [takT_eq]
  split
  · exact sE_putT
  · rfl
theorem takE_r {σ : cS} {t k : Nat} {v sp en : Int32} : (takE σ t k v sp en).2 = σ.2 := by unfold takE; split <;> rfl
theorem takT_r {σ : cS} {t k : Nat} {sp ma : Int32} : (takT σ t k sp ma).2 = σ.2 := by unfold takT; split <;> rfl
theorem cI_putE {σ : cS} {t k p j : Nat} {v sp en : Int32} (hp : p < 16) : cI (putE σ t k v sp en) p j = cI σ p j := by
  unfold putE
  simp only [cI_w1]
  rw [if_neg (by omega), if_neg (by omega), if_neg (by omega)]
theorem cI_putT {σ : cS} {t k p j : Nat} {sp ma : Int32} (hp : p < 16) : cI (putT σ t k sp ma) p j = cI σ p j := by
  unfold putT
  simp only [cI_w1]
  rw [if_neg (by omega), if_neg (by omega)]
theorem cI_takE {σ : cS} {t k p j : Nat} {v sp en : Int32} (hp : p < 16) : cI (takE σ t k v sp en) p j = cI σ p j := by
  unfold takE
  split
  · exact cI_putE hp
  · rfl
theorem cI_takT {σ : cS} {t k p j : Nat} {sp ma : Int32} (hp : p < 16) : cI (takT σ t k sp ma) p j = cI σ p j := by
  unfold takT
  split
  · exact cI_putT hp
  · rfl
