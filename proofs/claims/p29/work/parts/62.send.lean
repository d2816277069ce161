/-! the relation; what is sent, taken, kept as a hint -/
/-- a change: its place, stamp, value or time, end -/
abbrev Ch : Type := Nat × Int32 × Int32 × Int32
def okC (c : Ch) : Prop := (c.1 < 64 ∧ okE (c.2.1, c.2.2.1, c.2.2.2)) ∨ (64 ≤ c.1 ∧ c.1 < 156 ∧ okT (c.2.1, c.2.2.1))
def goC (σ : cS) (t : Nat) (c : Ch) : cS := if c.1 < 64 then takE σ t c.1 c.2.2.1 c.2.1 c.2.2.2 else takT σ t (c.1 - 64) c.2.1 c.2.2.1
def gE (c : Ch) (k : Nat) (x : tE) : tE := if c.1 = k then tkE x (c.2.1, c.2.2.1, c.2.2.2) else x
def gT (c : Ch) (k : Nat) (x : tT) : tT := if c.1 = 64 + k then tkT x (c.2.1, c.2.2.1) else x
def gE2 (c : Ch) (k : Nat) (x : tE) : tE := if c.1 = k then tkE2 x (c.2.1, c.2.2.1, c.2.2.2) else x
def gT2 (c : Ch) (k : Nat) (x : tT) : tT := if c.1 = 64 + k then tkT2 x (c.2.1, c.2.2.1) else x
theorem gE_eq {c : Ch} {k : Nat} {x : tE} (hc : okC c) (hk : k < 64) (hx : okX x) : nE (gE2 c k x) = gE c k (nE x) ∧ okX (gE2 c k x) := by
  unfold gE gE2
  by_cases h : c.1 = k
  · rw [if_pos h, if_pos h]
    rcases hc with hc | hc
    · exact tkE_eq hx hc.2
    · omega
  · rw [if_neg h, if_neg h]; exact ⟨rfl, hx⟩
theorem gT_eq {c : Ch} {k : Nat} {x : tT} (hc : okC c) (hx : okY x) : nT (gT2 c k x) = gT c k (nT x) ∧ okY (gT2 c k x) := by
  unfold gT gT2
  by_cases h : c.1 = 64 + k
  · rw [if_pos h, if_pos h]
    rcases hc with hc | hc
    · omega
    · exact tkT_eq hx hc.2.2
  · rw [if_neg h, if_neg h]; exact ⟨rfl, hx⟩
theorem sE_goC {σ : cS} {t t' k : Nat} {c : Ch} (hk : k < 64) : sE (goC σ t c) t' k = if t' = t then gE c k (sE σ t k) else sE σ t' k := by
  unfold goC gE
  by_cases h : c.1 < 64
  · rw [if_pos h, sE_takE]
    by_cases h1 : t' = t
    · by_cases h2 : k = c.1
      · rw [if_pos ⟨h1, h2⟩, if_pos h1, if_pos h2.symm, h2]
      · rw [if_neg (fun z => h2 z.2), if_pos h1, if_neg (fun z => h2 z.symm), h1]
    · rw [if_neg (fun z => h1 z.1), if_neg h1]
  · rw [if_neg h, sE_takT, if_neg (show ¬ c.1 = k by omega)]
    split
    · rename_i h1; rw [h1]
    · rfl
theorem sT_goC {σ : cS} {t t' k : Nat} {c : Ch} : sT (goC σ t c) t' k = if t' = t then gT c k (sT σ t k) else sT σ t' k := by
  unfold goC gT
  by_cases h : c.1 < 64
  · rw [if_pos h, sT_takE, if_neg (show ¬ c.1 = 64 + k by omega)]
    split
    · rename_i h1; rw [h1]
    · rfl
  · rw [if_neg h, sT_takT]
    by_cases h1 : t' = t
    · by_cases h2 : k = c.1 - 64
      · rw [if_pos ⟨h1, h2⟩, if_pos h1, if_pos (show c.1 = 64 + k by omega), h2]
      · rw [if_neg (fun z => h2 z.2), if_pos h1, if_neg (show ¬ c.1 = 64 + k by omega), h1]
    · rw [if_neg (fun z => h1 z.1), if_neg h1]
theorem goC_r {σ : cS} {t : Nat} {c : Ch} : (goC σ t c).2 = σ.2 := by
  unfold goC
  split
  · exact takE_r
  · exact takT_r
theorem cI_goC {σ : cS} {t p j : Nat} {c : Ch} (hp : p < 16) : cI (goC σ t c) p j = cI σ p j := by
  unfold goC
  split
  · exact cI_takE hp
  · exact cI_takT hp
theorem c_of {σ τ : cS} (h : σ.2 = τ.2) : cV σ = cV τ ∧ cU σ = cU τ ∧ cF σ = cF τ ∧ cM σ = cM τ ∧ cL σ = cL τ ∧ cE σ = cE τ ∧ cW σ = cW τ := ⟨congrArg (fun z => z.1) h, congrArg (fun z => z.2.1) h, congrArg (fun z => z.2.2.1) h, congrArg (fun z => z.2.2.2.1) h, congrArg (fun z => z.2.2.2.2.1) h, congrArg (fun z => z.2.2.2.2.2.1) h, congrArg (fun z => z.2.2.2.2.2.2) h⟩
/-- the class sends: the ideal copy first -/
def sdS (σ : cS) (c : Ch) (cs : Int32) : Nat → cS
  | 0 => goC σ 3 c
  | n + 1 => if bitB cs n = true ∧ cU σ n = true then goC (sdS σ c cs n) n c else sdS σ c cs n
theorem sdS_r {σ : cS} {c : Ch} {cs : Int32} : ∀ n, (sdS σ c cs n).2 = σ.2
  | 0 => goC_r
  | n + 1 => by
    unfold sdS
    split
    · rw [goC_r]; exact sdS_r n
    · exact sdS_r n
theorem cI_sdS {σ : cS} {c : Ch} {cs : Int32} {p j : Nat} (hp : p < 16) : ∀ n, cI (sdS σ c cs n) p j = cI σ p j
  | 0 => cI_goC hp
  | n + 1 => by
    unfold sdS
    split
    · rw [cI_goC hp]; exact cI_sdS hp n
    · exact cI_sdS hp n
theorem sE_sdS {σ : cS} {c : Ch} {cs : Int32} {t k : Nat} (hk : k < 64) : ∀ n, n ≤ 3 → sE (sdS σ c cs n) t k = if t = 3 ∨ (t < n ∧ bitB cs t = true ∧ cU σ t = true) then gE c k (sE σ t k) else sE σ t k
  | 0, _ => by
    unfold sdS
    rw [sE_goC hk]
    by_cases h : t = 3
    · rw [if_pos h, if_pos (Or.inl h), h]
    · rw [if_neg h, if_neg (fun z => z.elim h (fun z => absurd z.1 (Nat.not_lt_zero _)))]
  | n + 1, hn => by
    have ih := fun t => sE_sdS (σ := σ) (c := c) (cs := cs) (t := t) hk n (by omega)
    unfold sdS
    by_cases hb : bitB cs n = true ∧ cU σ n = true
    · rw [if_pos hb, sE_goC hk]
      by_cases ht : t = n
      · subst ht
        rw [if_pos rfl, ih t, if_neg (by omega), if_pos (Or.inr ⟨by omega, hb⟩)]
      · rw [if_neg ht, ih t]
        by_cases h : t = 3 ∨ (t < n ∧ bitB cs t = true ∧ cU σ t = true)
        · rw [if_pos h, if_pos (h.imp id (fun z => ⟨by omega, z.2⟩))]
        · rw [if_neg h, if_neg (fun z => h (z.imp id (fun z => ⟨by omega, z.2⟩)))]
    · rw [if_neg hb, ih t]
      by_cases h : t = 3 ∨ (t < n ∧ bitB cs t = true ∧ cU σ t = true)
      · rw [if_pos h, if_pos (h.imp id (fun z => ⟨by omega, z.2⟩))]
      · rw [if_neg h, if_neg (fun z => h (z.imp id (fun z => ⟨by
          rcases Nat.lt_or_ge t n with q | q
          · exact q
          · exact absurd (show bitB cs n = true ∧ cU σ n = true by rw [show n = t by omega]; exact z.2) hb, z.2⟩)))]
theorem sT_sdS {σ : cS} {c : Ch} {cs : Int32} {t k : Nat} : ∀ n, n ≤ 3 → sT (sdS σ c cs n) t k = if t = 3 ∨ (t < n ∧ bitB cs t = true ∧ cU σ t = true) then gT c k (sT σ t k) else sT σ t k
  | 0, _ => by
    unfold sdS
    rw [sT_goC]
    by_cases h : t = 3
    · rw [if_pos h, if_pos (Or.inl h), h]
    · rw [if_neg h, if_neg (fun z => z.elim h (fun z => absurd z.1 (Nat.not_lt_zero _)))]
  | n + 1, hn => by
    have ih := fun t => sT_sdS (σ := σ) (c := c) (cs := cs) (t := t) (k := k) n (by omega)
    unfold sdS
    by_cases hb : bitB cs n = true ∧ cU σ n = true
    · rw [if_pos hb, sT_goC]
      by_cases ht : t = n
      · subst ht
        rw [if_pos rfl, ih t, if_neg (by omega), if_pos (Or.inr ⟨by omega, hb⟩)]
      · rw [if_neg ht, ih t]
        by_cases h : t = 3 ∨ (t < n ∧ bitB cs t = true ∧ cU σ t = true)
        · rw [if_pos h, if_pos (h.imp id (fun z => ⟨by omega, z.2⟩))]
        · rw [if_neg h, if_neg (fun z => h (z.imp id (fun z => ⟨by omega, z.2⟩)))]
    · rw [if_neg hb, ih t]
      by_cases h : t = 3 ∨ (t < n ∧ bitB cs t = true ∧ cU σ t = true)
      · rw [if_pos h, if_pos (h.imp id (fun z => ⟨by omega, z.2⟩))]
      · rw [if_neg h, if_neg (fun z => h (z.imp id (fun z => ⟨by
          rcases Nat.lt_or_ge t n with q | q
          · exact q
          · exact absurd (show bitB cs n = true ∧ cU σ n = true by rw [show n = t by omega]; exact z.2) hb, z.2⟩)))]
/-- how many are told -/
def sdN (σ : cS) (cs : Int32) : Nat → Nat
  | 0 => 0
  | n + 1 => if bitB cs n = true ∧ cU σ n = true then sdN σ cs n + 1 else sdN σ cs n
/-- a copy comes up -/
def cuS (σ : cS) (i : Nat) (L : List Ch) : cS := L.foldl (fun s c => goC s i c) (cU' σ i true)
