/-! the relation; what is sent, taken, kept as a hint -/
def RE (σ : cS) (μ : mS) : Prop := ∀ t k, t < 4 → k < 64 → sE σ t k = nE (xE μ (64 * t + k)) ∧ okX (xE μ (64 * t + k))
def RT (σ : cS) (μ : mS) : Prop := ∀ t k, t < 4 → k < 92 → sT σ t k = nT (xT μ (92 * t + k)) ∧ okY (xT μ (92 * t + k))
def RR (σ : cS) (μ : mS) : Prop := mR μ ≤ 8 ∧ (∀ r, r < mR μ → cI σ 2 r = mI μ 45 r ∧ cI σ 3 r = mI μ 46 r ∧ ∃ a b : Nat, a ≤ b ∧ b < 16 ∧ mI μ 45 r = nI a ∧ mI μ 46 r = nI b) ∧ ∀ r, mR μ ≤ r → r < 8 → cI σ 2 r = -1 ∧ cI σ 3 r = -1
def RV (σ : cS) (μ : mS) : Prop := cV σ 4 = mV μ 14 ∧ cV σ 5 = mV μ 15 ∧ cV σ 6 = mV μ 16 ∧ (∃ a : Nat, a ≤ 10000 ∧ mV μ 14 = nI a) ∧ ∃ a : Nat, a ≤ 1000 ∧ mV μ 15 = nI a
def RU (σ : cS) (μ : mS) : Prop := ∀ i, i < 3 → cU σ i = mU μ i
/-- a change: its place, stamp, value or time, end -/
abbrev Ch : Type := Nat × Int32 × Int32 × Int32
def okC (c : Ch) : Prop := (c.1 < 64 ∧ okE (c.2.1, c.2.2.1, c.2.2.2)) ∨ (64 ≤ c.1 ∧ c.1 < 156 ∧ okT (c.2.1, c.2.2.1))
def goC (σ : cS) (t : Nat) (c : Ch) : cS := if c.1 < 64 then takE σ t c.1 c.2.2.1 c.2.1 c.2.2.2 else takT σ t (c.1 - 64) c.2.1 c.2.2.1
def goM (μ : mS) (t : Nat) (c : Ch) : mS := if c.1 < 64 then takE2 μ (64 * t + c.1) c.2.1 c.2.2.1 c.2.2.2 else takT2 μ (92 * t + (c.1 - 64)) c.2.1 c.2.2.1
def gE (c : Ch) (k : Nat) (x : tE) : tE := if c.1 = k then tkE x (c.2.1, c.2.2.1, c.2.2.2) else x
def gT (c : Ch) (k : Nat) (x : tT) : tT := if c.1 = 64 + k then tkT x (c.2.1, c.2.2.1) else x
def gE2 (c : Ch) (k : Nat) (x : tE) : tE := if c.1 = k then tkE2 x (c.2.1, c.2.2.1, c.2.2.2) else x
def gT2 (c : Ch) (k : Nat) (x : tT) : tT := if c.1 = 64 + k then tkT2 x (c.2.1, c.2.2.1) else x
theorem gE_eq {c : Ch} {k : Nat} {x : tE} (hc : okC c) (hk : k < 64) (hx : okX x) : nE (gE2 c k x) = gE c k (nE x) ∧ okX (gE2 c k x) := by
  unfold gE gE2
  by_cases h : c.1 = k
  · rw [if_pos h, if_pos h]
    rcases hc with hc | hc
    · exact tkE_eq hx hc.2
    · omega
  · rw [if_neg h, if_neg h]; exact ⟨rfl, hx⟩
theorem gT_eq {c : Ch} {k : Nat} {x : tT} (hc : okC c) (hx : okY x) : nT (gT2 c k x) = gT c k (nT x) ∧ okY (gT2 c k x) := by
  unfold gT gT2
  by_cases h : c.1 = 64 + k
  · rw [if_pos h, if_pos h]
    rcases hc with hc | hc
    · omega
    · exact tkT_eq hx hc.2.2
  · rw [if_neg h, if_neg h]; exact ⟨rfl, hx⟩
theorem sE_goC {σ : cS} {t t' k : Nat} {c : Ch} (hk : k < 64) : sE (goC σ t c) t' k = if t' = t then gE c k (sE σ t k) else sE σ t' k := by
  unfold goC gE
  by_cases h : c.1 < 64
  · rw [if_pos h, sE_takE]
    by_cases h1 : t' = t
    · by_cases h2 : k = c.1
      · rw [if_pos ⟨h1, h2⟩, if_pos h1, if_pos h2.symm, h2]
      · rw [if_neg (fun z => h2 z.2), if_pos h1, if_neg (fun z => h2 z.symm), h1]
    · rw [if_neg (fun z => h1 z.1), if_neg h1]
  · rw [if_neg h, sE_takT, if_neg (show ¬ c.1 = k by omega)]
    split
    · rename_i h1; rw [h1]
    · rfl
theorem sT_goC {σ : cS} {t t' k : Nat} {c : Ch} : sT (goC σ t c) t' k = if t' = t then gT c k (sT σ t k) else sT σ t' k := by
  unfold goC gT
  by_cases h : c.1 < 64
  · rw [if_pos h, sT_takE, if_neg (show ¬ c.1 = 64 + k by omega)]
    split
    · rename_i h1; rw [h1]
    · rfl
  · rw [if_neg h, sT_takT]
    by_cases h1 : t' = t
    · by_cases h2 : k = c.1 - 64
      · rw [if_pos ⟨h1, h2⟩, if_pos h1, if_pos (show c.1 = 64 + k by omega), h2]
      · rw [if_neg (fun z => h2 z.2), if_pos h1, if_neg (show ¬ c.1 = 64 + k by omega), h1]
    · rw [if_neg (fun z => h1 z.1), if_neg h1]
theorem goC_r {σ : cS} {t : Nat} {c : Ch} : (goC σ t c).2 = σ.2 := by
  unfold goC
  split
  · exact takE_r
  · exact takT_r
theorem cI_goC {σ : cS} {t p j : Nat} {c : Ch} (hp : p < 16) : cI (goC σ t c) p j = cI σ p j := by
  unfold goC
  split
  · exact cI_takE hp
  · exact cI_takT hp
theorem xE_goM {μ : mS} {t t' k : Nat} {c : Ch} (hk : k < 64) : xE (goM μ t c) (64 * t' + k) = if t' = t then gE2 c k (xE μ (64 * t + k)) else xE μ (64 * t' + k) := by
  unfold goM gE2
  by_cases h : c.1 < 64
  · rw [if_pos h, xE_takE2]
    by_cases h1 : t' = t
    · by_cases h2 : k = c.1
      · rw [if_pos (by omega), if_pos h1, if_pos h2.symm, h2]
      · rw [if_neg (by omega), if_pos h1, if_neg (fun z => h2 z.symm), h1]
    · rw [if_neg (by omega), if_neg h1]
  · rw [if_neg h, xE_takT2, if_neg (show ¬ c.1 = k by omega)]
    split
    · rename_i h1; rw [h1]
    · rfl
theorem xT_goM {μ : mS} {t t' k : Nat} {c : Ch} (hc : okC c) (hk : k < 92) : xT (goM μ t c) (92 * t' + k) = if t' = t then gT2 c k (xT μ (92 * t + k)) else xT μ (92 * t' + k) := by
  unfold goM gT2
  by_cases h : c.1 < 64
  · rw [if_pos h, xT_takE2, if_neg (show ¬ c.1 = 64 + k by omega)]
    split
    · rename_i h1; rw [h1]
    · rfl
  · have h9 : c.1 < 156 := by
      rcases hc with hc | hc
      · omega
      · exact hc.2.1
    rw [if_neg h, xT_takT2]
    by_cases h1 : t' = t
    · by_cases h2 : k = c.1 - 64
      · rw [if_pos (by omega), if_pos h1, if_pos (show c.1 = 64 + k by omega), h2]
      · rw [if_neg (by omega), if_pos h1, if_neg (show ¬ c.1 = 64 + k by omega), h1]
    · rw [if_neg (by omega), if_neg h1]
theorem goM_r {μ : mS} {t : Nat} {c : Ch} : (goM μ t c).2 = μ.2 := by
  unfold goM
  split
  · exact takE2_r
  · exact takT2_r
theorem mI_goM {μ : mS} {t p j : Nat} {c : Ch} (hp : 45 ≤ p) : mI (goM μ t c) p j = mI μ p j := by
  unfold goM
  split
  · exact mI_takE2 hp
  · exact mI_takT2 hp
theorem m_of {μ ν : mS} (h : μ.2 = ν.2) : mV μ = mV ν ∧ mU μ = mU ν ∧ mR μ = mR ν ∧ mH μ = mH ν ∧ mA μ = mA ν := ⟨congrArg (fun z => z.1) h, congrArg (fun z => z.2.1) h, congrArg (fun z => z.2.2.1) h, congrArg (fun z => z.2.2.2.1) h, congrArg (fun z => z.2.2.2.2) h⟩
theorem c_of {σ τ : cS} (h : σ.2 = τ.2) : cV σ = cV τ ∧ cU σ = cU τ ∧ cF σ = cF τ ∧ cM σ = cM τ ∧ cL σ = cL τ ∧ cE σ = cE τ ∧ cW σ = cW τ := ⟨congrArg (fun z => z.1) h, congrArg (fun z => z.2.1) h, congrArg (fun z => z.2.2.1) h, congrArg (fun z => z.2.2.2.1) h, congrArg (fun z => z.2.2.2.2.1) h, congrArg (fun z => z.2.2.2.2.2.1) h, congrArg (fun z => z.2.2.2.2.2.2) h⟩
theorem goes2_eq {μ : mS} {k a : Nat} {sp v en : Int32} : goes2 μ k a sp v en = if mU μ k = true then goM μ k (a, sp, v, en) else if 10 ≤ mH μ k then μ else pushH μ k a sp v en := rfl
theorem RE_go {σ : cS} {μ : mS} {t : Nat} {c : Ch} (h : RE σ μ) (hc : okC c) : RE (goC σ t c) (goM μ t c) := by
  intro t' k ht hk
  rw [sE_goC hk, xE_goM hk]
  split
  · rename_i h1
    subst h1
    have := gE_eq hc hk (h t' k ht hk).2
    rw [(h t' k ht hk).1]
    exact ⟨this.1.symm, this.2⟩
  · exact h t' k ht hk
theorem RT_go {σ : cS} {μ : mS} {t : Nat} {c : Ch} (h : RT σ μ) (hc : okC c) : RT (goC σ t c) (goM μ t c) := by
  intro t' k ht hk
  rw [sT_goC, xT_goM hc hk]
  split
  · rename_i h1
    subst h1
    have := gT_eq (k := k) hc (h t' k ht hk).2
    rw [(h t' k ht hk).1]
    exact ⟨this.1.symm, this.2⟩
  · exact h t' k ht hk
/-- the class sends: the ideal copy first -/
def sdS (σ : cS) (c : Ch) (cs : Int32) : Nat → cS
  | 0 => goC σ 3 c
  | n + 1 => if bitB cs n = true ∧ cU σ n = true then goC (sdS σ c cs n) n c else sdS σ c cs n
theorem sdS_r {σ : cS} {c : Ch} {cs : Int32} : ∀ n, (sdS σ c cs n).2 = σ.2
  | 0 => goC_r
  | n + 1 => by
    unfold sdS
    split
    · rw [goC_r]; exact sdS_r n
    · exact sdS_r n
theorem cI_sdS {σ : cS} {c : Ch} {cs : Int32} {p j : Nat} (hp : p < 16) : ∀ n, cI (sdS σ c cs n) p j = cI σ p j
  | 0 => cI_goC hp
  | n + 1 => by
    unfold sdS
    split
    · rw [cI_goC hp]; exact cI_sdS hp n
    · exact cI_sdS hp n
theorem sE_sdS {σ : cS} {c : Ch} {cs : Int32} {t k : Nat} (hk : k < 64) : ∀ n, n ≤ 3 → sE (sdS σ c cs n) t k = if t = 3 ∨ (t < n ∧ bitB cs t = true ∧ cU σ t = true) then gE c k (sE σ t k) else sE σ t k
  | 0, _ => by
    unfold sdS
    rw [sE_goC hk]
    by_cases h : t = 3
    · rw [if_pos h, if_pos (Or.inl h), h]
    · rw [if_neg h, if_neg (fun z => z.elim h (fun z => absurd z.1 (Nat.not_lt_zero _)))]
  | n + 1, hn => by
    have ih := fun t => sE_sdS (σ := σ) (c := c) (cs := cs) (t := t) hk n (by omega)
    unfold sdS
    by_cases hb : bitB cs n = true ∧ cU σ n = true
    · rw [if_pos hb, sE_goC hk]
      by_cases ht : t = n
      · subst ht
        rw [if_pos rfl, ih t, if_neg (by omega), if_pos (Or.inr ⟨by omega, hb⟩)]
      · rw [if_neg ht, ih t]
        by_cases h : t = 3 ∨ (t < n ∧ bitB cs t = true ∧ cU σ t = true)
        · rw [if_pos h, if_pos (h.imp id (fun z => ⟨by omega, z.2⟩))]
        · rw [if_neg h, if_neg (fun z => h (z.imp id (fun z => ⟨by omega, z.2⟩)))]
    · rw [if_neg hb, ih t]
      by_cases h : t = 3 ∨ (t < n ∧ bitB cs t = true ∧ cU σ t = true)
      · rw [if_pos h, if_pos (h.imp id (fun z => ⟨by omega, z.2⟩))]
      · rw [if_neg h, if_neg (fun z => h (z.imp id (fun z => ⟨by
          rcases Nat.lt_or_ge t n with q | q
          · exact q
          · exact absurd (show bitB cs n = true ∧ cU σ n = true by rw [show n = t by omega]; exact z.2) hb, z.2⟩)))]
theorem sT_sdS {σ : cS} {c : Ch} {cs : Int32} {t k : Nat} : ∀ n, n ≤ 3 → sT (sdS σ c cs n) t k = if t = 3 ∨ (t < n ∧ bitB cs t = true ∧ cU σ t = true) then gT c k (sT σ t k) else sT σ t k
  | 0, _ => by
    unfold sdS
    rw [sT_goC]
    by_cases h : t = 3
    · rw [if_pos h, if_pos (Or.inl h), h]
    · rw [if_neg h, if_neg (fun z => z.elim h (fun z => absurd z.1 (Nat.not_lt_zero _)))]
  | n + 1, hn => by
    have ih := fun t => sT_sdS (σ := σ) (c := c) (cs := cs) (t := t) (k := k) n (by omega)
    unfold sdS
    by_cases hb : bitB cs n = true ∧ cU σ n = true
    · rw [if_pos hb, sT_goC]
      by_cases ht : t = n
      · subst ht
        rw [if_pos rfl, ih t, if_neg (by omega), if_pos (Or.inr ⟨by omega, hb⟩)]
      · rw [if_neg ht, ih t]
        by_cases h : t = 3 ∨ (t < n ∧ bitB cs t = true ∧ cU σ t = true)
        · rw [if_pos h, if_pos (h.imp id (fun z => ⟨by omega, z.2⟩))]
        · rw [if_neg h, if_neg (fun z => h (z.imp id (fun z => ⟨by omega, z.2⟩)))]
    · rw [if_neg hb, ih t]
      by_cases h : t = 3 ∨ (t < n ∧ bitB cs t = true ∧ cU σ t = true)
      · rw [if_pos h, if_pos (h.imp id (fun z => ⟨by omega, z.2⟩))]
      · rw [if_neg h, if_neg (fun z => h (z.imp id (fun z => ⟨by
          rcases Nat.lt_or_ge t n with q | q
          · exact q
          · exact absurd (show bitB cs n = true ∧ cU σ n = true by rw [show n = t by omega]; exact z.2) hb, z.2⟩)))]
/-- the model sends: the ideal copy last -/
theorem goes2_U {μ : mS} {k a : Nat} {sp v en : Int32} : mU (goes2 μ k a sp v en) = mU μ := by
  rw [goes2_eq]
  split
  · exact (m_of goM_r).2.1
  · split <;> rfl
theorem goes2_R {μ : mS} {k a : Nat} {sp v en : Int32} : mR (goes2 μ k a sp v en) = mR μ := by
  rw [goes2_eq]
  split
  · exact (m_of goM_r).2.2.1
  · split <;> rfl
theorem goes2_V {μ : mS} {k a : Nat} {sp v en : Int32} : mV (goes2 μ k a sp v en) = mV μ := by
  rw [goes2_eq]
  split
  · exact (m_of goM_r).1
  · split <;> rfl
theorem mI_push {μ : mS} {k a p j : Nat} {sp v en : Int32} (hp : p < 50) : mI (pushH μ k a sp v en) p j = mI μ p j := by
  show mI (w2 (w2 (w2 μ 50 _ sp) 51 _ v) 52 _ en) p j = _
  rw [mI_w2, if_neg (by omega), mI_w2, if_neg (by omega), mI_w2, if_neg (by omega)]
theorem xE_push {μ : mS} {k a q : Nat} {sp v en : Int32} : xE (pushH μ k a sp v en) q = xE μ q := by
  unfold xE; rw [mI_push (by decide), mI_push (by decide), mI_push (by decide)]
theorem xT_push {μ : mS} {k a q : Nat} {sp v en : Int32} : xT (pushH μ k a sp v en) q = xT μ q := by
  unfold xT; rw [mI_push (by decide), mI_push (by decide)]
theorem xE_goes2 {μ : mS} {k a q : Nat} {sp v en : Int32} : xE (goes2 μ k a sp v en) q = if mU μ k = true then xE (goM μ k (a, sp, v, en)) q else xE μ q := by
  rw [goes2_eq]
  split
  · rfl
  · split
    · rfl
    · exact xE_push
theorem xT_goes2 {μ : mS} {k a q : Nat} {sp v en : Int32} : xT (goes2 μ k a sp v en) q = if mU μ k = true then xT (goM μ k (a, sp, v, en)) q else xT μ q := by
  rw [goes2_eq]
  split
  · rfl
  · split
    · rfl
    · exact xT_push
theorem mI_goes2 {μ : mS} {k a p j : Nat} {sp v en : Int32} (h1 : 45 ≤ p) (h2 : p < 50) : mI (goes2 μ k a sp v en) p j = mI μ p j := by
  rw [goes2_eq]
  split
  · exact mI_goM h1
  · split
    · rfl
    · exact mI_push h2
theorem spS_U {μ : mS} {cs : Int32} {a : Nat} {sp v en : Int32} : ∀ n, mU (spS μ cs a sp v en n) = mU μ
  | 0 => rfl
  | n + 1 => by
    unfold spS
    split
    · rw [goes2_U]; exact spS_U n
    · exact spS_U n
theorem spS_R {μ : mS} {cs : Int32} {a : Nat} {sp v en : Int32} : ∀ n, mR (spS μ cs a sp v en n) = mR μ
  | 0 => rfl
  | n + 1 => by
    unfold spS
    split
    · rw [goes2_R]; exact spS_R n
    · exact spS_R n
theorem spS_V {μ : mS} {cs : Int32} {a : Nat} {sp v en : Int32} : ∀ n, mV (spS μ cs a sp v en n) = mV μ
  | 0 => rfl
  | n + 1 => by
    unfold spS
    split
    · rw [goes2_V]; exact spS_V n
    · exact spS_V n
theorem mI_spS {μ : mS} {cs : Int32} {a p j : Nat} {sp v en : Int32} (h1 : 45 ≤ p) (h2 : p < 50) : ∀ n, mI (spS μ cs a sp v en n) p j = mI μ p j
  | 0 => rfl
  | n + 1 => by
    unfold spS
    split
    · rw [mI_goes2 h1 h2]; exact mI_spS h1 h2 n
    · exact mI_spS h1 h2 n
theorem xE_spS {μ : mS} {cs : Int32} {a t k : Nat} {sp v en : Int32} (hk : k < 64) : ∀ n, n ≤ 3 → xE (spS μ cs a sp v en n) (64 * t + k) = if t < n ∧ bitB cs t = true ∧ mU μ t = true then gE2 (a, sp, v, en) k (xE μ (64 * t + k)) else xE μ (64 * t + k)
  | 0, _ => (if_neg (fun z => absurd z.1 (Nat.not_lt_zero _))).symm
  | n + 1, hn => by
    have ih := fun t => xE_spS (μ := μ) (cs := cs) (a := a) (t := t) (sp := sp) (v := v) (en := en) hk n (by omega)
    unfold spS
    by_cases hb : bitB cs n = true
    · rw [if_pos hb, xE_goes2, spS_U]
      by_cases hu : mU μ n = true
      · rw [if_pos hu, xE_goM hk]
        by_cases ht : t = n
        · subst ht
          rw [if_pos rfl, ih t, if_neg (by omega), if_pos ⟨by omega, hb, hu⟩]
        · rw [if_neg ht, ih t]
          by_cases h : t < n ∧ bitB cs t = true ∧ mU μ t = true
          · rw [if_pos h, if_pos ⟨by omega, h.2⟩]
          · rw [if_neg h, if_neg (fun z => h ⟨by omega, z.2⟩)]
      · rw [if_neg hu, ih t]
        by_cases h : t < n ∧ bitB cs t = true ∧ mU μ t = true
        · rw [if_pos h, if_pos ⟨by omega, h.2⟩]
        · rw [if_neg h, if_neg (fun z => h ⟨by
            rcases Nat.lt_or_ge t n with q | q
            · exact q
            · exact absurd (show mU μ n = true by rw [show n = t by omega]; exact z.2.2) hu, z.2⟩)]
    · rw [if_neg hb, ih t]
      by_cases h : t < n ∧ bitB cs t = true ∧ mU μ t = true
      · rw [if_pos h, if_pos ⟨by omega, h.2⟩]
      · rw [if_neg h, if_neg (fun z => h ⟨by
          rcases Nat.lt_or_ge t n with q | q
          · exact q
          · exact absurd (show bitB cs n = true by rw [show n = t by omega]; exact z.2.1) hb, z.2⟩)]
theorem xT_spS {μ : mS} {cs : Int32} {a t k : Nat} {sp v en : Int32} (hc : okC (a, sp, v, en)) (hk : k < 92) : ∀ n, n ≤ 3 → xT (spS μ cs a sp v en n) (92 * t + k) = if t < n ∧ bitB cs t = true ∧ mU μ t = true then gT2 (a, sp, v, en) k (xT μ (92 * t + k)) else xT μ (92 * t + k)
  | 0, _ => (if_neg (fun z => absurd z.1 (Nat.not_lt_zero _))).symm
  | n + 1, hn => by
    have ih := fun t => xT_spS (μ := μ) (cs := cs) (a := a) (t := t) (sp := sp) (v := v) (en := en) hc hk n (by omega)
    unfold spS
    by_cases hb : bitB cs n = true
    · rw [if_pos hb, xT_goes2, spS_U]
      by_cases hu : mU μ n = true
      · rw [if_pos hu, xT_goM hc hk]
        by_cases ht : t = n
        · subst ht
          rw [if_pos rfl, ih t, if_neg (by omega), if_pos ⟨by omega, hb, hu⟩]
        · rw [if_neg ht, ih t]
          by_cases h : t < n ∧ bitB cs t = true ∧ mU μ t = true
          · rw [if_pos h, if_pos ⟨by omega, h.2⟩]
          · rw [if_neg h, if_neg (fun z => h ⟨by omega, z.2⟩)]
      · rw [if_neg hu, ih t]
        by_cases h : t < n ∧ bitB cs t = true ∧ mU μ t = true
        · rw [if_pos h, if_pos ⟨by omega, h.2⟩]
        · rw [if_neg h, if_neg (fun z => h ⟨by
            rcases Nat.lt_or_ge t n with q | q
            · exact q
            · exact absurd (show mU μ n = true by rw [show n = t by omega]; exact z.2.2) hu, z.2⟩)]
    · rw [if_neg hb, ih t]
      by_cases h : t < n ∧ bitB cs t = true ∧ mU μ t = true
      · rw [if_pos h, if_pos ⟨by omega, h.2⟩]
      · rw [if_neg h, if_neg (fun z => h ⟨by
          rcases Nat.lt_or_ge t n with q | q
          · exact q
          · exact absurd (show bitB cs n = true by rw [show n = t by omega]; exact z.2.1) hb, z.2⟩)]
theorem RE_send {σ : cS} {μ : mS} {cs : Int32} {a : Nat} {sp v en : Int32} (h : RE σ μ) (hu : RU σ μ) (hm : mOK μ) (hc : okC (a, sp, v, en)) : RE (sdS σ (a, sp, v, en) cs 3) (spE μ cs a sp v en) := by
  intro t k ht hk
  unfold spE
  rw [sE_sdS hk 3 (Nat.le_refl _), xE_goes2, spS_U, if_pos hm.2.1, xE_goM hk]
  obtain ⟨h1, h2⟩ := h t k ht hk
  obtain ⟨g1, g2⟩ := gE_eq hc hk h2
  by_cases h3 : t = 3
  · subst h3
    rw [if_pos rfl, if_pos (Or.inl rfl), xE_spS hk 3 (Nat.le_refl _), if_neg (by omega), h1, g1]
    exact ⟨rfl, g2⟩
  · rw [if_neg h3, xE_spS hk 3 (Nat.le_refl _), ← hu t (by omega)]
    by_cases h4 : t < 3 ∧ bitB cs t = true ∧ cU σ t = true
    · rw [if_pos h4, if_pos (Or.inr h4), h1, g1]; exact ⟨rfl, g2⟩
    · rw [if_neg h4, if_neg (fun z => z.elim h3 h4)]; exact ⟨h1, h2⟩
theorem RT_send {σ : cS} {μ : mS} {cs : Int32} {a : Nat} {sp v en : Int32} (h : RT σ μ) (hu : RU σ μ) (hm : mOK μ) (hc : okC (a, sp, v, en)) : RT (sdS σ (a, sp, v, en) cs 3) (spE μ cs a sp v en) := by
  intro t k ht hk
  unfold spE
  rw [sT_sdS 3 (Nat.le_refl _), xT_goes2, spS_U, if_pos hm.2.1, xT_goM hc hk]
  obtain ⟨h1, h2⟩ := h t k ht hk
  obtain ⟨g1, g2⟩ := gT_eq (k := k) hc h2
  by_cases h3 : t = 3
  · subst h3
    rw [if_pos rfl, if_pos (Or.inl rfl), xT_spS hc hk 3 (Nat.le_refl _), if_neg (by omega), h1, g1]
    exact ⟨rfl, g2⟩
  · rw [if_neg h3, xT_spS hc hk 3 (Nat.le_refl _), ← hu t (by omega)]
    by_cases h4 : t < 3 ∧ bitB cs t = true ∧ cU σ t = true
    · rw [if_pos h4, if_pos (Or.inr h4), h1, g1]; exact ⟨rfl, g2⟩
    · rw [if_neg h4, if_neg (fun z => z.elim h3 h4)]; exact ⟨h1, h2⟩
/-- the hints of a copy, in their order -/
def hC (μ : mS) (q : Nat) : Ch := (mA μ q, mI μ 50 q, mI μ 51 q, mI μ 52 q)
def hL (μ : mS) (i : Nat) : List Ch := (List.range (mH μ i)).map (fun j => hC μ (10 * i + j))
theorem hL_len {μ : mS} {i : Nat} : (hL μ i).length = mH μ i := by simp [hL]
theorem hC_goM {μ : mS} {t q : Nat} {c : Ch} : hC (goM μ t c) q = hC μ q := by
  unfold hC
  rw [mI_goM (by decide), mI_goM (by decide), mI_goM (by decide), (m_of (goM_r (μ := μ) (t := t) (c := c))).2.2.2.2]
theorem hL_goM {μ : mS} {t i : Nat} {c : Ch} : hL (goM μ t c) i = hL μ i := by
  unfold hL
  rw [(m_of (goM_r (μ := μ) (t := t) (c := c))).2.2.2.1]
  exact List.map_congr_left (fun j _ => hC_goM)
theorem hC_push {μ : mS} {k a q : Nat} {sp v en : Int32} : hC (pushH μ k a sp v en) q = if q = 10 * k + mH μ k then (a, sp, v, en) else hC μ q := by
  unfold hC
  have e0 : mA (pushH μ k a sp v en) q = if q = 10 * k + mH μ k then a else mA μ q := rfl
  have e1 : ∀ p, mI (pushH μ k a sp v en) p q = mI (w2 (w2 (w2 μ 50 (10 * k + mH μ k) sp) 51 (10 * k + mH μ k) v) 52 (10 * k + mH μ k) en) p q := fun _ => rfl
  rw [e0, e1, e1, e1]
  simp only [mI_w2]
  by_cases h : q = 10 * k + mH μ k <;> simp [h]
theorem hL_push {μ : mS} {k a i : Nat} {sp v en : Int32} (hi : mH μ i ≤ 10) (hk : mH μ k < 10) : hL (pushH μ k a sp v en) i = if i = k then hL μ k ++ [(a, sp, v, en)] else hL μ i := by
  unfold hL
  have e0 : mH (pushH μ k a sp v en) i = if i = k then mH μ k + 1 else mH μ i := rfl
  rw [e0]
  by_cases h : i = k
  · subst h
    rw [if_pos rfl, if_pos rfl, List.range_succ, List.map_append]
    congr 1
    · apply List.map_congr_left
      intro j hj
      rw [hC_push, if_neg (by have := List.mem_range.mp hj; omega)]
    · simp [hC_push]
  · rw [if_neg h, if_neg h]
    apply List.map_congr_left
    intro j hj
    rw [hC_push, if_neg (by have := List.mem_range.mp hj; omega)]
theorem hL_goes2 {μ : mS} {k a i : Nat} {sp v en : Int32} (hi : mH μ i ≤ 10) : hL (goes2 μ k a sp v en) i = if i = k ∧ mU μ k = false ∧ (hL μ k).length < 10 then hL μ k ++ [(a, sp, v, en)] else hL μ i := by
  rw [goes2_eq, hL_len]
  by_cases hu : mU μ k = true
  · rw [if_pos hu, hL_goM, if_neg (by rw [hu]; simp)]
  · have hu' : mU μ k = false := by revert hu; cases mU μ k <;> simp
    rw [if_neg hu]
    by_cases h10 : 10 ≤ mH μ k
    · rw [if_pos h10, if_neg (by omega)]
    · rw [if_neg h10, hL_push hi (by omega)]
      by_cases h : i = k
      · rw [if_pos h, if_pos ⟨h, hu', by omega⟩]
      · rw [if_neg h, if_neg (fun z => h z.1)]
theorem hL_spS {μ : mS} {cs : Int32} {a i : Nat} {sp v en : Int32} (hm : mOK μ) (ha : a < 156) (hi : i < 3) : ∀ n, n ≤ 3 → hL (spS μ cs a sp v en n) i = if i < n ∧ bitB cs i = true ∧ mU μ i = false ∧ (hL μ i).length < 10 then hL μ i ++ [(a, sp, v, en)] else hL μ i
  | 0, _ => (if_neg (fun z => absurd z.1 (Nat.not_lt_zero _))).symm
  | n + 1, hn => by
    have ih := fun i hi => hL_spS (μ := μ) (cs := cs) (a := a) (i := i) (sp := sp) (v := v) (en := en) hm ha hi n (by omega)
    have hle := (ok_spS (cs := cs) (sp := sp) (v := v) (en := en) hm ha n).2.2.1
    unfold spS
    by_cases hb : bitB cs n = true
    · rw [if_pos hb, hL_goes2 (hle i hi), spS_U]
      by_cases h : i = n
      · subst h
        have e := ih i hi
        rw [if_neg (fun z => Nat.lt_irrefl _ z.1)] at e
        rw [e]
        by_cases h2 : mU μ i = false ∧ (hL μ i).length < 10
        · rw [if_pos ⟨rfl, h2⟩, if_pos ⟨by omega, hb, h2⟩]
        · rw [if_neg (fun z => h2 z.2), if_neg (fun z => h2 z.2.2)]
      · rw [if_neg (fun z => h z.1), ih i hi]
        by_cases h2 : i < n ∧ bitB cs i = true ∧ mU μ i = false ∧ (hL μ i).length < 10
        · rw [if_pos h2, if_pos ⟨by omega, h2.2⟩]
        · rw [if_neg h2, if_neg (fun z => h2 ⟨by omega, z.2⟩)]
    · rw [if_neg hb, ih i hi]
      by_cases h2 : i < n ∧ bitB cs i = true ∧ mU μ i = false ∧ (hL μ i).length < 10
      · rw [if_pos h2, if_pos ⟨by omega, h2.2⟩]
      · rw [if_neg h2, if_neg (fun z => h2 ⟨by
          rcases Nat.lt_or_ge i n with q | q
          · exact q
          · exact absurd (show bitB cs n = true by rw [show n = i by omega]; exact z.2.1) hb, z.2⟩)]
theorem hL_spE {μ : mS} {cs : Int32} {a i : Nat} {sp v en : Int32} (hm : mOK μ) (ha : a < 156) (hi : i < 3) : hL (spE μ cs a sp v en) i = if bitB cs i = true ∧ mU μ i = false ∧ (hL μ i).length < 10 then hL μ i ++ [(a, sp, v, en)] else hL μ i := by
  unfold spE
  rw [hL_goes2 ((ok_spS hm ha 3).2.2.1 i hi), if_neg (by omega), hL_spS hm ha hi 3 (Nat.le_refl _)]
  by_cases h2 : bitB cs i = true ∧ mU μ i = false ∧ (hL μ i).length < 10
  · rw [if_pos h2, if_pos ⟨hi, h2⟩]
  · rw [if_neg h2, if_neg (fun z => h2 z.2)]
/-- how many are told -/
def sdN (σ : cS) (cs : Int32) : Nat → Nat
  | 0 => 0
  | n + 1 => if bitB cs n = true ∧ cU σ n = true then sdN σ cs n + 1 else sdN σ cs n
theorem sdN_eq {σ : cS} {μ : mS} {cs : Int32} {a : Nat} {sp v en : Int32} (hu : RU σ μ) : ∀ n, n ≤ 3 → spN μ cs a sp v en n = sdN σ cs n
  | 0, _ => rfl
  | n + 1, hn => by
    unfold spN sdN
    rw [spS_U, sdN_eq hu n (by omega), hu n (by omega)]
    by_cases h1 : bitB cs n = true <;> by_cases h2 : mU μ n = true <;> simp [h1, h2]
/-- a copy comes up -/
def cuS (σ : cS) (i : Nat) (L : List Ch) : cS := L.foldl (fun s c => goC s i c) (cU' σ i true)
