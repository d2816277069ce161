/-! covers, what is buried, seen, the same; reads -/
theorem nE_1 (x : tE) : (nE x).1 = x.1 := by unfold nE; split <;> simp_all
theorem nT_1 (x : tT) : (nT x).1 = x.1 := by unfold nT; split <;> simp_all
theorem i_anti {a b : Int32} (h1 : a ≤ b) (h2 : b ≤ a) : a = b := by
  rw [fa_le] at h1 h2
  rw [fa_eq]
  omega
theorem i_trans {a b c : Int32} (h1 : a ≤ b) (h2 : b ≤ c) : a ≤ c := by
  rw [fa_le] at *
  omega
theorem i_refl (a : Int32) : a ≤ a := by rw [fa_le]; omega
theorem gBn_ub {σ : cS} {t row col : Nat} : ∀ n c p, c < n → cpO σ row col c = some p → cI σ (15 + 6 * t + 4) p ≤ gBn σ t row col n
  | 0, c, p, hc, _ => absurd hc (Nat.not_lt_zero _)
  | n + 1, c, p, hc, h => by
    have ih := gBn_ub (σ := σ) (t := t) (row := row) (col := col) n
    unfold gBn
    rcases Nat.lt_or_ge c n with hn | hn
    · have := ih c p hn h
      split
      · exact this
      · split
        · rename_i h9; exact i_trans this (fa_of_lt h9).1
        · exact this
    · obtain rfl : c = n := by omega
      rw [h]
      show _ ≤ (if _ then _ else _ : Int32)
      split
      · exact i_refl _
      · rename_i h9; exact fa_of_nlt h9
theorem gBn_at {σ : cS} {t row col : Nat} : ∀ n, gBn σ t row col n = -1 ∨ ∃ c p, c < n ∧ cpO σ row col c = some p ∧ gBn σ t row col n = cI σ (15 + 6 * t + 4) p
  | 0 => Or.inl rfl
  | n + 1 => by
    have ih := gBn_at (σ := σ) (t := t) (row := row) (col := col) n
    unfold gBn
    split
    · exact ih.imp id (fun ⟨c, p, h1, h2⟩ => ⟨c, p, by omega, h2⟩)
    · rename_i p hp
      split
      · exact Or.inr ⟨n, p, by omega, hp, rfl⟩
      · exact ih.imp id (fun ⟨c, p, h1, h2⟩ => ⟨c, p, by omega, h2⟩)
/-! the same -/
theorem sameE_eq {σ : cS} {i j k : Nat} : sameE σ i j k = true ↔ sE σ i k = sE σ j k := by
  unfold sameE sE
  simp only [Bool.and_eq_true, decide_eq_true_iff, Prod.mk.injEq]
  exact ⟨fun h => ⟨h.1.1, h.1.2, h.2⟩, fun h => ⟨⟨h.1, h.2.1⟩, h.2.2⟩⟩
theorem sameT_eq {σ : cS} {i j k : Nat} : sameT σ i j k = true ↔ sT σ i k = sT σ j k := by
  unfold sameT sT
  simp only [Bool.and_eq_true, decide_eq_true_iff, Prod.mk.injEq]
theorem nE_same {x y : tE} : nE x = nE y ↔ x.1 = y.1 ∧ (x.1 = -1 ∨ (x.2.1 = y.2.1 ∧ x.2.2 = y.2.2)) := by
  obtain ⟨a, b, c⟩ := x
  obtain ⟨a', b', c'⟩ := y
  unfold nE
  by_cases h1 : a = -1 <;> by_cases h2 : a' = -1 <;> simp_all
  intro h; exact absurd h.symm h2
theorem nT_same {x y : tT} : nT x = nT y ↔ x.1 = y.1 ∧ (x.1 = -1 ∨ x.2 = y.2) := by
  obtain ⟨a, b⟩ := x
  obtain ⟨a', b'⟩ := y
  unfold nT
  by_cases h1 : a = -1 <;> by_cases h2 : a' = -1 <;> simp_all
  intro h; exact absurd h.symm h2
theorem sFn_eq {σ : cS} {t t2 row col : Nat} : ∀ n, sFn σ t t2 row col n = true ↔ sameE σ t t2 (row * 4 + col) = true ∧ ∀ c p, c < n → cpO σ row col c = some p → sameT σ t t2 p = true
  | 0 => ⟨fun h => ⟨h, fun c p hc => absurd hc (Nat.not_lt_zero _)⟩, fun h => h.1⟩
  | n + 1 => by
    unfold sFn
    rw [Bool.and_eq_true, sFn_eq n]
    constructor
    · rintro ⟨⟨h1, h2⟩, h3⟩
      refine ⟨h1, fun c p hc hp => ?_⟩
      rcases Nat.lt_or_ge c n with h | h
      · exact h2 c p h hp
      · obtain rfl : c = n := by omega
        rw [hp] at h3
        exact h3
    · rintro ⟨h1, h2⟩
      refine ⟨⟨h1, fun c p hc hp => h2 c p (by omega) hp⟩, ?_⟩
      split
      · rfl
      · rename_i p hp; exact h2 n p (by omega) hp
/-! the class takes a cell, a row -/
theorem cpO_I {σ τ : cS} (h2 : cI σ 2 = cI τ 2) (h3 : cI σ 3 = cI τ 3) (row col c : Nat) : cpO σ row col c = cpO τ row col c := by unfold cpO hasB; rw [h2, h3]
theorem tkCn_I {σ : cS} {t t2 row col p j : Nat} (hp : p < 16) : ∀ n, cI (tkCn σ t t2 row col n) p j = cI σ p j
  | 0 => cI_takE hp
  | n + 1 => by
    unfold tkCn
    split
    · exact tkCn_I hp n
    · unfold takF; rw [cI_takT hp]; exact tkCn_I hp n
theorem tkCn_r {σ : cS} {t t2 row col : Nat} : ∀ n, (tkCn σ t t2 row col n).2 = σ.2
  | 0 => takE_r
  | n + 1 => by
    unfold tkCn
    split
    · exact tkCn_r n
    · unfold takF; rw [takT_r]; exact tkCn_r n
theorem cpO_tkCn {σ : cS} {t t2 row col n : Nat} (r2 c2 c : Nat) : cpO (tkCn σ t t2 row col n) r2 c2 c = cpO σ r2 c2 c := cpO_I (funext fun _ => tkCn_I (by decide) n) (funext fun _ => tkCn_I (by decide) n) _ _ _
theorem sE_tkCn {σ : cS} {t t2 row col t' k : Nat} : ∀ n, sE (tkCn σ t t2 row col n) t' k = if t' = t ∧ k = row * 4 + col then tkE (sE σ t k) (sE σ t2 k) else sE σ t' k
  | 0 => by
    unfold tkCn
    rw [sE_takE]
    by_cases h : t' = t ∧ k = row * 4 + col
    · rw [if_pos h, if_pos h, h.2]; rfl
    · rw [if_neg h, if_neg h]
  | n + 1 => by
    unfold tkCn
    split
    · exact sE_tkCn n
    · unfold takF; rw [sE_takT]; exact sE_tkCn n
theorem sT_tkCn {σ : cS} {t t2 row col : Nat} (h2 : t2 ≠ t) : ∀ n, (∀ t' p, ¬ (t' = t ∧ ∃ c, c < n ∧ cpO σ row col c = some p) → sT (tkCn σ t t2 row col n) t' p = sT σ t' p) ∧ ∀ p, (∃ c, c < n ∧ cpO σ row col c = some p) → sT (tkCn σ t t2 row col n) t p = tkT (sT σ t p) (sT σ t2 p)
  | 0 => ⟨fun t' p _ => sT_takE, fun p ⟨c, hc, _⟩ => absurd hc (Nat.not_lt_zero _)⟩
  | n + 1 => by
    obtain ⟨ih1, ih2⟩ := sT_tkCn (σ := σ) (t := t) (t2 := t2) (row := row) (col := col) h2 n
    unfold tkCn
    rw [cpO_tkCn]
    cases hcp : cpO σ row col n with
    | none =>
      refine ⟨fun t' p h => ih1 t' p (fun ⟨h1, c, hc, hp⟩ => h ⟨h1, c, by omega, hp⟩), fun p ⟨c, hc, hp⟩ => ih2 p ⟨c, ?_, hp⟩⟩
      rcases Nat.lt_or_ge c n with q | q
      · exact q
      · obtain rfl : c = n := by omega
        rw [hcp] at hp; cases hp
    | some p0 =>
      show (∀ t' p, _ → sT (takF (tkCn σ t t2 row col n) t t2 p0) t' p = _) ∧ ∀ p, _ → sT (takF (tkCn σ t t2 row col n) t t2 p0) t p = _
      have e : ∀ t' p, sT (takF (tkCn σ t t2 row col n) t t2 p0) t' p = if t' = t ∧ p = p0 then tkT (sT (tkCn σ t t2 row col n) t p0) (sT σ t2 p0) else sT (tkCn σ t t2 row col n) t' p := by
        intro t' p
        rw [← ih1 t2 p0 (fun z => h2 z.1)]
        exact sT_takT
      refine ⟨fun t' p h => ?_, fun p ⟨c, hc, hp⟩ => ?_⟩
      · rw [e, if_neg (fun z => h ⟨z.1, n, by omega, by rw [hcp, z.2]⟩)]
        exact ih1 t' p (fun ⟨h1, c, hc, hp⟩ => h ⟨h1, c, by omega, hp⟩)
      · rw [e]
        by_cases hpp : p = p0
        · subst hpp
          rw [if_pos ⟨rfl, rfl⟩]
          by_cases hb : ∃ c, c < n ∧ cpO σ row col c = some p
          · rw [ih2 p hb, tkT_twice]
          · rw [ih1 t p (fun z => hb z.2)]
        · rw [if_neg (fun z => hpp z.2)]
          refine ih2 p ⟨c, ?_, hp⟩
          rcases Nat.lt_or_ge c n with q | q
          · exact q
          · obtain rfl : c = n := by omega
            rw [hcp] at hp
            cases hp
            exact absurd rfl hpp
/-- both ways taken, in the class -/
def bkE (σ : cS) (i j row col : Nat) : cS := tkC (tkC σ i j row col) j i row col
theorem sE_bk {σ : cS} {i j row col t p : Nat} (hij : i ≠ j) : sE (bkE σ i j row col) t p = if p = row * 4 + col then (if t = i then tkE (sE σ i p) (sE σ j p) else if t = j then tkE (sE σ j p) (sE σ i p) else sE σ t p) else sE σ t p := by
  unfold bkE tkC
  rw [sE_tkCn, sE_tkCn, sE_tkCn, sE_tkCn]
  by_cases h : p = row * 4 + col
  · by_cases h1 : t = i
    · subst h1
      rw [if_neg (fun z => hij z.1), if_pos ⟨rfl, h⟩, if_pos h, if_pos rfl]
    · by_cases h2 : t = j
      · subst h2
        rw [if_pos ⟨rfl, h⟩, if_neg (fun z => h1 z.1), if_pos ⟨rfl, h⟩, if_pos h, if_neg h1, if_pos rfl, tkE_back]
      · rw [if_neg (fun z => h2 z.1), if_neg (fun z => h1 z.1), if_pos h, if_neg h1, if_neg h2]
  · rw [if_neg (fun z => h z.2), if_neg (fun z => h z.2), if_neg h]
theorem bkE_r {σ : cS} {i j row col : Nat} : (bkE σ i j row col).2 = σ.2 := by unfold bkE tkC; rw [tkCn_r, tkCn_r]
theorem bkE_I {σ : cS} {i j row col p q : Nat} (hp : p < 16) : cI (bkE σ i j row col) p q = cI σ p q := by unfold bkE tkC; rw [tkCn_I hp, tkCn_I hp]
theorem rdK_eq {σ : cS} {i j row col : Nat} : rdK σ i j row col = if sFn σ i j row col 11 = true then σ else cV' (bkE σ i j row col) 6 (cV σ 6 + nI 1) := by
  unfold rdK
  rw [show tkC (tkC σ i j row col) j i row col = bkE σ i j row col from rfl]
  by_cases hs : sFn σ i j row col 11 = true
  · rw [if_pos hs, if_pos hs]
  · rw [if_neg hs, if_neg hs, (c_of (bkE_r (σ := σ) (i := i) (j := j) (row := row) (col := col))).1]
theorem sE_V {σ : cS} {k t q : Nat} {x : Int32} : sE (cV' σ k x) t q = sE σ t q := rfl
theorem sT_V {σ : cS} {k t q : Nat} {x : Int32} : sT (cV' σ k x) t q = sT σ t q := rfl
