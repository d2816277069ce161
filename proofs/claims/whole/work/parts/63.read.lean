/-! covers, what is buried, seen, the same; reads -/
theorem nE_1 (x : tE) : (nE x).1 = x.1 := by unfold nE; split <;> simp_all
theorem nT_1 (x : tT) : (nT x).1 = x.1 := by unfold nT; split <;> simp_all
theorem cT_1 {σ : cS} {μ : mS} {t p : Nat} (h : RT σ μ) (ht : t < 4) (hp : p < 92) : cI σ (15 + 6 * t + 4) p = mI μ 43 (92 * t + p) := by
  have h1 := congrArg Prod.fst (h t p ht hp).1
  rw [nT_1] at h1
  exact h1
theorem cE_1 {σ : cS} {μ : mS} {t k : Nat} (h : RE σ μ) (ht : t < 4) (hk : k < 64) : cI σ (15 + 6 * t + 1) k = mI μ 40 (64 * t + k) := by
  have h1 := congrArg Prod.fst (h t k ht hk).1
  rw [nE_1] at h1
  exact h1
theorem has_eq {σ : cS} {μ : mS} (hR : RR σ μ) {r row : Nat} (hr : r < 8) (hrow : row < 16) : hasB σ r row = (decide (r < mR μ) && isInB (nI row) (mI μ 45 r) (mI μ 46 r)) := by
  unfold hasB
  by_cases h : r < mR μ
  · obtain ⟨h1, h2, -⟩ := hR.2.1 r h
    rw [h1, h2, decide_eq_true h]
    rfl
  · obtain ⟨h1, h2⟩ := hR.2.2 r (by omega) hr
    rw [h1, h2, decide_eq_false h, decide_eq_true (m1_lt (show row < 2 ^ 31 by omega))]
    simp
theorem cp_in {σ : cS} {μ : mS} (hR : RR σ μ) {row col c p : Nat} (hrow : row < 16) (hcol : col < 4) (hc : c < 11) (h : cpO σ row col c = some p) : p < 92 ∧ covM μ p row col = true := by
  unfold cpO at h
  unfold covM
  by_cases h0 : c = 0
  · rw [if_pos h0] at h
    cases h
    rw [if_pos (by omega)]
    exact ⟨by omega, decide_eq_true (by omega)⟩
  · rw [if_neg h0] at h
    by_cases h1 : c = 1
    · rw [if_pos h1] at h
      cases h
      rw [if_neg (by omega), if_pos (by omega)]
      exact ⟨by omega, decide_eq_true rfl⟩
    · rw [if_neg h1] at h
      by_cases h2 : c = 2
      · rw [if_pos h2] at h
        cases h
        rw [if_neg (by omega), if_neg (by omega), if_pos (by omega)]
        exact ⟨by omega, decide_eq_true rfl⟩
      · rw [if_neg h2] at h
        by_cases h3 : hasB σ (c - 3) row = true
        · rw [if_pos h3] at h
          cases h
          rw [has_eq hR (by omega) hrow, Bool.and_eq_true] at h3
          rw [if_neg (by omega), if_neg (by omega), if_neg (by omega), show 84 + (c - 3) - 84 = c - 3 by omega, if_pos (of_decide_eq_true h3.1)]
          exact ⟨by omega, h3.2⟩
        · rw [if_neg h3] at h
          cases h
theorem cp_of {σ : cS} {μ : mS} (hR : RR σ μ) {row col p : Nat} (hrow : row < 16) (hcol : col < 4) (hp : p < 92) (h : covM μ p row col = true) : ∃ c, c < 11 ∧ cpO σ row col c = some p := by
  unfold covM at h
  by_cases h0 : p < 64
  · rw [if_pos h0] at h
    have h := of_decide_eq_true h
    refine ⟨0, by decide, ?_⟩
    unfold cpO
    rw [if_pos rfl]
    congr 1; omega
  · rw [if_neg h0] at h
    by_cases h1 : p < 68
    · rw [if_pos h1] at h
      have h := of_decide_eq_true h
      refine ⟨1, by decide, ?_⟩
      unfold cpO
      rw [if_neg (by decide), if_pos rfl, h]
    · rw [if_neg h1] at h
      by_cases h2 : p < 84
      · rw [if_pos h2] at h
        have h := of_decide_eq_true h
        refine ⟨2, by decide, ?_⟩
        unfold cpO
        rw [if_neg (by decide), if_neg (by decide), if_pos rfl, h]
      · rw [if_neg h2] at h
        by_cases h3 : p - 84 < mR μ
        · rw [if_pos h3] at h
          refine ⟨p - 84 + 3, by omega, ?_⟩
          unfold cpO
          rw [if_neg (by omega), if_neg (by omega), if_neg (by omega), show p - 84 + 3 - 3 = p - 84 by omega, if_pos (by rw [has_eq hR (by omega) hrow, h, decide_eq_true h3]; rfl)]
          congr 1; omega
        · rw [if_neg h3] at h
          cases h
theorem i_anti {a b : Int32} (h1 : a ≤ b) (h2 : b ≤ a) : a = b := by
  rw [fa_le] at h1 h2
  rw [fa_eq]
  omega
theorem i_trans {a b c : Int32} (h1 : a ≤ b) (h2 : b ≤ c) : a ≤ c := by
  rw [fa_le] at *
  omega
theorem i_refl (a : Int32) : a ≤ a := by rw [fa_le]; omega
theorem gBn_ub {σ : cS} {t row col : Nat} : ∀ n c p, c < n → cpO σ row col c = some p → cI σ (15 + 6 * t + 4) p ≤ gBn σ t row col n
  | 0, c, p, hc, _ => absurd hc (Nat.not_lt_zero _)
  | n + 1, c, p, hc, h => by
    have ih := gBn_ub (σ := σ) (t := t) (row := row) (col := col) n
    unfold gBn
    rcases Nat.lt_or_ge c n with hn | hn
    · have := ih c p hn h
      split
      · exact this
      · split
        · rename_i h9; exact i_trans this (fa_of_lt h9).1
        · exact this
    · obtain rfl : c = n := by omega
      rw [h]
      show _ ≤ (if _ then _ else _ : Int32)
      split
      · exact i_refl _
      · rename_i h9; exact fa_of_nlt h9
theorem gBn_at {σ : cS} {t row col : Nat} : ∀ n, gBn σ t row col n = -1 ∨ ∃ c p, c < n ∧ cpO σ row col c = some p ∧ gBn σ t row col n = cI σ (15 + 6 * t + 4) p
  | 0 => Or.inl rfl
  | n + 1 => by
    have ih := gBn_at (σ := σ) (t := t) (row := row) (col := col) n
    unfold gBn
    split
    · exact ih.imp id (fun ⟨c, p, h1, h2⟩ => ⟨c, p, by omega, h2⟩)
    · rename_i p hp
      split
      · exact Or.inr ⟨n, p, by omega, hp, rfl⟩
      · exact ih.imp id (fun ⟨c, p, h1, h2⟩ => ⟨c, p, by omega, h2⟩)
theorem bun_ub {μ : mS} {k row col : Nat} : ∀ n r, r < n → buIt μ k row col r ≤ bun μ k row col n
  | 0, r, hr => absurd hr (Nat.not_lt_zero _)
  | n + 1, r, hr => by
    have ih := bun_ub (μ := μ) (k := k) (row := row) (col := col) n
    unfold bun
    rcases Nat.lt_or_ge r n with hn | hn
    · have := ih r hn
      split
      · exact this
      · rename_i h9; exact i_trans this (fa_of_lt (fa_of_nle h9)).1
    · obtain rfl : r = n := by omega
      split
      · rename_i h9; exact h9
      · exact i_refl _
theorem bun_at {μ : mS} {k row col : Nat} : ∀ n, bun μ k row col n = -1 ∨ ∃ r, r < n ∧ covM μ r row col = true ∧ bun μ k row col n = mI μ 43 (92 * k + r)
  | 0 => Or.inl rfl
  | n + 1 => by
    have ih := bun_at (μ := μ) (k := k) (row := row) (col := col) n
    unfold bun
    split
    · exact ih.imp id (fun ⟨r, h1, h2⟩ => ⟨r, by omega, h2⟩)
    · unfold buIt
      by_cases h : covM μ n row col = true
      · rw [if_pos h]; exact Or.inr ⟨n, by omega, h, rfl⟩
      · rw [if_neg h]; exact Or.inl rfl
theorem tM_ge {σ : cS} {μ : mS} (hT : RT σ μ) {t p : Nat} (ht : t < 4) (hp : p < 92) : -1 ≤ mI μ 43 (92 * t + p) := by
  rcases (hT t p ht hp).2 with h | ⟨a, b, ha, -, h⟩
  · rw [show mI μ 43 (92 * t + p) = -1 from h]; exact i_refl _
  · rw [show mI μ 43 (92 * t + p) = nI a from congrArg Prod.fst h]; exact m1_le (by omega)
theorem buM_ge {σ : cS} {μ : mS} (hT : RT σ μ) {t row col : Nat} (ht : t < 4) : -1 ≤ buM μ t row col := by
  unfold buM
  rcases bun_at (μ := μ) (k := t) (row := row) (col := col) 92 with h | ⟨r, h1, -, h⟩
  · rw [h]; exact i_refl _
  · rw [h]; exact tM_ge hT ht h1
theorem gB_eq {σ : cS} {μ : mS} (hT : RT σ μ) (hR : RR σ μ) {t row col : Nat} (ht : t < 4) (hrow : row < 16) (hcol : col < 4) : gB σ t row col = buM μ t row col := by
  apply i_anti
  · unfold gB
    rcases gBn_at (σ := σ) (t := t) (row := row) (col := col) 11 with h | ⟨c, p, h1, h2, h⟩
    · rw [h]; exact buM_ge hT ht
    · obtain ⟨h3, h4⟩ := cp_in hR hrow hcol h1 h2
      rw [h, cT_1 hT ht h3]
      have := bun_ub (μ := μ) (k := t) (row := row) (col := col) 92 p h3
      unfold buIt at this
      rw [if_pos h4] at this
      exact this
  · rcases bun_at (μ := μ) (k := t) (row := row) (col := col) 92 with h | ⟨r, h1, h2, h⟩
    · show bun μ t row col 92 ≤ gB σ t row col
      rw [h]
      unfold gB
      rcases gBn_at (σ := σ) (t := t) (row := row) (col := col) 11 with h | ⟨c, p, h1, h2, h⟩
      · rw [h]; exact i_refl _
      · rw [h, cT_1 hT ht (cp_in hR hrow hcol h1 h2).1]
        exact tM_ge hT ht (cp_in hR hrow hcol h1 h2).1
    · show bun μ t row col 92 ≤ gB σ t row col
      obtain ⟨c, h3, h4⟩ := cp_of hR hrow hcol h1 h2
      rw [h, ← cT_1 hT ht h1]
      exact gBn_ub 11 c r h3 h4
theorem cov_eq {σ : cS} {μ : mS} (hE : RE σ μ) (hT : RT σ μ) (hR : RR σ μ) {t row col : Nat} (ht : t < 4) (hrow : row < 16) (hcol : col < 4) : covB σ t row col = !decide (buM μ t row col < mI μ 40 (64 * t + (4 * row + col))) := by
  unfold covB
  rw [gB_eq hT hR ht hrow hcol, cE_1 hE ht (by omega), show row * 4 + col = 4 * row + col by omega]
theorem vis_eq {σ : cS} {μ : mS} (hE : RE σ μ) (hT : RT σ μ) (hR : RR σ μ) (hV : RV σ μ) {t row col : Nat} (ht : t < 4) (hrow : row < 16) (hcol : col < 4) : visV σ t row col (cV σ 4) = seeM μ t row col := by
  unfold visV seeM
  rw [cov_eq hE hT hR ht hrow hcol, show row * 4 + col = 4 * row + col by omega, show 64 * t + 4 * row + col = 64 * t + (4 * row + col) by omega, hV.1]
  have hb := buM_ge (row := row) (col := col) hT ht
  obtain ⟨h1, h2⟩ := hE t (4 * row + col) ht (by omega)
  obtain ⟨a, ha, hta⟩ := hV.2.2.2.1
  rw [hta]
  generalize buM μ t row col = bb at hb ⊢
  rw [show cI σ (15 + 6 * t + 1) (4 * row + col) = (sE σ t (4 * row + col)).1 from rfl, show cI σ (15 + 6 * t + 2) (4 * row + col) = (sE σ t (4 * row + col)).2.1 from rfl, show cI σ (15 + 6 * t + 3) (4 * row + col) = (sE σ t (4 * row + col)).2.2 from rfl,
    show mI μ 40 (64 * t + (4 * row + col)) = (xE μ (64 * t + (4 * row + col))).1 from rfl, show mI μ 41 (64 * t + (4 * row + col)) = (xE μ (64 * t + (4 * row + col))).2.1 from rfl, show mI μ 42 (64 * t + (4 * row + col)) = (xE μ (64 * t + (4 * row + col))).2.2 from rfl, h1]
  generalize xE μ (64 * t + (4 * row + col)) = x at h2 ⊢
  rw [nE_1]
  rcases h2 with h | h
  · rw [if_pos h, if_pos (by rw [h]; exact hb)]
  · rw [nE_ok h, if_neg (okE_1 h).2]
    obtain ⟨s, v, c, -, -, hc1, hc2, rfl | rfl⟩ := h
    · simp only [endR_m, nI_leI (show 11001 < 2 ^ 31 by decide) (show a < 2 ^ 31 by omega)]
      rw [if_neg (by omega)]
      by_cases h9 : bb < nI s
      · rw [if_neg (by simp [h9]), if_neg (fa_of_lt h9).2.1, if_pos trivial]
      · rw [if_pos (by simp [h9]), if_pos (fa_of_nlt h9)]
    · simp only [endR_i (show c < 2 ^ 31 by omega), nI_leI (show c < 2 ^ 31 by omega) (show a < 2 ^ 31 by omega)]
      rw [if_neg (nI_nm1 (show c < 2 ^ 31 by omega))]
      by_cases h9 : bb < nI s
      · rw [if_neg (show ¬ nI s ≤ bb from (fa_of_lt h9).2.1)]
        simp [h9]
      · rw [if_pos (show nI s ≤ bb from fa_of_nlt h9)]
        simp [h9]
/-! the same -/
theorem sameE_eq {σ : cS} {i j k : Nat} : sameE σ i j k = true ↔ sE σ i k = sE σ j k := by
  unfold sameE sE
  simp only [Bool.and_eq_true, decide_eq_true_iff, Prod.mk.injEq]
  exact ⟨fun h => ⟨h.1.1, h.1.2, h.2⟩, fun h => ⟨⟨h.1, h.2.1⟩, h.2.2⟩⟩
theorem sameT_eq {σ : cS} {i j k : Nat} : sameT σ i j k = true ↔ sT σ i k = sT σ j k := by
  unfold sameT sT
  simp only [Bool.and_eq_true, decide_eq_true_iff, Prod.mk.injEq]
theorem nE_same {x y : tE} : nE x = nE y ↔ x.1 = y.1 ∧ (x.1 = -1 ∨ (x.2.1 = y.2.1 ∧ x.2.2 = y.2.2)) := by
  obtain ⟨a, b, c⟩ := x
  obtain ⟨a', b', c'⟩ := y
  unfold nE
  by_cases h1 : a = -1 <;> by_cases h2 : a' = -1 <;> simp_all
  intro h; exact absurd h.symm h2
theorem nT_same {x y : tT} : nT x = nT y ↔ x.1 = y.1 ∧ (x.1 = -1 ∨ x.2 = y.2) := by
  obtain ⟨a, b⟩ := x
  obtain ⟨a', b'⟩ := y
  unfold nT
  by_cases h1 : a = -1 <;> by_cases h2 : a' = -1 <;> simp_all
  intro h; exact absurd h.symm h2
theorem saE2_eq {μ : mS} {k j q : Nat} : saE2 μ k j q = true ↔ nE (xE μ (64 * k + q)) = nE (xE μ (64 * j + q)) := by
  rw [nE_same]
  unfold saE2 xE
  by_cases h1 : mI μ 40 (64 * k + q) = mI μ 40 (64 * j + q)
  · rw [if_pos h1]
    by_cases h2 : mI μ 40 (64 * k + q) = -1
    · simp [h1, h2]
    · rw [if_neg h2]; simp [h1]; intro h; exact absurd (h1.trans h) h2
  · rw [if_neg h1]; simp [h1]
theorem saT2_eq {μ : mS} {k j q : Nat} : saT2 μ k j q = true ↔ nT (xT μ (92 * k + q)) = nT (xT μ (92 * j + q)) := by
  rw [nT_same]
  unfold saT2 xT
  by_cases h1 : mI μ 43 (92 * k + q) = mI μ 43 (92 * j + q)
  · rw [if_pos h1]
    by_cases h2 : mI μ 43 (92 * k + q) = -1
    · simp [h1, h2]
    · rw [if_neg h2]; simp [h1]; intro h; exact absurd (h1.trans h) h2
  · rw [if_neg h1]; simp [h1]
theorem same_E {σ : cS} {μ : mS} (hE : RE σ μ) {i j k : Nat} (hi : i < 4) (hj : j < 4) (hk : k < 64) : sameE σ i j k = saE2 μ i j k := by
  apply bool_eq
  rw [sameE_eq, saE2_eq, (hE i k hi hk).1, (hE j k hj hk).1]
theorem same_T {σ : cS} {μ : mS} (hT : RT σ μ) {i j k : Nat} (hi : i < 4) (hj : j < 4) (hk : k < 92) : sameT σ i j k = saT2 μ i j k := by
  apply bool_eq
  rw [sameT_eq, saT2_eq, (hT i k hi hk).1, (hT j k hj hk).1]
theorem sFn_eq {σ : cS} {t t2 row col : Nat} : ∀ n, sFn σ t t2 row col n = true ↔ sameE σ t t2 (row * 4 + col) = true ∧ ∀ c p, c < n → cpO σ row col c = some p → sameT σ t t2 p = true
  | 0 => ⟨fun h => ⟨h, fun c p hc => absurd hc (Nat.not_lt_zero _)⟩, fun h => h.1⟩
  | n + 1 => by
    unfold sFn
    rw [Bool.and_eq_true, sFn_eq n]
    constructor
    · rintro ⟨⟨h1, h2⟩, h3⟩
      refine ⟨h1, fun c p hc hp => ?_⟩
      rcases Nat.lt_or_ge c n with h | h
      · exact h2 c p h hp
      · obtain rfl : c = n := by omega
        rw [hp] at h3
        exact h3
    · rintro ⟨h1, h2⟩
      refine ⟨⟨h1, fun c p hc hp => h2 c p (by omega) hp⟩, ?_⟩
      split
      · rfl
      · rename_i p hp; exact h2 n p (by omega) hp
theorem alike_eq {σ : cS} {μ : mS} (hE : RE σ μ) (hT : RT σ μ) {i j : Nat} (hi : i < 4) (hj : j < 4) : (sEn σ i j 64 && sTn σ i j 92) = alT μ i j 92 := by
  have h1 : ∀ n, n ≤ 64 → sEn σ i j n = alE μ i j n := by
    intro n
    induction n with
    | zero => intro _; rfl
    | succ n ih => intro h; unfold sEn alE; rw [ih (by omega), same_E hE hi hj (by omega)]
  have h2 : ∀ n, n ≤ 92 → (alE μ i j 64 && sTn σ i j n) = alT μ i j n := by
    intro n
    induction n with
    | zero => intro _; unfold sTn alT; rw [Bool.and_true]
    | succ n ih => intro h; unfold sTn alT; rw [← Bool.and_assoc, ih (by omega), same_T hT hi hj (by omega)]
  rw [h1 64 (Nat.le_refl _), h2 92 (Nat.le_refl _)]
/-! the class takes a cell, a row -/
theorem cpO_I {σ τ : cS} (h2 : cI σ 2 = cI τ 2) (h3 : cI σ 3 = cI τ 3) (row col c : Nat) : cpO σ row col c = cpO τ row col c := by unfold cpO hasB; rw [h2, h3]
theorem tkCn_I {σ : cS} {t t2 row col p j : Nat} (hp : p < 16) : ∀ n, cI (tkCn σ t t2 row col n) p j = cI σ p j
  | 0 => cI_takE hp
  | n + 1 => by
    unfold tkCn
    split
    · exact tkCn_I hp n
    · unfold takF; rw [cI_takT hp]; exact tkCn_I hp n
theorem tkCn_r {σ : cS} {t t2 row col : Nat} : ∀ n, (tkCn σ t t2 row col n).2 = σ.2
  | 0 => takE_r
  | n + 1 => by
    unfold tkCn
    split
    · exact tkCn_r n
    · unfold takF; rw [takT_r]; exact tkCn_r n
theorem cpO_tkCn {σ : cS} {t t2 row col n : Nat} (r2 c2 c : Nat) : cpO (tkCn σ t t2 row col n) r2 c2 c = cpO σ r2 c2 c := cpO_I (funext fun _ => tkCn_I (by decide) n) (funext fun _ => tkCn_I (by decide) n) _ _ _
theorem sE_tkCn {σ : cS} {t t2 row col t' k : Nat} : ∀ n, sE (tkCn σ t t2 row col n) t' k = if t' = t ∧ k = row * 4 + col then tkE (sE σ t k) (sE σ t2 k) else sE σ t' k
  | 0 => by
    unfold tkCn
    rw [sE_takE]
    by_cases h : t' = t ∧ k = row * 4 + col
    · rw [if_pos h, if_pos h, h.2]; rfl
    · rw [if_neg h, if_neg h]
  | n + 1 => by
    unfold tkCn
    split
    · exact sE_tkCn n
    · unfold takF; rw [sE_takT]; exact sE_tkCn n
theorem sT_tkCn {σ : cS} {t t2 row col : Nat} (h2 : t2 ≠ t) : ∀ n, (∀ t' p, ¬ (t' = t ∧ ∃ c, c < n ∧ cpO σ row col c = some p) → sT (tkCn σ t t2 row col n) t' p = sT σ t' p) ∧ ∀ p, (∃ c, c < n ∧ cpO σ row col c = some p) → sT (tkCn σ t t2 row col n) t p = tkT (sT σ t p) (sT σ t2 p)
  | 0 => ⟨fun t' p _ => sT_takE, fun p ⟨c, hc, _⟩ => absurd hc (Nat.not_lt_zero _)⟩
  | n + 1 => by
    obtain ⟨ih1, ih2⟩ := sT_tkCn (σ := σ) (t := t) (t2 := t2) (row := row) (col := col) h2 n
    unfold tkCn
    rw [cpO_tkCn]
    cases hcp : cpO σ row col n with
    | none =>
      refine ⟨fun t' p h => ih1 t' p (fun ⟨h1, c, hc, hp⟩ => h ⟨h1, c, by omega, hp⟩), fun p ⟨c, hc, hp⟩ => ih2 p ⟨c, ?_, hp⟩⟩
      rcases Nat.lt_or_ge c n with q | q
      · exact q
      · obtain rfl : c = n := by omega
        rw [hcp] at hp; cases hp
    | some p0 =>
      show (∀ t' p, _ → sT (takF (tkCn σ t t2 row col n) t t2 p0) t' p = _) ∧ ∀ p, _ → sT (takF (tkCn σ t t2 row col n) t t2 p0) t p = _
      have e : ∀ t' p, sT (takF (tkCn σ t t2 row col n) t t2 p0) t' p = if t' = t ∧ p = p0 then tkT (sT (tkCn σ t t2 row col n) t p0) (sT σ t2 p0) else sT (tkCn σ t t2 row col n) t' p := by
        intro t' p
        rw [← ih1 t2 p0 (fun z => h2 z.1)]
        exact sT_takT
      refine ⟨fun t' p h => ?_, fun p ⟨c, hc, hp⟩ => ?_⟩
      · rw [e, if_neg (fun z => h ⟨z.1, n, by omega, by rw [hcp, z.2]⟩)]
        exact ih1 t' p (fun ⟨h1, c, hc, hp⟩ => h ⟨h1, c, by omega, hp⟩)
      · rw [e]
        by_cases hpp : p = p0
        · subst hpp
          rw [if_pos ⟨rfl, rfl⟩]
          by_cases hb : ∃ c, c < n ∧ cpO σ row col c = some p
          · rw [ih2 p hb, tkT_twice]
          · rw [ih1 t p (fun z => hb z.2)]
        · rw [if_neg (fun z => hpp z.2)]
          refine ih2 p ⟨c, ?_, hp⟩
          rcases Nat.lt_or_ge c n with q | q
          · exact q
          · obtain rfl : c = n := by omega
            rw [hcp] at hp
            cases hp
            exact absurd rfl hpp
/-- the model gives both ways -/
theorem rdS_I {μ : mS} {k j row col p i : Nat} (hp : 45 ≤ p) : ∀ n, mI (rdS μ k j row col n) p i = mI μ p i
  | 0 => by unfold rdS; rw [mI_givE hp, mI_givE hp]
  | n + 1 => by
    unfold rdS
    split
    · rw [mI_givT hp, mI_givT hp]; exact rdS_I hp n
    · exact rdS_I hp n
theorem rdS_r {μ : mS} {k j row col : Nat} : ∀ n, (rdS μ k j row col n).2 = μ.2
  | 0 => by unfold rdS; rw [givE_r, givE_r]
  | n + 1 => by
    unfold rdS
    split
    · rw [givT_r, givT_r]; exact rdS_r n
    · exact rdS_r n
theorem covM_I {μ ν : mS} (h1 : mI μ 45 = mI ν 45) (h2 : mI μ 46 = mI ν 46) (h3 : mR μ = mR ν) (r row col : Nat) : covM μ r row col = covM ν r row col := by unfold covM; rw [h1, h2, h3]
theorem covM_rdS {μ : mS} {k j row col n : Nat} (r r2 c2 : Nat) : covM (rdS μ k j row col n) r r2 c2 = covM μ r r2 c2 := covM_I (funext fun _ => rdS_I (by decide) n) (funext fun _ => rdS_I (by decide) n) (m_of (rdS_r n)).2.2.1 _ _ _
theorem xE_both {μ : mS} {k j q t p : Nat} (hkj : k ≠ j) (hq : q < 64) (hp : p < 64) : xE (givE (givE μ k j q) j k q) (64 * t + p) = if p = q then (if t = k then gvE (xE μ (64 * k + q)) (gvE (xE μ (64 * j + q)) (xE μ (64 * k + q))) else if t = j then gvE (xE μ (64 * j + q)) (xE μ (64 * k + q)) else xE μ (64 * t + p)) else xE μ (64 * t + p) := by
  rw [xE_givE, xE_givE, xE_givE, xE_givE]
  by_cases h : p = q
  · subst h
    by_cases h1 : t = k
    · subst h1
      rw [if_pos rfl, if_neg (by omega), if_pos rfl, if_pos rfl, if_pos rfl]
    · by_cases h2 : t = j
      · subst h2
        rw [if_neg (by omega), if_pos rfl, if_pos rfl, if_neg h1, if_pos rfl]
      · rw [if_neg (by omega), if_neg (by omega), if_pos rfl, if_neg h1, if_neg h2]
  · rw [if_neg (by omega), if_neg (by omega), if_neg h]
theorem xT_both {μ : mS} {k j q t p : Nat} (hkj : k ≠ j) (hq : q < 92) (hp : p < 92) : xT (givT (givT μ k j q) j k q) (92 * t + p) = if p = q then (if t = k then gvT (xT μ (92 * k + q)) (gvT (xT μ (92 * j + q)) (xT μ (92 * k + q))) else if t = j then gvT (xT μ (92 * j + q)) (xT μ (92 * k + q)) else xT μ (92 * t + p)) else xT μ (92 * t + p) := by
  rw [xT_givT, xT_givT, xT_givT, xT_givT]
  by_cases h : p = q
  · subst h
    by_cases h1 : t = k
    · subst h1
      rw [if_pos rfl, if_neg (by omega), if_pos rfl, if_pos rfl, if_pos rfl]
    · by_cases h2 : t = j
      · subst h2
        rw [if_neg (by omega), if_pos rfl, if_pos rfl, if_neg h1, if_pos rfl]
      · rw [if_neg (by omega), if_neg (by omega), if_pos rfl, if_neg h1, if_neg h2]
  · rw [if_neg (by omega), if_neg (by omega), if_neg h]
/-- both ways given, where c says so -/
def boE (μ : mS) (k j : Nat) (c : Bool) (t p : Nat) : tE := if c = true then (if t = k then gvE (xE μ (64 * k + p)) (gvE (xE μ (64 * j + p)) (xE μ (64 * k + p))) else if t = j then gvE (xE μ (64 * j + p)) (xE μ (64 * k + p)) else xE μ (64 * t + p)) else xE μ (64 * t + p)
def boT (μ : mS) (k j : Nat) (c : Bool) (t p : Nat) : tT := if c = true then (if t = k then gvT (xT μ (92 * k + p)) (gvT (xT μ (92 * j + p)) (xT μ (92 * k + p))) else if t = j then gvT (xT μ (92 * j + p)) (xT μ (92 * k + p)) else xT μ (92 * t + p)) else xT μ (92 * t + p)
theorem xE_rdS {μ : mS} {k j row col t p : Nat} (hkj : k ≠ j) (hrow : row < 16) (hcol : col < 4) (hp : p < 64) : ∀ n, xE (rdS μ k j row col n) (64 * t + p) = boE μ k j (decide (p = 4 * row + col)) t p
  | 0 => by
    unfold rdS boE
    rw [xE_both hkj (by omega) hp]
    by_cases h : p = 4 * row + col
    · rw [if_pos h, decide_eq_true h, if_pos rfl, h]
    · rw [if_neg h, decide_eq_false h, if_neg (by decide)]
  | n + 1 => by
    unfold rdS
    split
    · rw [xE_givT, xE_givT]; exact xE_rdS hkj hrow hcol hp n
    · exact xE_rdS hkj hrow hcol hp n
theorem xT_rdS {μ : mS} {k j row col t p : Nat} (hkj : k ≠ j) (hp : p < 92) : ∀ n, n ≤ 92 → xT (rdS μ k j row col n) (92 * t + p) = boT μ k j (decide (p < n) && covM μ p row col) t p
  | 0, _ => by
    unfold rdS boT
    rw [xT_givE, xT_givE, decide_eq_false (Nat.not_lt_zero _), Bool.false_and, if_neg (by decide)]
  | n + 1, hn => by
    have ih := fun t p hp => xT_rdS (μ := μ) (k := k) (j := j) (row := row) (col := col) (t := t) (p := p) hkj hp n (by omega)
    unfold rdS
    rw [covM_rdS]
    by_cases hc : covM μ n row col = true
    · rw [if_pos hc, xT_both hkj (by omega) hp]
      by_cases h : p = n
      · subst h
        rw [if_pos rfl, ih k p hp, ih j p hp, ih t p hp]
        unfold boT
        rw [decide_eq_false (Nat.lt_irrefl _), decide_eq_true (Nat.lt_succ_self p), hc]
        simp
      · rw [if_neg h, ih t p hp, show decide (p < n + 1) = decide (p < n) from by simp; omega]
    · rw [if_neg hc, ih t p hp]
      by_cases h : p = n
      · subst h
        have hc' : covM μ p row col = false := by revert hc; cases covM μ p row col <;> simp
        rw [hc', Bool.and_false, Bool.and_false]
      · rw [show decide (p < n + 1) = decide (p < n) from by simp; omega]
theorem boE_eq {σ : cS} {μ : mS} (hE : RE σ μ) {k j t p : Nat} (hk : k < 4) (hj : j < 4) (ht : t < 4) (hp : p < 64) (c : Bool) : nE (boE μ k j c t p) = (if c = true then (if t = k then tkE (sE σ k p) (sE σ j p) else if t = j then tkE (sE σ j p) (sE σ k p) else sE σ t p) else sE σ t p) ∧ okX (boE μ k j c t p) := by
  obtain ⟨a1, a2⟩ := hE k p hk hp
  obtain ⟨b1, b2⟩ := hE j p hj hp
  obtain ⟨c1, c2⟩ := hE t p ht hp
  obtain ⟨g1, g2⟩ := gvE_eq b2 a2
  obtain ⟨f1, f2⟩ := gvE_eq a2 g2
  unfold boE
  split
  · split
    · rw [f1, g1, tkE_back, a1, b1]; exact ⟨rfl, f2⟩
    · split
      · rw [g1, a1, b1]; exact ⟨rfl, g2⟩
      · exact ⟨c1.symm, c2⟩
  · exact ⟨c1.symm, c2⟩
theorem boT_eq {σ : cS} {μ : mS} (hT : RT σ μ) {k j t p : Nat} (hk : k < 4) (hj : j < 4) (ht : t < 4) (hp : p < 92) (c : Bool) : nT (boT μ k j c t p) = (if c = true then (if t = k then tkT (sT σ k p) (sT σ j p) else if t = j then tkT (sT σ j p) (sT σ k p) else sT σ t p) else sT σ t p) ∧ okY (boT μ k j c t p) := by
  obtain ⟨a1, a2⟩ := hT k p hk hp
  obtain ⟨b1, b2⟩ := hT j p hj hp
  obtain ⟨c1, c2⟩ := hT t p ht hp
  obtain ⟨g1, g2⟩ := gvT_eq b2 a2
  obtain ⟨f1, f2⟩ := gvT_eq a2 g2
  unfold boT
  split
  · split
    · rw [f1, g1, tkT_back, a1, b1]; exact ⟨rfl, f2⟩
    · split
      · rw [g1, a1, b1]; exact ⟨rfl, g2⟩
      · exact ⟨c1.symm, c2⟩
  · exact ⟨c1.symm, c2⟩
/-- both ways taken, in the class -/
def bkE (σ : cS) (i j row col : Nat) : cS := tkC (tkC σ i j row col) j i row col
theorem sE_bk {σ : cS} {i j row col t p : Nat} (hij : i ≠ j) : sE (bkE σ i j row col) t p = if p = row * 4 + col then (if t = i then tkE (sE σ i p) (sE σ j p) else if t = j then tkE (sE σ j p) (sE σ i p) else sE σ t p) else sE σ t p := by
  unfold bkE tkC
  rw [sE_tkCn, sE_tkCn, sE_tkCn, sE_tkCn]
  by_cases h : p = row * 4 + col
  · by_cases h1 : t = i
    · subst h1
      rw [if_neg (fun z => hij z.1), if_pos ⟨rfl, h⟩, if_pos h, if_pos rfl]
    · by_cases h2 : t = j
      · subst h2
        rw [if_pos ⟨rfl, h⟩, if_neg (fun z => h1 z.1), if_pos ⟨rfl, h⟩, if_pos h, if_neg h1, if_pos rfl, tkE_back]
      · rw [if_neg (fun z => h2 z.1), if_neg (fun z => h1 z.1), if_pos h, if_neg h1, if_neg h2]
  · rw [if_neg (fun z => h z.2), if_neg (fun z => h z.2), if_neg h]
theorem sT_bk {σ : cS} {μ : mS} (hR : RR σ μ) {i j row col t p : Nat} (hij : i ≠ j) (hrow : row < 16) (hcol : col < 4) (hp : p < 92) : sT (bkE σ i j row col) t p = if covM μ p row col = true then (if t = i then tkT (sT σ i p) (sT σ j p) else if t = j then tkT (sT σ j p) (sT σ i p) else sT σ t p) else sT σ t p := by
  unfold bkE tkC
  obtain ⟨h1, h2⟩ := sT_tkCn (σ := σ) (row := row) (col := col) (fun z => hij z.symm) 11
  obtain ⟨g1, g2⟩ := sT_tkCn (σ := tkCn σ i j row col 11) (row := row) (col := col) hij 11
  have e1 : ∀ c, cpO (tkCn σ i j row col 11) row col c = cpO σ row col c := fun c => cpO_tkCn _ _ c
  by_cases h : covM μ p row col = true
  · rw [if_pos h]
    have hex := cp_of hR hrow hcol hp h
    by_cases ht : t = i
    · subst ht
      rw [if_pos rfl, g1 t p (fun z => hij z.1), h2 p hex]
    · rw [if_neg ht]
      by_cases ht2 : t = j
      · subst ht2
        rw [if_pos rfl, g2 p (by simp only [e1]; exact hex), h1 t p (fun z => ht z.1), h2 p hex, tkT_back]
      · rw [if_neg ht2, g1 t p (fun z => ht2 z.1), h1 t p (fun z => ht z.1)]
  · rw [if_neg h]
    have hno : ¬ ∃ c, c < 11 ∧ cpO σ row col c = some p := fun ⟨c, hc, hp⟩ => h (cp_in hR hrow hcol hc hp).2
    rw [g1 t p (fun z => hno (by have := z.2; simp only [e1] at this; exact this)), h1 t p (fun z => hno z.2)]
theorem bkE_r {σ : cS} {i j row col : Nat} : (bkE σ i j row col).2 = σ.2 := by unfold bkE tkC; rw [tkCn_r, tkCn_r]
theorem bkE_I {σ : cS} {i j row col p q : Nat} (hp : p < 16) : cI (bkE σ i j row col) p q = cI σ p q := by unfold bkE tkC; rw [tkCn_I hp, tkCn_I hp]
theorem rdK_eq {σ : cS} {i j row col : Nat} : rdK σ i j row col = if sFn σ i j row col 11 = true then σ else cV' (bkE σ i j row col) 6 (cV σ 6 + nI 1) := by
  unfold rdK
  rw [show tkC (tkC σ i j row col) j i row col = bkE σ i j row col from rfl]
  by_cases hs : sFn σ i j row col 11 = true
  · rw [if_pos hs, if_pos hs]
  · rw [if_neg hs, if_neg hs, (c_of (bkE_r (σ := σ) (i := i) (j := j) (row := row) (col := col))).1]
theorem xE_V {μ : mS} {k q : Nat} {x : Int32} : xE (mV' μ k x) q = xE μ q := rfl
theorem xT_V {μ : mS} {k q : Nat} {x : Int32} : xT (mV' μ k x) q = xT μ q := rfl
theorem sE_V {σ : cS} {k t q : Nat} {x : Int32} : sE (cV' σ k x) t q = sE σ t q := rfl
theorem sT_V {σ : cS} {k t q : Nat} {x : Int32} : sT (cV' σ k x) t q = sT σ t q := rfl
theorem rdB_eq {μ : mS} {k j row col : Nat} (hkj : k ≠ j) : ∀ n, n ≤ 92 → (rdB μ k j row col n = true ↔ saE2 μ k j (4 * row + col) = true ∧ ∀ p, p < n → covM μ p row col = true → saT2 μ k j p = true)
  | 0, _ => ⟨fun h => ⟨h, fun p hp => absurd hp (Nat.not_lt_zero _)⟩, fun h => h.1⟩
  | n + 1, hn => by
    have ih := rdB_eq (μ := μ) (row := row) (col := col) hkj n (by omega)
    have es : saT2 (rdS μ k j row col n) k j n = saT2 μ k j n := by
      apply bool_eq
      rw [saT2_eq, saT2_eq, xT_rdS hkj (by omega) n (by omega), xT_rdS hkj (by omega) n (by omega)]
      unfold boT
      rw [decide_eq_false (Nat.lt_irrefl _), Bool.false_and, if_neg (by decide), if_neg (by decide)]
    unfold rdB
    rw [covM_rdS]
    by_cases hc : covM μ n row col = true
    · rw [if_pos hc, Bool.and_eq_true, ih, es]
      constructor
      · rintro ⟨⟨h1, h2⟩, h3⟩
        refine ⟨h1, fun p hp hcp => ?_⟩
        rcases Nat.lt_or_ge p n with q | q
        · exact h2 p q hcp
        · obtain rfl : p = n := by omega
          exact h3
      · rintro ⟨h1, h2⟩
        exact ⟨⟨h1, fun p hp => h2 p (by omega)⟩, h2 n (by omega) hc⟩
    · rw [if_neg hc, ih]
      constructor
      · rintro ⟨h1, h2⟩
        refine ⟨h1, fun p hp hcp => ?_⟩
        rcases Nat.lt_or_ge p n with q | q
        · exact h2 p q hcp
        · obtain rfl : p = n := by omega
          exact absurd hcp hc
      · rintro ⟨h1, h2⟩
        exact ⟨h1, fun p hp => h2 p (by omega)⟩
theorem sF_rdB {σ : cS} {μ : mS} (hE : RE σ μ) (hT : RT σ μ) (hR : RR σ μ) {i j row col : Nat} (hi : i < 4) (hj : j < 4) (hij : i ≠ j) (hrow : row < 16) (hcol : col < 4) : sFn σ i j row col 11 = rdB μ i j row col 92 := by
  apply bool_eq
  rw [sFn_eq, rdB_eq hij 92 (Nat.le_refl _), same_E hE hi hj (by omega), show row * 4 + col = 4 * row + col by omega]
  refine and_congr Iff.rfl ⟨fun h p hp hc => ?_, fun h c p hc hp => ?_⟩
  · obtain ⟨c, h1, h2⟩ := cp_of hR hrow hcol hp hc
    rw [← same_T hT hi hj hp]
    exact h c p h1 h2
  · obtain ⟨h1, h2⟩ := cp_in hR hrow hcol hc hp
    rw [same_T hT hi hj h1]
    exact h p h1 h2
theorem RE_read {σ : cS} {μ : mS} (hE : RE σ μ) (hT : RT σ μ) (hR : RR σ μ) {i j row col : Nat} (hi : i < 4) (hj : j < 4) (hij : i ≠ j) (hrow : row < 16) (hcol : col < 4) : RE (rdK σ i j row col) (rdE μ i j row col) := by
  intro t p ht hp
  unfold rdE
  rw [xE_V, xE_rdS hij hrow hcol hp, rdK_eq]
  obtain ⟨h1, h2⟩ := boE_eq hE (k := i) (j := j) hi hj ht hp (decide (p = 4 * row + col))
  refine ⟨?_, h2⟩
  rw [h1]
  by_cases hs : sFn σ i j row col 11 = true
  · rw [if_pos hs]
    have h3 := sameE_eq.mp ((sFn_eq 11).mp hs).1
    by_cases hc : p = 4 * row + col
    · rw [decide_eq_true hc, if_pos rfl]
      rw [show row * 4 + col = p by omega] at h3
      split
      · rename_i q; rw [h3, tkE_self, q, h3]
      · split
        · rename_i q; rw [h3, tkE_self, q]
        · rfl
    · rw [decide_eq_false hc, if_neg (by decide)]
  · rw [if_neg hs]
    rw [sE_V, sE_bk hij]
    by_cases hc : p = 4 * row + col
    · rw [decide_eq_true hc, if_pos rfl, if_pos (by omega)]
    · rw [decide_eq_false hc, if_neg (show ¬ p = row * 4 + col by omega)]; rfl
theorem RT_read {σ : cS} {μ : mS} (hT : RT σ μ) (hR : RR σ μ) {i j row col : Nat} (hi : i < 4) (hj : j < 4) (hij : i ≠ j) (hrow : row < 16) (hcol : col < 4) : RT (rdK σ i j row col) (rdE μ i j row col) := by
  intro t p ht hp
  unfold rdE
  rw [xT_V, xT_rdS hij hp 92 (Nat.le_refl _), rdK_eq, decide_eq_true hp, Bool.true_and]
  obtain ⟨h1, h2⟩ := boT_eq hT (k := i) (j := j) hi hj ht hp (covM μ p row col)
  refine ⟨?_, h2⟩
  rw [h1]
  by_cases hs : sFn σ i j row col 11 = true
  · rw [if_pos hs]
    by_cases hc : covM μ p row col = true
    · obtain ⟨c, g1, g2⟩ := cp_of hR hrow hcol hp hc
      have h3 := sameT_eq.mp (((sFn_eq 11).mp hs).2 c p g1 g2)
      rw [if_pos hc]
      split
      · rename_i q; rw [h3, tkT_self, q, h3]
      · split
        · rename_i q; rw [h3, tkT_self, q]
        · rfl
    · rw [if_neg hc]
  · rw [if_neg hs]
    rw [sT_V, sT_bk hR hij hrow hcol hp]
