/-! what the class keeps; the greater of two; what buries a cell -/
def mx (a b : Int32) : Int32 := if a < b then b else a
theorem mx_l (a b : Int32) : a ≤ mx a b := by
  unfold mx
  split
  · rename_i h; exact (fa_of_lt h).1
  · exact i_refl _
theorem mx_r (a b : Int32) : b ≤ mx a b := by
  unfold mx
  split
  · exact i_refl _
  · rename_i h; exact fa_of_nlt h
theorem mx_le {a b m : Int32} (h1 : a ≤ m) (h2 : b ≤ m) : mx a b ≤ m := by
  unfold mx
  split <;> assumption
theorem mx_comm (a b : Int32) : mx a b = mx b a := i_anti (mx_le (mx_r _ _) (mx_l _ _)) (mx_le (mx_r _ _) (mx_l _ _))
theorem mx_self (a : Int32) : mx a a = a := i_anti (mx_le (i_refl _) (i_refl _)) (mx_l _ _)
theorem mx_m1 {a : Int32} (h : -1 ≤ a) : mx a (-1) = a := i_anti (mx_le (i_refl _) h) (mx_l _ _)
def IE (σ : cS) : Prop := ∀ t k, t < 4 → k < 64 → okF (sE σ t k)
def IT (σ : cS) (n : Nat) : Prop := ∀ t p, t < 4 → p < 92 → okG (sT σ t p) ∧ (84 + n ≤ p → sT σ t p = (-1, nI 0))
def IR (σ : cS) (n : Nat) : Prop := n ≤ 8 ∧ (∀ r, r < n → ∃ a b : Nat, a ≤ b ∧ b < 16 ∧ cI σ 2 r = nI a ∧ cI σ 3 r = nI b) ∧ ∀ r, n ≤ r → r < 8 → cI σ 2 r = -1 ∧ cI σ 3 r = -1
def okN (n : Nat) (c : Ch) : Prop := okC c ∧ c.1 < 148 + n
def IL (n : Nat) (L : Nat → List Ch) : Prop := ∀ i, i < 3 → ∀ c ∈ L i, okN n c
def Jp (σ : cS) (L : Nat → List Ch) : Prop := ∀ i, i < 3 → (∀ k, k < 64 → jE k (L i) (sE σ i k) = sE σ 3 k) ∧ ∀ p, p < 92 → jT p (L i) (sT σ i p) = sT σ 3 p
/-- the same, but for what is summed and compared in -/
def Sm (σ τ : cS) : Prop := (∀ p j, p ≠ 6 → p ≠ 7 → cI τ p j = cI σ p j) ∧ cV τ = cV σ ∧ cU τ = cU σ ∧ cL τ = cL σ ∧ cE τ = cE σ ∧ cW τ = cW σ
theorem Sm_rf {σ : cS} : Sm σ σ := ⟨fun _ _ _ _ => rfl, rfl, rfl, rfl, rfl, rfl⟩
theorem Sm_tr {a b c : cS} (h : Sm a b) (g : Sm b c) : Sm a c := ⟨fun p j h6 h7 => (g.1 p j h6 h7).trans (h.1 p j h6 h7), g.2.1.trans h.2.1, g.2.2.1.trans h.2.2.1, g.2.2.2.1.trans h.2.2.2.1, g.2.2.2.2.1.trans h.2.2.2.2.1, g.2.2.2.2.2.trans h.2.2.2.2.2⟩
theorem Sm_p {σ τ : cS} (h : Sm σ τ) (p : Nat) (h6 : p ≠ 6) (h7 : p ≠ 7) : cI τ p = cI σ p := funext fun j => h.1 p j h6 h7
theorem Sm_mk {σ : cS} {t : Nat} : Sm σ (mkS σ t 6) := by
  obtain ⟨h1, h2, -, -, h5, h6, h7⟩ := c_of (mkS_r (σ := σ) (t := t) (k := 6))
  exact ⟨fun p j g6 _ => mkS_I g6, h1, h2, h5, h6, h7⟩
theorem Sm_cmp {σ : cS} {i j : Nat} : Sm σ (cmp σ i j) := by
  obtain ⟨h1, h2, -, h5, h6, h7⟩ := cmS_r (σ := σ) (t := i) (t2 := j) 31
  exact ⟨fun p q g6 g7 => cmp_I g6 g7, h1, h2, h5, h6, h7⟩
theorem sE_Sm {σ τ : cS} (h : Sm σ τ) (t k : Nat) : sE τ t k = sE σ t k := by
  unfold sE
  rw [Sm_p h _ (by omega) (by omega), Sm_p h (15 + 6 * t + 2) (by omega) (by omega), Sm_p h (15 + 6 * t + 3) (by omega) (by omega)]
theorem sT_Sm {σ τ : cS} (h : Sm σ τ) (t p : Nat) : sT τ t p = sT σ t p := by
  unfold sT
  rw [Sm_p h _ (by omega) (by omega), Sm_p h (15 + 6 * t + 5) (by omega) (by omega)]
theorem cpO_Sm {σ τ : cS} (h : Sm σ τ) (row col c : Nat) : cpO τ row col c = cpO σ row col c := cpO_I (Sm_p h 2 (by decide) (by decide)) (Sm_p h 3 (by decide) (by decide)) row col c
/-- what covers a cell -/
def cv (σ : cS) (row col p : Nat) : Prop := ∃ c, c < 11 ∧ cpO σ row col c = some p
theorem cv_iff {σ : cS} {row col p : Nat} : cv σ row col p ↔ p = row * 4 + col ∨ p = 64 + col ∨ p = 68 + row ∨ ∃ r, r < 8 ∧ hasB σ r row = true ∧ p = 84 + r := by
  unfold cv cpO
  constructor
  · rintro ⟨c, hc, h⟩
    by_cases h0 : c = 0
    · rw [if_pos h0] at h; cases h; exact Or.inl rfl
    · rw [if_neg h0] at h
      by_cases h1 : c = 1
      · rw [if_pos h1] at h; cases h; exact Or.inr (Or.inl rfl)
      · rw [if_neg h1] at h
        by_cases h2 : c = 2
        · rw [if_pos h2] at h; cases h; exact Or.inr (Or.inr (Or.inl rfl))
        · rw [if_neg h2] at h
          by_cases h3 : hasB σ (c - 3) row = true
          · rw [if_pos h3] at h; cases h; exact Or.inr (Or.inr (Or.inr ⟨c - 3, by omega, h3, rfl⟩))
          · rw [if_neg h3] at h; cases h
  · rintro (h | h | h | ⟨r, hr, hb, h⟩)
    · exact ⟨0, by decide, by rw [if_pos rfl, h]⟩
    · exact ⟨1, by decide, by rw [if_neg (by decide), if_pos rfl, h]⟩
    · exact ⟨2, by decide, by rw [if_neg (by decide), if_neg (by decide), if_pos rfl, h]⟩
    · exact ⟨r + 3, by omega, by rw [if_neg (by omega), if_neg (by omega), if_neg (by omega), Nat.add_sub_cancel, if_pos hb, h]⟩
theorem cv_lt {σ : cS} {row col p : Nat} (hr : row < 16) (hc : col < 4) (h : cv σ row col p) : p < 92 := by
  rcases cv_iff.mp h with h | h | h | ⟨r, hr8, -, h⟩ <;> omega
theorem cv_of {σ τ : cS} (h2 : cI τ 2 = cI σ 2) (h3 : cI τ 3 = cI σ 3) (row col p : Nat) : cv τ row col p ↔ cv σ row col p := by
  unfold cv
  constructor <;> rintro ⟨c, hc, h⟩ <;> exact ⟨c, hc, by rw [← h]; first | exact cpO_I h2.symm h3.symm row col c | exact cpO_I h2 h3 row col c⟩
/-- what buries a cell most -/
theorem gB_ub {σ : cS} {t row col p : Nat} (h : cv σ row col p) : (sT σ t p).1 ≤ gB σ t row col := by
  obtain ⟨c, hc, h⟩ := h
  exact gBn_ub 11 c p hc h
theorem gBn_ge {σ : cS} {t row col : Nat} : ∀ n, -1 ≤ gBn σ t row col n
  | 0 => i_refl _
  | n + 1 => by
    have ih := gBn_ge (σ := σ) (t := t) (row := row) (col := col) n
    unfold gBn
    split
    · exact ih
    · split
      · rename_i h; exact i_trans ih (fa_of_lt h).1
      · exact ih
theorem gB_ge {σ : cS} {t row col : Nat} : -1 ≤ gB σ t row col := gBn_ge 11
theorem gB_le {σ : cS} {t row col : Nat} {m : Int32} (hm : -1 ≤ m) (h : ∀ p, cv σ row col p → (sT σ t p).1 ≤ m) : gB σ t row col ≤ m := by
  unfold gB
  rcases gBn_at (σ := σ) (t := t) (row := row) (col := col) 11 with e | ⟨c, p, hc, hp, e⟩
  · rw [e]; exact hm
  · rw [e]; exact h p ⟨c, hc, hp⟩
theorem gB_stP {σ : cS} {n t row col : Nat} (hT : IT σ n) (ht : t < 4) (hr : row < 16) (hc : col < 4) : stP (gB σ t row col) := by
  unfold gB
  rcases gBn_at (σ := σ) (t := t) (row := row) (col := col) 11 with e | ⟨c, p, h11, hp, e⟩
  · rw [e]; exact Or.inl rfl
  · rw [e]
    exact okG_1 (hT t p ht (cv_lt hr hc ⟨c, h11, hp⟩)).1
/-- the same covers, the same stamps there -/
theorem gB_cg {σ τ : cS} {t s row col : Nat} (hc : ∀ p, cv τ row col p ↔ cv σ row col p) (h : ∀ p, cv σ row col p → (sT τ t p).1 = (sT σ s p).1) : gB τ t row col = gB σ s row col :=
  i_anti (gB_le gB_ge (fun p hp => by rw [h p ((hc p).mp hp)]; exact gB_ub ((hc p).mp hp))) (gB_le gB_ge (fun p hp => by rw [← h p hp]; exact gB_ub ((hc p).mpr hp)))
theorem gB_Sm {σ τ : cS} (h : Sm σ τ) (t row col : Nat) : gB τ t row col = gB σ t row col :=
  gB_cg (cv_of (Sm_p h 2 (by decide) (by decide)) (Sm_p h 3 (by decide) (by decide)) row col) (fun p _ => by rw [sT_Sm h])
/-- a new tombstone at a place that covers the cell -/
theorem gB_take {σ τ : cS} {t row col P : Nat} {sp : Int32} (hsp : -1 ≤ sp) (hc : ∀ p, cv τ row col p ↔ (cv σ row col p ∨ p = P)) (hn : cv σ row col P ∨ (sT σ t P).1 = -1) (h : ∀ p, cv τ row col p → (sT τ t p).1 = if p = P then mx (sT σ t p).1 sp else (sT σ t p).1) : gB τ t row col = mx (gB σ t row col) sp := by
  have hP : (sT σ t P).1 ≤ gB σ t row col := by
    rcases hn with hn | hn
    · exact gB_ub hn
    · rw [hn]; exact gB_ge
  refine i_anti (gB_le (i_trans gB_ge (mx_l _ _)) (fun p hp => ?_)) (mx_le (gB_le gB_ge (fun p hp => ?_)) ?_)
  · rw [h p hp]
    by_cases e : p = P
    · rw [if_pos e, e]
      exact mx_le (i_trans hP (mx_l _ _)) (mx_r _ _)
    · rw [if_neg e]
      exact i_trans (gB_ub (((hc p).mp hp).resolve_right e)) (mx_l _ _)
  · have hq := (hc p).mpr (Or.inl hp)
    refine i_trans ?_ (gB_ub (t := t) hq)
    rw [h p hq]
    split
    · exact mx_l _ _
    · exact i_refl _
  · have hq := (hc P).mpr (Or.inr rfl)
    refine i_trans ?_ (gB_ub (t := t) hq)
    rw [h P hq, if_pos rfl]
    exact mx_r _ _
theorem gB_keep {σ τ : cS} {t row col P : Nat} (hc : ∀ p, cv τ row col p ↔ (cv σ row col p ∨ p = P)) (hn : cv σ row col P ∨ (sT σ t P).1 = -1) (h : ∀ p, cv τ row col p → (sT τ t p).1 = (sT σ t p).1) : gB τ t row col = gB σ t row col := by
  refine i_anti (gB_le gB_ge (fun p hp => ?_)) (gB_le gB_ge (fun p hp => ?_))
  · rw [h p hp]
    rcases (hc p).mp hp with q | q
    · exact gB_ub q
    · rcases hn with hn | hn
      · rw [q]; exact gB_ub hn
      · rw [q, hn]; exact gB_ge
  · have hq := (hc p).mpr (Or.inl hp)
    rw [← h p hq]
    exact gB_ub hq
/-- what is seen -/
theorem vis_cg {σ τ : cS} {t s row col : Nat} {now : Int32} (hE : sE τ t (row * 4 + col) = sE σ s (row * 4 + col)) (hB : gB τ t row col = gB σ s row col) : visV τ t row col now = visV σ s row col now := by
  have e1 : cI τ (15 + 6 * t + 1) (row * 4 + col) = cI σ (15 + 6 * s + 1) (row * 4 + col) := congrArg (fun z => z.1) hE
  have e2 : cI τ (15 + 6 * t + 2) (row * 4 + col) = cI σ (15 + 6 * s + 2) (row * 4 + col) := congrArg (fun z => z.2.1) hE
  have e3 : cI τ (15 + 6 * t + 3) (row * 4 + col) = cI σ (15 + 6 * s + 3) (row * 4 + col) := congrArg (fun z => z.2.2) hE
  unfold visV covB
  rw [e1, e2, e3, hB]
theorem vis_Sm {σ τ : cS} (h : Sm σ τ) (t row col : Nat) (now : Int32) : visV τ t row col now = visV σ t row col now := vis_cg (sE_Sm h _ _) (gB_Sm h _ _ _)
/-- seen: a value, its stamp above what buries the cell; not seen: -1 -/
theorem vis_or {σ : cS} (hE : IE σ) {t row col : Nat} (ht : t < 4) (hr : row < 16) (hc : col < 4) (now : Int32) : visV σ t row col now = -1 ∨ ∃ b, b ≤ 999 ∧ visV σ t row col now = nI b ∧ gB σ t row col < (sE σ t (row * 4 + col)).1 ∧ (sE σ t (row * 4 + col)).1 ≠ -1 ∧ now < endR (sE σ t (row * 4 + col)).2.2 := by
  unfold visV
  by_cases h1 : cI σ (15 + 6 * t + 1) (row * 4 + col) = -1
  · exact Or.inl (if_pos h1)
  · rw [if_neg h1]
    by_cases h2 : endR (cI σ (15 + 6 * t + 3) (row * 4 + col)) ≤ now
    · exact Or.inl (if_pos h2)
    · rw [if_neg h2]
      by_cases h3 : covB σ t row col = true
      · exact Or.inl (if_pos h3)
      · rw [if_neg h3]
        obtain ⟨b, hb, e⟩ := okF_v (hE t (row * 4 + col) ht (by omega))
        refine Or.inr ⟨b, hb, e, ?_, h1, fa_of_nle h2⟩
        unfold covB at h3
        by_cases h4 : gB σ t row col < cI σ (15 + 6 * t + 1) (row * 4 + col)
        · exact h4
        · exact absurd (by rw [decide_eq_false h4]; rfl) h3
theorem vis_not {σ : cS} {t row col : Nat} {now : Int32} (h : (sE σ t (row * 4 + col)).1 = -1 ∨ endR (sE σ t (row * 4 + col)).2.2 ≤ now ∨ (sE σ t (row * 4 + col)).1 ≤ gB σ t row col) : visV σ t row col now = -1 := by
  unfold visV
  by_cases h1 : cI σ (15 + 6 * t + 1) (row * 4 + col) = -1
  · exact if_pos h1
  · rw [if_neg h1]
    by_cases h2 : endR (cI σ (15 + 6 * t + 3) (row * 4 + col)) ≤ now
    · exact if_pos h2
    · rw [if_neg h2]
      rcases h with h | h | h
      · exact absurd h h1
      · exact absurd h h2
      · refine if_pos ?_
        unfold covB
        rw [decide_eq_false (show ¬ gB σ t row col < cI σ (15 + 6 * t + 1) (row * 4 + col) from i_le_lt.mp h)]
        rfl
/-! alike -/
theorem sEn_iff {σ : cS} {i j : Nat} : ∀ n, sEn σ i j n = true ↔ ∀ k, k < n → sE σ i k = sE σ j k
  | 0 => ⟨fun _ k hk => absurd hk (Nat.not_lt_zero _), fun _ => rfl⟩
  | n + 1 => by
    unfold sEn
    rw [Bool.and_eq_true, sEn_iff n, sameE_eq]
    exact ⟨fun h k hk => by
      rcases Nat.lt_or_ge k n with q | q
      · exact h.1 k q
      · rw [show k = n by omega]; exact h.2, fun h => ⟨fun k hk => h k (by omega), h n (by omega)⟩⟩
theorem sTn_iff {σ : cS} {i j : Nat} : ∀ n, sTn σ i j n = true ↔ ∀ k, k < n → sT σ i k = sT σ j k
  | 0 => ⟨fun _ k hk => absurd hk (Nat.not_lt_zero _), fun _ => rfl⟩
  | n + 1 => by
    unfold sTn
    rw [Bool.and_eq_true, sTn_iff n, sameT_eq]
    exact ⟨fun h k hk => by
      rcases Nat.lt_or_ge k n with q | q
      · exact h.1 k q
      · rw [show k = n by omega]; exact h.2, fun h => ⟨fun k hk => h k (by omega), h n (by omega)⟩⟩
def alk (σ : cS) (i j : Nat) : Bool := sEn σ i j 64 && sTn σ i j 92
theorem alk_iff {σ : cS} {i j : Nat} : alk σ i j = true ↔ (∀ k, k < 64 → sE σ i k = sE σ j k) ∧ ∀ k, k < 92 → sT σ i k = sT σ j k := by
  unfold alk
  rw [Bool.and_eq_true, sEn_iff, sTn_iff]
theorem alk_comm (σ : cS) (i j : Nat) : alk σ i j = alk σ j i := bool_eq (by
  rw [alk_iff, alk_iff]
  exact ⟨fun h => ⟨fun k hk => (h.1 k hk).symm, fun k hk => (h.2 k hk).symm⟩, fun h => ⟨fun k hk => (h.1 k hk).symm, fun k hk => (h.2 k hk).symm⟩⟩)
theorem alk_self (σ : cS) (i : Nat) : alk σ i i = true := alk_iff.mpr ⟨fun _ _ => rfl, fun _ _ => rfl⟩
theorem alk_Sm {σ τ : cS} (h : Sm σ τ) (i j : Nat) : alk τ i j = alk σ i j := bool_eq (by
  rw [alk_iff, alk_iff]
  simp only [sE_Sm h, sT_Sm h])
/-! two tables exchange what they have -/
def BK (σ τ : cS) (i j : Nat) (PE PT : Nat → Prop) : Prop := (∀ k, PE k → sE τ i k = tkE (sE σ i k) (sE σ j k) ∧ sE τ j k = tkE (sE σ j k) (sE σ i k)) ∧ (∀ t k, ¬ (PE k ∧ (t = i ∨ t = j)) → sE τ t k = sE σ t k) ∧ (∀ p, PT p → sT τ i p = tkT (sT σ i p) (sT σ j p) ∧ sT τ j p = tkT (sT σ j p) (sT σ i p)) ∧ ∀ t p, ¬ (PT p ∧ (t = i ∨ t = j)) → sT τ t p = sT σ t p
theorem BK_E {σ τ : cS} {i j : Nat} {PE PT : Nat → Prop} (h : BK σ τ i j PE PT) (t k : Nat) : sE τ t k = sE σ t k ∨ (t = i ∧ sE τ t k = tkE (sE σ i k) (sE σ j k)) ∨ (t = j ∧ sE τ t k = tkE (sE σ j k) (sE σ i k)) := by
  by_cases hp : PE k ∧ (t = i ∨ t = j)
  · rcases hp.2 with rfl | rfl
    · exact Or.inr (Or.inl ⟨rfl, (h.1 k hp.1).1⟩)
    · exact Or.inr (Or.inr ⟨rfl, (h.1 k hp.1).2⟩)
  · exact Or.inl (h.2.1 t k hp)
theorem BK_T {σ τ : cS} {i j : Nat} {PE PT : Nat → Prop} (h : BK σ τ i j PE PT) (t p : Nat) : sT τ t p = sT σ t p ∨ (t = i ∧ sT τ t p = tkT (sT σ i p) (sT σ j p)) ∨ (t = j ∧ sT τ t p = tkT (sT σ j p) (sT σ i p)) := by
  by_cases hp : PT p ∧ (t = i ∨ t = j)
  · rcases hp.2 with rfl | rfl
    · exact Or.inr (Or.inl ⟨rfl, (h.2.2.1 p hp.1).1⟩)
    · exact Or.inr (Or.inr ⟨rfl, (h.2.2.1 p hp.1).2⟩)
  · exact Or.inl (h.2.2.2 t p hp)
theorem BK_IE {σ τ : cS} {i j : Nat} {PE PT : Nat → Prop} (h : BK σ τ i j PE PT) (hi : i < 4) (hj : j < 4) (hE : IE σ) : IE τ := by
  intro t k ht hk
  rcases BK_E h t k with e | ⟨-, e⟩ | ⟨-, e⟩ <;> rw [e]
  · exact hE t k ht hk
  · exact okF_tk (hE i k hi hk) (hE j k hj hk)
  · exact okF_tk (hE j k hj hk) (hE i k hi hk)
theorem BK_IT {σ τ : cS} {i j n : Nat} {PE PT : Nat → Prop} (h : BK σ τ i j PE PT) (hi : i < 4) (hj : j < 4) (hT : IT σ n) : IT τ n := by
  intro t p ht hp
  rcases BK_T h t p with e | ⟨-, e⟩ | ⟨-, e⟩ <;> rw [e]
  · exact hT t p ht hp
  · exact ⟨okG_tk (hT i p hi hp).1 (hT j p hj hp).1, fun hn => by rw [(hT i p hi hp).2 hn, (hT j p hj hp).2 hn, tkT_self]⟩
  · exact ⟨okG_tk (hT j p hj hp).1 (hT i p hi hp).1, fun hn => by rw [(hT i p hi hp).2 hn, (hT j p hj hp).2 hn, tkT_self]⟩
theorem BK_Jp {σ τ : cS} {i j n : Nat} {PE PT : Nat → Prop} {L : Nat → List Ch} (h : BK σ τ i j PE PT) (hi : i < 3) (hj : j < 3) (hE : IE σ) (hT : IT σ n) (hL : IL n L) (hJ : Jp σ L) : Jp τ L := by
  have e3 : ∀ k, sE τ 3 k = sE σ 3 k := fun k => h.2.1 3 k (by omega)
  have t3 : ∀ k, sT τ 3 k = sT σ 3 k := fun k => h.2.2.2 3 k (by omega)
  have hL' : ∀ t, t < 3 → ∀ c ∈ L t, okC c := fun t ht c hc => (hL t ht c hc).1
  intro t ht
  refine ⟨fun k hk => ?_, fun p hp => ?_⟩
  · have key : ∀ a b, a < 3 → b < 3 → t = a → jE k (L t) (tkE (sE σ a k) (sE σ b k)) = sE σ 3 k := by
      intro a b ha hb e
      subst e
      rw [jE_tk hk _ _ _ (hL' t ht) (hE t k (by omega) hk) (hE b k (by omega) hk), (hJ t ht).1 k hk]
      refine tkE_ge (hE 3 k (by decide) hk) (hE b k (by omega) hk) ?_
      rw [← (hJ b hb).1 k hk]
      exact jE_ge hk _ _ (hL' b hb) (hE b k (by omega) hk)
    rw [e3]
    rcases BK_E h t k with e | ⟨e1, e⟩ | ⟨e1, e⟩ <;> rw [e]
    · exact (hJ t ht).1 k hk
    · exact key i j hi hj e1
    · exact key j i hj hi e1
  · have key : ∀ a b, a < 3 → b < 3 → t = a → jT p (L t) (tkT (sT σ a p) (sT σ b p)) = sT σ 3 p := by
      intro a b ha hb e
      subst e
      rw [jT_tk _ _ _ (hL' t ht) (hT t p (by omega) hp).1 (hT b p (by omega) hp).1, (hJ t ht).2 p hp]
      refine tkT_ge (hT 3 p (by decide) hp).1 (hT b p (by omega) hp).1 ?_
      rw [← (hJ b hb).2 p hp]
      exact jT_ge _ _ (hL' b hb) (hT b p (by omega) hp).1
    rw [t3]
    rcases BK_T h t p with e | ⟨e1, e⟩ | ⟨e1, e⟩ <;> rw [e]
    · exact (hJ t ht).2 p hp
    · exact key i j hi hj e1
    · exact key j i hj hi e1
theorem BK_eqE {σ τ : cS} {i j k : Nat} {PE PT : Nat → Prop} (h : BK σ τ i j PE PT) (hi : i < 4) (hj : j < 4) (hE : IE σ) (hk : k < 64) (hp : PE k ∨ sE σ i k = sE σ j k) : sE τ i k = sE τ j k := by
  by_cases q : PE k
  · rw [(h.1 k q).1, (h.1 k q).2]
    exact tkE_comm (hE i k hi hk) (hE j k hj hk)
  · rw [h.2.1 i k (fun z => q z.1), h.2.1 j k (fun z => q z.1)]
    exact hp.resolve_left q
theorem BK_eqT {σ τ : cS} {i j n p : Nat} {PE PT : Nat → Prop} (h : BK σ τ i j PE PT) (hi : i < 4) (hj : j < 4) (hT : IT σ n) (hk : p < 92) (hp : PT p ∨ sT σ i p = sT σ j p) : sT τ i p = sT τ j p := by
  by_cases q : PT p
  · rw [(h.2.2.1 p q).1, (h.2.2.1 p q).2]
    exact tkT_comm (hT i p hi hk).1 (hT j p hj hk).1
  · rw [h.2.2.2 i p (fun z => q z.1), h.2.2.2 j p (fun z => q z.1)]
    exact hp.resolve_left q
