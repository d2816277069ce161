/-! more of what the law's own methods tell -/
theorem lpV_y {set : Int32} {k : Nat} (h : bitB set k = true) (a : Nat) : a + lpV set (k + 1) = a + lpV set k + 1 := by
  rw [lpV, if_pos h, Nat.add_assoc]
theorem lpV_n {set : Int32} {k : Nat} (h : bitB set k = false) (a : Nat) : a + lpV set (k + 1) = a + lpV set k := by
  rw [lpV, if_neg (by rw [h]; decide)]
theorem lpX_no {σ : cS} {i j lv k : Nat} {set : Int32} (h : bitB set k = false) : lpX σ i j lv set (k + 1) = lpX σ i j lv set k := by
  rw [lpX, if_neg (by rw [h]; decide)]
theorem lpX_e {σ : cS} {i j lv k : Nat} {set : Int32} (h : bitB set k = true) (q : NS σ i (2 ^ lv + k) = NS σ j (2 ^ lv + k)) : lpX σ i j lv set (k + 1) = lpX σ i j lv set k := by
  rw [lpX, if_pos h, lnx, if_pos q, nI_0, Int32.or_zero]
theorem lpX_d4 {σ : cS} {i j lv k : Nat} {set : Int32} (h : bitB set k = true) (q : ¬ NS σ i (2 ^ lv + k) = NS σ j (2 ^ lv + k)) (h4 : lv = 4) : lpX σ i j lv set (k + 1) = lpX σ i j lv set k ||| (nI 1 <<< (nI k &&& 31)) := by
  rw [lpX, if_pos h, lnx, if_neg q, if_pos h4]
theorem lpX_3 {σ : cS} {i j lv k : Nat} {set : Int32} (h : bitB set k = true) (q : ¬ NS σ i (2 ^ lv + k) = NS σ j (2 ^ lv + k)) (h4 : ¬ lv = 4) : lpX σ i j lv set (k + 1) = lpX σ i j lv set k ||| (nI 3 <<< (nI (2 * k) &&& 31)) := by
  rw [lpX, if_pos h, lnx, if_neg q, if_neg h4]
theorem lnx_comm (σ : cS) (i j lv k : Nat) : lnx σ j i lv k = lnx σ i j lv k := by
  unfold lnx
  by_cases h : NS σ i (2 ^ lv + k) = NS σ j (2 ^ lv + k)
  · rw [if_pos h, if_pos h.symm]
  · rw [if_neg h, if_neg (fun z => h z.symm)]
theorem lpX_comm (σ : cS) (i j lv : Nat) (set : Int32) : ∀ k, lpX σ j i lv set k = lpX σ i j lv set k
  | 0 => rfl
  | k + 1 => by
    unfold lpX
    rw [lpX_comm σ i j lv set k, lnx_comm]
theorem lpS_comm (σ : cS) (i j : Nat) : ∀ k, lpS σ j i k = lpS σ i j k
  | 0 => rfl
  | k + 1 => by
    unfold lpS
    rw [lpS_comm σ i j k]
    exact lpX_comm σ i j k _ _
theorem alk_lp {σ : cS} {i j : Nat} (h : alk σ i j = true) : lpS σ i j 5 = nI 0 ∧ lpC σ i j 5 = 1 := by
  rw [lp_set, lp_cnt]
  exact alk_cmp h
theorem lpC_31 {σ : cS} {i j : Nat} : ∀ lv, lv ≤ 5 → lpC σ i j lv ≤ 31 := fun lv h => by
  have h1 := lpC_le (σ := σ) (i := i) (j := j) lv h
  have h2 : 2 ^ lv ≤ 2 ^ 5 := Nat.pow_le_pow_right (by decide) h
  omega
theorem nI_z {a : Nat} (ha : a < 2 ^ 31) (h : ¬ 0 < nI a) : a = 0 := by
  rcases Nat.eq_zero_or_pos a with e | e
  · exact e
  · exact absurd ((nI_ltI (by decide) ha).mpr e) (by rw [nI_0]; exact h)
theorem nI_p {a : Nat} (ha : a < 2 ^ 31) (h : 0 < nI a) : 0 < a := by
  rcases Nat.eq_zero_or_pos a with e | e
  · rw [e, nI_0] at h; exact absurd h (by decide)
  · exact e
/-! what is kept for copies that are down -/
def dn (m : Nat → Nat) (cs i : Nat) : Prop := bitB (nI cs) i = true ∧ bitB (nI (m 5)) i = false
def HN (m m1 : Nat → Nat) (cs k : Nat) : Prop := m1 0 = m 0 ∧ m1 1 = m 1 ∧ m1 5 = m 5 ∧ m1 8 = m 8 ∧ (∀ i, i < 3 → ((i < k ∧ dn m cs i ∧ m (2 + i) < 10 → m1 (2 + i) = m (2 + i) + 1) ∧ (¬ (i < k ∧ dn m cs i ∧ m (2 + i) < 10) → m1 (2 + i) = m (2 + i)))) ∧ m 6 ≤ m1 6 ∧ m1 6 ≤ m 6 + k ∧ (m1 6 = m 6 → ∀ i, i < k → dn m cs i → m (2 + i) ≠ 10) ∧ m1 7 ≤ m 7 ∧ (0 < k → 0 < m1 6 → m1 7 = 0)
theorem HN_0 {m : Nat → Nat} {cs : Nat} : HN m m cs 0 := ⟨rfl, rfl, rfl, rfl, fun i _ => ⟨fun z => absurd z.1 (Nat.not_lt_zero _), fun _ => rfl⟩, Nat.le_refl _, Nat.le_refl _, fun _ i hi => absurd hi (Nat.not_lt_zero _), Nat.le_refl _, fun z => absurd z (Nat.not_lt_zero _)⟩
theorem HN_s {m m1 : Nat → Nat} {cs i a b d : Nat} (h : HN m m1 cs i) (hi : i < 3) (h10 : m (2 + i) ≤ 10) (ha : (a = m1 6 ∧ ¬ (dn m cs i ∧ m (2 + i) = 10)) ∨ (a = m1 6 + 1 ∧ dn m cs i ∧ m (2 + i) = 10)) (hb : (0 < a ∧ b = 0) ∨ (a = 0 ∧ b = m1 7)) (hd : (d = m (2 + i) + 1 ∧ dn m cs i ∧ m (2 + i) < 10) ∨ (d = m (2 + i) ∧ ¬ (dn m cs i ∧ m (2 + i) < 10))) : HN m (va_up (va_up (va_up m1 6 a) 7 b) (2 + i) d) cs (i + 1) := by
  obtain ⟨g0, g1, g5, g8, g2, g6, g6b, g6c, g7, g7b⟩ := h
  have e : ∀ j, va_up (va_up (va_up m1 6 a) 7 b) (2 + i) d j = if j = 2 + i then d else if j = 7 then b else if j = 6 then a else m1 j := fun j => rfl
  refine ⟨?_, ?_, ?_, ?_, fun k hk => ?_, ?_, ?_, ?_, ?_, ?_⟩
  · rw [e, if_neg (by omega), if_neg (by omega), if_neg (by omega)]; exact g0
  · rw [e, if_neg (by omega), if_neg (by omega), if_neg (by omega)]; exact g1
  · rw [e, if_neg (by omega), if_neg (by omega), if_neg (by omega)]; exact g5
  · rw [e, if_neg (by omega), if_neg (by omega), if_neg (by omega)]; exact g8
  · rw [e]
    by_cases hki : k = i
    · subst hki
      rw [if_pos rfl]
      refine ⟨fun z => ?_, fun z => ?_⟩
      · rcases hd with q | q
        · exact q.1
        · exact absurd z.2 q.2
      · rcases hd with q | q
        · exact absurd ⟨Nat.lt_succ_self _, q.2⟩ z
        · exact q.1
    · rw [if_neg (by omega), if_neg (by omega), if_neg (by omega)]
      exact ⟨fun z => (g2 k hk).1 ⟨by omega, z.2⟩, fun z => (g2 k hk).2 (fun y => z ⟨by omega, y.2⟩)⟩
  · rw [e, if_neg (by omega), if_neg (by omega), if_pos rfl]
    rcases ha with q | q <;> omega
  · rw [e, if_neg (by omega), if_neg (by omega), if_pos rfl]
    rcases ha with q | q <;> omega
  · rw [e, if_neg (by omega), if_neg (by omega), if_pos rfl]
    intro z k hk hdk
    by_cases hki : k = i
    · rw [hki] at hdk ⊢
      rcases ha with q | q
      · exact fun y => q.2 ⟨hdk, y⟩
      · omega
    · exact g6c (by rcases ha with q | q <;> omega) k (by omega) hdk
  · rw [e, if_neg (by omega), if_pos rfl]
    rcases hb with q | q <;> omega
  · rw [e, if_neg (by omega), if_neg (by omega), if_pos rfl, e, if_neg (by omega), if_pos rfl]
    intro _ y
    rcases hb with q | q
    · exact q.2
    · omega
