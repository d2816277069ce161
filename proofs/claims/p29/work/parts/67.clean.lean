/-! cleaning, counting, ranges -/
theorem sE_dropE {σ : cS} {t k t' k' : Nat} : sE (dropE σ t k) t' k' = if t' = t ∧ k' = k then (-1, nI 0, nI 0) else sE σ t' k' := sE_putE
theorem sT_dropE {σ : cS} {t k t' k' : Nat} : sT (dropE σ t k) t' k' = sT σ t' k' := sT_putE
theorem putE_r {σ : cS} {t k : Nat} {v sp en : Int32} : (putE σ t k v sp en).2 = σ.2 := rfl
theorem putT_r {σ : cS} {t k : Nat} {sp ma : Int32} : (putT σ t k sp ma).2 = σ.2 := rfl
theorem la_T {a g m : Nat} (ha : a ≤ 10000) (hg : g ≤ 1000) (hm : m ≤ 11001) : (nI a - nI g < nI m ↔ (nI a - nI m : Int32) < nI g) := by
  rw [fa_lt, fa_lt, pk_sub_toInt (by omega) (by omega), pk_sub_toInt (by omega) (by omega), nI_toInt (by omega), nI_toInt (by omega)]
  omega
theorem la_E {a g : Nat} (ha : a ≤ 10000) (hg : g ≤ 1000) : nI a - nI g < nI 11001 := by
  rw [fa_lt, pk_sub_toInt (by omega) (by omega), nI_toInt (by decide)]
  omega
/-! counting -/
theorem cntT_ct {σ : cS} {t a : Nat} : ∀ n, cntT σ t a n = fb_ct (fun i => !decide (cI σ (15 + 6 * t + 4) (a + i) = -1)) n
  | 0 => rfl
  | n + 1 => by
    unfold cntT
    rw [fb_ct_succ, ← cntT_ct n]
    by_cases h : cI σ (15 + 6 * t + 4) (a + n) = -1
    · rw [if_pos h, decide_eq_true h]; rfl
    · rw [if_neg h, decide_eq_false h]; rfl
theorem kdM_lt (r : Nat) : kdM r < 2 ^ 31 := by unfold kdM; (repeat' split) <;> decide
theorem ct_none {p : Nat → Bool} {n : Nat} (h : ∀ k, k < n → p k = false) : fb_ct p n = 0 := fb_ct_zero.mpr h
theorem ct_mid {p : Nat → Bool} {a w n : Nat} (h : a + w ≤ n) (h0 : ∀ k, k < n → (k < a ∨ a + w ≤ k) → p k = false) : fb_ct p n = fb_ct (fun k => p (a + k)) w := by
  obtain ⟨r, rfl⟩ : ∃ r, n = a + w + r := ⟨n - (a + w), by omega⟩
  rw [fb_ct_split, fb_ct_split, ct_none (p := p) (n := a) (fun k hk => h0 k (by omega) (Or.inl hk)), ct_none (p := fun k => p (a + w + k)) (n := r) (fun k hk => h0 _ (by omega) (Or.inr (by omega))), Nat.zero_add, Nat.add_zero]
theorem kd_in {r k : Nat} (hr : r < 4) (hk : k < 92) : kdM k = r ↔ fpl r ≤ k ∧ k < fpl (r + 1) := by
  unfold kdM fpl
  rcases (show r = 0 ∨ r = 1 ∨ r = 2 ∨ r = 3 by omega) with rfl | rfl | rfl | rfl <;> simp <;> (repeat' split) <;> omega
/-! ranges -/
