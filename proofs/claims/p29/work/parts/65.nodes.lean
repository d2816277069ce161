/-! sums of nodes; comparing -/
theorem pl_I {σ τ : cS} (h : ∀ p j, p ≠ 6 → p ≠ 7 → cI σ p j = cI τ p j) (p : Nat) (h6 : p ≠ 6) (h7 : p ≠ 7) : cI σ p = cI τ p := funext fun j => h p j h6 h7
theorem rowS_I {σ τ : cS} (h : ∀ p j, p ≠ 6 → p ≠ 7 → cI σ p j = cI τ p j) (t row : Nat) : rowS σ t row = rowS τ t row := by
  have ht : ∀ k x, tombP σ t k x = tombP τ t k x := fun k x => by unfold tombP; rw [pl_I h (15 + 6 * t + 4) (by omega) (by omega), pl_I h (15 + 6 * t + 5) (by omega) (by omega)]
  have he : ∀ k c, entP σ t k c = entP τ t k c := fun k c => by unfold entP; rw [pl_I h (15 + 6 * t + 1) (by omega) (by omega), pl_I h (15 + 6 * t + 2) (by omega) (by omega), pl_I h (15 + 6 * t + 3) (by omega) (by omega)]
  have hb : ∀ r, hasB σ r row = hasB τ r row := fun r => by unfold hasB; rw [pl_I h 2 (by decide) (by decide), pl_I h 3 (by decide) (by decide)]
  have hp : ∀ r, parS σ r = parS τ r := fun r => by unfold parS; rw [pl_I h 2 (by decide) (by decide), pl_I h 3 (by decide) (by decide)]
  have h1 : ∀ n, rs1 σ t row n = rs1 τ t row n := by
    intro n
    induction n with
    | zero => exact ht _ _
    | succ n ih => unfold rs1; rw [ih, he, ht, ht]
  have h2 : ∀ n, rs2 σ t row n = rs2 τ t row n := by
    intro n
    induction n with
    | zero => exact h1 4
    | succ n ih => unfold rs2; rw [ih, ht, hb, hp]
  unfold rowS
  rw [h2]
theorem ms1_I {σ : cS} {t k : Nat} : ∀ n p j, p ≠ k → cI (ms1 σ t k n) p j = cI σ p j
  | 0, _, _, _ => rfl
  | n + 1, p, j, h => by unfold ms1; rw [cI_w1, if_neg (fun z => h z.1)]; exact ms1_I n p j h
theorem ms1_at {σ : cS} {t k : Nat} (hk : k = 6 ∨ k = 7) : ∀ n r, r < n → cI (ms1 σ t k n) k (16 + r) = rowS σ t r
  | 0, r, h => absurd h (Nat.not_lt_zero _)
  | n + 1, r, h => by
    unfold ms1
    rw [cI_w1]
    by_cases hr : r = n
    · subst hr
      rw [if_pos ⟨rfl, rfl⟩]
      exact rowS_I (fun p j h6 h7 => ms1_I r p j (by omega)) t r
    · rw [if_neg (by omega)]; exact ms1_at hk n r (by omega)
theorem ms1_r {σ : cS} {t k : Nat} : ∀ n, (ms1 σ t k n).2 = σ.2
  | 0 => rfl
  | n + 1 => ms1_r n
theorem ms2_r {σ : cS} {t k : Nat} : ∀ n, (ms2 σ t k n).2 = σ.2
  | 0 => ms1_r 16
  | n + 1 => ms2_r n
theorem ms2_I {σ : cS} {t k : Nat} : ∀ n p j, p ≠ k → cI (ms2 σ t k n) p j = cI σ p j
  | 0, p, j, h => ms1_I 16 p j h
  | n + 1, p, j, h => by unfold ms2; rw [cI_w1, if_neg (fun z => h z.1)]; exact ms2_I n p j h
theorem ms2_hi {σ : cS} {t k : Nat} : ∀ n j, 16 ≤ j → cI (ms2 σ t k n) k j = cI (ms1 σ t k 16) k j
  | 0, _, _ => by unfold ms2; rfl
  | n + 1, j, h => by unfold ms2; rw [cI_w1, if_neg (by omega)]; exact ms2_hi n j h
theorem ms2_at {σ : cS} {t k : Nat} : ∀ n i, n ≤ 15 → 16 - n ≤ i → i ≤ 15 → cI (ms2 σ t k n) k i = jrem (cI (ms2 σ t k n) k (2 * i) + cI (ms2 σ t k n) k (2 * i + 1)) 65521
  | 0, i, _, h1, h2 => by omega
  | n + 1, i, hn, h1, h2 => by
    have ih := ms2_at (σ := σ) (t := t) (k := k) n i (by omega)
    unfold ms2
    rw [cI_w1, cI_w1, cI_w1, if_neg (show ¬ (k = k ∧ 2 * i = 15 - n) by omega), if_neg (show ¬ (k = k ∧ 2 * i + 1 = 15 - n) by omega)]
    by_cases hi : i = 15 - n
    · rw [if_pos ⟨rfl, hi⟩, ← hi]
    · rw [if_neg (fun z => hi z.2)]; exact ih (by omega) h2
theorem mkS_I {σ : cS} {t k p j : Nat} (h : p ≠ k) : cI (mkS σ t k) p j = cI σ p j := by unfold mkS; exact ms2_I 15 p j h
theorem mkS_r {σ : cS} {t k : Nat} : (mkS σ t k).2 = σ.2 := by unfold mkS; exact ms2_r 15
theorem mkS_row {σ : cS} {t k r : Nat} (hk : k = 6 ∨ k = 7) (hr : r < 16) : cI (mkS σ t k) k (16 + r) = rowS σ t r := by unfold mkS; rw [ms2_hi 15 _ (by omega)]; exact ms1_at hk 16 r hr
theorem mkS_node {σ : cS} {t k i : Nat} (h1 : 1 ≤ i) (h2 : i ≤ 15) : cI (mkS σ t k) k i = jrem (cI (mkS σ t k) k (2 * i) + cI (mkS σ t k) k (2 * i + 1)) 65521 := by unfold mkS; exact ms2_at 15 i (Nat.le_refl _) (by omega) h2
theorem nd_step {f : Nat → Int32} {rN : Nat → Nat} (h3 : ∀ i, 1 ≤ i → i ≤ 15 → f i = jrem (f (2 * i) + f (2 * i + 1)) 65521) {m w : Nat} (hm1 : 1 ≤ m) (hm : m ≤ 8) (h : ∀ nd, nd < 2 * m → f (2 * m + nd) = nI (fb_sm (fun i => rN (w * nd + i)) w % 65521)) : ∀ nd, nd < m → f (m + nd) = nI (fb_sm (fun i => rN (2 * w * nd + i)) (2 * w) % 65521) := by
  intro nd hnd
  rw [h3 (m + nd) (by omega) (by omega), show 2 * (m + nd) = 2 * m + 2 * nd by omega, show 2 * m + 2 * nd + 1 = 2 * m + (2 * nd + 1) by omega, h (2 * nd) (by omega), h (2 * nd + 1) (by omega), nI_add]
  rw [jrem_N (by omega), ← Nat.add_mod, show 2 * w = w + w by omega, fb_sm_split]
  congr 2
  congr 1
  · exact fb_sm_cong (fun i _ => congrArg rN (by rw [← Nat.mul_assoc, Nat.mul_comm w 2, show 2 * w = w + w by omega]))
  · exact fb_sm_cong (fun i _ => congrArg rN (by rw [Nat.mul_add, Nat.mul_one, ← Nat.mul_assoc, Nat.mul_comm w 2, Nat.add_assoc, show 2 * w = w + w by omega]))
theorem nd_all {f : Nat → Int32} {rN : Nat → Nat} (h1 : ∀ r, r < 16 → f (16 + r) = nI (rN r)) (h2 : ∀ r, r < 16 → rN r < 65521) (h3 : ∀ i, 1 ≤ i → i ≤ 15 → f i = jrem (f (2 * i) + f (2 * i + 1)) 65521) {lv nd : Nat} (hlv : lv < 5) (hnd : nd < 2 ^ lv) : f (2 ^ lv + nd) = nI (fb_sm (fun i => rN (16 / 2 ^ lv * nd + i)) (16 / 2 ^ lv) % 65521) := by
  have a4 : ∀ nd, nd < 2 * 8 → f (2 * 8 + nd) = nI (fb_sm (fun i => rN (1 * nd + i)) 1 % 65521) := by
    intro nd hnd
    rw [h1 nd hnd]
    show nI (rN nd) = nI ((0 + rN (1 * nd + 0)) % 65521)
    rw [Nat.one_mul, Nat.add_zero, Nat.zero_add, Nat.mod_eq_of_lt (h2 nd hnd)]
  have a3 := nd_step h3 (by decide) (by decide) a4
  have a2 := nd_step h3 (m := 4) (w := 2) (by decide) (by decide) a3
  have a1 := nd_step h3 (m := 2) (w := 4) (by decide) (by decide) a2
  have a0 := nd_step h3 (m := 1) (w := 8) (by decide) (by decide) a1
  rcases (show lv = 0 ∨ lv = 1 ∨ lv = 2 ∨ lv = 3 ∨ lv = 4 by omega) with rfl | rfl | rfl | rfl | rfl
  · exact a0 nd hnd
  · exact a1 nd hnd
  · exact a2 nd hnd
  · exact a3 nd hnd
  · exact a4 nd hnd
theorem sm_le {f : Nat → Nat} {B : Nat} : ∀ n, (∀ k, k < n → f k < B) → fb_sm f n ≤ n * B
  | 0, _ => by simp [fb_sm]
  | n + 1, h => by
    have h1 := sm_le n (fun k hk => h k (by omega))
    have h2 := h n (by omega)
    rw [fb_sm_succ, Nat.add_mul, Nat.one_mul]
    omega
/-- comparing -/
theorem cm0_I {σ : cS} {t t2 p j : Nat} (h6 : p ≠ 6) (h7 : p ≠ 7) : cI (cm0 σ t t2) p j = cI σ p j := by unfold cm0; rw [mkS_I h7, mkS_I h6]
theorem cm0_r {σ : cS} {t t2 : Nat} : (cm0 σ t t2).2 = σ.2 := by unfold cm0; rw [mkS_r, mkS_r]
theorem cmS_I {σ : cS} {t t2 : Nat} : ∀ n, cI (cmS σ t t2 n) = cI (cm0 σ t t2)
  | 0 => rfl
  | n + 1 => cmS_I n
theorem cF_s {c : cS} {k m : Nat} {x : Bool} : cF (cF' c k x) m = if m = k then x else cF c m := rfl
theorem cmS_st {σ : cS} {t t2 : Nat} : ∀ d n m, m ≤ n → cF (cmS σ t t2 (n + d)) m = cF (cmS σ t t2 n) m
  | 0, _, _, _ => rfl
  | d + 1, n, m, h => by
    have e : cF (cmS σ t t2 (n + d + 1)) m = cF (cmS σ t t2 (n + d)) m := by rw [cmS, cF_s, if_neg (by omega)]
    exact e.trans (cmS_st d n m h)
theorem cmr_st {σ : cS} {t t2 n d m : Nat} (h : m / 2 ≤ n) : cmr (cmS σ t t2 (n + d)) m = cmr (cmS σ t t2 n) m := by unfold cmr; rw [cmS_st d n _ h]
theorem cmS_F {σ : cS} {t t2 : Nat} : ∀ n m, 1 ≤ m → m ≤ n → cF (cmS σ t t2 n) m = (cmr (cmS σ t t2 n) m && !decide (cI (cm0 σ t t2) 6 m = cI (cm0 σ t t2) 7 m))
  | 0, m, h1, h2 => by omega
  | n + 1, m, h1, h2 => by
    rw [cmr_st (n := n) (d := 1) (by omega)]
    by_cases h : m = n + 1
    · subst h
      rw [cmS, cF_s, if_pos rfl, cmS_I]
    · rw [cmS_st 1 n m (by omega)]
      exact cmS_F n m h1 (by omega)
theorem cmN_ct {σ : cS} {t t2 N : Nat} : ∀ n, n ≤ N → cmN σ t t2 n = fb_ct (fun i => cmr (cmS σ t t2 N) (i + 1)) n
  | 0, _ => rfl
  | n + 1, h => by
    obtain ⟨d, rfl⟩ : ∃ d, N = n + d := ⟨N - n, by omega⟩
    unfold cmN
    rw [fb_ct_succ, ← cmN_ct n (by omega), cmr_st (n := n) (d := d) (by omega)]
    split <;> rfl
theorem cmS_r {σ : cS} {t t2 : Nat} : ∀ n, cV (cmS σ t t2 n) = cV σ ∧ cU (cmS σ t t2 n) = cU σ ∧ cM (cmS σ t t2 n) = cM σ ∧ cL (cmS σ t t2 n) = cL σ ∧ cE (cmS σ t t2 n) = cE σ ∧ cW (cmS σ t t2 n) = cW σ
  | 0 => by
    obtain ⟨h1, h2, -, h4, h5, h6, h7⟩ := c_of (cm0_r (σ := σ) (t := t) (t2 := t2))
    exact ⟨h1, h2, h4, h5, h6, h7⟩
  | n + 1 => cmS_r n
theorem cmp_I {σ : cS} {t t2 p j : Nat} (h6 : p ≠ 6) (h7 : p ≠ 7) : cI (cmp σ t t2) p j = cI σ p j := by
  unfold cmp
  rw [cmS_I]
  exact cm0_I h6 h7
/-- bits -/
theorem b_1 : ∀ i, i < 32 → bt (nI 1) i = decide (i = 0) := by decide +kernel
theorem bitB_bt {x : Int32} {n : Nat} (hn : n < 32) : bitB x n = bt x n := by
  unfold bitB
  have e : bt (x >>> (nI n &&& 31)) 0 = bt x n := by rw [b_sshr n hn x (by decide), Nat.add_zero, if_pos hn]
  rw [← e]
  generalize x >>> (nI n &&& 31) = y
  by_cases h : bt y 0 = true
  · rw [h]
    apply decide_eq_true
    apply b_ext
    intro i hi
    rw [b_and, b_1 i hi]
    by_cases h0 : i = 0
    · subst h0; rw [h]; rfl
    · rw [decide_eq_false h0, Bool.and_false]
  · have h' : bt y 0 = false := by revert h; cases bt y 0 <;> simp
    rw [h']
    apply decide_eq_false
    intro z
    have := congrArg (fun v => bt v 0) z
    simp only [b_and, h', b_1 0 (by decide)] at this
    cases this
theorem bitB_or {x y : Int32} {n : Nat} (hn : n < 32) : bitB (x ||| y) n = (bitB x n || bitB y n) := by rw [bitB_bt hn, bitB_bt hn, bitB_bt hn, b_or]
theorem bitB_0 : ∀ n, n < 32 → bitB (nI 0) n = false := by decide +kernel
theorem bitB_3 : ∀ n, n < 8 → ∀ b, b < 16 → bitB (nI 3 <<< (nI (2 * n) &&& 31)) b = decide (b / 2 = n) := by decide +kernel
