/-! sums of nodes; comparing -/
theorem pl_I {σ τ : cS} (h : ∀ p j, p ≠ 6 → p ≠ 7 → cI σ p j = cI τ p j) (p : Nat) (h6 : p ≠ 6) (h7 : p ≠ 7) : cI σ p = cI τ p := funext fun j => h p j h6 h7
theorem rowS_I {σ τ : cS} (h : ∀ p j, p ≠ 6 → p ≠ 7 → cI σ p j = cI τ p j) (t row : Nat) : rowS σ t row = rowS τ t row := by
  have ht : ∀ k x, tombP σ t k x = tombP τ t k x := fun k x => by unfold tombP; rw [pl_I h (15 + 6 * t + 4) (by omega) (by omega), pl_I h (15 + 6 * t + 5) (by omega) (by omega)]
  have he : ∀ k c, entP σ t k c = entP τ t k c := fun k c => by unfold entP; rw [pl_I h (15 + 6 * t + 1) (by omega) (by omega), pl_I h (15 + 6 * t + 2) (by omega) (by omega), pl_I h (15 + 6 * t + 3) (by omega) (by omega)]
  have hb : ∀ r, hasB σ r row = hasB τ r row := fun r => by unfold hasB; rw [pl_I h 2 (by decide) (by decide), pl_I h 3 (by decide) (by decide)]
  have hp : ∀ r, parS σ r = parS τ r := fun r => by unfold parS; rw [pl_I h 2 (by decide) (by decide), pl_I h 3 (by decide) (by decide)]
  have h1 : ∀ n, rs1 σ t row n = rs1 τ t row n := by
    intro n
    induction n with
    | zero => exact ht _ _
    | succ n ih => unfold rs1; rw [ih, he, ht, ht]
  have h2 : ∀ n, rs2 σ t row n = rs2 τ t row n := by
    intro n
    induction n with
    | zero => exact h1 4
    | succ n ih => unfold rs2; rw [ih, ht, hb, hp]
  unfold rowS
  rw [h2]
theorem ms1_I {σ : cS} {t k : Nat} : ∀ n p j, p ≠ k → cI (ms1 σ t k n) p j = cI σ p j
  | 0, _, _, _ => rfl
  | n + 1, p, j, h => by unfold ms1; rw [cI_w1, if_neg (fun z => h z.1)]; exact ms1_I n p j h
theorem ms1_at {σ : cS} {t k : Nat} (hk : k = 6 ∨ k = 7) : ∀ n r, r < n → cI (ms1 σ t k n) k (16 + r) = rowS σ t r
  | 0, r, h => absurd h (Nat.not_lt_zero _)
  | n + 1, r, h => by
    unfold ms1
    rw [cI_w1]
    by_cases hr : r = n
    · subst hr
      rw [if_pos ⟨rfl, rfl⟩]
      exact rowS_I (fun p j h6 h7 => ms1_I r p j (by omega)) t r
    · rw [if_neg (by omega)]; exact ms1_at hk n r (by omega)
theorem ms1_r {σ : cS} {t k : Nat} : ∀ n, (ms1 σ t k n).2 = σ.2
  | 0 => rfl
  | n + 1 => ms1_r n
theorem ms2_r {σ : cS} {t k : Nat} : ∀ n, (ms2 σ t k n).2 = σ.2
  | 0 => ms1_r 16
  | n + 1 => ms2_r n
theorem ms2_I {σ : cS} {t k : Nat} : ∀ n p j, p ≠ k → cI (ms2 σ t k n) p j = cI σ p j
  | 0, p, j, h => ms1_I 16 p j h
  | n + 1, p, j, h => by unfold ms2; rw [cI_w1, if_neg (fun z => h z.1)]; exact ms2_I n p j h
theorem ms2_hi {σ : cS} {t k : Nat} : ∀ n j, 16 ≤ j → cI (ms2 σ t k n) k j = cI (ms1 σ t k 16) k j
  | 0, _, _ => by unfold ms2; rfl
  | n + 1, j, h => by unfold ms2; rw [cI_w1, if_neg (by omega)]; exact ms2_hi n j h
theorem ms2_at {σ : cS} {t k : Nat} : ∀ n i, n ≤ 15 → 16 - n ≤ i → i ≤ 15 → cI (ms2 σ t k n) k i = jrem (cI (ms2 σ t k n) k (2 * i) + cI (ms2 σ t k n) k (2 * i + 1)) 65521
  | 0, i, _, h1, h2 => by omega
  | n + 1, i, hn, h1, h2 => by
    have ih := ms2_at (σ := σ) (t := t) (k := k) n i (by omega)
    unfold ms2
    rw [cI_w1, cI_w1, cI_w1, if_neg (show ¬ (k = k ∧ 2 * i = 15 - n) by omega), if_neg (show ¬ (k = k ∧ 2 * i + 1 = 15 - n) by omega)]
    by_cases hi : i = 15 - n
    · rw [if_pos ⟨rfl, hi⟩, ← hi]
    · rw [if_neg (fun z => hi z.2)]; exact ih (by omega) h2
theorem mkS_I {σ : cS} {t k p j : Nat} (h : p ≠ k) : cI (mkS σ t k) p j = cI σ p j := by unfold mkS; exact ms2_I 15 p j h
theorem mkS_r {σ : cS} {t k : Nat} : (mkS σ t k).2 = σ.2 := by unfold mkS; exact ms2_r 15
theorem mkS_row {σ : cS} {t k r : Nat} (hk : k = 6 ∨ k = 7) (hr : r < 16) : cI (mkS σ t k) k (16 + r) = rowS σ t r := by unfold mkS; rw [ms2_hi 15 _ (by omega)]; exact ms1_at hk 16 r hr
theorem mkS_node {σ : cS} {t k i : Nat} (h1 : 1 ≤ i) (h2 : i ≤ 15) : cI (mkS σ t k) k i = jrem (cI (mkS σ t k) k (2 * i) + cI (mkS σ t k) k (2 * i + 1)) 65521 := by unfold mkS; exact ms2_at 15 i (Nat.le_refl _) (by omega) h2
theorem nd_step {f : Nat → Int32} {rN : Nat → Nat} (h3 : ∀ i, 1 ≤ i → i ≤ 15 → f i = jrem (f (2 * i) + f (2 * i + 1)) 65521) {m w : Nat} (hm1 : 1 ≤ m) (hm : m ≤ 8) (h : ∀ nd, nd < 2 * m → f (2 * m + nd) = nI (fb_sm (fun i => rN (w * nd + i)) w % 65521)) : ∀ nd, nd < m → f (m + nd) = nI (fb_sm (fun i => rN (2 * w * nd + i)) (2 * w) % 65521) := by
  intro nd hnd
  rw [h3 (m + nd) (by omega) (by omega), show 2 * (m + nd) = 2 * m + 2 * nd by omega, show 2 * m + 2 * nd + 1 = 2 * m + (2 * nd + 1) by omega, h (2 * nd) (by omega), h (2 * nd + 1) (by omega), nI_add]
  rw [jrem_N (by omega), ← Nat.add_mod, show 2 * w = w + w by omega, fb_sm_split]
  congr 2
  congr 1
  · exact fb_sm_cong (fun i _ => congrArg rN (by rw [← Nat.mul_assoc, Nat.mul_comm w 2, show 2 * w = w + w by omega]))
  · exact fb_sm_cong (fun i _ => congrArg rN (by rw [Nat.mul_add, Nat.mul_one, ← Nat.mul_assoc, Nat.mul_comm w 2, Nat.add_assoc, show 2 * w = w + w by omega]))
theorem nd_all {f : Nat → Int32} {rN : Nat → Nat} (h1 : ∀ r, r < 16 → f (16 + r) = nI (rN r)) (h2 : ∀ r, r < 16 → rN r < 65521) (h3 : ∀ i, 1 ≤ i → i ≤ 15 → f i = jrem (f (2 * i) + f (2 * i + 1)) 65521) {lv nd : Nat} (hlv : lv < 5) (hnd : nd < 2 ^ lv) : f (2 ^ lv + nd) = nI (fb_sm (fun i => rN (16 / 2 ^ lv * nd + i)) (16 / 2 ^ lv) % 65521) := by
  have a4 : ∀ nd, nd < 2 * 8 → f (2 * 8 + nd) = nI (fb_sm (fun i => rN (1 * nd + i)) 1 % 65521) := by
    intro nd hnd
    rw [h1 nd hnd]
    show nI (rN nd) = nI ((0 + rN (1 * nd + 0)) % 65521)
    rw [Nat.one_mul, Nat.add_zero, Nat.zero_add, Nat.mod_eq_of_lt (h2 nd hnd)]
  have a3 := nd_step h3 (by decide) (by decide) a4
  have a2 := nd_step h3 (m := 4) (w := 2) (by decide) (by decide) a3
  have a1 := nd_step h3 (m := 2) (w := 4) (by decide) (by decide) a2
  have a0 := nd_step h3 (m := 1) (w := 8) (by decide) (by decide) a1
  rcases (show lv = 0 ∨ lv = 1 ∨ lv = 2 ∨ lv = 3 ∨ lv = 4 by omega) with rfl | rfl | rfl | rfl | rfl
  · exact a0 nd hnd
  · exact a1 nd hnd
  · exact a2 nd hnd
  · exact a3 nd hnd
  · exact a4 nd hnd
theorem sn1_N {μ : mS} {k : Nat} {rN : Nat → Nat} (h : ∀ r, r < 16 → srM μ k r = nI (rN r)) (a : Nat) : ∀ n, a + n ≤ 16 → sn1 μ k a n = nI (fb_sm (fun i => rN (a + i)) n)
  | 0, _ => rfl
  | n + 1, hn => by
    unfold sn1
    rw [sn1_N h a n (by omega), h (a + n) (by omega), nI_add]
    rfl
theorem sm_le {f : Nat → Nat} {B : Nat} : ∀ n, (∀ k, k < n → f k < B) → fb_sm f n ≤ n * B
  | 0, _ => by simp [fb_sm]
  | n + 1, h => by
    have h1 := sm_le n (fun k hk => h k (by omega))
    have h2 := h n (by omega)
    rw [fb_sm_succ, Nat.add_mul, Nat.one_mul]
    omega
theorem node_sum {σ : cS} {μ : mS} (hE : RE σ μ) (hT : RT σ μ) (hR : RR σ μ) {t k lv nd : Nat} (ht : t < 4) (hk : k = 6 ∨ k = 7) (hlv : lv < 5) (hnd : nd < 2 ^ lv) : cI (mkS σ t k) k (2 ^ lv + nd) = snM μ t lv nd := by
  have hN : ∀ r, r < 16 → srM μ t r = nI (srM μ t r).toNatClampNeg ∧ (srM μ t r).toNatClampNeg < 65521 := fun r hr => by
    obtain ⟨N, h1, h2⟩ := srM_N hE hT hR ht hr
    rw [h2, nI_clamp (by omega)]
    exact ⟨rfl, h1⟩
  rw [nd_all (f := cI (mkS σ t k) k) (rN := fun r => (srM μ t r).toNatClampNeg) (fun r hr => by rw [mkS_row hk hr, rowS_eq hE hT hR ht hr]; exact (hN r hr).1) (fun r hr => (hN r hr).2) (fun i h1 h2 => mkS_node h1 h2) hlv hnd]
  unfold snM
  have hq := q2 hlv hnd
  have hw : 16 / 2 ^ lv ≤ 16 := Nat.div_le_self _ _
  rw [sn1_N (rN := fun r => (srM μ t r).toNatClampNeg) (fun r hr => (hN r hr).1) _ _ hq]
  have hb := sm_le (f := fun i => (srM μ t (16 / 2 ^ lv * nd + i)).toNatClampNeg) (B := 65521) (16 / 2 ^ lv) (fun i hi => (hN _ (by omega)).2)
  rw [jrem_N (Nat.lt_of_le_of_lt hb (Nat.lt_of_le_of_lt (Nat.mul_le_mul_right _ hw) (by decide)))]
theorem R_I {σ τ : cS} {μ : mS} (h : ∀ p j, p ≠ 6 → p ≠ 7 → cI τ p j = cI σ p j) : (RE σ μ → RE τ μ) ∧ (RT σ μ → RT τ μ) ∧ (RR σ μ → RR τ μ) := by
  refine ⟨fun H t k ht hk => ?_, fun H t k ht hk => ?_, fun H => ?_⟩
  · have e : sE τ t k = sE σ t k := by unfold sE; rw [h _ _ (by omega) (by omega), h _ _ (by omega) (by omega), h _ _ (by omega) (by omega)]
    rw [e]; exact H t k ht hk
  · have e : sT τ t k = sT σ t k := by unfold sT; rw [h _ _ (by omega) (by omega), h _ _ (by omega) (by omega)]
    rw [e]; exact H t k ht hk
  · unfold RR
    rw [pl_I h 2 (by decide) (by decide), pl_I h 3 (by decide) (by decide)]
    exact H
/-- comparing -/
theorem cm0_I {σ : cS} {t t2 p j : Nat} (h6 : p ≠ 6) (h7 : p ≠ 7) : cI (cm0 σ t t2) p j = cI σ p j := by unfold cm0; rw [mkS_I h7, mkS_I h6]
theorem cm0_r {σ : cS} {t t2 : Nat} : (cm0 σ t t2).2 = σ.2 := by unfold cm0; rw [mkS_r, mkS_r]
theorem cm0_6 {σ : cS} {μ : mS} (hE : RE σ μ) (hT : RT σ μ) (hR : RR σ μ) {t t2 lv nd : Nat} (ht : t < 4) (hlv : lv < 5) (hnd : nd < 2 ^ lv) : cI (cm0 σ t t2) 6 (2 ^ lv + nd) = snM μ t lv nd := by
  unfold cm0
  rw [mkS_I (by decide)]
  exact node_sum hE hT hR ht (Or.inl rfl) hlv hnd
theorem cm0_7 {σ : cS} {μ : mS} (hE : RE σ μ) (hT : RT σ μ) (hR : RR σ μ) {t t2 lv nd : Nat} (ht : t2 < 4) (hlv : lv < 5) (hnd : nd < 2 ^ lv) : cI (cm0 σ t t2) 7 (2 ^ lv + nd) = snM μ t2 lv nd := by
  unfold cm0
  obtain ⟨h1, h2, h3⟩ := R_I (σ := σ) (τ := mkS σ t 6) (μ := μ) (fun p j h6 _ => mkS_I h6)
  exact node_sum (h1 hE) (h2 hT) (h3 hR) ht (Or.inr rfl) hlv hnd
theorem cmS_I {σ : cS} {t t2 : Nat} : ∀ n, cI (cmS σ t t2 n) = cI (cm0 σ t t2)
  | 0 => rfl
  | n + 1 => cmS_I n
theorem cF_s {c : cS} {k m : Nat} {x : Bool} : cF (cF' c k x) m = if m = k then x else cF c m := rfl
theorem cmS_st {σ : cS} {t t2 : Nat} : ∀ d n m, m ≤ n → cF (cmS σ t t2 (n + d)) m = cF (cmS σ t t2 n) m
  | 0, _, _, _ => rfl
  | d + 1, n, m, h => by
    have e : cF (cmS σ t t2 (n + d + 1)) m = cF (cmS σ t t2 (n + d)) m := by rw [cmS, cF_s, if_neg (by omega)]
    exact e.trans (cmS_st d n m h)
theorem cmr_st {σ : cS} {t t2 n d m : Nat} (h : m / 2 ≤ n) : cmr (cmS σ t t2 (n + d)) m = cmr (cmS σ t t2 n) m := by unfold cmr; rw [cmS_st d n _ h]
theorem cmS_F {σ : cS} {t t2 : Nat} : ∀ n m, 1 ≤ m → m ≤ n → cF (cmS σ t t2 n) m = (cmr (cmS σ t t2 n) m && !decide (cI (cm0 σ t t2) 6 m = cI (cm0 σ t t2) 7 m))
  | 0, m, h1, h2 => by omega
  | n + 1, m, h1, h2 => by
    rw [cmr_st (n := n) (d := 1) (by omega)]
    by_cases h : m = n + 1
    · subst h
      rw [cmS, cF_s, if_pos rfl, cmS_I]
    · rw [cmS_st 1 n m (by omega)]
      exact cmS_F n m h1 (by omega)
theorem cmN_ct {σ : cS} {t t2 N : Nat} : ∀ n, n ≤ N → cmN σ t t2 n = fb_ct (fun i => cmr (cmS σ t t2 N) (i + 1)) n
  | 0, _ => rfl
  | n + 1, h => by
    obtain ⟨d, rfl⟩ : ∃ d, N = n + d := ⟨N - n, by omega⟩
    unfold cmN
    rw [fb_ct_succ, ← cmN_ct n (by omega), cmr_st (n := n) (d := d) (by omega)]
    split <;> rfl
theorem cmS_r {σ : cS} {t t2 : Nat} : ∀ n, cV (cmS σ t t2 n) = cV σ ∧ cU (cmS σ t t2 n) = cU σ ∧ cM (cmS σ t t2 n) = cM σ ∧ cL (cmS σ t t2 n) = cL σ ∧ cE (cmS σ t t2 n) = cE σ ∧ cW (cmS σ t t2 n) = cW σ
  | 0 => by
    obtain ⟨h1, h2, -, h4, h5, h6, h7⟩ := c_of (cm0_r (σ := σ) (t := t) (t2 := t2))
    exact ⟨h1, h2, h4, h5, h6, h7⟩
  | n + 1 => cmS_r n
theorem cmp_I {σ : cS} {t t2 p j : Nat} (h6 : p ≠ 6) (h7 : p ≠ 7) : cI (cmp σ t t2) p j = cI σ p j := by
  unfold cmp
  rw [cmS_I]
  exact cm0_I h6 h7
/-- bits -/
theorem b_1 : ∀ i, i < 32 → bt (nI 1) i = decide (i = 0) := by decide +kernel
theorem bitB_bt {x : Int32} {n : Nat} (hn : n < 32) : bitB x n = bt x n := by
  unfold bitB
  have e : bt (x >>> (nI n &&& 31)) 0 = bt x n := by rw [b_sshr n hn x (by decide), Nat.add_zero, if_pos hn]
  rw [← e]
  generalize x >>> (nI n &&& 31) = y
  by_cases h : bt y 0 = true
  · rw [h]
    apply decide_eq_true
    apply b_ext
    intro i hi
    rw [b_and, b_1 i hi]
    by_cases h0 : i = 0
    · subst h0; rw [h]; rfl
    · rw [decide_eq_false h0, Bool.and_false]
  · have h' : bt y 0 = false := by revert h; cases bt y 0 <;> simp
    rw [h']
    apply decide_eq_false
    intro z
    have := congrArg (fun v => bt v 0) z
    simp only [b_and, h', b_1 0 (by decide)] at this
    cases this
theorem bitB_or {x y : Int32} {n : Nat} (hn : n < 32) : bitB (x ||| y) n = (bitB x n || bitB y n) := by rw [bitB_bt hn, bitB_bt hn, bitB_bt hn, b_or]
theorem bitB_0 : ∀ n, n < 32 → bitB (nI 0) n = false := by decide +kernel
theorem bitB_3 : ∀ n, n < 8 → ∀ b, b < 16 → bitB (nI 3 <<< (nI (2 * n) &&& 31)) b = decide (b / 2 = n) := by decide +kernel
theorem cpX_bit {μ : mS} {k j lv : Nat} {set : Int32} (hlv : lv ≠ 4) : ∀ n, n ≤ 8 → ∀ b, b < 16 → bitB (cpX μ k j lv set n) b = (decide (b / 2 < n) && (bitB set (b / 2) && !decide (snM μ k lv (b / 2) = snM μ j lv (b / 2))))
  | 0, _, b, hb => by unfold cpX; rw [bitB_0 b (by omega), decide_eq_false (Nat.not_lt_zero _), Bool.false_and]
  | n + 1, hn, b, hb => by
    have ih := cpX_bit (μ := μ) (k := k) (j := j) (set := set) hlv n (by omega) b hb
    unfold cpX
    have hd : ∀ q : Bool, b / 2 ≠ n → (decide (b / 2 < n) && q) = (decide (b / 2 < n + 1) && q) := fun q h => by rw [show decide (b / 2 < n) = decide (b / 2 < n + 1) from by simp; omega]
    by_cases hs : bitB set n = true
    · rw [if_pos hs, bitB_or (by omega), ih]
      unfold nxt
      by_cases he : snM μ k lv n = snM μ j lv n
      · rw [if_pos he, bitB_0 b (by omega), Bool.or_false]
        by_cases hq : b / 2 = n
        · rw [hq, decide_eq_true he]; simp
        · exact hd _ hq
      · rw [if_neg he, if_neg hlv, bitB_3 n (by omega) b hb]
        by_cases hq : b / 2 = n
        · rw [hq, decide_eq_false he, hs]; simp
        · rw [decide_eq_false hq, Bool.or_false]; exact hd _ hq
    · rw [if_neg hs, ih]
      by_cases hq : b / 2 = n
      · have hs' : bitB set n = false := by revert hs; cases bitB set n <;> simp
        rw [hq, hs']; simp
      · exact hd _ hq
/-- the nodes that are reached, level by level -/
theorem cpS_bit {μ : mS} {k j : Nat} {F : Nat → Bool} (hF : ∀ lv nd, lv < 5 → nd < 2 ^ lv → F (2 ^ lv + nd) = ((decide (2 ^ lv + nd = 1) || F ((2 ^ lv + nd) / 2)) && !decide (snM μ k lv nd = snM μ j lv nd))) : ∀ lv, lv ≤ 4 → ∀ nd, nd < 2 ^ lv → bitB (cpS μ k j lv) nd = (decide (2 ^ lv + nd = 1) || F ((2 ^ lv + nd) / 2))
  | 0, _, nd, hnd => by
    obtain rfl : nd = 0 := by rw [Nat.pow_zero] at hnd; omega
    rw [show decide (2 ^ 0 + 0 = 1) = true from rfl, Bool.true_or]
    exact (by decide +kernel : bitB (nI 1) 0 = true)
  | lv + 1, hlv, nd, hnd => by
    have ih := cpS_bit hF lv (by omega)
    have hp := p2 (show lv < 5 by omega)
    have hp2 := p2 (show lv + 1 < 5 by omega)
    have he : 2 ^ (lv + 1) = 2 * 2 ^ lv := by rw [Nat.pow_succ, Nat.mul_comm]
    have hpos : 0 < 2 ^ lv := Nat.pow_pos (by decide)
    have hlt : 2 ^ lv ≤ 8 := by omega
    unfold cpS
    rw [cpX_bit (by omega) (2 ^ lv) hlt nd (by omega), decide_eq_true (show nd / 2 < 2 ^ lv by omega), Bool.true_and, ih (nd / 2) (by omega), decide_eq_false (show ¬ 2 ^ (lv + 1) + nd = 1 by omega), Bool.false_or, show (2 ^ (lv + 1) + nd) / 2 = 2 ^ lv + nd / 2 by omega, hF lv (nd / 2) (by omega) (by omega)]
theorem cpS_urn {μ : mS} {k j : Nat} {c : cS} (hF : ∀ nd, nd < 16 → cF c (16 + nd) = (bitB (cpS μ k j 4) nd && !decide (snM μ k 4 nd = snM μ j 4 nd))) : ∀ n, n ≤ 16 → cpX μ k j 4 (cpS μ k j 4) n = urn c n
  | 0, _ => rfl
  | n + 1, hn => by
    unfold cpX urn
    rw [cpS_urn hF n (by omega), hF n (by omega)]
    unfold nxt
    by_cases h1 : bitB (cpS μ k j 4) n = true
    · by_cases h2 : snM μ k 4 n = snM μ j 4 n
      · rw [if_pos h1, if_pos h2, decide_eq_true h2, nI_0, Int32.or_zero]; simp
      · rw [if_pos h1, if_neg h2, decide_eq_false h2, h1]; simp
    · rw [if_neg h1]
      have h1' : bitB (cpS μ k j 4) n = false := by revert h1; cases bitB (cpS μ k j 4) n <;> simp
      rw [h1']; simp
theorem cpV_N {set : Int32} {v : Nat} : ∀ n, cpV set n (nI v) = nI (v + fb_ct (fun i => bitB set i) n)
  | 0 => rfl
  | n + 1 => by
    unfold cpV
    rw [cpV_N n, fb_ct_succ]
    split
    · rw [nI_add, Nat.add_assoc]
    · rw [Nat.add_zero]
theorem cpC_N {μ : mS} {k j : Nat} {R : Nat → Bool} (h : ∀ lv, lv ≤ 4 → ∀ nd, nd < 2 ^ lv → bitB (cpS μ k j lv) nd = R (2 ^ lv + nd)) : ∀ lv, lv ≤ 5 → cpC μ k j lv = nI (fb_ct (fun i => R (i + 1)) (2 ^ lv - 1))
  | 0, _ => rfl
  | lv + 1, hlv => by
    unfold cpC
    have hpos : 0 < 2 ^ lv := Nat.pow_pos (by decide)
    rw [cpC_N h lv (by omega), cpV_N, show 2 ^ (lv + 1) - 1 = (2 ^ lv - 1) + 2 ^ lv by rw [Nat.pow_succ]; omega, fb_ct_split]
    congr 2
    apply fb_ct_cong
    intro i hi
    show bitB (cpS μ k j lv) i = R (2 ^ lv - 1 + i + 1)
    rw [h lv (by omega) i hi]
    congr 1; omega
/-- what comparing finds -/
theorem cmp_eq {σ : cS} {μ : mS} (hE : RE σ μ) (hT : RT σ μ) (hR : RR σ μ) {i j : Nat} (hi : i < 4) (hj : j < 4) : urn (cmp σ i j) 16 = cpS μ i j 5 ∧ nI (cmN σ i j 31) = cpC μ i j 5 := by
  have hF : ∀ lv nd, lv < 5 → nd < 2 ^ lv → cF (cmp σ i j) (2 ^ lv + nd) = ((decide (2 ^ lv + nd = 1) || cF (cmp σ i j) ((2 ^ lv + nd) / 2)) && !decide (snM μ i lv nd = snM μ j lv nd)) := by
    intro lv nd hlv hnd
    have hp := p2 hlv
    have hpos : 0 < 2 ^ lv := Nat.pow_pos (by decide)
    unfold cmp
    rw [cmS_F 31 (2 ^ lv + nd) (by omega) (by omega), cm0_6 hE hT hR hi hlv hnd, cm0_7 hE hT hR hj hlv hnd]
    rfl
  have hB := cpS_bit (μ := μ) (k := i) (j := j) (F := cF (cmp σ i j)) hF
  constructor
  · rw [cpS]
    exact (cpS_urn (c := cmp σ i j) (fun nd hnd => by rw [hB 4 (by decide) nd hnd]; exact hF 4 nd (by decide) hnd) 16 (by decide)).symm
  · rw [cpC_N (R := fun m => decide (m = 1) || cF (cmp σ i j) (m / 2)) hB 5 (by decide), cmN_ct (N := 31) 31 (by decide)]
    rfl
