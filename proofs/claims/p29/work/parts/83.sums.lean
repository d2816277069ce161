/-! sums of nodes; what is compared -/
def NS (σ : cS) (t i : Nat) : Int32 := cI (mkS σ t 6) 6 i
theorem NS_row {σ : cS} {t r : Nat} (hr : r < 16) : NS σ t (16 + r) = rowS σ t r := mkS_row (Or.inl rfl) hr
theorem NS_node {σ : cS} {t i : Nat} (h1 : 1 ≤ i) (h2 : i ≤ 15) : NS σ t i = jrem (NS σ t (2 * i) + NS σ t (2 * i + 1)) 65521 := mkS_node h1 h2
/-- the same sums, wherever they are made -/
theorem node_eq {f g : Nat → Int32} (h1 : ∀ r, r < 16 → f (16 + r) = g (16 + r)) (h2 : ∀ i, 1 ≤ i → i ≤ 15 → f i = jrem (f (2 * i) + f (2 * i + 1)) 65521) (h3 : ∀ i, 1 ≤ i → i ≤ 15 → g i = jrem (g (2 * i) + g (2 * i + 1)) 65521) {i : Nat} (hi : 1 ≤ i) (hi2 : i < 32) : f i = g i := by
  have a4 : ∀ i, 16 ≤ i → i < 32 → f i = g i := fun i q1 q2 => by
    have := h1 (i - 16) (by omega)
    rw [show 16 + (i - 16) = i by omega] at this
    exact this
  have step : ∀ lo, 1 ≤ lo → 2 * lo ≤ 16 → (∀ i, 2 * lo ≤ i → i < 32 → f i = g i) → ∀ i, lo ≤ i → i < 32 → f i = g i := by
    intro lo q1 q2 ih i q3 q4
    by_cases h : 2 * lo ≤ i
    · exact ih i h q4
    · rw [h2 i (by omega) (by omega), h3 i (by omega) (by omega), ih (2 * i) (by omega) (by omega), ih (2 * i + 1) (by omega) (by omega)]
  exact step 1 (by decide) (by decide) (step 2 (by decide) (by decide) (step 4 (by decide) (by decide) (step 8 (by decide) (by decide) a4))) i hi hi2
theorem NS_I {σ τ : cS} (h : ∀ p j, p ≠ 6 → p ≠ 7 → cI τ p j = cI σ p j) {t i : Nat} (hi : 1 ≤ i) (hi2 : i < 32) : NS τ t i = NS σ t i :=
  node_eq (f := NS τ t) (g := NS σ t) (fun r hr => by rw [NS_row hr, NS_row hr]; exact rowS_I h t r) (fun i a b => NS_node a b) (fun i a b => NS_node a b) hi hi2
theorem NS_Sm {σ τ : cS} (h : Sm σ τ) {t i : Nat} (hi : 1 ≤ i) (hi2 : i < 32) : NS τ t i = NS σ t i := NS_I h.1 hi hi2
theorem NS_7 {σ : cS} {t i : Nat} (hi : 1 ≤ i) (hi2 : i < 32) : cI (mkS σ t 7) 7 i = NS σ t i :=
  node_eq (f := cI (mkS σ t 7) 7) (g := NS σ t) (fun r hr => by rw [NS_row hr, mkS_row (Or.inr rfl) hr]) (fun i a b => mkS_node a b) (fun i a b => NS_node a b) hi hi2
/-- two tables whose rows have the same sums -/
theorem NS_rows {σ : cS} {i j : Nat} (h : ∀ r, r < 16 → rowS σ i r = rowS σ j r) {k : Nat} (hk : 1 ≤ k) (hk2 : k < 32) : NS σ i k = NS σ j k :=
  node_eq (f := NS σ i) (g := NS σ j) (fun r hr => by rw [NS_row hr, NS_row hr]; exact h r hr) (fun i a b => NS_node a b) (fun i a b => NS_node a b) hk hk2
theorem cm6 {σ : cS} {i j k : Nat} (hk : 1 ≤ k) (hk2 : k < 32) : cI (cm0 σ i j) 6 k = NS σ i k := by
  unfold cm0
  rw [mkS_I (show 6 ≠ 7 by decide)]
  rfl
theorem cm7 {σ : cS} {i j k : Nat} (hk : 1 ≤ k) (hk2 : k < 32) : cI (cm0 σ i j) 7 k = NS σ j k := by
  unfold cm0
  rw [NS_7 hk hk2]
  exact NS_I (fun p q h6 _ => mkS_I h6) hk hk2
/-- a row at which two tables have the same: its sums are the same -/
theorem tombP_cg {σ : cS} {i j k : Nat} (h : sT σ i k = sT σ j k) (x : Int32) : tombP σ i k x = tombP σ j k x := by
  have e1 : cI σ (15 + 6 * i + 4) k = cI σ (15 + 6 * j + 4) k := congrArg (fun z => z.1) h
  have e2 : cI σ (15 + 6 * i + 5) k = cI σ (15 + 6 * j + 5) k := congrArg (fun z => z.2) h
  unfold tombP
  rw [e1, e2]
theorem entP_cg {σ : cS} {i j k : Nat} (h : sE σ i k = sE σ j k) (x : Nat) : entP σ i k x = entP σ j k x := by
  have e1 : cI σ (15 + 6 * i + 1) k = cI σ (15 + 6 * j + 1) k := congrArg (fun z => z.1) h
  have e2 : cI σ (15 + 6 * i + 2) k = cI σ (15 + 6 * j + 2) k := congrArg (fun z => z.2.1) h
  have e3 : cI σ (15 + 6 * i + 3) k = cI σ (15 + 6 * j + 3) k := congrArg (fun z => z.2.2) h
  unfold entP
  rw [e1, e2, e3]
theorem rowS_al {σ : cS} {i j r : Nat} (h : alR σ i j r) : rowS σ i r = rowS σ j r := by
  have hT : ∀ p, rowP σ r p → ∀ x, tombP σ i p x = tombP σ j p x := fun p hp x => tombP_cg (h.2 p hp) x
  have h1 : ∀ n, n ≤ 4 → rs1 σ i r n = rs1 σ j r n := by
    intro n
    induction n with
    | zero => intro _; exact hT _ ⟨0, by decide, cv_iff.mpr (Or.inr (Or.inr (Or.inl rfl)))⟩ _
    | succ n ih =>
      intro hn
      unfold rs1
      rw [ih (by omega), entP_cg (h.1 (r * 4 + n) ⟨by omega, by omega⟩), hT (r * 4 + n) ⟨n, by omega, cv_iff.mpr (Or.inl rfl)⟩, hT (64 + n) ⟨n, by omega, cv_iff.mpr (Or.inr (Or.inl rfl))⟩]
  have h2 : ∀ n, n ≤ 8 → rs2 σ i r n = rs2 σ j r n := by
    intro n
    induction n with
    | zero => intro _; exact h1 4 (Nat.le_refl _)
    | succ n ih =>
      intro hn
      unfold rs2
      rw [ih (by omega)]
      split
      · rename_i hb
        rw [hT (84 + n) ⟨0, by decide, cv_iff.mpr (Or.inr (Or.inr (Or.inr ⟨n, by omega, hb, rfl⟩)))⟩]
      · rfl
  unfold rowS
  rw [h2 8 (Nat.le_refl _)]
theorem alk_row {σ : cS} {i j : Nat} (h : alk σ i j = true) {r : Nat} (hr : r < 16) : rowS σ i r = rowS σ j r :=
  rowS_al ⟨fun k hk => (alk_iff.mp h).1 k (by unfold rowK at hk; omega), fun p hp => (alk_iff.mp h).2 p (rowP_lt hr hp)⟩
theorem alk_NS {σ : cS} {i j : Nat} (h : alk σ i j = true) {k : Nat} (hk : 1 ≤ k) (hk2 : k < 32) : NS σ i k = NS σ j k := NS_rows (fun _ hr => alk_row h hr) hk hk2
/-! bits -/
theorem and1 (y : Int32) : y &&& nI 1 = bi (bt y 0) := by
  apply b_ext
  intro i hi
  rw [b_and, b_1 i hi]
  by_cases h0 : i = 0
  · subst h0
    cases bt y 0 <;> rfl
  · rw [decide_eq_false h0, Bool.and_false]
    cases bt y 0
    · show false = bt (nI 0) i
      rw [show (nI 0) = 0 from rfl, b_0]
    · show false = bt (nI 1) i
      rw [b_1 i hi, decide_eq_false h0]
theorem bi_1 (b : Bool) : bi b = nI 1 ↔ b = true := by cases b <;> simp [bi] <;> decide
theorem bitB_sh {x : Int32} {r : Nat} (hr : r < 32) : (x >>> (nI r &&& 31)) &&& nI 1 = bi (bitB x r) := by
  rw [and1]
  congr 1
  rw [bitB_bt hr, b_sshr r hr x (by decide), Nat.add_zero, if_pos hr]
theorem bitB_1s : ∀ n, n < 16 → ∀ b, b < 16 → bitB (nI 1 <<< (nI n &&& 31)) b = decide (b = n) := by decide +kernel
theorem urn_bit {c : cS} : ∀ n, n ≤ 16 → ∀ b, b < 16 → bitB (urn c n) b = (decide (b < n) && cF c (16 + b))
  | 0, _, b, hb => by rw [urn, bitB_0 b (by omega), decide_eq_false (Nat.not_lt_zero _), Bool.false_and]
  | n + 1, hn, b, hb => by
    have ih := urn_bit (c := c) n (by omega) b hb
    unfold urn
    by_cases h : cF c (16 + n) = true
    · rw [if_pos h, bitB_or (by omega), ih, bitB_1s n (by omega) b hb]
      by_cases e : b = n
      · rw [e, decide_eq_true (Nat.lt_succ_self n), decide_eq_true rfl, h]; simp
      · rw [decide_eq_false e, Bool.or_false, show decide (b < n + 1) = decide (b < n) from decide_eq_decide.mpr (by omega)]
    · rw [if_neg h, ih]
      by_cases e : b = n
      · have h' : cF c (16 + n) = false := by revert h; cases cF c (16 + n) <;> simp
        rw [e, h', Bool.and_false, Bool.and_false]
      · rw [show decide (b < n + 1) = decide (b < n) from decide_eq_decide.mpr (by omega)]
/-- the rows that are found -/
theorem un_bit {σ : cS} {i j r : Nat} (hr : r < 16) (h : bitB (urn (cmp σ i j) 16) r = true) : rowS σ i r ≠ rowS σ j r := by
  rw [urn_bit 16 (Nat.le_refl _) r hr, decide_eq_true hr, Bool.true_and] at h
  have h2 := cmS_F (σ := σ) (t := i) (t2 := j) 31 (16 + r) (by omega) (by omega)
  intro e
  rw [cm6 (by omega) (by omega), cm7 (by omega) (by omega), NS_row hr, NS_row hr, decide_eq_true e] at h2
  rw [show cF (cmp σ i j) (16 + r) = cF (cmS σ i j 31) (16 + r) from rfl, h2] at h
  simp at h
theorem tb_bitB {k r : Nat} (hr : r < 32) : bitB (nI k) r = k.testBit r := by rw [bitB_bt hr, bt_N hr]
theorem and_0 {a b : Nat} (ha : a < 2 ^ 16) (h : ∀ r, r < 16 → a.testBit r = true → b.testBit r = true → False) : a &&& b = 0 := by
  apply Nat.eq_of_testBit_eq
  intro r
  rw [Nat.testBit_and, Nat.zero_testBit]
  by_cases hr : r < 16
  · cases e1 : a.testBit r
    · rfl
    · cases e2 : b.testBit r
      · rfl
      · exact (h r hr e1 e2).elim
  · rw [Nat.testBit_lt_two_pow (Nat.lt_of_lt_of_le ha (Nat.pow_le_pow_right (by decide) (by omega))), Bool.false_and]
/-! the law's own comparing -/
def lnx (σ : cS) (i j lv nd : Nat) : Int32 := if NS σ i (2 ^ lv + nd) = NS σ j (2 ^ lv + nd) then nI 0 else if lv = 4 then nI 1 <<< (nI nd &&& 31) else nI 3 <<< (nI (2 * nd) &&& 31)
def lpX (σ : cS) (i j lv : Nat) (set : Int32) : Nat → Int32
  | 0 => nI 0
  | n + 1 => if bitB set n = true then lpX σ i j lv set n ||| lnx σ i j lv n else lpX σ i j lv set n
def lpS (σ : cS) (i j : Nat) : Nat → Int32
  | 0 => nI 1
  | n + 1 => lpX σ i j n (lpS σ i j n) (2 ^ n)
/-- so many nodes of a level are looked at -/
def lpV (set : Int32) : Nat → Nat
  | 0 => 0
  | n + 1 => if bitB set n = true then lpV set n + 1 else lpV set n
def lpC (σ : cS) (i j : Nat) : Nat → Nat
  | 0 => 0
  | n + 1 => lpC σ i j n + lpV (lpS σ i j n) (2 ^ n)
theorem lpV_ct {set : Int32} : ∀ n, lpV set n = fb_ct (fun i => bitB set i) n
  | 0 => rfl
  | n + 1 => by
    unfold lpV
    rw [fb_ct_succ, ← lpV_ct n]
    split <;> rfl
theorem lpV_le {set : Int32} (n : Nat) : lpV set n ≤ n := by rw [lpV_ct]; exact fb_ct_le _ n
theorem lpC_le {σ : cS} {i j : Nat} : ∀ n, n ≤ 5 → lpC σ i j n ≤ 2 ^ n - 1
  | 0, _ => Nat.le_refl _
  | n + 1, h => by
    have ih := lpC_le (σ := σ) (i := i) (j := j) n (by omega)
    have := lpV_le (set := lpS σ i j n) (2 ^ n)
    have hp := Nat.two_pow_pos n
    unfold lpC
    rw [Nat.pow_succ]
    omega
theorem lpX_bit {σ : cS} {i j lv : Nat} {set : Int32} (hlv : lv ≠ 4) : ∀ n, n ≤ 8 → ∀ b, b < 16 → bitB (lpX σ i j lv set n) b = (decide (b / 2 < n) && (bitB set (b / 2) && !decide (NS σ i (2 ^ lv + b / 2) = NS σ j (2 ^ lv + b / 2))))
  | 0, _, b, hb => by rw [lpX, bitB_0 b (by omega), decide_eq_false (Nat.not_lt_zero _), Bool.false_and]
  | n + 1, hn, b, hb => by
    have ih := lpX_bit (σ := σ) (i := i) (j := j) (set := set) hlv n (by omega) b hb
    unfold lpX
    by_cases hs : bitB set n = true
    · rw [if_pos hs, bitB_or (by omega), ih]
      unfold lnx
      by_cases e : b / 2 = n
      · rw [e, decide_eq_false (Nat.lt_irrefl n), decide_eq_true (Nat.lt_succ_self n), hs, Bool.false_and, Bool.false_or, Bool.true_and, Bool.true_and]
        by_cases hq : NS σ i (2 ^ lv + n) = NS σ j (2 ^ lv + n)
        · rw [if_pos hq, decide_eq_true hq, bitB_0 b (by omega)]; rfl
        · rw [if_neg hq, if_neg hlv, decide_eq_false hq, bitB_3 n (by omega) b hb, decide_eq_true e]; rfl
      · have e2 : decide (b / 2 < n + 1) = decide (b / 2 < n) := decide_eq_decide.mpr (by omega)
        rw [e2]
        have e3 : bitB (if NS σ i (2 ^ lv + n) = NS σ j (2 ^ lv + n) then nI 0 else if lv = 4 then nI 1 <<< (nI n &&& 31) else nI 3 <<< (nI (2 * n) &&& 31)) b = false := by
          split
          · exact bitB_0 b (by omega)
          · first | (rw [bitB_3 n (by omega) b hb]; exact decide_eq_false e) | (rw [if_neg hlv, bitB_3 n (by omega) b hb]; exact decide_eq_false e)
        rw [e3, Bool.or_false]
    · rw [if_neg hs, ih]
      by_cases e : b / 2 = n
      · have hs' : bitB set n = false := by revert hs; cases bitB set n <;> simp
        rw [e, hs', Bool.false_and, Bool.and_false, Bool.and_false]
      · rw [show decide (b / 2 < n + 1) = decide (b / 2 < n) from decide_eq_decide.mpr (by omega)]
/-- what the class found: a node is reached, and its sums differ -/
def fF (σ : cS) (i j k : Nat) : Bool := cF (cmp σ i j) k
theorem fF_eq {σ : cS} {i j : Nat} {k : Nat} (h1 : 1 ≤ k) (h2 : k < 32) : fF σ i j k = ((decide (k = 1) || fF σ i j (k / 2)) && !decide (NS σ i k = NS σ j k)) := by
  have h := cmS_F (σ := σ) (t := i) (t2 := j) 31 k h1 (by omega)
  rw [cm6 h1 h2, cm7 h1 h2] at h
  exact h
theorem lpS_bit {σ : cS} {i j : Nat} : ∀ lv, lv ≤ 4 → ∀ nd, nd < 2 ^ lv → bitB (lpS σ i j lv) nd = (decide (2 ^ lv + nd = 1) || fF σ i j ((2 ^ lv + nd) / 2))
  | 0, _, nd, hnd => by
    obtain rfl : nd = 0 := by simp at hnd; exact hnd
    show bitB (nI 1) 0 = _
    rw [decide_eq_true (show 2 ^ 0 + 0 = 1 from rfl), bitB_bt (by decide), b_1 0 (by decide)]
    rfl
  | lv + 1, hlv, nd, hnd => by
    have hp : 2 ^ (lv + 1) = 2 * 2 ^ lv := by rw [Nat.pow_succ, Nat.mul_comm]
    have h8 : 2 ^ lv ≤ 8 := by
      rcases (show lv = 0 ∨ lv = 1 ∨ lv = 2 ∨ lv = 3 by omega) with rfl | rfl | rfl | rfl <;> decide
    have h1 : 1 ≤ 2 ^ lv := Nat.two_pow_pos lv
    show bitB (lpX σ i j lv (lpS σ i j lv) (2 ^ lv)) nd = _
    rw [lpX_bit (by omega) _ h8 nd (by omega), decide_eq_true (show nd / 2 < 2 ^ lv by omega), Bool.true_and, lpS_bit lv (by omega) (nd / 2) (by omega), decide_eq_false (show ¬ 2 ^ (lv + 1) + nd = 1 by omega), Bool.false_or, show (2 ^ (lv + 1) + nd) / 2 = 2 ^ lv + nd / 2 by omega, fF_eq (k := 2 ^ lv + nd / 2) (by omega) (by omega)]
theorem lpX_4 {σ : cS} {i j : Nat} {c : cS} {set : Int32} (hF : ∀ nd, nd < 16 → cF c (16 + nd) = (bitB set nd && !decide (NS σ i (16 + nd) = NS σ j (16 + nd)))) : ∀ n, n ≤ 16 → lpX σ i j 4 set n = urn c n
  | 0, _ => rfl
  | n + 1, hn => by
    unfold lpX urn
    rw [lpX_4 hF n (by omega), hF n (by omega)]
    unfold lnx
    by_cases hs : bitB set n = true
    · rw [if_pos hs, hs, Bool.true_and]
      by_cases hq : NS σ i (16 + n) = NS σ j (16 + n)
      · rw [if_pos (show NS σ i (2 ^ 4 + n) = NS σ j (2 ^ 4 + n) from hq), decide_eq_true hq, if_neg (by decide)]
        rw [nI_0, Int32.or_zero]
      · rw [if_neg (show ¬ NS σ i (2 ^ 4 + n) = NS σ j (2 ^ 4 + n) from hq), if_pos rfl, decide_eq_false hq]
        rfl
    · have hs' : bitB set n = false := by revert hs; cases bitB set n <;> simp
      rw [if_neg hs, hs', Bool.false_and, if_neg (by decide)]
theorem lp_set {σ : cS} {i j : Nat} : lpS σ i j 5 = urn (cmp σ i j) 16 := by
  show lpX σ i j 4 (lpS σ i j 4) (2 ^ 4) = _
  refine lpX_4 (fun nd hnd => ?_) 16 (Nat.le_refl _)
  rw [lpS_bit 4 (Nat.le_refl _) nd hnd]
  have h := fF_eq (σ := σ) (i := i) (j := j) (k := 16 + nd) (by omega) (by omega)
  exact h
theorem lp_cnt {σ : cS} {i j : Nat} : lpC σ i j 5 = cmN σ i j 31 := by
  have key : ∀ lv, lv ≤ 5 → lpC σ i j lv = fb_ct (fun k => cmr (cmS σ i j 31) (k + 1)) (2 ^ lv - 1) := by
    intro lv
    induction lv with
    | zero => intro _; rfl
    | succ lv ih =>
      intro hlv
      have hp : 2 ^ (lv + 1) = 2 * 2 ^ lv := by rw [Nat.pow_succ, Nat.mul_comm]
      have h1 : 1 ≤ 2 ^ lv := Nat.two_pow_pos lv
      unfold lpC
      rw [ih (by omega), lpV_ct, show 2 ^ (lv + 1) - 1 = (2 ^ lv - 1) + 2 ^ lv by omega, fb_ct_split]
      congr 1
      refine fb_ct_cong (fun k hk => ?_)
      rw [lpS_bit lv (by omega) k hk, show 2 ^ lv - 1 + k + 1 = 2 ^ lv + k by omega]
      rfl
  rw [key 5 (Nat.le_refl _), cmN_ct (N := 31) 31 (Nat.le_refl _)]
/-- alike: nothing differs, one node is looked at -/
theorem alk_cmp {σ : cS} {i j : Nat} (h : alk σ i j = true) : urn (cmp σ i j) 16 = nI 0 ∧ cmN σ i j 31 = 1 := by
  have hF : ∀ k, 1 ≤ k → k < 32 → fF σ i j k = false := fun k h1 h2 => by
    rw [fF_eq h1 h2, decide_eq_true (alk_NS h h1 h2)]
    simp
  constructor
  · have key : ∀ n, n ≤ 16 → urn (cmp σ i j) n = nI 0 := by
      intro n
      induction n with
      | zero => intro _; rfl
      | succ n ih =>
        intro hn
        unfold urn
        have : cF (cmp σ i j) (16 + n) = false := hF (16 + n) (by omega) (by omega)
        rw [if_neg (by rw [this]; decide)]
        exact ih (by omega)
    exact key 16 (Nat.le_refl _)
  · rw [cmN_ct (N := 31) 31 (Nat.le_refl _), show 31 = 1 + 30 from rfl, fb_ct_split]
    have h0 : fb_ct (fun k => cmr (cmS σ i j (1 + 30)) (1 + k + 1)) 30 = 0 := fb_ct_zero.mpr (fun k hk => by
      show (decide (1 + k + 1 = 1) || fF σ i j ((1 + k + 1) / 2)) = false
      rw [decide_eq_false (by omega), hF _ (by omega) (by omega)]
      rfl)
    rw [h0]
    rfl
