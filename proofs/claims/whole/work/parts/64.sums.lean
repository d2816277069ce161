/-! sums of rows -/
theorem i_lc (a b c : Int32) : a + (b + c) = b + (a + c) := by rw [← Int32.add_assoc, ← Int32.add_assoc, Int32.add_comm a b]
def isum (f : Nat → Int32) : Nat → Int32
  | 0 => 0
  | n + 1 => isum f n + f n
theorem isum_cong {f g : Nat → Int32} : ∀ n, (∀ k, k < n → f k = g k) → isum f n = isum g n
  | 0, _ => rfl
  | n + 1, h => by unfold isum; rw [isum_cong n (fun k hk => h k (by omega)), h n (by omega)]
theorem isum_zero {f : Nat → Int32} : ∀ n, (∀ k, k < n → f k = 0) → isum f n = 0
  | 0, _ => rfl
  | n + 1, h => by unfold isum; rw [isum_zero n (fun k hk => h k (by omega)), h n (by omega)]; rfl
theorem isum_split (f : Nat → Int32) (a : Nat) : ∀ n, isum f (a + n) = isum f a + isum (fun k => f (a + k)) n
  | 0 => (Int32.add_zero _).symm
  | n + 1 => by
    show isum f (a + n) + f (a + n) = isum f a + (isum (fun k => f (a + k)) n + f (a + n))
    rw [isum_split f a n, Int32.add_assoc]
theorem isum_add (f g : Nat → Int32) : ∀ n, isum (fun k => f k + g k) n = isum f n + isum g n
  | 0 => rfl
  | n + 1 => by
    unfold isum
    rw [isum_add f g n]
    simp only [Int32.add_assoc, Int32.add_comm, i_lc]
theorem isum_in {f : Nat → Int32} {a w n : Nat} (h : a + w ≤ n) (h0 : ∀ k, k < n → (k < a ∨ a + w ≤ k) → f k = 0) : isum f n = isum (fun k => f (a + k)) w := by
  obtain ⟨r, rfl⟩ : ∃ r, n = a + w + r := ⟨n - (a + w), by omega⟩
  rw [isum_split, isum_split, isum_zero a (fun k hk => h0 k (by omega) (Or.inl hk)), isum_zero r (fun k hk => h0 _ (by omega) (Or.inr (by omega))), Int32.zero_add, Int32.add_zero]
def tombM (μ : mS) (q : Nat) (x : Int32) : Int32 := if mI μ 43 q = -1 then nI 0 else nI 13 * mI μ 43 q + nI 5 * mI μ 44 q + x
theorem tombP_eq {σ : cS} {μ : mS} (hT : RT σ μ) {t p : Nat} (ht : t < 4) (hp : p < 92) (x : Int32) : tombP σ t p x = tombM μ (92 * t + p) x := by
  have h := (hT t p ht hp).1
  have h1 : cI σ (15 + 6 * t + 4) p = (sT σ t p).1 := rfl
  have h2 : cI σ (15 + 6 * t + 5) p = (sT σ t p).2 := rfl
  have h3 : mI μ 43 (92 * t + p) = (xT μ (92 * t + p)).1 := rfl
  have h4 : mI μ 44 (92 * t + p) = (xT μ (92 * t + p)).2 := rfl
  unfold tombP tombM
  rw [h1, h2, h3, h4, h, nT_1]
  by_cases h9 : (xT μ (92 * t + p)).1 = -1
  · rw [if_pos h9, if_pos h9]
  · rw [if_neg h9, if_neg h9, show nT (xT μ (92 * t + p)) = xT μ (92 * t + p) from if_neg h9]
theorem entP_eq {σ : cS} {μ : mS} (hE : RE σ μ) {t k : Nat} (ht : t < 4) (hk : k < 64) (col : Nat) : entP σ t k col = entM μ (64 * t + k) col := by
  have h := (hE t k ht hk).1
  have h1 : cI σ (15 + 6 * t + 1) k = (sE σ t k).1 := rfl
  have h2 : cI σ (15 + 6 * t + 2) k = (sE σ t k).2.1 := rfl
  have h2' : cI σ (15 + 6 * t + 3) k = (sE σ t k).2.2 := rfl
  have h3 : mI μ 40 (64 * t + k) = (xE μ (64 * t + k)).1 := rfl
  have h4 : mI μ 41 (64 * t + k) = (xE μ (64 * t + k)).2.1 := rfl
  have h4' : mI μ 42 (64 * t + k) = (xE μ (64 * t + k)).2.2 := rfl
  unfold entP entM
  rw [h1, h2, h2', h3, h4, h4', h, nE_1]
  by_cases h9 : (xE μ (64 * t + k)).1 = -1
  · rw [if_pos h9, if_pos h9]
  · rw [if_neg h9, if_neg h9, show nE (xE μ (64 * t + k)) = xE μ (64 * t + k) from if_neg h9]
/-- which reaches touch a row -/
theorem tou_cell {μ : mS} {c row r : Nat} (hc : c < 4) (hr : row < 16) (h : r = 4 * row + c) : touM μ r row = true := by
  have e : ∀ d, covM μ r row d = decide (r = 4 * row + d) := fun d => by unfold covM; rw [if_pos (by omega)]
  unfold touM
  rw [e, e, e, e]
  subst h
  rcases (show c = 0 ∨ c = 1 ∨ c = 2 ∨ c = 3 by omega) with rfl | rfl | rfl | rfl <;> simp
theorem tou_cell_n {μ : mS} {row r : Nat} (h64 : r < 64) (h : r < 4 * row ∨ 4 * row + 4 ≤ r) : touM μ r row = false := by
  have e : ∀ d, covM μ r row d = decide (r = 4 * row + d) := fun d => by unfold covM; rw [if_pos h64]
  unfold touM
  simp only [e]
  rw [decide_eq_false (by omega), decide_eq_false (by omega), decide_eq_false (by omega), decide_eq_false (by omega)]
  rfl
theorem tou_col {μ : mS} {row c : Nat} (hc : c < 4) : touM μ (64 + c) row = true := by
  have e : ∀ d, covM μ (64 + c) row d = decide (64 + c = 64 + d) := fun d => by unfold covM; rw [if_neg (by omega), if_pos (by omega)]
  unfold touM
  simp only [e]
  rcases (show c = 0 ∨ c = 1 ∨ c = 2 ∨ c = 3 by omega) with rfl | rfl | rfl | rfl <;> simp
theorem tou_row {μ : mS} {row r : Nat} (hr : r < 16) : touM μ (68 + r) row = decide (r = row) := by
  have e : ∀ d, covM μ (68 + r) row d = decide (68 + r = 68 + row) := fun d => by unfold covM; rw [if_neg (by omega), if_neg (by omega), if_pos (by omega)]
  unfold touM
  simp only [e]
  by_cases h : r = row
  · subst h; simp
  · rw [decide_eq_false (show ¬ 68 + r = 68 + row by omega), decide_eq_false h]; rfl
theorem tou_range {σ : cS} {μ : mS} (hR : RR σ μ) {row r : Nat} (hr : r < 8) (hrow : row < 16) : touM μ (84 + r) row = hasB σ r row := by
  have e : ∀ d, covM μ (84 + r) row d = hasB σ r row := fun d => by
    unfold covM
    rw [if_neg (by omega), if_neg (by omega), if_neg (by omega), has_eq hR hr hrow, Nat.add_sub_cancel_left]
    by_cases h : r < mR μ
    · rw [if_pos h, decide_eq_true h]; rfl
    · rw [if_neg h, decide_eq_false h]; rfl
  unfold touM
  simp only [e]
  cases hasB σ r row <;> rfl
def trm (μ : mS) (k row r : Nat) : Int32 := if touM μ r row = true then tombM μ (92 * k + r) (ownM μ r) else 0
theorem sm2_sum {μ : mS} {k row : Nat} : ∀ n, sm2 μ k row n = sm1 μ k row 4 + isum (trm μ k row) n
  | 0 => (Int32.add_zero _).symm
  | n + 1 => by
    unfold sm2
    rw [sm2_sum n]
    show _ = sm1 μ k row 4 + (isum (trm μ k row) n + trm μ k row n)
    unfold trm tombM
    by_cases h1 : mI μ 43 (92 * k + n) = -1
    · rw [if_pos h1, if_pos h1]
      split
      · rw [nI_0, Int32.add_zero]
      · rw [Int32.add_zero]
    · rw [if_neg h1, if_neg h1]
      split
      · rw [Int32.add_assoc]
      · rw [Int32.add_zero]
theorem sm1_sum {μ : mS} {k row : Nat} : ∀ n, sm1 μ k row n = isum (fun c => entM μ (64 * k + 4 * row + c) c) n
  | 0 => nI_0
  | n + 1 => by unfold sm1; rw [sm1_sum n]; rfl
theorem rs1_sum {σ : cS} {t row : Nat} : ∀ n, rs1 σ t row n = tombP σ t (68 + row) (nI 7) + isum (fun c => entP σ t (row * 4 + c) c + tombP σ t (row * 4 + c) (nI (3 + c)) + tombP σ t (64 + c) (nI (5 + c))) n
  | 0 => (Int32.add_zero _).symm
  | n + 1 => by
    unfold rs1
    rw [rs1_sum n]
    show _ = tombP σ t (68 + row) (nI 7) + (isum _ n + (entP σ t (row * 4 + n) n + tombP σ t (row * 4 + n) (nI (3 + n)) + tombP σ t (64 + n) (nI (5 + n))))
    simp only [Int32.add_assoc]
theorem rs2_sum {σ : cS} {t row : Nat} : ∀ n, rs2 σ t row n = rs1 σ t row 4 + isum (fun r => if hasB σ r row = true then tombP σ t (84 + r) (nI 11 + parS σ r) else 0) n
  | 0 => (Int32.add_zero _).symm
  | n + 1 => by
    unfold rs2
    rw [rs2_sum n]
    show _ = rs1 σ t row 4 + (isum _ n + (if hasB σ n row = true then tombP σ t (84 + n) (nI 11 + parS σ n) else 0))
    split
    · rw [Int32.add_assoc]
    · rw [Int32.add_zero]
theorem rs_eq {σ : cS} {μ : mS} (hE : RE σ μ) (hT : RT σ μ) (hR : RR σ μ) {t row : Nat} (ht : t < 4) (hrow : row < 16) : rs2 σ t row 8 = sm2 μ t row 92 := by
  rw [rs2_sum, rs1_sum, sm2_sum, sm1_sum]
  rw [show (92 : Nat) = 64 + 4 + 16 + 8 from rfl, isum_split, isum_split, isum_split]
  have e1 : isum (trm μ t row) 64 = isum (fun c => tombP σ t (row * 4 + c) (nI (3 + c))) 4 := by
    rw [isum_in (a := 4 * row) (w := 4) (by omega) (fun k hk h => by unfold trm; rw [tou_cell_n hk h]; rfl)]
    apply isum_cong
    intro c hc
    unfold trm
    rw [tou_cell hc hrow rfl, if_pos rfl, tombP_eq hT ht (by omega), show row * 4 + c = 4 * row + c by omega]
    congr 1
    unfold ownM
    rw [if_pos (by omega), show (4 * row + c) % 4 = c by omega]
  have e2 : isum (fun k => trm μ t row (64 + k)) 4 = isum (fun c => tombP σ t (64 + c) (nI (5 + c))) 4 := by
    apply isum_cong
    intro c hc
    unfold trm
    rw [tou_col hc, if_pos rfl, tombP_eq hT ht (by omega)]
    congr 1
    unfold ownM
    rw [if_neg (by omega), if_pos (by omega), show 5 + (64 + c) - 64 = 5 + c by omega]
  have e3 : isum (fun k => trm μ t row (64 + 4 + k)) 16 = tombP σ t (68 + row) (nI 7) := by
    rw [isum_in (a := row) (w := 1) (by omega) (fun k hk h => by unfold trm; rw [show 64 + 4 + k = 68 + k by omega, tou_row hk, decide_eq_false (by omega)]; rfl)]
    show 0 + trm μ t row (64 + 4 + (row + 0)) = _
    rw [Int32.zero_add, show 64 + 4 + (row + 0) = 68 + row by omega]
    unfold trm
    rw [tou_row hrow, decide_eq_true rfl, if_pos rfl, tombP_eq hT ht (by omega)]
    congr 1
    unfold ownM
    rw [if_neg (by omega), if_neg (by omega), if_pos (by omega)]
  have e4 : isum (fun k => trm μ t row (64 + 4 + 16 + k)) 8 = isum (fun r => if hasB σ r row = true then tombP σ t (84 + r) (nI 11 + parS σ r) else 0) 8 := by
    apply isum_cong
    intro r hr
    show trm μ t row (64 + 4 + 16 + r) = _
    rw [show 64 + 4 + 16 + r = 84 + r by omega]
    unfold trm
    rw [tou_range hR hr hrow]
    by_cases hb : hasB σ r row = true
    · rw [if_pos hb, if_pos hb, tombP_eq hT ht (by omega)]
      congr 1
      rw [has_eq hR hr hrow, Bool.and_eq_true] at hb
      obtain ⟨h1, h2, -⟩ := hR.2.1 r (of_decide_eq_true hb.1)
      unfold ownM parS
      rw [if_neg (by omega), if_neg (by omega), if_neg (by omega), Nat.add_sub_cancel_left, h1, h2, Int32.add_assoc]
    · rw [if_neg hb, if_neg hb]
  have e5 : isum (fun c => entM μ (64 * t + 4 * row + c) c) 4 = isum (fun c => entP σ t (row * 4 + c) c) 4 := by
    apply isum_cong
    intro c hc
    show entM μ (64 * t + 4 * row + c) c = _
    rw [entP_eq hE ht (by omega), show 64 * t + (row * 4 + c) = 64 * t + 4 * row + c by omega]
  rw [e1, e2, e3, e4, e5, isum_add, isum_add]
  simp only [Int32.add_assoc, Int32.add_comm, i_lc]
theorem rowS_eq {σ : cS} {μ : mS} (hE : RE σ μ) (hT : RT σ μ) (hR : RR σ μ) {t row : Nat} (ht : t < 4) (hrow : row < 16) : rowS σ t row = srM μ t row := by
  unfold rowS srM
  rw [rs_eq hE hT hR ht hrow]
/-- no sum is too large -/
theorem entM_N {σ : cS} {μ : mS} (hE : RE σ μ) {t k c : Nat} (ht : t < 4) (hk : k < 64) (hc : c < 4) : ∃ N, N ≤ 60000 ∧ entM μ (64 * t + k) c = nI N := by
  unfold entM
  rcases (hE t k ht hk).2 with h | ⟨s, v, e, h1, h2, -, h4, h⟩
  · rw [if_pos (show mI μ 40 (64 * t + k) = -1 from h)]; exact ⟨0, by omega, rfl⟩
  · rcases h with h | h
    · have e1 : mI μ 40 (64 * t + k) = nI s := congrArg Prod.fst h
      have e2 : mI μ 41 (64 * t + k) = nI v := congrArg (fun z => z.2.1) h
      have e3 : mI μ 42 (64 * t + k) = -1 := congrArg (fun z => z.2.2) h
      rw [e1, e2, e3, if_neg (nI_nm1 (show s < 2 ^ 31 by omega)), if_pos rfl, pk_mul, pk_mul, nI_add, nI_add, nI_add, nI_add]
      exact ⟨_, by omega, rfl⟩
    · have e1 : mI μ 40 (64 * t + k) = nI s := congrArg Prod.fst h
      have e2 : mI μ 41 (64 * t + k) = nI v := congrArg (fun z => z.2.1) h
      have e3 : mI μ 42 (64 * t + k) = nI e := congrArg (fun z => z.2.2) h
      rw [e1, e2, e3, if_neg (nI_nm1 (show s < 2 ^ 31 by omega)), if_neg (nI_nm1 (show e < 2 ^ 31 by omega)), pk_mul, pk_mul, nI_add, nI_add, nI_add, nI_add]
      exact ⟨_, by omega, rfl⟩
theorem ownM_N {σ : cS} {μ : mS} (hR : RR σ μ) {r row : Nat} (hr : r < 92) (hrow : row < 16) (ht : touM μ r row = true) : ∃ N, N ≤ 1000 ∧ ownM μ r = nI N := by
  unfold ownM
  by_cases h1 : r < 64
  · rw [if_pos h1]; exact ⟨_, by omega, rfl⟩
  · rw [if_neg h1]
    by_cases h2 : r < 68
    · rw [if_pos h2]; exact ⟨_, by omega, rfl⟩
    · rw [if_neg h2]
      by_cases h3 : r < 84
      · rw [if_pos h3]; exact ⟨_, by omega, rfl⟩
      · rw [if_neg h3]
        obtain ⟨q, rfl⟩ : ∃ q, r = 84 + q := ⟨r - 84, by omega⟩
        rw [tou_range hR (by omega) hrow, has_eq hR (by omega) hrow, Bool.and_eq_true] at ht
        obtain ⟨-, -, a, b, h5, h6, h7, h8⟩ := hR.2.1 q (of_decide_eq_true ht.1)
        rw [Nat.add_sub_cancel_left, h7, h8, pk_mul, pk_mul, nI_add, nI_add]
        exact ⟨_, by omega, rfl⟩
theorem trm_N {σ : cS} {μ : mS} (hT : RT σ μ) (hR : RR σ μ) {t r row : Nat} (ht : t < 4) (hr : r < 92) (hrow : row < 16) : ∃ N, N ≤ 70000 ∧ trm μ t row r = nI N := by
  unfold trm
  by_cases h : touM μ r row = true
  · rw [if_pos h]
    obtain ⟨w, hw, ew⟩ := ownM_N hR hr hrow h
    unfold tombM
    rcases (hT t r ht hr).2 with h | ⟨a, b, h1, h2, h⟩
    · rw [if_pos (show mI μ 43 (92 * t + r) = -1 from h)]; exact ⟨0, by omega, rfl⟩
    · have e1 : mI μ 43 (92 * t + r) = nI a := congrArg Prod.fst h
      have e2 : mI μ 44 (92 * t + r) = nI b := congrArg (fun z => z.2) h
      rw [e1, e2, ew, if_neg (nI_nm1 (show a < 2 ^ 31 by omega)), pk_mul, pk_mul, nI_add, nI_add]
      exact ⟨_, by omega, rfl⟩
  · rw [if_neg h]; exact ⟨0, by omega, nI_0.symm⟩
theorem isum_N {f : Nat → Int32} {B : Nat} : ∀ n, (∀ k, k < n → ∃ N, N ≤ B ∧ f k = nI N) → ∃ N, N ≤ n * B ∧ isum f n = nI N
  | 0, _ => ⟨0, by omega, nI_0.symm⟩
  | n + 1, h => by
    obtain ⟨a, h1, h2⟩ := isum_N n (fun k hk => h k (by omega))
    obtain ⟨b, h3, h4⟩ := h n (by omega)
    unfold isum
    rw [h2, h4, nI_add]
    exact ⟨_, by rw [Nat.add_mul, Nat.one_mul]; omega, rfl⟩
theorem jrem_N {a : Nat} (h : a < 2 ^ 31) : jrem (nI a) 65521 = nI (a % 65521) := pk_rem h (by decide) (by decide)
theorem srM_N {σ : cS} {μ : mS} (hE : RE σ μ) (hT : RT σ μ) (hR : RR σ μ) {t row : Nat} (ht : t < 4) (hrow : row < 16) : ∃ N, N < 65521 ∧ srM μ t row = nI N := by
  unfold srM
  rw [sm2_sum, sm1_sum]
  obtain ⟨a, h1, h2⟩ := isum_N (f := fun c => entM μ (64 * t + 4 * row + c) c) (B := 60000) 4 (fun c hc => by
    show ∃ N, N ≤ 60000 ∧ entM μ (64 * t + 4 * row + c) c = nI N
    rw [show 64 * t + 4 * row + c = 64 * t + (4 * row + c) by omega]
    exact entM_N hE ht (by omega) hc)
  obtain ⟨b, h3, h4⟩ := isum_N (f := trm μ t row) (B := 70000) 92 (fun r hr => trm_N hT hR ht hr hrow)
  rw [h2, h4, nI_add, jrem_N (by omega)]
  exact ⟨_, Nat.mod_lt _ (by decide), rfl⟩
