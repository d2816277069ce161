/-! sums of rows -/
theorem i_lc (a b c : Int32) : a + (b + c) = b + (a + c) := by rw [← Int32.add_assoc, ← Int32.add_assoc, Int32.add_comm a b]
def isum (f : Nat → Int32) : Nat → Int32
  | 0 => 0
  | n + 1 => isum f n + f n
theorem isum_cong {f g : Nat → Int32} : ∀ n, (∀ k, k < n → f k = g k) → isum f n = isum g n
  | 0, _ => rfl
  | n + 1, h => by unfold isum; rw [isum_cong n (fun k hk => h k (by omega)), h n (by omega)]
theorem isum_zero {f : Nat → Int32} : ∀ n, (∀ k, k < n → f k = 0) → isum f n = 0
  | 0, _ => rfl
  | n + 1, h => by unfold isum; rw [isum_zero n (fun k hk => h k (by omega)), h n (by omega)]; rfl
theorem isum_split (f : Nat → Int32) (a : Nat) : ∀ n, isum f (a + n) = isum f a + isum (fun k => f (a + k)) n
  | 0 => (Int32.add_zero _).symm
  | n + 1 => by
    show isum f (a + n) + f (a + n) = isum f a + (isum (fun k => f (a + k)) n + f (a + n))
    rw [isum_split f a n, Int32.add_assoc]
theorem isum_add (f g : Nat → Int32) : ∀ n, isum (fun k => f k + g k) n = isum f n + isum g n
  | 0 => rfl
  | n + 1 => by
    unfold isum
    rw [isum_add f g n]
    simp only [Int32.add_assoc, Int32.add_comm, i_lc]
theorem isum_in {f : Nat → Int32} {a w n : Nat} (h : a + w ≤ n) (h0 : ∀ k, k < n → (k < a ∨ a + w ≤ k) → f k = 0) : isum f n = isum (fun k => f (a + k)) w := by
  obtain ⟨r, rfl⟩ : ∃ r, n = a + w + r := ⟨n - (a + w), by omega⟩
  rw [isum_split, isum_split, isum_zero a (fun k hk => h0 k (by omega) (Or.inl hk)), isum_zero r (fun k hk => h0 _ (by omega) (Or.inr (by omega))), Int32.zero_add, Int32.add_zero]
theorem rs1_sum {σ : cS} {t row : Nat} : ∀ n, rs1 σ t row n = tombP σ t (68 + row) (nI 7) + isum (fun c => entP σ t (row * 4 + c) c + tombP σ t (row * 4 + c) (nI (3 + c)) + tombP σ t (64 + c) (nI (5 + c))) n
  | 0 => (Int32.add_zero _).symm
  | n + 1 => by
    unfold rs1
    rw [rs1_sum n]
    show _ = tombP σ t (68 + row) (nI 7) + (isum _ n + (entP σ t (row * 4 + n) n + tombP σ t (row * 4 + n) (nI (3 + n)) + tombP σ t (64 + n) (nI (5 + n))))
    simp only [Int32.add_assoc]
theorem rs2_sum {σ : cS} {t row : Nat} : ∀ n, rs2 σ t row n = rs1 σ t row 4 + isum (fun r => if hasB σ r row = true then tombP σ t (84 + r) (nI 11 + parS σ r) else 0) n
  | 0 => (Int32.add_zero _).symm
  | n + 1 => by
    unfold rs2
    rw [rs2_sum n]
    show _ = rs1 σ t row 4 + (isum _ n + (if hasB σ n row = true then tombP σ t (84 + n) (nI 11 + parS σ n) else 0))
    split
    · rw [Int32.add_assoc]
    · rw [Int32.add_zero]
theorem isum_N {f : Nat → Int32} {B : Nat} : ∀ n, (∀ k, k < n → ∃ N, N ≤ B ∧ f k = nI N) → ∃ N, N ≤ n * B ∧ isum f n = nI N
  | 0, _ => ⟨0, by omega, nI_0.symm⟩
  | n + 1, h => by
    obtain ⟨a, h1, h2⟩ := isum_N n (fun k hk => h k (by omega))
    obtain ⟨b, h3, h4⟩ := h n (by omega)
    unfold isum
    rw [h2, h4, nI_add]
    exact ⟨_, by rw [Nat.add_mul, Nat.one_mul]; omega, rfl⟩
theorem jrem_N {a : Nat} (h : a < 2 ^ 31) : jrem (nI a) 65521 = nI (a % 65521) := pk_rem h (by decide) (by decide)
