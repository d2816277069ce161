/-! the model, further -/
def paS (μ : mS) (x : Int32) : mS := if isInB x (nI 1) (nI 100) = true then (if mV μ 14 + x ≤ nI 10000 then mV' (thr μ 0) 14 (mV (thr μ 0) 14 + x) else thr μ 2) else thr μ 1
def paR (μ : mS) (x : Int32) : Int32 := if isInB x (nI 1) (nI 100) = true then (if mV μ 14 + x ≤ nI 10000 then mV (thr μ 0) 14 + x else nI 0) else nI 0
def sgS (μ : mS) (x : Int32) : mS := if isInB x (nI 0) (nI 1000) = true then mV' (thr μ 0) 15 x else thr μ 1
def sgR (μ : mS) (x : Int32) : Int32 := if isInB x (nI 0) (nI 1000) = true then mV (thr μ 0) 15 else nI 0
theorem ok_mR {μ : mS} {r : Nat} (h : mOK μ) (hr : r ≤ 8) : mOK (mR' μ r) := ⟨hr, h.2⟩
theorem bool_eq {x y : Bool} (h : x = true ↔ y = true) : x = y := by cases x <;> cases y <;> simp_all
theorem fr_hit {μ : mS} {a b : Nat} : ∀ n i, (∀ j, j < n → frM μ a b (i + j) = false) → fr μ a b n i = i + n
  | 0, i, _ => rfl
  | n + 1, i, h => by
    have h0 := h 0 (Nat.succ_pos _)
    rw [Nat.add_zero] at h0
    unfold fr
    rw [h0, if_neg (by decide), fr_hit n (i + 1) (fun j hj => by rw [show i + 1 + j = i + (j + 1) from by omega]; exact h (j + 1) (by omega))]
    omega
theorem fr_at {μ : mS} {a b : Nat} : ∀ n i k, k < n → (∀ j, j < k → frM μ a b (i + j) = false) → frM μ a b (i + k) = true → fr μ a b n i = i + k
  | 0, i, k, hk, _, _ => by omega
  | n + 1, i, k, hk, h, ht => by
    unfold fr
    cases k with
    | zero => rw [Nat.add_zero] at ht; rw [ht, if_pos rfl]; rfl
    | succ k =>
      have h0 := h 0 (Nat.succ_pos _)
      rw [Nat.add_zero] at h0
      rw [h0, if_neg (by decide), fr_at n (i + 1) k (by omega) (fun j hj => by rw [show i + 1 + j = i + (j + 1) from by omega]; exact h (j + 1) (by omega)) (by rw [show i + 1 + k = i + (k + 1) from by omega]; exact ht)]
      omega
def frO (μ : mS) (x y : Int32) (r : Nat) : Bool := decide (mI μ 45 r = x) && decide (mI μ 46 r = y)
