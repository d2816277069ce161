/-! the model: what its methods answer and do -/
def isInB (x a b : Int32) : Bool := !decide (x < a) && !decide (b < x)
def isCopyB (x : Int32) : Bool := isInB x (nI 0) (nI 2)
def isCellB (x y : Int32) : Bool := isInB x (nI 0) (nI 15) && isInB y (nI 0) (nI 3)
theorem isInB_ok {k a b : Nat} (h1 : a ≤ k) (h2 : k ≤ b) (hb : b < 2 ^ 31) : isInB (nI k) (nI a) (nI b) = true := by
  have e1 : ¬ nI k < nI a := fun h => by rw [nI_ltI (by omega) (by omega)] at h; omega
  have e2 : ¬ nI b < nI k := fun h => by rw [nI_ltI (by omega) (by omega)] at h; omega
  simp [isInB, e1, e2]
theorem isCopyB_ok {k : Nat} (h : k < 3) : isCopyB (nI k) = true := isInB_ok (Nat.zero_le _) (by omega) (by decide)
theorem isCellB_ok {row col : Nat} (h1 : row < 16) (h2 : col < 4) : isCellB (nI row) (nI col) = true := by
  unfold isCellB
  rw [isInB_ok (Nat.zero_le _) (by omega) (by decide), isInB_ok (Nat.zero_le _) (by omega) (by decide)]
  rfl
def laterB (en oth : Int32) : Bool := if oth = -1 then false else if en = -1 then true else !decide (en ≤ oth)
def bitB (cs : Int32) (k : Nat) : Bool := decide ((cs >>> (nI k &&& 31)) &&& nI 1 = nI 1)
def codW (cs v sp li : Int32) : Bool := isInB cs (nI 0) (nI 7) && isInB v (nI 0) (nI 999) && isInB sp (nI 0) (nI 999) && isInB li (nI 0) (nI 1000)
def codD (cs sp : Int32) : Bool := isInB cs (nI 0) (nI 7) && isInB sp (nI 0) (nI 999)
theorem shl1 : ∀ l, l < 31 → nI 1 <<< (nI l &&& 31) = nI (2 ^ l) := by decide
theorem shr16 : ∀ l, l < 5 → nI 16 >>> (nI l &&& 31) = nI (16 / 2 ^ l) := by decide
theorem p2 {l : Nat} (h : l < 5) : 2 ^ l ≤ 16 := by
  rcases (show l = 0 ∨ l = 1 ∨ l = 2 ∨ l = 3 ∨ l = 4 by omega) with rfl | rfl | rfl | rfl | rfl <;> decide
theorem q2 {l nd : Nat} (h : l < 5) (hn : nd < 2 ^ l) : 16 / 2 ^ l * nd + 16 / 2 ^ l ≤ 16 := by
  rcases (show l = 0 ∨ l = 1 ∨ l = 2 ∨ l = 3 ∨ l = 4 by omega) with rfl | rfl | rfl | rfl | rfl <;> simp at hn ⊢ <;> omega
def drG (cs : Int32) (a b : Nat) (sp : Int32) : Bool := isInB cs (nI 0) (nI 7) && isInB sp (nI 0) (nI 999) && decide (a ≤ b)
