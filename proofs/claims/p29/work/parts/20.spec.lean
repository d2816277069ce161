/-! what the methods of the class' tables answer and do, in words of the state -/
def endR (e : Int32) : Int32 := if e = -1 then nI 11001 else e
def hasB (σ : cS) (r row : Nat) : Bool := !decide (nI row < cI σ 2 r) && !decide (cI σ 3 r < nI row)
def parS (σ : cS) (r : Nat) : Int32 := nI 17 * cI σ 2 r + nI 19 * cI σ 3 r
def cpO (σ : cS) (row col cover : Nat) : Option Nat := if cover = 0 then some (row * 4 + col) else if cover = 1 then some (64 + col) else if cover = 2 then some (68 + row) else if hasB σ (cover - 3) row = true then some (84 + (cover - 3)) else none
def gBn (σ : cS) (t row col : Nat) : Nat → Int32
  | 0 => -1
  | n + 1 => match cpO σ row col n with
    | none => gBn σ t row col n
    | some p => if gBn σ t row col n < cI σ (15 + 6 * t + 4) p then cI σ (15 + 6 * t + 4) p else gBn σ t row col n
def gB (σ : cS) (t row col : Nat) : Int32 := gBn σ t row col 11
def covB (σ : cS) (t row col : Nat) : Bool := !decide (gB σ t row col < cI σ (15 + 6 * t + 1) (row * 4 + col))
def visV (σ : cS) (t row col : Nat) (now : Int32) : Int32 := if cI σ (15 + 6 * t + 1) (row * 4 + col) = -1 then -1 else if endR (cI σ (15 + 6 * t + 3) (row * 4 + col)) ≤ now then -1 else if covB σ t row col = true then -1 else cI σ (15 + 6 * t + 2) (row * 4 + col)
def sameE (σ : cS) (t t2 k : Nat) : Bool := decide (cI σ (15 + 6 * t + 1) k = cI σ (15 + 6 * t2 + 1) k) && decide (cI σ (15 + 6 * t + 2) k = cI σ (15 + 6 * t2 + 2) k) && decide (cI σ (15 + 6 * t + 3) k = cI σ (15 + 6 * t2 + 3) k)
def sameT (σ : cS) (t t2 k : Nat) : Bool := decide (cI σ (15 + 6 * t + 4) k = cI σ (15 + 6 * t2 + 4) k) && decide (cI σ (15 + 6 * t + 5) k = cI σ (15 + 6 * t2 + 5) k)
def sFn (σ : cS) (t t2 row col : Nat) : Nat → Bool
  | 0 => sameE σ t t2 (row * 4 + col)
  | n + 1 => sFn σ t t2 row col n && (match cpO σ row col n with
    | none => true
    | some p => sameT σ t t2 p)
def sEn (σ : cS) (t t2 : Nat) : Nat → Bool
  | 0 => true
  | n + 1 => sEn σ t t2 n && sameE σ t t2 n
def sTn (σ : cS) (t t2 : Nat) : Nat → Bool
  | 0 => true
  | n + 1 => sTn σ t t2 n && sameT σ t t2 n
def cntE (σ : cS) (t : Nat) : Nat → Nat
  | 0 => 0
  | n + 1 => if cI σ (15 + 6 * t + 1) n = -1 then cntE σ t n else cntE σ t n + 1
def fpl (r : Nat) : Nat := if r = 0 then 0 else if r = 1 then 64 else if r = 2 then 68 else if r = 3 then 84 else 92
theorem fpl_le (r : Nat) : fpl r ≤ 92 := by unfold fpl; split <;> first | omega | (split <;> first | omega | (split <;> first | omega | (split <;> omega)))
theorem fpl_mono (r : Nat) : fpl r ≤ fpl (r + 1) := by
  unfold fpl
  by_cases h0 : r = 0
  · subst h0; decide
  · by_cases h1 : r = 1
    · subst h1; decide
    · by_cases h2 : r = 2
      · subst h2; decide
      · by_cases h3 : r = 3
        · subst h3; decide
        · simp [h0, h1, h2, h3]
/-- tombstones from the place a on, n of them looked at -/
def cntT (σ : cS) (t a : Nat) : Nat → Nat
  | 0 => 0
  | n + 1 => if cI σ (15 + 6 * t + 4) (a + n) = -1 then cntT σ t a n else cntT σ t a n + 1
def tombP (σ : cS) (t k : Nat) (x : Int32) : Int32 := if cI σ (15 + 6 * t + 4) k = -1 then nI 0 else nI 13 * cI σ (15 + 6 * t + 4) k + nI 5 * cI σ (15 + 6 * t + 5) k + x
def entP (σ : cS) (t k col : Nat) : Int32 := if cI σ (15 + 6 * t + 1) k = -1 then nI 0 else nI 31 * cI σ (15 + 6 * t + 1) k + nI 7 * cI σ (15 + 6 * t + 2) k + (if cI σ (15 + 6 * t + 3) k = -1 then nI 20000 else cI σ (15 + 6 * t + 3) k) + nI col + nI 1
def rs1 (σ : cS) (t row : Nat) : Nat → Int32
  | 0 => tombP σ t (68 + row) (nI 7)
  | n + 1 => rs1 σ t row n + entP σ t (row * 4 + n) n + tombP σ t (row * 4 + n) (nI (3 + n)) + tombP σ t (64 + n) (nI (5 + n))
def rs2 (σ : cS) (t row : Nat) : Nat → Int32
  | 0 => rs1 σ t row 4
  | n + 1 => if hasB σ n row = true then rs2 σ t row n + tombP σ t (84 + n) (nI 11 + parS σ n) else rs2 σ t row n
def rowS (σ : cS) (t row : Nat) : Int32 := jrem (rs2 σ t row 8) 65521
