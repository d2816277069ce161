/-! what changes -/
def w1 (σ : cS) (p k : Nat) (x : Int32) : cS := cI' σ p (upd (cI σ p) k x)
def putE (σ : cS) (t k : Nat) (v sp en : Int32) : cS := w1 (w1 (w1 σ (15 + 6 * t + 1) k sp) (15 + 6 * t + 2) k v) (15 + 6 * t + 3) k en
def putT (σ : cS) (t k : Nat) (sp ma : Int32) : cS := w1 (w1 σ (15 + 6 * t + 4) k sp) (15 + 6 * t + 5) k ma
def betE (σ : cS) (t k : Nat) (v sp en : Int32) : Bool := if sp = cI σ (15 + 6 * t + 1) k then (if v = cI σ (15 + 6 * t + 2) k then decide (endR (cI σ (15 + 6 * t + 3) k) < endR en) else decide (cI σ (15 + 6 * t + 2) k < v)) else decide (cI σ (15 + 6 * t + 1) k < sp)
def betT (σ : cS) (t k : Nat) (sp ma : Int32) : Bool := if sp = cI σ (15 + 6 * t + 4) k then decide (cI σ (15 + 6 * t + 5) k < ma) else decide (cI σ (15 + 6 * t + 4) k < sp)
def takE (σ : cS) (t k : Nat) (v sp en : Int32) : cS := if betE σ t k v sp en = true then putE σ t k v sp en else σ
def takT (σ : cS) (t k : Nat) (sp ma : Int32) : cS := if betT σ t k sp ma = true then putT σ t k sp ma else σ
def takF (σ : cS) (t t2 k : Nat) : cS := takT σ t k (cI σ (15 + 6 * t2 + 4) k) (cI σ (15 + 6 * t2 + 5) k)
def tkCn (σ : cS) (t t2 row col : Nat) : Nat → cS
  | 0 => takE σ t (row * 4 + col) (cI σ (15 + 6 * t2 + 2) (row * 4 + col)) (cI σ (15 + 6 * t2 + 1) (row * 4 + col)) (cI σ (15 + 6 * t2 + 3) (row * 4 + col))
  | n + 1 => match cpO (tkCn σ t t2 row col n) row col n with
    | none => tkCn σ t t2 row col n
    | some p => takF (tkCn σ t t2 row col n) t t2 p
def tkC (σ : cS) (t t2 row col : Nat) : cS := tkCn σ t t2 row col 11
def tkRn (σ : cS) (t t2 row : Nat) : Nat → cS
  | 0 => σ
  | n + 1 => tkC (tkRn σ t t2 row n) t t2 row n
def tkR (σ : cS) (t t2 row : Nat) : cS := tkRn σ t t2 row 4
def dropE (σ : cS) (t k : Nat) : cS := putE σ t k (nI 0) (-1) (nI 0)
/-- the covered entries of the first cells dropped, and how many -/
def dcs (σ : cS) (t : Nat) : Nat → cS × Nat
  | 0 => (σ, 0)
  | n + 1 => if cI (dcs σ t n).1 (15 + 6 * t + 1) n = -1 then dcs σ t n else if covB (dcs σ t n).1 t (n / 4) (n % 4) = true then (dropE (dcs σ t n).1 t n, (dcs σ t n).2 + 1) else dcs σ t n
def dts (σ : cS) (t : Nat) (la : Int32) : Nat → cS × Nat
  | 0 => (σ, 0)
  | n + 1 => if cI (dts σ t la n).1 (15 + 6 * t + 4) n = -1 then dts σ t la n else if la < cI (dts σ t la n).1 (15 + 6 * t + 5) n then dts σ t la n else (putT (dts σ t la n).1 t n (-1) (nI 0), (dts σ t la n).2 + 1)
def des (σ : cS) (t : Nat) (la : Int32) : Nat → cS × Nat
  | 0 => (σ, 0)
  | n + 1 => if cI (des σ t la n).1 (15 + 6 * t + 1) n = -1 then des σ t la n else if la < endR (cI (des σ t la n).1 (15 + 6 * t + 3) n) then des σ t la n else (dropE (des σ t la n).1 t n, (des σ t la n).2 + 1)
/-- the number of a range: found, or the first that is free, or 8 -/
def rgh (σ : cS) (a b r : Nat) : Bool := decide (cI σ 2 r = -1) || (decide (cI σ 2 r = nI a) && decide (cI σ 3 r = nI b))
def rg (σ : cS) (a b : Nat) : Nat → Nat → Nat
  | 0, i => i
  | n + 1, i => if rgh σ a b i = true then i else rg σ a b n (i + 1)
def rgi (σ : cS) (a b : Nat) : Nat := rg σ a b 8 0
def rgR (σ : cS) (a b : Nat) : Int32 := if rgi σ a b < 8 then nI (rgi σ a b) else -1
def rgS (σ : cS) (a b : Nat) : cS := if rgi σ a b < 8 ∧ cI σ 2 (rgi σ a b) = -1 then w1 (w1 σ 2 (rgi σ a b) (nI a)) 3 (rgi σ a b) (nI b) else σ
theorem w1_s {σ : cS} {p k : Nat} {x : Int32} : cI (w1 σ p k x) p k = x := by
  show va_up σ.1 p (upd (σ.1 p) k x) p k = x
  rw [va_up_self]
  simp [upd]
theorem w1_n {σ : cS} {p q k j : Nat} {x : Int32} (h : q ≠ p) : cI (w1 σ p k x) q j = cI σ q j := by
  show va_up σ.1 p (upd (σ.1 p) k x) q j = σ.1 q j
  rw [va_up_ne _ _ h]
theorem w1_k {σ : cS} {p k j : Nat} {x : Int32} (h : j ≠ k) : cI (w1 σ p k x) p j = cI σ p j := by
  show va_up σ.1 p (upd (σ.1 p) k x) p j = σ.1 p j
  rw [va_up_self]
  simp [upd, h]
theorem p67 {k : Nat} (h : k = 6 ∨ k = 7) : pC k 32 := by rcases h with rfl | rfl <;> exact ⟨rfl, rfl⟩
def ms1 (σ : cS) (t k : Nat) : Nat → cS
  | 0 => σ
  | n + 1 => w1 (ms1 σ t k n) k (16 + n) (rowS (ms1 σ t k n) t n)
def ms2 (σ : cS) (t k : Nat) : Nat → cS
  | 0 => ms1 σ t k 16
  | n + 1 => w1 (ms2 σ t k n) k (15 - n) (jrem (cI (ms2 σ t k n) k (2 * (15 - n)) + cI (ms2 σ t k n) k (2 * (15 - n) + 1)) 65521)
def mkS (σ : cS) (t k : Nat) : cS := ms2 σ t k 15
def cm0 (σ : cS) (t t2 : Nat) : cS := mkS (mkS σ t 6) t2 7
/-- nodes 1 to n compared: the state, how many were reached -/
def cmr (σ : cS) (n : Nat) : Bool := decide (n = 1) || cF σ (n / 2)
def cmS (σ : cS) (t t2 : Nat) : Nat → cS
  | 0 => cm0 σ t t2
  | n + 1 => cF' (cmS σ t t2 n) (n + 1) (cmr (cmS σ t t2 n) (n + 1) && !decide (cI (cmS σ t t2 n) 6 (n + 1) = cI (cmS σ t t2 n) 7 (n + 1)))
def cmN (σ : cS) (t t2 : Nat) : Nat → Nat
  | 0 => 0
  | n + 1 => if cmr (cmS σ t t2 n) (n + 1) = true then cmN σ t t2 n + 1 else cmN σ t t2 n
def cmp (σ : cS) (t t2 : Nat) : cS := cmS σ t t2 31
def urn (σ : cS) : Nat → Int32
  | 0 => nI 0
  | n + 1 => if cF σ (16 + n) = true then urn σ n ||| (nI 1 <<< (nI n &&& 31)) else urn σ n
theorem nI_dec {a : Nat} (h : 1 ≤ a) : nI a + Int32.ofInt (-1) = nI (a - 1) := by
  obtain ⟨b, rfl⟩ : ∃ b, a = b + 1 := ⟨a - 1, by omega⟩
  exact pk_m1 b
