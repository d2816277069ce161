/-! the model: what its methods answer and do -/
def isInB (x a b : Int32) : Bool := !decide (x < a) && !decide (b < x)
def isCopyB (x : Int32) : Bool := isInB x (nI 0) (nI 2)
def isCellB (x y : Int32) : Bool := isInB x (nI 0) (nI 15) && isInB y (nI 0) (nI 3)
theorem isInB_ok {k a b : Nat} (h1 : a ≤ k) (h2 : k ≤ b) (hb : b < 2 ^ 31) : isInB (nI k) (nI a) (nI b) = true := by
  have e1 : ¬ nI k < nI a := fun h => by rw [nI_ltI (by omega) (by omega)] at h; omega
  have e2 : ¬ nI b < nI k := fun h => by rw [nI_ltI (by omega) (by omega)] at h; omega
  simp [isInB, e1, e2]
theorem isCopyB_ok {k : Nat} (h : k < 3) : isCopyB (nI k) = true := isInB_ok (Nat.zero_le _) (by omega) (by decide)
theorem isCellB_ok {row col : Nat} (h1 : row < 16) (h2 : col < 4) : isCellB (nI row) (nI col) = true := by
  unfold isCellB
  rw [isInB_ok (Nat.zero_le _) (by omega) (by decide), isInB_ok (Nat.zero_le _) (by omega) (by decide)]
  rfl
def laterB (en oth : Int32) : Bool := if oth = -1 then false else if en = -1 then true else !decide (en ≤ oth)
def betE2 (μ : mS) (q : Nat) (sp v en : Int32) : Bool := if mI μ 40 q < sp then true else if sp = mI μ 40 q then (if mI μ 41 q < v then true else if v = mI μ 41 q then laterB en (mI μ 42 q) else false) else false
def putE2 (μ : mS) (q : Nat) (sp v en : Int32) : mS := w2 (w2 (w2 μ 40 q sp) 41 q v) 42 q en
def putT2 (μ : mS) (q : Nat) (sp ma : Int32) : mS := w2 (w2 μ 43 q sp) 44 q ma
def takE2 (μ : mS) (q : Nat) (sp v en : Int32) : mS := if betE2 μ q sp v en = true then putE2 μ q sp v en else μ
def takT2 (μ : mS) (q : Nat) (sp ma : Int32) : mS := if mI μ 43 q < sp then putT2 μ q sp ma else if sp = mI μ 43 q then (if ma ≤ mI μ 44 q then μ else putT2 μ q sp ma) else μ
def pushH (μ : mS) (k a : Nat) (sp v en : Int32) : mS := mH' (w2 (w2 (w2 (mA' μ (10 * k + mH μ k) a) 50 (10 * k + mH μ k) sp) 51 (10 * k + mH μ k) v) 52 (10 * k + mH μ k) en) k (mH μ k + 1)
def goes2 (μ : mS) (k a : Nat) (sp v en : Int32) : mS := if mU μ k = true then (if a < 64 then takE2 μ (64 * k + a) sp v en else takT2 μ (92 * k + (a - 64)) sp v) else if 10 ≤ mH μ k then μ else pushH μ k a sp v en
def mOK (μ : mS) : Prop := mR μ ≤ 8 ∧ mU μ 3 = true ∧ (∀ i, i < 3 → mH μ i ≤ 10) ∧ ∀ k, k < 30 → mA μ k < 156
theorem ok_w2 {μ : mS} {p k : Nat} {x : Int32} : mOK (w2 μ p k x) ↔ mOK μ := Iff.rfl
theorem ok_V {μ : mS} {k : Nat} {x : Int32} : mOK (mV' μ k x) ↔ mOK μ := Iff.rfl
theorem ok_takE {μ : mS} {q : Nat} {sp v en : Int32} : mOK (takE2 μ q sp v en) ↔ mOK μ := by unfold takE2; split <;> exact Iff.rfl
theorem ok_takT {μ : mS} {q : Nat} {sp ma : Int32} : mOK (takT2 μ q sp ma) ↔ mOK μ := by unfold takT2; (repeat' split) <;> exact Iff.rfl
theorem ok_push {μ : mS} {k a : Nat} {sp v en : Int32} (h : mOK μ) (ha : a < 156) (hk : ¬ 10 ≤ mH μ k) : mOK (pushH μ k a sp v en) := by
  obtain ⟨h1, h2, h3, h4⟩ := h
  refine ⟨h1, h2, fun i hi => ?_, fun j hj => ?_⟩
  · show va_up (mH μ) k (mH μ k + 1) i ≤ 10
    unfold va_up
    split
    · omega
    · exact h3 i hi
  · show va_up (mA μ) (10 * k + mH μ k) a j < 156
    unfold va_up
    split
    · exact ha
    · exact h4 j hj
theorem ok_goes {μ : mS} {k a : Nat} {sp v en : Int32} (h : mOK μ) (ha : a < 156) : mOK (goes2 μ k a sp v en) := by
  unfold goes2
  split
  · split
    · exact ok_takE.mpr h
    · exact ok_takT.mpr h
  · split
    · exact h
    · rename_i h1; exact ok_push h ha h1
def bitB (cs : Int32) (k : Nat) : Bool := decide ((cs >>> (nI k &&& 31)) &&& nI 1 = nI 1)
def spS (μ : mS) (cs : Int32) (a : Nat) (sp v en : Int32) : Nat → mS
  | 0 => μ
  | n + 1 => if bitB cs n = true then goes2 (spS μ cs a sp v en n) n a sp v en else spS μ cs a sp v en n
def spN (μ : mS) (cs : Int32) (a : Nat) (sp v en : Int32) : Nat → Nat
  | 0 => 0
  | n + 1 => if bitB cs n = true then (if mU (spS μ cs a sp v en n) n = true then spN μ cs a sp v en n + 1 else spN μ cs a sp v en n) else spN μ cs a sp v en n
def spE (μ : mS) (cs : Int32) (a : Nat) (sp v en : Int32) : mS := goes2 (spS μ cs a sp v en 3) 3 a sp v en
theorem ok_spS {μ : mS} {cs : Int32} {a : Nat} {sp v en : Int32} (h : mOK μ) (ha : a < 156) : ∀ n, mOK (spS μ cs a sp v en n)
  | 0 => h
  | n + 1 => by
    unfold spS
    split
    · exact ok_goes (ok_spS h ha n) ha
    · exact ok_spS h ha n
theorem spN_le {μ : mS} {cs : Int32} {a : Nat} {sp v en : Int32} : ∀ n, spN μ cs a sp v en n ≤ n
  | 0 => Nat.le_refl _
  | n + 1 => by
    have := spN_le (μ := μ) (cs := cs) (a := a) (sp := sp) (v := v) (en := en) n
    unfold spN
    split
    · split <;> omega
    · omega
def codW (cs v sp li : Int32) : Bool := isInB cs (nI 0) (nI 7) && isInB v (nI 0) (nI 999) && isInB sp (nI 0) (nI 999) && isInB li (nI 0) (nI 1000)
def codD (cs sp : Int32) : Bool := isInB cs (nI 0) (nI 7) && isInB sp (nI 0) (nI 999)
def thr (μ : mS) (k : Nat) : mS := mV' μ 18 (nI k)
def wrE (μ : mS) (li : Int32) : Int32 := if li = 0 then -1 else mV (thr μ 0) 14 + li
def wrS (μ : mS) (cs : Int32) (row col : Nat) (v sp li : Int32) : mS := if codW cs v sp li = true then spE (thr μ 0) cs (4 * row + col) sp v (wrE μ li) else thr μ 2
def wrR (μ : mS) (cs : Int32) (row col : Nat) (v sp li : Int32) : Nat := if codW cs v sp li = true then spN (thr μ 0) cs (4 * row + col) sp v (wrE μ li) 3 else 0
def buS (μ : mS) (cs : Int32) (r : Nat) (sp : Int32) : mS := if codD cs sp = true then spE (thr μ 0) cs (64 + r) sp (mV (thr μ 0) 14) (nI 0) else thr μ 2
def buR (μ : mS) (cs : Int32) (r : Nat) (sp : Int32) : Nat := if codD cs sp = true then spN (thr μ 0) cs (64 + r) sp (mV (thr μ 0) 14) (nI 0) 3 else 0
/-- covers -/
def covM (μ : mS) (r row col : Nat) : Bool := if r < 64 then decide (r = 4 * row + col) else if r < 68 then decide (r = 64 + col) else if r < 84 then decide (r = 68 + row) else if r - 84 < mR μ then isInB (nI row) (mI μ 45 (r - 84)) (mI μ 46 (r - 84)) else false
def touM (μ : mS) (r row : Nat) : Bool := covM μ r row 0 || covM μ r row 1 || covM μ r row 2 || covM μ r row 3
def buIt (μ : mS) (k row col r : Nat) : Int32 := if covM μ r row col = true then mI μ 43 (92 * k + r) else -1
def bun (μ : mS) (k row col : Nat) : Nat → Int32
  | 0 => -1
  | n + 1 => if buIt μ k row col n ≤ bun μ k row col n then bun μ k row col n else buIt μ k row col n
def buM (μ : mS) (k row col : Nat) : Int32 := bun μ k row col 92
def seeM (μ : mS) (k row col : Nat) : Int32 := if mI μ 40 (64 * k + 4 * row + col) ≤ buM μ k row col then -1 else if mI μ 42 (64 * k + 4 * row + col) = -1 then mI μ 41 (64 * k + 4 * row + col) else if mI μ 42 (64 * k + 4 * row + col) ≤ mV μ 14 then -1 else mI μ 41 (64 * k + 4 * row + col)
def saE2 (μ : mS) (k j q : Nat) : Bool := if mI μ 40 (64 * k + q) = mI μ 40 (64 * j + q) then (if mI μ 40 (64 * k + q) = -1 then true else decide (mI μ 41 (64 * k + q) = mI μ 41 (64 * j + q)) && decide (mI μ 42 (64 * k + q) = mI μ 42 (64 * j + q))) else false
def saT2 (μ : mS) (k j q : Nat) : Bool := if mI μ 43 (92 * k + q) = mI μ 43 (92 * j + q) then (if mI μ 43 (92 * k + q) = -1 then true else decide (mI μ 44 (92 * k + q) = mI μ 44 (92 * j + q))) else false
def givE (μ : mS) (k j q : Nat) : mS := if mI μ 40 (64 * k + q) = -1 then μ else takE2 μ (64 * j + q) (mI μ 40 (64 * k + q)) (mI μ 41 (64 * k + q)) (mI μ 42 (64 * k + q))
def givT (μ : mS) (k j q : Nat) : mS := if mI μ 43 (92 * k + q) = -1 then μ else takT2 μ (92 * j + q) (mI μ 43 (92 * k + q)) (mI μ 44 (92 * k + q))
theorem ok_givE {μ : mS} {k j q : Nat} : mOK (givE μ k j q) ↔ mOK μ := by
  unfold givE
  split
  · exact Iff.rfl
  · exact ok_takE
theorem ok_givT {μ : mS} {k j q : Nat} : mOK (givT μ k j q) ↔ mOK μ := by
  unfold givT
  split
  · exact Iff.rfl
  · exact ok_takT
def rdS (μ : mS) (k j row col : Nat) : Nat → mS
  | 0 => givE (givE μ k j (4 * row + col)) j k (4 * row + col)
  | n + 1 => if covM (rdS μ k j row col n) n row col = true then givT (givT (rdS μ k j row col n) k j n) j k n else rdS μ k j row col n
def rdB (μ : mS) (k j row col : Nat) : Nat → Bool
  | 0 => saE2 μ k j (4 * row + col)
  | n + 1 => if covM (rdS μ k j row col n) n row col = true then (rdB μ k j row col n && saT2 (rdS μ k j row col n) k j n) else rdB μ k j row col n
theorem ok_rdS {μ : mS} {k j row col : Nat} : ∀ n, mOK (rdS μ k j row col n) ↔ mOK μ
  | 0 => by unfold rdS; rw [ok_givE, ok_givE]
  | n + 1 => by
    unfold rdS
    split
    · rw [ok_givT, ok_givT]; exact ok_rdS n
    · exact ok_rdS n
def rdE (μ : mS) (k j row col : Nat) : mS := mV' (rdS μ k j row col 92) 16 (mV (rdS μ k j row col 92) 16 + (if rdB μ k j row col 92 = true then nI 0 else nI 1))
/-- sums -/
def entM (μ : mS) (q col : Nat) : Int32 := if mI μ 40 q = -1 then nI 0 else nI 31 * mI μ 40 q + nI 7 * mI μ 41 q + (if mI μ 42 q = -1 then nI 20000 else mI μ 42 q) + nI col + nI 1
def ownM (μ : mS) (r : Nat) : Int32 := if r < 64 then nI (3 + r % 4) else if r < 68 then nI (5 + r - 64) else if r < 84 then nI 7 else nI 11 + nI 17 * mI μ 45 (r - 84) + nI 19 * mI μ 46 (r - 84)
def sm1 (μ : mS) (k row : Nat) : Nat → Int32
  | 0 => nI 0
  | n + 1 => sm1 μ k row n + entM μ (64 * k + 4 * row + n) n
def sm2 (μ : mS) (k row : Nat) : Nat → Int32
  | 0 => sm1 μ k row 4
  | n + 1 => if mI μ 43 (92 * k + n) = -1 then sm2 μ k row n else if touM μ n row = true then sm2 μ k row n + (nI 13 * mI μ 43 (92 * k + n) + nI 5 * mI μ 44 (92 * k + n) + ownM μ n) else sm2 μ k row n
def srM (μ : mS) (k row : Nat) : Int32 := jrem (sm2 μ k row 92) 65521
/-- the first n rows from the row a on -/
def sn1 (μ : mS) (k a : Nat) : Nat → Int32
  | 0 => nI 0
  | n + 1 => sn1 μ k a n + srM μ k (a + n)
def snM (μ : mS) (k lv nd : Nat) : Int32 := jrem (sn1 μ k (16 / 2 ^ lv * nd) (16 / 2 ^ lv)) 65521
/-- a level compared: the nodes, the set of the next level's; visited -/
def nxt (μ : mS) (k j lv nd : Nat) : Int32 := if snM μ k lv nd = snM μ j lv nd then nI 0 else if lv = 4 then nI 1 <<< (nI nd &&& 31) else nI 3 <<< (nI (2 * nd) &&& 31)
def cpX (μ : mS) (k j lv : Nat) (set : Int32) : Nat → Int32
  | 0 => nI 0
  | n + 1 => if bitB set n = true then cpX μ k j lv set n ||| nxt μ k j lv n else cpX μ k j lv set n
def cpV (set : Int32) : Nat → Int32 → Int32
  | 0, v => v
  | n + 1, v => if bitB set n = true then cpV set n v + nI 1 else cpV set n v
def cpS (μ : mS) (k j : Nat) : Nat → Int32
  | 0 => nI 1
  | n + 1 => cpX μ k j n (cpS μ k j n) (2 ^ n)
def cpC (μ : mS) (k j : Nat) : Nat → Int32
  | 0 => nI 0
  | n + 1 => cpV (cpS μ k j n) (2 ^ n) (cpC μ k j n)
def cpE (μ : mS) (k j : Nat) : mS := mV' μ 17 (cpC μ k j 5)
/-- two states with the same rows -/
def eqI (μ ν : mS) : Prop := mI μ = mI ν ∧ mR μ = mR ν
theorem eqI_rf {μ : mS} : eqI μ μ := ⟨rfl, rfl⟩
theorem covM_eq {μ ν : mS} (h : eqI μ ν) (r row col : Nat) : covM μ r row col = covM ν r row col := by unfold covM; rw [h.1, h.2]
theorem touM_eq {μ ν : mS} (h : eqI μ ν) (r row : Nat) : touM μ r row = touM ν r row := by unfold touM; rw [covM_eq h, covM_eq h, covM_eq h, covM_eq h]
theorem sm1_eq {μ ν : mS} (h : eqI μ ν) (k row : Nat) : ∀ n, sm1 μ k row n = sm1 ν k row n
  | 0 => rfl
  | n + 1 => by unfold sm1 entM; rw [sm1_eq h k row n, h.1]
theorem sm2_eq {μ ν : mS} (h : eqI μ ν) (k row : Nat) : ∀ n, sm2 μ k row n = sm2 ν k row n
  | 0 => sm1_eq h k row 4
  | n + 1 => by unfold sm2 ownM; rw [sm2_eq h k row n, touM_eq h, h.1]
theorem srM_eq {μ ν : mS} (h : eqI μ ν) (k row : Nat) : srM μ k row = srM ν k row := by unfold srM; rw [sm2_eq h]
theorem shl1 : ∀ l, l < 31 → nI 1 <<< (nI l &&& 31) = nI (2 ^ l) := by decide
theorem shr16 : ∀ l, l < 5 → nI 16 >>> (nI l &&& 31) = nI (16 / 2 ^ l) := by decide
theorem p2 {l : Nat} (h : l < 5) : 2 ^ l ≤ 16 := by
  rcases (show l = 0 ∨ l = 1 ∨ l = 2 ∨ l = 3 ∨ l = 4 by omega) with rfl | rfl | rfl | rfl | rfl <;> decide
theorem q2 {l nd : Nat} (h : l < 5) (hn : nd < 2 ^ l) : 16 / 2 ^ l * nd + 16 / 2 ^ l ≤ 16 := by
  rcases (show l = 0 ∨ l = 1 ∨ l = 2 ∨ l = 3 ∨ l = 4 by omega) with rfl | rfl | rfl | rfl | rfl <;> simp at hn ⊢ <;> omega
theorem mV_s {μ : mS} {k : Nat} {x : Int32} : mV (mV' μ k x) k = x := va_up_self _ _ _
theorem mV_i {μ : mS} {k : Nat} {x y : Int32} : mV' (mV' μ k x) k y = mV' μ k y := by
  unfold mV'
  congr 2
  funext j
  show va_up (va_up μ.2.1 k x) k y j = va_up μ.2.1 k y j
  unfold va_up
  split <;> rfl
theorem mH_w2 {μ : mS} {p k : Nat} {x : Int32} : mH (w2 μ p k x) = mH μ := rfl
theorem mH_mA {μ : mS} {k : Nat} {x : Nat} : mH (mA' μ k x) = mH μ := rfl
theorem mH_k {μ : mS} {k : Nat} : mH' μ k (mH μ k) = μ := by
  unfold mH'
  have : va_up μ.2.2.2.2.1 k (mH μ k) = μ.2.2.2.2.1 := by
    funext j
    unfold va_up
    split
    · rename_i h; rw [h]
    · rfl
  rw [this]
/-- up: the hints are taken -/
def suS (μ : mS) (k : Nat) : Nat → mS
  | 0 => mU' (thr μ 0) k true
  | n + 1 => goes2 (suS μ k n) k (mA (suS μ k n) (10 * k + n)) (mI (suS μ k n) 50 (10 * k + n)) (mI (suS μ k n) 51 (10 * k + n)) (mI (suS μ k n) 52 (10 * k + n))
theorem goes2_up {μ : mS} {k a : Nat} {sp v en : Int32} (h : mU μ k = true) : mH (goes2 μ k a sp v en) = mH μ ∧ mU (goes2 μ k a sp v en) = mU μ ∧ mA (goes2 μ k a sp v en) = mA μ ∧ mR (goes2 μ k a sp v en) = mR μ := by
  unfold goes2
  rw [if_pos h]
  split
  · unfold takE2; split <;> exact ⟨rfl, rfl, rfl, rfl⟩
  · unfold takT2; (repeat' split) <;> exact ⟨rfl, rfl, rfl, rfl⟩
theorem suS_k {μ : mS} {k : Nat} : ∀ n, mH (suS μ k n) = mH μ ∧ mU (suS μ k n) = va_up (mU μ) k true ∧ mA (suS μ k n) = mA μ ∧ mR (suS μ k n) = mR μ
  | 0 => ⟨rfl, rfl, rfl, rfl⟩
  | n + 1 => by
    obtain ⟨h1, h2, h3, h4⟩ := suS_k (μ := μ) (k := k) n
    obtain ⟨g1, g2, g3, g4⟩ := goes2_up (μ := suS μ k n) (k := k) (a := mA (suS μ k n) (10 * k + n)) (sp := mI (suS μ k n) 50 (10 * k + n)) (v := mI (suS μ k n) 51 (10 * k + n)) (en := mI (suS μ k n) 52 (10 * k + n)) (by rw [h2, va_up_self])
    exact ⟨g1.trans h1, g2.trans h2, g3.trans h3, g4.trans h4⟩
theorem ok_suS {μ : mS} {k : Nat} (h : mOK μ) (hk : k < 3) (n : Nat) : mOK (suS μ k n) := by
  obtain ⟨h1, h2, h3, h4⟩ := suS_k (μ := μ) (k := k) n
  refine ⟨by rw [h4]; exact h.1, ?_, fun i hi => by rw [h1]; exact h.2.2.1 i hi, fun i hi => by rw [h3]; exact h.2.2.2 i hi⟩
  rw [h2, va_up_ne _ _ (by omega)]
  exact h.2.1
def suE (μ : mS) (k : Nat) (up : Bool) : mS := if up = true then mH' (suS μ k (mH μ k)) k 0 else mU' (thr μ 0) k false
/-- the ranges -/
def frM (μ : mS) (a b r : Nat) : Bool := decide (mI μ 45 r = nI a) && decide (mI μ 46 r = nI b)
def fr (μ : mS) (a b : Nat) : Nat → Nat → Nat
  | 0, i => i
  | n + 1, i => if frM μ a b i = true then i else fr μ a b n (i + 1)
theorem fr_le {μ : mS} {a b : Nat} : ∀ n i, fr μ a b n i ≤ i + n
  | 0, i => Nat.le_refl _
  | n + 1, i => by
    unfold fr
    split
    · omega
    · have := fr_le (μ := μ) (a := a) (b := b) n (i + 1); omega
def frI (μ : mS) (a b : Nat) : Nat := fr μ a b (mR μ) 0
def drG (cs : Int32) (a b : Nat) (sp : Int32) : Bool := isInB cs (nI 0) (nI 7) && isInB sp (nI 0) (nI 999) && decide (a ≤ b)
def drM (μ : mS) (cs : Int32) (a b : Nat) (sp : Int32) : mS := if drG cs a b sp = true then (if frI μ a b = 8 then thr μ 3 else if frI μ a b = mR μ then buS (mR' (w2 (w2 (thr μ 0) 45 (frI μ a b) (nI a)) 46 (frI μ a b) (nI b)) (mR μ + 1)) cs (84 + frI μ a b) sp else buS (thr μ 0) cs (84 + frI μ a b) sp) else thr μ 2
def drR (μ : mS) (cs : Int32) (a b : Nat) (sp : Int32) : Nat := if drG cs a b sp = true then (if frI μ a b = 8 then 0 else if frI μ a b = mR μ then buR (mR' (w2 (w2 (thr μ 0) 45 (frI μ a b) (nI a)) 46 (frI μ a b) (nI b)) (mR μ + 1)) cs (84 + frI μ a b) sp else buR (thr μ 0) cs (84 + frI μ a b) sp) else 0
