/-! the model: reads with repairs, sums, comparing, making alike, cleaning -/
def rdC (μ : mS) (k j : Nat) : Nat := if k = j then 2 else if mU μ k = true then (if mU μ j = true then 0 else 3) else 3
def rdF (μ : mS) (k j row col : Nat) : mS := if rdC μ k j = 0 then rdE (thr μ 0) k j row col else thr μ (rdC μ k j)
def rdR (μ : mS) (k j row col : Nat) : Int32 := if rdC μ k j = 0 then seeM (rdE (thr μ 0) k j row col) k row col else nI 0
theorem sn1_eq {μ ν : mS} (h : eqI μ ν) (k a : Nat) : ∀ n, sn1 μ k a n = sn1 ν k a n
  | 0 => rfl
  | n + 1 => by unfold sn1; rw [sn1_eq h k a n, srM_eq h]
theorem snM_eq {μ ν : mS} (h : eqI μ ν) (k lv nd : Nat) : snM μ k lv nd = snM ν k lv nd := by unfold snM; rw [sn1_eq h]
/-- made alike: the columns of a row, then all reaches of it -/
def maC (μ : mS) (k j row : Nat) : Nat → mS
  | 0 => μ
  | n + 1 => givE (givE (maC μ k j row n) k j (4 * row + n)) j k (4 * row + n)
def maT (μ : mS) (k j row : Nat) : Nat → mS
  | 0 => maC μ k j row 4
  | n + 1 => if touM (maT μ k j row n) n row = true then givT (givT (maT μ k j row n) k j n) j k n else maT μ k j row n
def maR (μ : mS) (k j : Nat) (set : Int32) : Nat → mS
  | 0 => μ
  | n + 1 => if bitB set n = true then maT (maR μ k j set n) k j n 92 else maR μ k j set n
def maN (set : Int32) : Nat → Nat
  | 0 => 0
  | n + 1 => if bitB set n = true then maN set n + 1 else maN set n
theorem givE_R {μ : mS} {k j q : Nat} : mR (givE μ k j q) = mR μ := by
  unfold givE takE2
  (repeat' split) <;> rfl
theorem givT_R {μ : mS} {k j q : Nat} : mR (givT μ k j q) = mR μ := by
  unfold givT takT2
  (repeat' split) <;> rfl
theorem maC_R {μ : mS} {k j row : Nat} : ∀ n, mR (maC μ k j row n) = mR μ
  | 0 => rfl
  | n + 1 => by unfold maC; rw [givE_R, givE_R]; exact maC_R n
theorem maT_R {μ : mS} {k j row : Nat} : ∀ n, mR (maT μ k j row n) = mR μ
  | 0 => by
    have h := maC_R (μ := μ) (k := k) (j := j) (row := row) 4
    unfold maT
    exact h
  | n + 1 => by
    unfold maT
    split
    · rw [givT_R, givT_R]; exact maT_R n
    · exact maT_R n
theorem maR_R {μ : mS} {k j : Nat} {set : Int32} : ∀ n, mR (maR μ k j set n) = mR μ
  | 0 => rfl
  | n + 1 => by
    unfold maR
    split
    · rw [maT_R]; exact maR_R n
    · exact maR_R n
theorem rdS_R {μ : mS} {k j row col : Nat} : ∀ n, mR (rdS μ k j row col n) = mR μ
  | 0 => by unfold rdS; rw [givE_R, givE_R]
  | n + 1 => by
    unfold rdS
    split
    · rw [givT_R, givT_R]; exact rdS_R n
    · exact rdS_R n
def maF (μ : mS) (k j : Nat) : mS := if rdC μ k j = 0 then maR (cpE (thr μ 0) k j) k j (cpS (thr μ 0) k j 5) 16 else thr μ (rdC μ k j)
def maQ (μ : mS) (k j : Nat) : Nat := if rdC μ k j = 0 then maN (cpS (thr μ 0) k j 5) 16 else 0
/-- cleaning -/
def cl1 (μ : mS) (k : Nat) : Nat → mS × Nat
  | 0 => (μ, 0)
  | n + 1 => if mI (cl1 μ k n).1 40 (64 * k + n) = -1 then cl1 μ k n else if buM (cl1 μ k n).1 k (n / 4) (n % 4) < mI (cl1 μ k n).1 40 (64 * k + n) then cl1 μ k n else (w2 (cl1 μ k n).1 40 (64 * k + n) (-1), (cl1 μ k n).2 + 1)
def cl2 (μ : mS) (k : Nat) : Nat → mS × Nat
  | 0 => cl1 μ k 64
  | n + 1 => if mI (cl2 μ k n).1 43 (92 * k + n) = -1 then cl2 μ k n else if mV (cl2 μ k n).1 14 - mI (cl2 μ k n).1 44 (92 * k + n) < mV (cl2 μ k n).1 15 then cl2 μ k n else (w2 (cl2 μ k n).1 43 (92 * k + n) (-1), (cl2 μ k n).2 + 1)
def cl3 (μ : mS) (k : Nat) : Nat → mS × Nat
  | 0 => cl2 μ k 92
  | n + 1 => if mI (cl3 μ k n).1 40 (64 * k + n) = -1 then cl3 μ k n else if mI (cl3 μ k n).1 42 (64 * k + n) = -1 then cl3 μ k n else if mV (cl3 μ k n).1 14 - mI (cl3 μ k n).1 42 (64 * k + n) < mV (cl3 μ k n).1 15 then cl3 μ k n else (w2 (cl3 μ k n).1 40 (64 * k + n) (-1), (cl3 μ k n).2 + 1)
theorem cl1_R {μ : mS} {k : Nat} : ∀ n, mR (cl1 μ k n).1 = mR μ
  | 0 => rfl
  | n + 1 => by
    unfold cl1
    split
    · exact cl1_R n
    · split
      · exact cl1_R n
      · exact cl1_R n
def clC (μ : mS) (k : Nat) : Nat := if mU μ k = true then 0 else 2
def clF (μ : mS) (k : Nat) : mS := if mU μ k = true then (cl3 (thr μ 0) k 64).1 else thr μ 2
def clQ (μ : mS) (k : Nat) : Nat := if mU μ k = true then (cl3 (thr μ 0) k 64).2 else 0
/-- counting -/
def kdM (r : Nat) : Nat := if r < 64 then 0 else if r < 68 then 1 else if r < 84 then 2 else 3
def tcM (μ : mS) (k : Nat) (y : Int32) : Nat → Nat
  | 0 => 0
  | n + 1 => if mI μ 43 (92 * k + n) = -1 then tcM μ k y n else if nI (kdM n) = y then tcM μ k y n + 1 else tcM μ k y n
def toS (μ : mS) (y : Int32) : mS := if isInB y (nI 0) (nI 3) = true then thr μ 0 else thr μ 2
def toR (μ : mS) (k : Nat) (y : Int32) : Nat := if isInB y (nI 0) (nI 3) = true then tcM (thr μ 0) k y 92 else 0
def ecM (μ : mS) (k : Nat) : Nat → Nat
  | 0 => 0
  | n + 1 => if mI μ 40 (64 * k + n) = -1 then ecM μ k n else ecM μ k n + 1
def alE (μ : mS) (k j : Nat) : Nat → Bool
  | 0 => true
  | n + 1 => alE μ k j n && saE2 μ k j n
def alT (μ : mS) (k j : Nat) : Nat → Bool
  | 0 => alE μ k j 64
  | n + 1 => alT μ k j n && saT2 μ k j n
theorem mR_V {μ : mS} {k : Nat} {x : Int32} : mR (mV' μ k x) = mR μ := rfl
theorem mU_thr {μ : mS} {x : Nat} : mU (thr μ x) = mU μ := rfl
theorem mH_thr {μ : mS} {x : Nat} : mH (thr μ x) = mH μ := rfl
section RO4
variable {p : Program} {l : Launch} {e : Env} {R : Room} {s : State} {m : MethodId} {args : Array Value} {below : List Frame} {meth : Method} {c : Code} {H : Heap} {locs : List Loc} {cells slots : Nat} {Q : State → Prop}
variable {cc : ByteArray} {nL : Nat} {Ts : List Cond} {own : String} {pc : Nat} {ls : Array Slot} {rest : List Value}
theorem r_shr16 (S : CallFix p m c cc nL s args Ts own) {lv : Nat} (h : lv < 5) (hdg : decode cc pc = .ok (.ishr, 1)) (kk : W p l e R s m args below meth c H locs cells slots Q (F0 m (pc + 1) ls (.int (nI (16 / 2 ^ lv)) :: rest))) : W p l e R s m args below meth c H locs cells slots Q (F0 m pc ls (.int (nI lv) :: .int (nI 16) :: rest)) :=
  lv_ishr S.1 S.2.1 hdg (by rw [← shr16 lv h] at kk; exact kk)
theorem r_shl1 (S : CallFix p m c cc nL s args Ts own) {lv : Nat} (h : lv < 31) (hdg : decode cc pc = .ok (.ishl, 1)) (kk : W p l e R s m args below meth c H locs cells slots Q (F0 m (pc + 1) ls (.int (nI (2 ^ lv)) :: rest))) : W p l e R s m args below meth c H locs cells slots Q (F0 m pc ls (.int (nI lv) :: .int (nI 1) :: rest)) :=
  lv_ishl S.1 S.2.1 hdg (by rw [← shl1 lv h] at kk; exact kk)
end RO4
