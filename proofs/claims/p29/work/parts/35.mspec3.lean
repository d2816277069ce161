/-! the model: reads with repairs, sums, comparing, making alike, cleaning -/
def maN (set : Int32) : Nat → Nat
  | 0 => 0
  | n + 1 => if bitB set n = true then maN set n + 1 else maN set n
/-- counting -/
def kdM (r : Nat) : Nat := if r < 64 then 0 else if r < 68 then 1 else if r < 84 then 2 else 3
section RO4
variable {p : Program} {l : Launch} {e : Env} {R : Room} {s : State} {m : MethodId} {args : Array Value} {below : List Frame} {meth : Method} {c : Code} {H : Heap} {locs : List Loc} {cells slots : Nat} {Q : State → Prop}
variable {cc : ByteArray} {nL : Nat} {Ts : List Cond} {own : String} {pc : Nat} {ls : Array Slot} {rest : List Value}
theorem r_shr16 (S : CallFix p m c cc nL s args Ts own) {lv : Nat} (h : lv < 5) (hdg : decode cc pc = .ok (.ishr, 1)) (kk : W p l e R s m args below meth c H locs cells slots Q (F0 m (pc + 1) ls (.int (nI (16 / 2 ^ lv)) :: rest))) : W p l e R s m args below meth c H locs cells slots Q (F0 m pc ls (.int (nI lv) :: .int (nI 16) :: rest)) :=
  lv_ishr S.1 S.2.1 hdg (by rw [← shr16 lv h] at kk; exact kk)
theorem r_shl1 (S : CallFix p m c cc nL s args Ts own) {lv : Nat} (h : lv < 31) (hdg : decode cc pc = .ok (.ishl, 1)) (kk : W p l e R s m args below meth c H locs cells slots Q (F0 m (pc + 1) ls (.int (nI (2 ^ lv)) :: rest))) : W p l e R s m args below meth c H locs cells slots Q (F0 m pc ls (.int (nI lv) :: .int (nI 1) :: rest)) :=
  lv_ishl S.1 S.2.1 hdg (by rw [← shl1 lv h] at kk; exact kk)
end RO4
