/-! what the writing methods leave -/
def sdLL (σ : cS) (cs : Int32) (cc : Ch) (L : Nat → List Ch) : Nat → List Ch := fun k => if bitB cs k = true ∧ cU σ k = false ∧ (L k).length < 10 then L k ++ [cc] else L k
def enW (σ : cS) (li : Nat) : Int32 := if li = 0 then -1 else cV σ 4 + nI li
theorem new_set {σ : cS} {x y : Nat × va_E} : cW' (cW' σ (cW σ ++ [x])) ((cW (cW' σ (cW σ ++ [x]))).set (cW σ).length y) = cW' σ (cW σ ++ [y]) := by
  show cW' σ ((cW σ ++ [x]).set (cW σ).length y) = _
  rw [app_set]
theorem app_at {σ : cS} {x : Nat × va_E} : (cW (cW' σ (cW σ ++ [x])))[(cW σ).length]? = some x := by
  show (cW σ ++ [x])[(cW σ).length]? = _
  rw [List.getElem?_append_right (Nat.le_refl _)]
  simp
theorem sdN_W {σ : cS} {w : va_W} {cs : Int32} : ∀ n, sdN (cW' σ w) cs n = sdN σ cs n
  | 0 => rfl
  | n + 1 => by
    unfold sdN
    rw [sdN_W n]
    rfl
theorem sc_sdS {σ τ : cS} (h : sc τ σ) (cc : Ch) (cs : Int32) : ∀ n, sc (sdS τ cc cs n) (sdS σ cc cs n)
  | 0 => sc_goC h 3 cc
  | n + 1 => by
    unfold sdS
    rw [h.2.2.1]
    split
    · exact sc_goC (sc_sdS h cc cs n) n cc
    · exact sc_sdS h cc cs n
theorem send_W {G : wG} {σ ν : cS} {w : va_W} {cs : Int32} {cc : Ch} {L : Nat → List Ch} (h : sc ν (sdS (cW' σ w) cc cs 3) ∧ HI G ν (fun k => if bitB cs k = true ∧ cU (cW' σ w) k = false ∧ (L k).length < 10 then L k ++ [cc] else L k)) : sc ν (sdS σ cc cs 3) ∧ HI G ν (sdLL σ cs cc L) :=
  ⟨sc_tr h.1 (sc_sdS (show sc (cW' σ w) σ from ⟨rfl, rfl, rfl, rfl⟩) cc cs 3), h.2⟩
theorem chE_e {a : Nat} {v sp en : Int32} (h : a < 64) : chE (a, sp, v, en) = .inr (2, [.int (nI a), .int v, .int sp, .int en]) := if_pos h
theorem chE_t {a : Nat} {sp ma en : Int32} : chE (64 + a, sp, ma, en) = .inr (6, [.int (nI a), .int sp, .int ma]) := by
  unfold chE
  rw [if_neg (by omega)]
  show Sum.inr (6, [Value.int (nI (64 + a - 64)), _, _]) = _
  rw [Nat.add_sub_cancel_left]
theorem rgS_r {σ : cS} {a b : Nat} : (rgS σ a b).2 = σ.2 := by
  unfold rgS
  split <;> rfl
theorem HI_rgS {G : wG} {σ : cS} {L : Nat → List Ch} {a b : Nat} (h : HI G σ L) : HI G (rgS σ a b) L := HI_of (c_of rgS_r).2.2.2.2.1 (c_of rgS_r).2.2.2.2.2.1 (c_of rgS_r).2.2.2.2.2.2 h
theorem k_X4_numberOf_n (l : Launch) (G : wG) (σ : cS) (μ : mS) (o : Nat → Int64) (a : Nat) (b : Nat) (hz : rgi σ a b < 8) : Met l yX4_numberOf wsX4_numberOf rm_k_X4_numberOf (wPc G σ μ o [.ref (gA G 1), .int (nI a), .int (nI b)]) (va_Qi (fun (rr : Int32) (u : cS × mS) => rr = nI (rgi σ a b) ∧ u = (rgS σ a b, μ)) (fun u t => wI G u.1 u.2 o t) (gP G)) 0 0 (gP G) := by
  have h := k_X4_numberOf l G σ μ o a b
  rw [show rgR σ a b = nI (rgi σ a b) from if_pos hz] at h
  exact h
