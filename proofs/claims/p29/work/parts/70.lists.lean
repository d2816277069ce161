/-! hints lie in lists: what the world holds of them -/
/-- a row of ten references -/
abbrev rwE (G : wG) (f : Nat → Option Nat) : va_E := .inl (gC G 3, 10, .inr (.inr (.inr (.inr f))))
/-- the cell of a change -/
def chE (c : Ch) : va_E := if c.1 < 64 then .inr (2, [.int (nI c.1), .int c.2.2.1, .int c.2.1, .int c.2.2.2]) else .inr (6, [.int (nI (c.1 - 64)), .int c.2.1, .int c.2.2.1])
def chAt (σ : cS) (ad : Nat) (c : Ch) : Prop := ∃ q : Nat, (cW σ)[q]? = some (ad, chE c)
/-- what lay there lies there -/
def kp (σ τ : cS) : Prop := ∀ ad c, chAt σ ad c → chAt τ ad c
/-- but for lists and moving cells the same -/
def sc (τ ρ : cS) : Prop := cI τ = cI ρ ∧ cV τ = cV ρ ∧ cU τ = cU ρ ∧ cF τ = cF ρ
def rowAt (G : wG) (σ : cS) (i r : Nat) (f : Nat → Option Nat) (L : List Ch) : Prop := (cW σ)[r]? = some (cE σ i, rwE G f) ∧ cE σ i ≠ gX G 0 ∧ ∀ j c, L[j]? = some c → ∃ ad, f j = some ad ∧ chAt σ ad c
def HL (G : wG) (σ : cS) (i : Nat) (L : List Ch) : Prop := L.length ≤ 10 ∧ cL σ i = L.length ∧ ((L = [] ∧ cE σ i = gX G 0) ∨ ∃ r f, rowAt G σ i r f L)
def HI (G : wG) (σ : cS) (L : Nat → List Ch) : Prop := (∀ i, i < 3 → HL G σ i (L i)) ∧ ∀ i j, i < 3 → j < 3 → cE σ i = cE σ j → cE σ i = gX G 0 ∨ i = j
theorem sc_rf {σ : cS} : sc σ σ := ⟨rfl, rfl, rfl, rfl⟩
theorem sc_tr {a b c : cS} (h : sc a b) (g : sc b c) : sc a c := ⟨h.1.trans g.1, h.2.1.trans g.2.1, h.2.2.1.trans g.2.2.1, h.2.2.2.trans g.2.2.2⟩
theorem kp_rf {σ : cS} : kp σ σ := fun _ _ h => h
theorem kp_tr {a b c : cS} (h : kp a b) (g : kp b c) : kp a c := fun ad x z => g ad x (h ad x z)
theorem kp_of {σ τ : cS} (h : cW τ = cW σ) : kp σ τ := fun ad c ⟨q, z⟩ => ⟨q, by rw [h]; exact z⟩
theorem HI_of {G : wG} {σ τ : cS} {L : Nat → List Ch} (h1 : cL τ = cL σ) (h2 : cE τ = cE σ) (h3 : cW τ = cW σ) (h : HI G σ L) : HI G τ L := by
  unfold HI HL rowAt chAt at *
  rw [h1, h2, h3]
  exact h
theorem HI_goC {G : wG} {σ : cS} {L : Nat → List Ch} {t : Nat} {c : Ch} (h : HI G σ L) : HI G (goC σ t c) L :=
  HI_of (c_of goC_r).2.2.2.2.1 (c_of goC_r).2.2.2.2.2.1 (c_of goC_r).2.2.2.2.2.2 h
theorem kp_goC {σ : cS} {t : Nat} {c : Ch} : kp σ (goC σ t c) := kp_of (c_of goC_r).2.2.2.2.2.2
theorem chE_inr (c : Ch) : ∃ x, chE c = .inr x := by
  unfold chE
  split
  · exact ⟨_, rfl⟩
  · exact ⟨_, rfl⟩
/-- the core of what takes -/
theorem sE_sc {σ τ : cS} (h : sc τ σ) (t k : Nat) : sE τ t k = sE σ t k := by unfold sE; rw [h.1]
theorem sT_sc {σ τ : cS} (h : sc τ σ) (t k : Nat) : sT τ t k = sT σ t k := by unfold sT; rw [h.1]
theorem cI_put3 {σ τ : cS} (h : cI τ = cI σ) (p k : Nat) (x : Int32) : cI (w1 τ p k x) = cI (w1 σ p k x) := by
  show va_up τ.1 p (upd (τ.1 p) k x) = va_up σ.1 p (upd (σ.1 p) k x)
  rw [show τ.1 = σ.1 from h]
theorem sc_w1 {σ τ : cS} (h : sc τ σ) (p k : Nat) (x : Int32) : sc (w1 τ p k x) (w1 σ p k x) := ⟨cI_put3 h.1 p k x, h.2⟩
theorem sc_goC {σ τ : cS} (h : sc τ σ) (t : Nat) (c : Ch) : sc (goC τ t c) (goC σ t c) := by
  unfold goC
  split
  · rw [takE_eq, takE_eq, sE_sc h]
    split
    · exact sc_w1 (sc_w1 (sc_w1 h _ _ _) _ _ _) _ _ _
    · exact h
  · rw [takT_eq, takT_eq, sT_sc h]
    split
    · exact sc_w1 (sc_w1 h _ _ _) _ _ _
    · exact h
/-- a change that is new -/
theorem kp_app {σ τ : cS} {w : va_W} (h : cW τ = cW σ ++ w) : kp σ τ := fun ad c ⟨q, z⟩ => ⟨q, by
  rw [h, List.getElem?_append_left (List.getElem?_eq_some_iff.mp z).1]; exact z⟩
theorem kp_push {σ : cS} {w : va_W} : kp σ (cW' σ (cW σ ++ w)) := fun ad c ⟨q, z⟩ => ⟨q, by
  show (cW σ ++ w)[q]? = _
  rw [List.getElem?_append_left (List.getElem?_eq_some_iff.mp z).1]; exact z⟩
theorem row_push {G : wG} {σ : cS} {i r : Nat} {f : Nat → Option Nat} {L : List Ch} {w : va_W} (h : rowAt G σ i r f L) : rowAt G (cW' σ (cW σ ++ w)) i r f L :=
  ⟨by show (cW σ ++ w)[r]? = _; rw [List.getElem?_append_left (List.getElem?_eq_some_iff.mp h.1).1]; exact h.1, h.2.1, fun j c z => by
    obtain ⟨ad, h1, h2⟩ := h.2.2 j c z
    exact ⟨ad, h1, kp_push ad c h2⟩⟩
theorem HI_push {G : wG} {σ : cS} {L : Nat → List Ch} {w : va_W} (h : HI G σ L) : HI G (cW' σ (cW σ ++ w)) L := by
  refine ⟨fun i hi => ?_, h.2⟩
  obtain ⟨h1, h2, h3⟩ := h.1 i hi
  exact ⟨h1, h2, h3.imp id (fun ⟨r, f, z⟩ => ⟨r, f, row_push z⟩)⟩
/-- a row is written -/
theorem ch_set {σ : cS} {r a : Nat} {x y : ClassId × vp_A} {w : va_W} (hr : (cW σ)[r]? = some (a, .inl x)) (hw : w = (cW σ).set r (a, .inl y)) : ∀ ad c, chAt σ ad c → ∃ q : Nat, w[q]? = some (ad, chE c) := by
  rintro ad c ⟨q, z⟩
  refine ⟨q, ?_⟩
  have hne : r ≠ q := by
    intro e
    subst e
    rw [hr] at z
    obtain ⟨v, hv⟩ := chE_inr c
    rw [hv] at z
    cases z
  rw [hw, List.getElem?_set_ne hne]
  exact z
/-- the new states of a list -/
def addS (G : wG) (σ : cS) (i r n e : Nat) (f : Nat → Option Nat) : cS := cL' (cW' (cM' σ i (cM σ i + nI 1)) ((cW σ).set r (cE σ i, rwE G (va_up f n (some e))))) i (n + 1)
def newS (G : wG) (σ : cS) (i q e : Nat) : cS := cL' (cE' (cW' (cM' σ i (cM σ i + nI 1)) (cW σ ++ [(q, rwE G (va_up (fun _ => none) 0 (some e)))])) i q) i 1
def nul (f : Nat → Option Nat) (j : Nat) : Nat → Option Nat := fun k => if k < j then none else f k
def clrS (G : wG) (σ : cS) (i r : Nat) (f : Nat → Option Nat) (j : Nat) : cS := cW' (cL' (cM' σ i (cM σ i + nI 1)) i 0) ((cW σ).set r (cE σ i, rwE G (nul f j)))
theorem row_other {G : wG} {σ τ : cS} {i k r r' : Nat} {f f' g : Nat → Option Nat} {L : List Ch} {y : Nat → Option Nat} (hr : (cW σ)[r]? = some (cE σ i, rwE G f)) (hw : cW τ = (cW σ).set r (cE σ i, rwE G y)) (hE : cE τ k = cE σ k) (hne : cE σ k = cE σ i → False) (h : rowAt G σ k r' g L) : rowAt G τ k r' g L := by
  refine ⟨?_, by rw [hE]; exact h.2.1, fun j c z => ?_⟩
  · rw [hw, hE, List.getElem?_set_ne]
    · exact h.1
    · intro e
      subst e
      have := h.1
      rw [hr] at this
      exact hne (congrArg Prod.fst (Option.some.inj this)).symm
  · obtain ⟨ad, h1, h2⟩ := h.2.2 j c z
    obtain ⟨q, hq⟩ := ch_set hr hw ad c h2
    exact ⟨ad, h1, q, hq⟩
theorem HI_add {G : wG} {σ : cS} {L : Nat → List Ch} {i r e : Nat} {f : Nat → Option Nat} {c : Ch} (h : HI G σ L) (hi : i < 3) (hr : rowAt G σ i r f (L i)) (hn : (L i).length < 10) (he : chAt σ e c) : HI G (addS G σ i r (L i).length e f) (va_up L i (L i ++ [c])) ∧ kp σ (addS G σ i r (L i).length e f) := by
  have hk : kp σ (addS G σ i r (L i).length e f) := fun ad c z => ch_set hr.1 (w := cW (addS G σ i r (L i).length e f)) rfl ad c z
  refine ⟨⟨fun k hk3 => ?_, h.2⟩, hk⟩
  by_cases hki : k = i
  · subst hki
    rw [va_up_self]
    refine ⟨by simp; omega, by show va_up (cL σ) k _ k = _; rw [va_up_self]; simp, Or.inr ⟨r, va_up f (L k).length (some e), ?_, hr.2.1, fun j d hj => ?_⟩⟩
    · show ((cW σ).set r _)[r]? = _
      rw [List.getElem?_set_self (List.getElem?_eq_some_iff.mp hr.1).1]
      rfl
    · by_cases hjl : j < (L k).length
      · rw [List.getElem?_append_left hjl] at hj
        obtain ⟨ad, h1, h2⟩ := hr.2.2 j d hj
        exact ⟨ad, by rw [va_up_ne _ _ (by omega)]; exact h1, hk ad d h2⟩
      · rw [List.getElem?_append_right (by omega)] at hj
        have hj0 : j - (L k).length < 1 := (List.getElem?_eq_some_iff.mp hj).1
        obtain rfl : j = (L k).length := by omega
        simp at hj
        subst hj
        exact ⟨e, va_up_self _ _ _, hk e c he⟩
  · rw [va_up_ne _ _ hki]
    obtain ⟨h1, h2, h3⟩ := h.1 k hk3
    refine ⟨h1, by show va_up (cL σ) i _ k = _; rw [va_up_ne _ _ hki]; exact h2, h3.imp id (fun ⟨r', g, z⟩ => ⟨r', g, row_other (f' := f) hr.1 (y := va_up f (L i).length (some e)) rfl rfl (fun q => ?_) z⟩)⟩
    rcases h.2 k i hk3 hi q with q2 | q2
    · exact z.2.1 q2
    · exact hki q2
theorem HI_new {G : wG} {σ : cS} {L : Nat → List Ch} {i q e : Nat} {c : Ch} (h : HI G σ L) (hi : i < 3) (hL : L i = []) (he : chAt σ e c) (hq0 : q ≠ gX G 0) (hq : ∀ k, k < 3 → cE σ k ≠ q) : HI G (newS G σ i q e) (va_up L i (L i ++ [c])) ∧ kp σ (newS G σ i q e) := by
  have hk : kp σ (newS G σ i q e) := kp_app rfl
  have hE : ∀ k, cE (newS G σ i q e) k = if k = i then q else cE σ k := fun k => rfl
  refine ⟨⟨fun k hk3 => ?_, fun a b ha hb => ?_⟩, hk⟩
  · by_cases hki : k = i
    · subst hki
      rw [va_up_self, hL]
      refine ⟨by simp, by show va_up (cL σ) k _ k = _; rw [va_up_self]; rfl, Or.inr ⟨(cW σ).length, va_up (fun _ => none) 0 (some e), ?_, by rw [hE, if_pos rfl]; exact hq0, fun j d hj => ?_⟩⟩
      · rw [hE, if_pos rfl]
        show (cW σ ++ [_])[(cW σ).length]? = _
        rw [List.getElem?_append_right (Nat.le_refl _)]
        simp
      · have hj0 : j < 1 := (List.getElem?_eq_some_iff.mp hj).1
        obtain rfl : j = 0 := by omega
        simp at hj
        subst hj
        exact ⟨e, va_up_self _ _ _, hk e c he⟩
    · rw [va_up_ne _ _ hki]
      obtain ⟨h1, h2, h3⟩ := h.1 k hk3
      refine ⟨h1, by show va_up (cL σ) i _ k = _; rw [va_up_ne _ _ hki]; exact h2, ?_⟩
      rcases h3 with ⟨z1, z2⟩ | ⟨r', g, z1, z2, z3⟩
      · exact Or.inl ⟨z1, by rw [hE, if_neg hki]; exact z2⟩
      · refine Or.inr ⟨r', g, ?_, by rw [hE, if_neg hki]; exact z2, fun j d hj => ?_⟩
        · rw [hE, if_neg hki]
          show (cW σ ++ [_])[r']? = _
          rw [List.getElem?_append_left (List.getElem?_eq_some_iff.mp z1).1]
          exact z1
        · obtain ⟨ad, g1, g2⟩ := z3 j d hj
          exact ⟨ad, g1, hk ad d g2⟩
  · rw [hE, hE]
    by_cases h1 : a = i <;> by_cases h2 : b = i
    · intro _; exact Or.inr (h1.trans h2.symm)
    · rw [if_pos h1, if_neg h2]; intro z; exact absurd z.symm (hq b hb)
    · rw [if_neg h1, if_pos h2]; intro z; exact absurd z (hq a ha)
    · rw [if_neg h1, if_neg h2]; exact h.2 a b ha hb
theorem HI_clr {G : wG} {σ : cS} {L : Nat → List Ch} {i r : Nat} {f : Nat → Option Nat} (h : HI G σ L) (hi : i < 3) (hr : rowAt G σ i r f (L i)) (j : Nat) : HI G (clrS G σ i r f j) (va_up L i []) ∧ kp σ (clrS G σ i r f j) := by
  have hk : kp σ (clrS G σ i r f j) := fun ad c z => ch_set hr.1 (w := cW (clrS G σ i r f j)) rfl ad c z
  refine ⟨⟨fun k hk3 => ?_, h.2⟩, hk⟩
  by_cases hki : k = i
  · subst hki
    rw [va_up_self]
    refine ⟨by simp, by show va_up (cL σ) k _ k = _; rw [va_up_self]; rfl, Or.inr ⟨r, nul f j, ?_, hr.2.1, fun j c z => by simp at z⟩⟩
    show ((cW σ).set r _)[r]? = _
    rw [List.getElem?_set_self (List.getElem?_eq_some_iff.mp hr.1).1]
    rfl
  · rw [va_up_ne _ _ hki]
    obtain ⟨h1, h2, h3⟩ := h.1 k hk3
    refine ⟨h1, by show va_up (cL σ) i _ k = _; rw [va_up_ne _ _ hki]; exact h2, h3.imp id (fun ⟨r', g, z⟩ => ⟨r', g, row_other (f' := f) hr.1 (y := nul f j) rfl rfl (fun q => ?_) z⟩)⟩
    rcases h.2 k i hk3 hi q with q2 | q2
    · exact z.2.1 q2
    · exact hki q2
theorem HI_clr0 {G : wG} {σ : cS} {L : Nat → List Ch} {i : Nat} (h : HI G σ L) (hL : L i = []) : HI G (cL' (cM' σ i (cM σ i + nI 1)) i 0) (va_up L i []) := by
  have e : va_up L i [] = L := by
    funext k
    by_cases hk : k = i
    · subst hk; rw [va_up_self, hL]
    · rw [va_up_ne _ _ hk]
  rw [e]
  refine ⟨fun k hk3 => ?_, h.2⟩
  obtain ⟨h1, h2, h3⟩ := h.1 k hk3
  refine ⟨h1, ?_, h3⟩
  show va_up (cL σ) i 0 k = _
  by_cases hk : k = i
  · subst hk; rw [va_up_self, hL]; rfl
  · rw [va_up_ne _ _ hk]; exact h2
theorem nul_0 (f : Nat → Option Nat) : nul f 0 = f := by funext k; unfold nul; rw [if_neg (Nat.not_lt_zero _)]
theorem nul_s (f : Nat → Option Nat) (j : Nat) : va_up (nul f j) j none = nul f (j + 1) := by
  funext k
  unfold nul va_up
  by_cases h : k = j
  · rw [if_pos h, if_pos (by omega)]
  · rw [if_neg h]
    show (if k < j then none else f k) = _
    by_cases h2 : k < j
    · rw [if_pos h2, if_pos (by omega)]
    · rw [if_neg h2, if_neg (by omega)]
theorem set_same {α : Type} {l : List α} {r : Nat} {x : α} (h : l[r]? = some x) : l.set r x = l := by
  apply List.ext_getElem?
  intro k
  rw [List.getElem?_set]
  split
  · rename_i e
    subst e
    split
    · exact h.symm
    · rename_i h2; exact absurd (List.getElem?_eq_some_iff.mp h).1 h2
  · rfl
section RW2
variable {p : Program} {l : Launch} {e : Env} {R : Room} {s : State} {m : MethodId} {args : Array Value} {below : List Frame} {meth : Method} {c : Code} {H : Heap} {locs : List Loc} {cells slots : Nat} {Q : State → Prop}
variable {cc : ByteArray} {nL : Nat} {Ts : List Cond} {own : String} {G : wG} {σ : cS} {μ : mS} {o : Nat → Int64} {pc : Nat} {ls : Array Slot} {rest : List Value}
theorem wZ_W {w : va_W} {H1 : Heap} {locs1 : List Loc} (Z : wZ G σ μ o s H locs) (hP : va_P (gD G) vwCl (Wl G (cW' σ w) μ o) H1) (hD : va_D (gP G) (Wl G (cW' σ w) μ o)) (hS : va_S (gP G) s.heap H1 locs1) : wZ G (cW' σ w) μ o s H1 locs1 := ⟨Z.1, Z.2.1, hP, hD, hS⟩
/-- a reference of a row -/
theorem r_aldW (S : CallFix p m c cc nL s args Ts own) (Z : wZ G σ μ o s H locs) {r j a v : Nat} {f : Nat → Option Nat} (hr : (cW σ)[r]? = some (a, rwE G f)) (hj : j < 10) (hf : f j = some v) (hdg : decode cc pc = .ok (.aaload, 1))
    (kk : W p l e R s m args below meth c H locs cells slots Q (F0 m (pc + 1) ls (.ref v :: rest))) : W p l e R s m args below meth c H locs cells slots Q (F0 m pc ls (.int (nI j) :: .ref a :: rest)) :=
  va_aldq S.1 S.2.1 Z.2.1.1 Z.2.2.1 (39 + μ.length + r) 3 (wl_mv hr) rfl (vp_in_nI hj (by decide)) hdg (by rw [nI_clamp (Nat.lt_trans hj (by decide)), hf]; exact kk)
/-- a change is put into a row -/
theorem r_astW (S : CallFix p m c cc nL s args Ts own) (Z : wZ G σ μ o s H locs) {r j a v qk ci : Nat} {vs : List Value} {C : vw_C} {f : Nat → Option Nat} (hr : (cW σ)[r]? = some (a, rwE G f)) (hj : j < 10) (hv : (Wl G σ μ o)[qk]? = some (v, .inr (ci, vs))) (hc : vwCl[ci]? = some C) (hca : Cond.castable C.1 "java/lang/Object" ∈ wN) (hdg : decode cc pc = .ok (.aastore, 1))
    (kk : ∀ (H1 : Heap) (locs1 : List Loc), wZ G (cW' σ ((cW σ).set r (a, rwE G (va_up f j (some v))))) μ o s H1 locs1 → W p l e R s m args below meth c H1 locs1 cells slots Q (F0 m (pc + 1) ls rest)) : W p l e R s m args below meth c H locs cells slots Q (F0 m pc ls (.ref v :: .int (nI j) :: .ref a :: rest)) := by
  refine va_astqO S.1 S.2.1 Z.2.1.1 Z.2.2.1 Z.2.2.2.1 Z.2.2.2.2 (39 + μ.length + r) 3 qk ci (wl_mv hr) rfl (Z.2.1.2.1 _ hca) hv hc (vp_in_nI hj (by decide)) hdg (fun H1 locs1 hP hD hS => ?_)
  rw [nI_clamp (Nat.lt_trans hj (by decide)), wl_setW] at hP hD
  exact kk H1 locs1 (wZ_W Z hP hD hS)
theorem r_astWN (S : CallFix p m c cc nL s args Ts own) (Z : wZ G σ μ o s H locs) {r j a : Nat} {f : Nat → Option Nat} (hr : (cW σ)[r]? = some (a, rwE G f)) (hj : j < 10) (hdg : decode cc pc = .ok (.aastore, 1))
    (kk : ∀ (H1 : Heap) (locs1 : List Loc), wZ G (cW' σ ((cW σ).set r (a, rwE G (va_up f j none)))) μ o s H1 locs1 → W p l e R s m args below meth c H1 locs1 cells slots Q (F0 m (pc + 1) ls rest)) : W p l e R s m args below meth c H locs cells slots Q (F0 m pc ls (.null :: .int (nI j) :: .ref a :: rest)) := by
  refine va_astqN S.1 S.2.1 Z.2.1.1 Z.2.2.1 Z.2.2.2.1 Z.2.2.2.2 (39 + μ.length + r) 3 (wl_mv hr) rfl (vp_in_nI hj (by decide)) hdg (fun H1 locs1 hP hD hS => ?_)
  rw [nI_clamp (Nat.lt_trans hj (by decide)), wl_setW] at hP hD
  exact kk H1 locs1 (wZ_W Z hP hD hS)
theorem r_alenW (S : CallFix p m c cc nL s args Ts own) (Z : wZ G σ μ o s H locs) {r a : Nat} {f : Nat → Option Nat} (hr : (cW σ)[r]? = some (a, rwE G f)) (hdg : decode cc pc = .ok (.arraylength, 1))
    (kk : W p l e R s m args below meth c H locs cells slots Q (F0 m (pc + 1) ls (.int (nI 10) :: rest))) : W p l e R s m args below meth c H locs cells slots Q (F0 m pc ls (.ref a :: rest)) :=
  va_alen S.1 S.2.1 Z.2.1.1 Z.2.2.1 (39 + μ.length + r) 3 (wl_mv hr) rfl rfl hdg kk
/-- the empty row that all lists begin with -/
theorem r_alen0 (S : CallFix p m c cc nL s args Ts own) (Z : wZ G σ μ o s H locs) (hdg : decode cc pc = .ok (.arraylength, 1))
    (kk : W p l e R s m args below meth c H locs cells slots Q (F0 m (pc + 1) ls (.int (nI 0) :: rest))) : W p l e R s m args below meth c H locs cells slots Q (F0 m pc ls (.ref (gX G 0) :: rest)) :=
  va_tlen S.1 S.2.1 Z.2.1.2.2.2.2.2.2.2.2.1 Z.2.2.2.2 rfl hdg kk
theorem r_gets0 (S : CallFix p m c cc nL s args Ts own) (Z : wZ G σ μ o s H locs) {index : Nat} (hl : Cond.fieldLink own index "java/util/ArrayList" "DEFAULTCAPACITY_EMPTY_ELEMENTDATA" "[Ljava/lang/Object;" ∈ Ts) (hdg : decode cc pc = .ok (.getstatic index, 3))
    (kk : W p l e R s m args below meth c H locs cells slots Q (F0 m (pc + 3) ls (.ref (gX G 0) :: rest))) : W p l e R s m args below meth c H locs cells slots Q (F0 m pc ls rest) :=
  va_gets S.1 S.2.1 Z.2.1.2.2.2.2.2.2.2.1 Z.2.2.2.2 S.2.2.2.1 (S.2.2.2.2 _ hl) (fun _ h => h) hdg kk
theorem gX_lt (Z : wZ G σ μ o s H locs) : gX G 0 < gN G := Z.2.1.2.2.2.2.2.2.2.2.2.1
/-- a row of ten is made -/
theorem r_newW (S : CallFix p m c cc nL s args Ts own) (Z : wZ G σ μ o s H locs) {index : Nat} (hl : Cond.classLink own index "java/lang/Object" ∈ Ts) (hcells : cells + 1 ≤ R.cells) (hslots : slots + 10 ≤ R.slots) (hdg : decode cc pc = .ok (.anewarray index, 3))
    (kk : ∀ (q : Nat) (H1 : Heap), wZ G (cW' σ (cW σ ++ [(q, rwE G (fun _ => none))])) μ o s H1 locs → W p l e R s m args below meth c H1 locs (cells + 1) (slots + 10) Q (F0 m (pc + 3) ls (.ref q :: rest))) : W p l e R s m args below meth c H locs cells slots Q (F0 m pc ls (.int (nI 10) :: rest)) := by
  refine va_newq S.1 S.2.1 S.2.2.2.1 (S.2.2.2.2 _ hl) Z.2.1.2.2.2.2.2.2.2.2.2.2.1 Z.2.1.1 Z.2.2.1 Z.2.2.2.1 Z.2.2.2.2 (wZ_A Z) (nI_pos (by decide)) (nI_clamp (by decide)) (by decide) hcells hslots hdg (fun q cA H1 hK hP hD hS => ?_)
  have e : cA = gC G 3 := by
    obtain ⟨-, kA, comp, -, -, -, h1⟩ := hK.2 4 (cA, .object "java/lang/Object") rfl
    obtain ⟨-, kB, comp2, -, -, -, h2⟩ := Z.2.1.1.2 3 (gC G 3, .object "java/lang/Object") rfl
    exact Option.some.inj (h1.symm.trans h2)
  subst e
  rw [wl_push] at hP hD
  exact kk q H1 (wZ_W Z hP hD hS)
/-- an object is made -/
theorem r_newO (S : CallFix p m c cc nL s args Ts own) (Z : wZ G σ μ o s H locs) {C : String} {T : u_T} {N ci index : Nat} {fs : List Value} (ty : Nat → FieldType) (hty : ∀ k, k < N → parseFieldDescriptor (T k).2.2.1 = some (ty k)) (hin : ∀ w ∈ u_ws C T N, w ∈ Ts) (hl : Cond.classLink own index C ∈ Ts) (hi : Cond.instantiable C N ∈ Ts) (hz : Cond.initialized C ∈ Ts) (hc : vwCl[ci]? = some (C, T, N)) (hfs : ∀ j, j < N → defaultValue (ty j) = vp_V fs j) (hcells : cells + 1 ≤ R.cells) (hslots : slots + N ≤ R.slots) (hdg : decode cc pc = .ok (.new index, 3))
    (kk : ∀ (q : Nat) (H1 : Heap), wZ G (cW' σ (cW σ ++ [(q, .inr (ci, fs))])) μ o s H1 locs → W p l e R s m args below meth c H1 locs (cells + 1) (slots + N) Q (F0 m (pc + 3) ls (.ref q :: rest))) : W p l e R s m args below meth c H locs cells slots Q (F0 m pc ls rest) := by
  refine va_new S.1 S.2.1 S.2.2.2.2 hin ty hty S.2.2.2.1 (S.2.2.2.2 _ hl) (S.2.2.2.2 _ hi) (S.2.2.2.2 _ hz) Z.2.1.1 Z.2.2.1 Z.2.2.2.1 Z.2.2.2.2 (wZ_A Z) hc hfs hcells hslots hdg (fun q H1 hP hD hS => ?_)
  rw [wl_push] at hP hD
  exact kk q H1 (wZ_W Z hP hD hS)
/-- a field of an object that moves, in its constructor -/
theorem r_putFW {ref C : String} {T : u_T} {N ci index r : Nat} {ad : Addr} (S : CallFix p m c cc nL s args Ts own) (Z : wZ G σ μ o s H locs) {fs : List Value} (hr : (cW σ)[r]? = some (ad, .inr (ci, fs))) (hc : vwCl[ci]? = some (C, T, N)) (hin : ∀ w ∈ u_ws C T N, w ∈ Ts) (ty0 : Nat → FieldType) (hty : ∀ k, k < N → parseFieldDescriptor (T k).2.2.1 = some (ty0 k)) (hnm : ∀ a, a < N → ∀ b, b < N → a ≠ b → (T a).2.1 ≠ (T b).2.1) (j : Nat) (hj : j < N) (hlink : Cond.fieldLink own index ref (T j).2.1 (T j).2.2.1 ∈ Ts) (hsame : (T j).1 = ref) (hfin : (T j).2.2.2 = true) (hini : meth.name = "<init>") (hdecl : (T j).1 = own) {ty : FieldType} {v : Value} (hd : parseFieldDescriptor (T j).2.2.1 = some ty) (hn : narrow ty v = v) (hfit : fits ty v = true) (hl : j < fs.length) (hdg : decode cc pc = .ok (.putfield index, 3))
    (kk : ∀ (H1 : Heap) (locs1 : List Loc), wZ G (cW' σ ((cW σ).set r (ad, .inr (ci, fs.set j v)))) μ o s H1 locs1 → W p l e R s m args below meth c H1 locs1 cells slots Q (F0 m (pc + 3) ls rest)) : W p l e R s m args below meth c H locs cells slots Q (F0 m pc ls (v :: .ref ad :: rest)) := by
  refine va_putF S.1 S.2.1 S.2.2.2.2 hin ty0 hty hnm S.2.2.2.1 Z.2.1.1 Z.2.2.1 Z.2.2.2.1 Z.2.2.2.2 (39 + μ.length + r) (wl_mv hr) hc j hj (S.2.2.2.2 _ hlink) (fun x h => by rw [← hsame]; exact h) hfin hini hdecl hd hn hfit hl hdg (fun H1 locs1 hP hD hS => ?_)
  rw [wl_setW] at hP hD
  exact kk H1 locs1 (wZ_W Z hP hD hS)
/-- where the cells of a world lie -/
theorem Wl_ge (Z : wZ G σ μ o s H locs) {q : Nat} {x : Nat × va_E} (h : (Wl G σ μ o)[q]? = some x) : gN G ≤ x.1 := Z.2.2.2.1.2 q x h
/-- the last cell lies nowhere else -/
theorem last_new {w : va_E} {q : Nat} (Z : wZ G (cW' σ (cW σ ++ [(q, w)])) μ o s H locs) {r : Nat} {x : Nat × va_E} (h : (cW σ)[r]? = some x) : x.1 ≠ q := by
  have hlt := (List.getElem?_eq_some_iff.mp h).1
  have h1 : (Wl G (cW' σ (cW σ ++ [(q, w)])) μ o)[39 + μ.length + r]? = some x := wl_mv (c := cW' σ (cW σ ++ [(q, w)])) (by show (cW σ ++ [(q, w)])[r]? = _; rw [List.getElem?_append_left hlt]; exact h)
  have h2 : (Wl G (cW' σ (cW σ ++ [(q, w)])) μ o)[39 + μ.length + (cW σ).length]? = some (q, w) := wl_mv (c := cW' σ (cW σ ++ [(q, w)])) (by show (cW σ ++ [(q, w)])[(cW σ).length]? = _; rw [List.getElem?_append_right (Nat.le_refl _)]; simp)
  intro e
  have := Z.2.2.2.1.1 _ _ _ _ h1 h2 e
  omega
theorem last_ok {w : va_E} {q : Nat} {L : Nat → List Ch} (Z : wZ G (cW' σ (cW σ ++ [(q, w)])) μ o s H locs) (h : HI G σ L) : q ≠ gX G 0 ∧ ∀ k, k < 3 → cE σ k ≠ q := by
  have h2 : (Wl G (cW' σ (cW σ ++ [(q, w)])) μ o)[39 + μ.length + (cW σ).length]? = some (q, w) := wl_mv (c := cW' σ (cW σ ++ [(q, w)])) (by show (cW σ ++ [(q, w)])[(cW σ).length]? = _; rw [List.getElem?_append_right (Nat.le_refl _)]; simp)
  have hq : gN G ≤ q := Wl_ge Z h2
  have hx : gX G 0 < gN G := gX_lt Z
  refine ⟨by omega, fun k hk => ?_⟩
  obtain ⟨-, -, ⟨-, z⟩ | ⟨r, f, z, -⟩⟩ := h.1 k hk
  · rw [z]; omega
  · exact last_new Z z
end RW2
theorem n_decl : Cond.declares ⟨"WideCell$Change", "goTo", "(LWideCell$Table;)V"⟩ ∈ wN := List.mem_of_getElem? (i := 18) rfl
theorem n_castE : Cond.castable "WideCell$EntryChange" "WideCell$Change" ∈ wN := List.mem_of_getElem? (i := 14) rfl
theorem n_castT : Cond.castable "WideCell$TombstoneChange" "WideCell$Change" ∈ wN := List.mem_of_getElem? (i := 15) rfl
theorem n_objE : Cond.castable "WideCell$EntryChange" "java/lang/Object" ∈ wN := List.mem_of_getElem? (i := 16) rfl
theorem n_objT : Cond.castable "WideCell$TombstoneChange" "java/lang/Object" ∈ wN := List.mem_of_getElem? (i := 17) rfl
