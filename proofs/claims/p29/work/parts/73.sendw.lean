/-! what sending leaves, in words of the lists -/
theorem tw_set {σ : cS} {k : Nat} {x y : Nat × va_E} : cW' (cW' σ ((cW σ).set k x)) ((cW (cW' σ ((cW σ).set k x))).set k y) = cW' σ ((cW σ).set k y) := by
  show cW' σ (((cW σ).set k x).set k y) = _
  rw [List.set_set]
theorem set_at {σ : cS} {k : Nat} {x y : Nat × va_E} (h : (cW σ)[k]? = some x) : (cW (cW' σ ((cW σ).set k y)))[k]? = some y := by
  show ((cW σ).set k y)[k]? = some y
  rw [List.getElem?_set_self (List.getElem?_eq_some_iff.mp h).1]
theorem ch_obj (c : Ch) : ∃ (ci : Nat) (vs : List Value) (CC : vw_C), chE c = .inr (ci, vs) ∧ vwCl[ci]? = some CC ∧ Cond.castable CC.1 "java/lang/Object" ∈ wN ∧ Cond.castable CC.1 "WideCell$Change" ∈ wN := by
  unfold chE
  split
  · exact ⟨2, _, (RX2, TX2, 4), rfl, rfl, n_objE, n_castE⟩
  · exact ⟨6, _, (RX6, TX6, 3), rfl, rfl, n_objT, n_castT⟩
theorem ok_lt {c : Ch} (h : okC c) : c.1 < 156 := by
  rcases h with h | h
  · omega
  · exact h.2.1
theorem rec_U {σ τ : cS} {i : Nat} {cc : Ch} (h : sc τ (if cU σ i = true then goC σ i cc else σ)) : cU τ i = cU σ i := by
  rw [h.2.2.1]
  split
  · rw [(c_of goC_r).2.1]
  · rfl
theorem cuS_0 {σ : cS} {i : Nat} {L : List Ch} : sc (cU' σ i true) (cuS σ i (L.take 0)) := by
  rw [List.take_zero]; exact sc_rf
theorem cuS_app {σ : cS} {i j : Nat} {L : List Ch} {c : Ch} (h : L[j]? = some c) : cuS σ i (L.take (j + 1)) = goC (cuS σ i (L.take j)) i c := by
  unfold cuS
  rw [List.take_succ, h, List.foldl_append]
  rfl
theorem cuS_s {σ τ : cS} {i j : Nat} {L : List Ch} {c : Ch} (h : sc τ (cuS σ i (L.take j))) (hc : L[j]? = some c) : sc (goC τ i c) (cuS σ i (L.take (j + 1))) := by
  rw [cuS_app hc]
  exact sc_goC h i c
theorem up_end {G : wG} {σ τ ν : cS} {i j : Nat} {L : Nat → List Ch} (hj : (L i).length ≤ j) (h : sc τ (cuS σ i ((L i).take j))) (hp : sc ν τ ∧ HI G ν (va_up L i []) ∧ kp τ ν) : sc ν (cuS σ i (L i)) ∧ HI G ν (va_up L i []) := by
  rw [List.take_of_length_le hj] at h
  exact ⟨sc_tr hp.1 h, hp.2.1⟩
theorem new_ok {s : State} {G : wG} {σ : cS} {μ : mS} {o : Nat → Int64} {H : Heap} {locs : List Loc} {L : Nat → List Ch} {i q e0 : Nat} (Z : wZ G (newS G σ i q e0) μ o s H locs) (h : HI G σ L) : q ≠ gX G 0 ∧ ∀ k, k < 3 → cE σ k ≠ q := by
  have hl : (cW (newS G σ i q e0))[(cW σ).length]? = some (q, rwE G (va_up (fun _ => none) 0 (some e0))) := by
    show (cW σ ++ [_])[(cW σ).length]? = _
    rw [List.getElem?_append_right (Nat.le_refl _)]
    simp
  have h2 := wl_mv (G := G) (m := μ) (o := o) hl
  have hq : gN G ≤ q := Wl_ge Z h2
  have hx : gX G 0 < gN G := gX_lt Z
  refine ⟨by omega, fun k hk => ?_⟩
  obtain ⟨-, -, ⟨-, z⟩ | ⟨r, f, z, -⟩⟩ := h.1 k hk
  · rw [z]; omega
  · have h1 : (cW (newS G σ i q e0))[r]? = some (cE σ k, rwE G f) := by
      show (cW σ ++ [_])[r]? = _
      rw [List.getElem?_append_left (List.getElem?_eq_some_iff.mp z).1]
      exact z
    intro e9
    have := Z.2.2.2.1.1 _ _ _ _ (wl_mv (G := G) (m := μ) (o := o) h1) h2 e9
    have hlt := (List.getElem?_eq_some_iff.mp z).1
    omega
theorem send_sc {σ τ ν : cS} {cs : Int32} {i : Nat} {cc : Ch} (hb : bitB cs i = true) (hU : cU τ i = cU σ i) (hs : sc τ (sdS σ cc cs i)) (h : sc ν (if cU τ i = true then goC τ i cc else τ)) : sc ν (sdS σ cc cs (i + 1)) := by
  unfold sdS
  by_cases hu : cU σ i = true
  · rw [if_pos (by rw [hU]; exact hu)] at h
    rw [if_pos ⟨hb, hu⟩]
    exact sc_tr h (sc_goC hs i cc)
  · rw [if_neg (by rw [hU]; exact hu)] at h
    rw [if_neg (fun z => hu z.2)]
    exact sc_tr h hs
theorem send_sc0 {σ τ : cS} {cs : Int32} {i : Nat} {cc : Ch} (hb : bitB cs i = false) (hs : sc τ (sdS σ cc cs i)) : sc τ (sdS σ cc cs (i + 1)) := by
  unfold sdS
  rw [if_neg (fun z => by rw [hb] at z; exact absurd z.1 (by decide))]
  exact hs
theorem sdL_s {σ : cS} {cs : Int32} {i : Nat} {cc : Ch} {L : Nat → List Ch} (hb : bitB cs i = true) (h : cU σ i = false ∧ (L i).length < 10) : va_up (fun k => if k < i ∧ bitB cs k = true ∧ cU σ k = false ∧ (L k).length < 10 then L k ++ [cc] else L k) i (L i ++ [cc]) = fun k => if k < i + 1 ∧ bitB cs k = true ∧ cU σ k = false ∧ (L k).length < 10 then L k ++ [cc] else L k := by
  funext k
  unfold va_up
  by_cases hk : k = i
  · subst hk
    rw [if_pos rfl, if_pos ⟨Nat.lt_succ_self _, hb, h⟩]
  · rw [if_neg hk]
    show (if k < i ∧ bitB cs k = true ∧ cU σ k = false ∧ (L k).length < 10 then L k ++ [cc] else L k) = _
    by_cases h2 : k < i ∧ bitB cs k = true ∧ cU σ k = false ∧ (L k).length < 10
    · rw [if_pos h2, if_pos ⟨by omega, h2.2⟩]
    · rw [if_neg h2, if_neg (fun z => h2 ⟨by omega, z.2⟩)]
theorem sdL_n {σ : cS} {cs : Int32} {i : Nat} {cc : Ch} {L : Nat → List Ch} (h : ¬ (bitB cs i = true ∧ cU σ i = false ∧ (L i).length < 10)) : (fun k => if k < i ∧ bitB cs k = true ∧ cU σ k = false ∧ (L k).length < 10 then L k ++ [cc] else L k) = fun k => if k < i + 1 ∧ bitB cs k = true ∧ cU σ k = false ∧ (L k).length < 10 then L k ++ [cc] else L k := by
  funext k
  by_cases h2 : k < i ∧ bitB cs k = true ∧ cU σ k = false ∧ (L k).length < 10
  · rw [if_pos h2, if_pos ⟨by omega, h2.2⟩]
  · rw [if_neg h2, if_neg (fun z => h2 ⟨by
      rcases Nat.lt_or_ge k i with q | q
      · exact q
      · exact absurd (show bitB cs i = true ∧ cU σ i = false ∧ (L i).length < 10 by rw [show i = k by omega]; exact z.2) h, z.2⟩)]
theorem send_HI {G : wG} {σ τ ν : cS} {cs : Int32} {i : Nat} {cc : Ch} {L : Nat → List Ch} (hb : bitB cs i = true) (hU : cU τ i = cU σ i)
    (h : HI G ν (if cU τ i = false ∧ ((fun k => if k < i ∧ bitB cs k = true ∧ cU σ k = false ∧ (L k).length < 10 then L k ++ [cc] else L k) i).length < 10 then va_up (fun k => if k < i ∧ bitB cs k = true ∧ cU σ k = false ∧ (L k).length < 10 then L k ++ [cc] else L k) i ((fun k => if k < i ∧ bitB cs k = true ∧ cU σ k = false ∧ (L k).length < 10 then L k ++ [cc] else L k) i ++ [cc]) else (fun k => if k < i ∧ bitB cs k = true ∧ cU σ k = false ∧ (L k).length < 10 then L k ++ [cc] else L k))) :
    HI G ν (fun k => if k < i + 1 ∧ bitB cs k = true ∧ cU σ k = false ∧ (L k).length < 10 then L k ++ [cc] else L k) := by
  have e : (fun k => if k < i ∧ bitB cs k = true ∧ cU σ k = false ∧ (L k).length < 10 then L k ++ [cc] else L k) i = L i := if_neg (fun z => Nat.lt_irrefl _ z.1)
  rw [e, hU] at h
  by_cases h2 : cU σ i = false ∧ (L i).length < 10
  · rw [if_pos h2, sdL_s hb h2] at h
    exact h
  · rw [if_neg h2, sdL_n (fun z => h2 z.2)] at h
    exact h
theorem send_HI0 {G : wG} {σ τ : cS} {cs : Int32} {i : Nat} {cc : Ch} {L : Nat → List Ch} (hb : bitB cs i = false) (h : HI G τ (fun k => if k < i ∧ bitB cs k = true ∧ cU σ k = false ∧ (L k).length < 10 then L k ++ [cc] else L k)) : HI G τ (fun k => if k < i + 1 ∧ bitB cs k = true ∧ cU σ k = false ∧ (L k).length < 10 then L k ++ [cc] else L k) := by
  rw [sdL_n (fun z => by rw [hb] at z; exact absurd z.1 (by decide))] at h
  exact h
theorem HI_cong {G : wG} {σ : cS} {L L' : Nat → List Ch} (h : HI G σ L) (e : ∀ k, k < 3 → L' k = L k) : HI G σ L' := ⟨fun i hi => by rw [e i hi]; exact h.1 i hi, h.2⟩
theorem send_end {G : wG} {σ τ : cS} {cs : Int32} {i : Nat} {cc : Ch} {L : Nat → List Ch} (hi : i = 3) (h : sc τ (sdS σ cc cs i)) (g : HI G τ (fun k => if k < i ∧ bitB cs k = true ∧ cU σ k = false ∧ (L k).length < 10 then L k ++ [cc] else L k)) : sc τ (sdS σ cc cs 3) ∧ HI G τ (fun k => if bitB cs k = true ∧ cU σ k = false ∧ (L k).length < 10 then L k ++ [cc] else L k) := by
  subst hi
  refine ⟨h, HI_cong g (fun k hk => ?_)⟩
  show (if bitB cs k = true ∧ cU σ k = false ∧ (L k).length < 10 then L k ++ [cc] else L k) = (if k < 3 ∧ bitB cs k = true ∧ cU σ k = false ∧ (L k).length < 10 then L k ++ [cc] else L k)
  by_cases h2 : bitB cs k = true ∧ cU σ k = false ∧ (L k).length < 10
  · rw [if_pos h2, if_pos ⟨hk, h2⟩]
  · rw [if_neg h2, if_neg (fun z => h2 z.2)]
theorem sdN_y {σ : cS} {cs : Int32} {i : Nat} (h : bitB cs i = true) (h2 : cU σ i = true) : sdN σ cs (i + 1) = sdN σ cs i + 1 := by rw [sdN, if_pos ⟨h, h2⟩]
theorem sdN_n1 {σ : cS} {cs : Int32} {i : Nat} (h : bitB cs i = false) : sdN σ cs (i + 1) = sdN σ cs i := by rw [sdN, if_neg (fun z => by rw [h] at z; exact absurd z.1 (by decide))]
theorem sdN_n2 {σ : cS} {cs : Int32} {i : Nat} (h : cU σ i = false) : sdN σ cs (i + 1) = sdN σ cs i := by rw [sdN, if_neg (fun z => by rw [h] at z; exact absurd z.2 (by decide))]
