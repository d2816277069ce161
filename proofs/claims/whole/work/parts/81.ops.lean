/-! each call, in words of the states alone -/
theorem wi_in (x y : Int32) : wi x y = isInB x (nI 0) y := by unfold wi isInB; rw [nI_0]
theorem wi_split (x : Int32) {n : Nat} (hn : n < 2 ^ 31) : wi x (nI n) = false ∨ ∃ a : Nat, a ≤ n ∧ x = nI a := by
  by_cases h : x < 0
  · exact Or.inl (by unfold wi; rw [decide_eq_true h]; rfl)
  · by_cases h2 : nI n < x
    · exact Or.inl (by unfold wi; rw [decide_eq_true h2, Bool.not_true, Bool.and_false])
    · exact Or.inr (nI_of2 (nI_toInt hn) h (fa_of_nlt h2))
theorem wi_ok {a n : Nat} (h : a ≤ n) (hn : n < 2 ^ 31) : wi (nI a) (nI n) = true := by rw [wi_in]; exact isInB_ok (Nat.zero_le _) h hn
theorem cl_n {a : Nat} (h : a < 2 ^ 31) : (nI a).toNatClampNeg = a := nI_clamp h
theorem Rel_thr {σ : cS} {μ : mS} {k : Nat} (h : Rel σ μ) : Rel σ (thr μ k) := by
  obtain ⟨h1, h2, h3, h4, h5, h6, h7⟩ := h
  exact ⟨h1, h2, h3, h4, h5, h6, h7⟩
theorem RH_thr {G : wG} {σ : cS} {μ : mS} {k : Nat} (h : RH G σ μ) : RH G σ (thr μ k) := ⟨Rel_thr h.1, h.2⟩
theorem thr_18 {μ : mS} {k : Nat} : mV (thr μ k) 18 = nI k := mV_s
theorem LQ_bad {G : wG} {σ : cS} {μ MS : mS} {MR : Int32} {o : Nat → Int64} {k : Nat} (h : RH G σ μ) (h0 : 0 < k) (hk : k < 9) (e : MS = thr μ k) : LQ G μ MS MR (nI k) (σ, μ, o) := by
  subst e
  refine ⟨rfl, thr_18.symm, fun z => ?_, RH_thr h⟩
  rw [thr_18, nI_eq (by omega) (by decide)] at z
  omega
theorem LQ_ok {G : wG} {σ : cS} {μ MS : mS} {MR v : Int32} {o : Nat → Int64} (h : RH G σ MS) (h0 : mV MS 18 = nI 0) (e : MR = v) : LQ G μ MS MR (nI 0) (σ, μ, vp_updL o 0 v.toInt64) := by
  subst e
  refine ⟨rfl, h0.symm, fun _ => ?_, h⟩
  show vp_updL o 0 _ 0 = _
  simp [vp_updL]
/-- transported -/
theorem RE_sc {σ τ : cS} {μ : mS} (h : sc τ σ) (H : RE σ μ) : RE τ μ := fun t k ht hk => by rw [sE_sc h]; exact H t k ht hk
theorem RT_sc {σ τ : cS} {μ : mS} (h : sc τ σ) (H : RT σ μ) : RT τ μ := fun t k ht hk => by rw [sT_sc h]; exact H t k ht hk
theorem RR_sc {σ τ : cS} {μ : mS} (h : sc τ σ) (H : RR σ μ) : RR τ μ := by unfold RR; rw [h.1]; exact H
theorem RV_sc {σ τ : cS} {μ : mS} (h : sc τ σ) (H : RV σ μ) : RV τ μ := by unfold RV; rw [h.2.1]; exact H
theorem RU_sc {σ τ : cS} {μ : mS} (h : sc τ σ) (H : RU σ μ) : RU τ μ := by unfold RU; rw [h.2.2.1]; exact H
theorem Rel_sc {σ τ : cS} {μ : mS} (h : sc τ σ) (H : Rel σ μ) : Rel τ μ := ⟨RE_sc h H.1, RT_sc h H.2.1, RR_sc h H.2.2.1, RV_sc h H.2.2.2.1, RU_sc h H.2.2.2.2.1, H.2.2.2.2.2⟩
theorem spE_V {μ : mS} {cs : Int32} {a : Nat} {sp v en : Int32} : mV (spE μ cs a sp v en) = mV μ := by unfold spE; rw [goes2_V, spS_V]
theorem spE_U {μ : mS} {cs : Int32} {a : Nat} {sp v en : Int32} : mU (spE μ cs a sp v en) = mU μ := by unfold spE; rw [goes2_U, spS_U]
theorem spE_R {μ : mS} {cs : Int32} {a : Nat} {sp v en : Int32} : mR (spE μ cs a sp v en) = mR μ := by unfold spE; rw [goes2_R, spS_R]
theorem spE_I {μ : mS} {cs : Int32} {a p j : Nat} {sp v en : Int32} (h1 : 45 ≤ p) (h2 : p < 50) : mI (spE μ cs a sp v en) p j = mI μ p j := by unfold spE; rw [mI_goes2 h1 h2, mI_spS h1 h2]
theorem RH_send {G : wG} {σ ns : cS} {μ : mS} {cs : Int32} {a : Nat} {sp v en : Int32} (h : RH G σ μ) (hc : okC (a, sp, v, en)) (h1 : sc ns (sdS σ (a, sp, v, en) cs 3)) (h2 : HI G ns (sdLL σ cs (a, sp, v, en) (hL μ))) : RH G ns (spE μ cs a sp v en) := by
  obtain ⟨⟨hE, hT, hR, hV, hU, hm, hH⟩, hI⟩ := h
  have ha : a < 156 := ok_lt hc
  have r := c_of (sdS_r (σ := σ) (c := (a, sp, v, en)) (cs := cs) 3)
  have eL : ∀ i, i < 3 → hL (spE μ cs a sp v en) i = sdLL σ cs (a, sp, v, en) (hL μ) i := fun i hi => by
    rw [hL_spE hm ha hi]
    unfold sdLL
    rw [hU i hi]
  refine ⟨⟨RE_sc h1 (RE_send hE hU hm hc), RT_sc h1 (RT_send hT hU hm hc), RR_sc h1 (RR_of (fun _ => cI_sdS (by decide) 3) (fun _ => cI_sdS (by decide) 3) (fun _ => spE_I (by decide) (by decide)) (fun _ => spE_I (by decide) (by decide)) spE_R hR), RV_sc h1 ?_, RU_sc h1 ?_, ok_goes (ok_spS hm ha 3) ha, fun i hi c hcm => ?_⟩, HI_cong h2 eL⟩
  · unfold RV
    rw [spE_V, r.1]
    exact hV
  · unfold RU
    rw [spE_U, r.2.1]
    exact hU
  · rw [eL i hi] at hcm
    unfold sdLL at hcm
    split at hcm
    · rcases List.mem_append.mp hcm with z | z
      · exact hH i hi c z
      · rw [List.mem_singleton] at z; rw [z]; exact hc
    · exact hH i hi c hcm
theorem now_ok {σ : cS} {μ : mS} (h : Rel σ μ) : ∃ a : Nat, a ≤ 10000 ∧ cV σ 4 = nI a ∧ mV μ 14 = nI a := by
  obtain ⟨a, h1, h2⟩ := h.2.2.2.1.2.2.2.1
  exact ⟨a, h1, h.2.2.2.1.1.trans h2, h2⟩
/-! write -/
def wrMS (μ : mS) (p0 p1 p2 p3 p4 p5 : Int32) : mS := if isCellB p1 p2 = true then wrS μ p0 p1.toNatClampNeg p2.toNatClampNeg p3 p4 p5 else thr μ 1
def wrMR (μ : mS) (p0 p1 p2 p3 p4 p5 : Int32) : Int32 := if isCellB p1 p2 = true then nI (wrR μ p0 p1.toNatClampNeg p2.toNatClampNeg p3 p4 p5) else nI 0
theorem cell_b1 {x y : Int32} (h : wi x (nI 15) = false) : isCellB x y = false := by unfold isCellB; rw [← wi_in, h]; rfl
theorem cell_b2 {x y : Int32} (h : wi y (nI 3) = false) : isCellB x y = false := by unfold isCellB; rw [← wi_in, ← wi_in, h, Bool.and_false]
theorem wrMS_g {μ : mS} {r c : Nat} {p0 p3 p4 p5 : Int32} (hr : r ≤ 15) (hc : c ≤ 3) : wrMS μ p0 (nI r) (nI c) p3 p4 p5 = wrS μ p0 r c p3 p4 p5 ∧ wrMR μ p0 (nI r) (nI c) p3 p4 p5 = nI (wrR μ p0 r c p3 p4 p5) := by
  unfold wrMS wrMR
  rw [if_pos (isCellB_ok (by omega) (by omega)), if_pos (isCellB_ok (by omega) (by omega)), cl_n (by omega), cl_n (by omega)]
  exact ⟨rfl, rfl⟩
theorem codW_ok {a b c d : Nat} (ha : a ≤ 7) (hb : b ≤ 999) (hc : c ≤ 999) (hd : d ≤ 1000) : codW (nI a) (nI b) (nI c) (nI d) = true := by
  unfold codW
  rw [isInB_ok (Nat.zero_le _) ha (by decide), isInB_ok (Nat.zero_le _) hb (by decide), isInB_ok (Nat.zero_le _) hc (by decide), isInB_ok (Nat.zero_le _) hd (by decide)]
  rfl
theorem codD_ok {a b : Nat} (ha : a ≤ 7) (hb : b ≤ 999) : codD (nI a) (nI b) = true := by
  unfold codD
  rw [isInB_ok (Nat.zero_le _) ha (by decide), isInB_ok (Nat.zero_le _) hb (by decide)]
  rfl
theorem wr_post {G : wG} {σ ns : cS} {μ : mS} {o : Nat → Int64} {k1 k2 k3 k4 k5 k6 : Nat} (h : RH G σ μ) (h1 : k1 ≤ 7) (h2 : k2 ≤ 15) (h3 : k3 ≤ 3) (h4 : k4 ≤ 999) (h5 : k5 ≤ 999) (h6 : k6 ≤ 1000)
    (hp : sc ns (sdS σ (k2 * 4 + k3, nI k5, nI k4, enW σ k6) (nI k1) 3) ∧ HI G ns (sdLL σ (nI k1) (k2 * 4 + k3, nI k5, nI k4, enW σ k6) (hL μ))) : LQ G μ (wrMS μ (nI k1) (nI k2) (nI k3) (nI k4) (nI k5) (nI k6)) (wrMR μ (nI k1) (nI k2) (nI k3) (nI k4) (nI k5) (nI k6)) (nI 0) (ns, μ, vp_updL o 0 (nI (sdN σ (nI k1) 3)).toInt64) := by
  obtain ⟨e1, e2⟩ := wrMS_g (μ := μ) (p0 := nI k1) (p3 := nI k4) (p4 := nI k5) (p5 := nI k6) h2 h3
  obtain ⟨a, ha, ea, eb⟩ := now_ok h.1
  have eE : wrE μ (nI k6) = enW σ k6 := by
    unfold wrE enW
    by_cases hz : k6 = 0
    · rw [if_pos hz, if_pos (by rw [hz]; rfl)]
    · rw [if_neg hz, if_neg (nI_ne0 (by omega) (by omega))]
      show mV μ 14 + nI k6 = _
      rw [ea, eb]
  have hok : okE (nI k5, nI k4, enW σ k6) := by
    unfold enW
    by_cases hz : k6 = 0
    · rw [if_pos hz]; exact ⟨k5, k4, 1, h5, h4, by omega, by omega, Or.inl rfl⟩
    · rw [if_neg hz, ea, nI_add]; exact ⟨k5, k4, a + k6, h5, h4, by omega, by omega, Or.inr rfl⟩
  rw [e1, e2]
  unfold wrS wrR
  rw [if_pos (codW_ok h1 h4 h5 h6), if_pos (codW_ok h1 h4 h5 h6), eE, show 4 * k2 + k3 = k2 * 4 + k3 by omega]
  have hR : RH G σ (thr μ 0) := RH_thr h
  have hL0 : hL (thr μ 0) = hL μ := rfl
  have h9 : RH G ns (spE (thr μ 0) (nI k1) (k2 * 4 + k3) (nI k5) (nI k4) (enW σ k6)) := RH_send hR (Or.inl ⟨by show k2 * 4 + k3 < 64; omega, hok⟩) hp.1 (by rw [hL0]; exact hp.2)
  have hn := sdN_eq (μ := thr μ 0) (cs := nI k1) (a := k2 * 4 + k3) (sp := nI k5) (v := nI k4) (en := enW σ k6) hR.1.2.2.2.2.1 3 (Nat.le_refl 3)
  rw [hn]
  exact LQ_ok h9 (by rw [spE_V]; exact thr_18) rfl
theorem w_write (l : Launch) (hst : l.stackTraces = false) (G : wG) (σ : cS) (μ : mS) (o : Nat → Int64) (p0 p1 p2 p3 p4 p5 : Int32) (h : RH G σ μ) : Met l yL_write wsL_write rmL (wPc G σ μ o [.ref (gA G 0), .int p0, .int p1, .int p2, .int p3, .int p4, .int p5, .ref (gA G 53)]) (QLP G μ (wrMS μ p0 p1 p2 p3 p4 p5) (wrMR μ p0 p1 p2 p3 p4 p5)) 4 34 (gP G) := by
  rcases wi_split p1 (n := 15) (by decide) with b | ⟨k2, h2, rfl⟩
  · exact kL_write_X1 l hst G σ μ o _ _ _ _ _ _ _ _ b (LQ_bad h (by decide) (by decide) (if_neg (by rw [cell_b1 b]; decide)))
  rcases wi_split p2 (n := 3) (by decide) with b | ⟨k3, h3, rfl⟩
  · exact kL_write_X2 l hst G σ μ o _ _ _ _ _ _ _ _ h2 b (LQ_bad h (by decide) (by decide) (if_neg (by rw [cell_b2 b]; decide)))
  have e := fun q0 q3 q4 q5 => (wrMS_g (μ := μ) (p0 := q0) (p3 := q3) (p4 := q4) (p5 := q5) h2 h3).1
  rcases wi_split p0 (n := 7) (by decide) with b | ⟨k1, h1, rfl⟩
  · exact kL_write_X3 l hst G σ μ o _ _ _ _ _ _ _ _ h2 h3 b (LQ_bad h (by decide) (by decide) (by rw [e]; exact if_neg (by unfold codW; rw [← wi_in, b]; simp)))
  rcases wi_split p3 (n := 999) (by decide) with b | ⟨k4, h4, rfl⟩
  · exact kL_write_X4 l hst G σ μ o _ _ _ _ _ _ _ _ h1 h2 h3 b (LQ_bad h (by decide) (by decide) (by rw [e]; exact if_neg (by unfold codW; rw [← wi_in (p3), b]; simp)))
  rcases wi_split p4 (n := 999) (by decide) with b | ⟨k5, h5, rfl⟩
  · exact kL_write_X5 l hst G σ μ o _ _ _ _ _ _ _ _ h1 h2 h3 h4 b (LQ_bad h (by decide) (by decide) (by rw [e]; exact if_neg (by unfold codW; rw [← wi_in (p4), b]; simp)))
  rcases wi_split p5 (n := 1000) (by decide) with b | ⟨k6, h6, rfl⟩
  · exact kL_write_X6 l hst G σ μ o _ _ _ _ _ _ _ _ h1 h2 h3 h4 h5 b (LQ_bad h (by decide) (by decide) (by rw [e]; exact if_neg (by unfold codW; rw [← wi_in (p5), b]; simp)))
  exact kL_write l hst G σ μ o k1 k2 k3 k4 k5 k6 (hL μ) _ _ h1 h2 h3 h4 h5 h6 h.2 (fun ns hp => wr_post h h1 h2 h3 h4 h5 h6 hp)
/-! deletions -/
theorem bu_post {G : wG} {σ ns : cS} {μ ν : mS} {o : Nat → Int64} {k1 p sp : Nat} (h : RH G σ μ) (h1 : k1 ≤ 7) (hp92 : p < 92) (hs : sp ≤ 999) (hp : sc ns (sdS σ (64 + p, nI sp, cV σ 4, nI 0) (nI k1) 3) ∧ HI G ns (sdLL σ (nI k1) (64 + p, nI sp, cV σ 4, nI 0) (hL μ))) : LQ G ν (buS μ (nI k1) p (nI sp)) (nI (buR μ (nI k1) p (nI sp))) (nI 0) (ns, ν, vp_updL o 0 (nI (sdN σ (nI k1) 3)).toInt64) := by
  obtain ⟨a, ha, ea, eb⟩ := now_ok h.1
  unfold buS buR
  rw [if_pos (codD_ok h1 hs), if_pos (codD_ok h1 hs)]
  rw [show mV (thr μ 0) 14 = cV σ 4 from by rw [ea]; exact eb]
  have hR : RH G σ (thr μ 0) := RH_thr h
  have hL0 : hL (thr μ 0) = hL μ := rfl
  have h9 : RH G ns (spE (thr μ 0) (nI k1) (64 + p) (nI sp) (cV σ 4) (nI 0)) := RH_send hR (Or.inr ⟨by show 64 ≤ 64 + p; omega, by show 64 + p < 156; omega, sp, a, hs, ha, by rw [ea]⟩) hp.1 (by rw [hL0]; exact hp.2)
  have hn := sdN_eq (μ := thr μ 0) (cs := nI k1) (a := 64 + p) (sp := nI sp) (v := cV σ 4) (en := nI 0) hR.1.2.2.2.2.1 3 (Nat.le_refl 3)
  rw [hn]
  exact LQ_ok h9 (by rw [spE_V]; exact thr_18) rfl
def dcMS (μ : mS) (p0 p1 p2 p3 : Int32) : mS := if isCellB p1 p2 = true then buS μ p0 (4 * p1.toNatClampNeg + p2.toNatClampNeg) p3 else thr μ 1
def dcMR (μ : mS) (p0 p1 p2 p3 : Int32) : Int32 := if isCellB p1 p2 = true then nI (buR μ p0 (4 * p1.toNatClampNeg + p2.toNatClampNeg) p3) else nI 0
theorem dcMS_g {μ : mS} {r c : Nat} {p0 p3 : Int32} (hr : r ≤ 15) (hc : c ≤ 3) : dcMS μ p0 (nI r) (nI c) p3 = buS μ p0 (4 * r + c) p3 ∧ dcMR μ p0 (nI r) (nI c) p3 = nI (buR μ p0 (4 * r + c) p3) := by
  unfold dcMS dcMR
  rw [if_pos (isCellB_ok (by omega) (by omega)), if_pos (isCellB_ok (by omega) (by omega)), cl_n (by omega), cl_n (by omega)]
  exact ⟨rfl, rfl⟩
theorem w_deleteCell (l : Launch) (hst : l.stackTraces = false) (G : wG) (σ : cS) (μ : mS) (o : Nat → Int64) (p0 p1 p2 p3 : Int32) (h : RH G σ μ) : Met l yL_deleteCell wsL_deleteCell rmL (wPc G σ μ o [.ref (gA G 0), .int p0, .int p1, .int p2, .int p3, .ref (gA G 53)]) (QLP G μ (dcMS μ p0 p1 p2 p3) (dcMR μ p0 p1 p2 p3)) 4 34 (gP G) := by
  rcases wi_split p1 (n := 15) (by decide) with b | ⟨k2, h2, rfl⟩
  · exact kL_deleteCell_X1 l hst G σ μ o _ _ _ _ _ _ b (LQ_bad h (by decide) (by decide) (if_neg (by rw [cell_b1 b]; decide)))
  rcases wi_split p2 (n := 3) (by decide) with b | ⟨k3, h3, rfl⟩
  · exact kL_deleteCell_X2 l hst G σ μ o _ _ _ _ _ _ h2 b (LQ_bad h (by decide) (by decide) (if_neg (by rw [cell_b2 b]; decide)))
  have e := fun q0 q3 => dcMS_g (μ := μ) (p0 := q0) (p3 := q3) h2 h3
  rcases wi_split p0 (n := 7) (by decide) with b | ⟨k1, h1, rfl⟩
  · exact kL_deleteCell_X3 l hst G σ μ o _ _ _ _ _ _ h2 h3 b (LQ_bad h (by decide) (by decide) (by rw [(e _ _).1]; exact if_neg (by unfold codD; rw [← wi_in, b]; simp)))
  rcases wi_split p3 (n := 999) (by decide) with b | ⟨k4, h4, rfl⟩
  · exact kL_deleteCell_X4 l hst G σ μ o _ _ _ _ _ _ h1 h2 h3 b (LQ_bad h (by decide) (by decide) (by rw [(e _ _).1]; exact if_neg (by unfold codD; rw [← wi_in p3, b]; simp)))
  rw [(e _ _).1, (e _ _).2, show 4 * k2 + k3 = k2 * 4 + k3 by omega]
  exact kL_deleteCell l hst G σ μ o k1 k2 k3 k4 (hL μ) _ _ h1 h2 h3 h4 h.2 (fun ns hp => bu_post h h1 (by omega) h4 hp)
def dkMS (μ : mS) (p0 p1 p2 : Int32) : mS := if isInB p1 (nI 0) (nI 3) = true then buS μ p0 (64 + p1.toNatClampNeg) p2 else thr μ 1
def dkMR (μ : mS) (p0 p1 p2 : Int32) : Int32 := if isInB p1 (nI 0) (nI 3) = true then nI (buR μ p0 (64 + p1.toNatClampNeg) p2) else nI 0
theorem dkMS_g {μ : mS} {c : Nat} {p0 p2 : Int32} (hc : c ≤ 3) : dkMS μ p0 (nI c) p2 = buS μ p0 (64 + c) p2 ∧ dkMR μ p0 (nI c) p2 = nI (buR μ p0 (64 + c) p2) := by
  unfold dkMS dkMR
  rw [if_pos (isInB_ok (Nat.zero_le _) hc (by decide)), if_pos (isInB_ok (Nat.zero_le _) hc (by decide)), cl_n (by omega)]
  exact ⟨rfl, rfl⟩
theorem w_deleteColumn (l : Launch) (hst : l.stackTraces = false) (G : wG) (σ : cS) (μ : mS) (o : Nat → Int64) (p0 p1 p2 : Int32) (h : RH G σ μ) : Met l yL_deleteColumn wsL_deleteColumn rmL (wPc G σ μ o [.ref (gA G 0), .int p0, .int p1, .int p2, .ref (gA G 53)]) (QLP G μ (dkMS μ p0 p1 p2) (dkMR μ p0 p1 p2)) 4 34 (gP G) := by
  rcases wi_split p1 (n := 3) (by decide) with b | ⟨k2, h2, rfl⟩
  · exact kL_deleteColumn_X1 l hst G σ μ o _ _ _ _ _ b (LQ_bad h (by decide) (by decide) (if_neg (by rw [← wi_in, b]; decide)))
  have e := fun q0 q3 => dkMS_g (μ := μ) (p0 := q0) (p2 := q3) h2
  rcases wi_split p0 (n := 7) (by decide) with b | ⟨k1, h1, rfl⟩
  · exact kL_deleteColumn_X2 l hst G σ μ o _ _ _ _ _ h2 b (LQ_bad h (by decide) (by decide) (by rw [(e _ _).1]; exact if_neg (by unfold codD; rw [← wi_in, b]; simp)))
  rcases wi_split p2 (n := 999) (by decide) with b | ⟨k3, h3, rfl⟩
  · exact kL_deleteColumn_X3 l hst G σ μ o _ _ _ _ _ h1 h2 b (LQ_bad h (by decide) (by decide) (by rw [(e _ _).1]; exact if_neg (by unfold codD; rw [← wi_in p2, b]; simp)))
  rw [(e _ _).1, (e _ _).2]
  exact kL_deleteColumn l hst G σ μ o k1 k2 k3 (hL μ) _ _ h1 h2 h3 h.2 (fun ns hp => bu_post h h1 (by omega) h3 hp)
def dwMS (μ : mS) (p0 p1 p2 : Int32) : mS := if isInB p1 (nI 0) (nI 15) = true then buS μ p0 (68 + p1.toNatClampNeg) p2 else thr μ 1
def dwMR (μ : mS) (p0 p1 p2 : Int32) : Int32 := if isInB p1 (nI 0) (nI 15) = true then nI (buR μ p0 (68 + p1.toNatClampNeg) p2) else nI 0
theorem dwMS_g {μ : mS} {c : Nat} {p0 p2 : Int32} (hc : c ≤ 15) : dwMS μ p0 (nI c) p2 = buS μ p0 (68 + c) p2 ∧ dwMR μ p0 (nI c) p2 = nI (buR μ p0 (68 + c) p2) := by
  unfold dwMS dwMR
  rw [if_pos (isInB_ok (Nat.zero_le _) hc (by decide)), if_pos (isInB_ok (Nat.zero_le _) hc (by decide)), cl_n (by omega)]
  exact ⟨rfl, rfl⟩
theorem w_deleteRow (l : Launch) (hst : l.stackTraces = false) (G : wG) (σ : cS) (μ : mS) (o : Nat → Int64) (p0 p1 p2 : Int32) (h : RH G σ μ) : Met l yL_deleteRow wsL_deleteRow rmL (wPc G σ μ o [.ref (gA G 0), .int p0, .int p1, .int p2, .ref (gA G 53)]) (QLP G μ (dwMS μ p0 p1 p2) (dwMR μ p0 p1 p2)) 4 34 (gP G) := by
  rcases wi_split p1 (n := 15) (by decide) with b | ⟨k2, h2, rfl⟩
  · exact kL_deleteRow_X1 l hst G σ μ o _ _ _ _ _ b (LQ_bad h (by decide) (by decide) (if_neg (by rw [← wi_in, b]; decide)))
  have e := fun q0 q3 => dwMS_g (μ := μ) (p0 := q0) (p2 := q3) h2
  rcases wi_split p0 (n := 7) (by decide) with b | ⟨k1, h1, rfl⟩
  · exact kL_deleteRow_X2 l hst G σ μ o _ _ _ _ _ h2 b (LQ_bad h (by decide) (by decide) (by rw [(e _ _).1]; exact if_neg (by unfold codD; rw [← wi_in, b]; simp)))
  rcases wi_split p2 (n := 999) (by decide) with b | ⟨k3, h3, rfl⟩
  · exact kL_deleteRow_X3 l hst G σ μ o _ _ _ _ _ h1 h2 b (LQ_bad h (by decide) (by decide) (by rw [(e _ _).1]; exact if_neg (by unfold codD; rw [← wi_in p2, b]; simp)))
  rw [(e _ _).1, (e _ _).2]
  exact kL_deleteRow l hst G σ μ o k1 k2 k3 (hL μ) _ _ h1 h2 h3 h.2 (fun ns hp => bu_post h h1 (by omega) h3 hp)
