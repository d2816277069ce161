/-! reads, making alike, cleaning, asking -/
def rdMS (μ : mS) (p0 p1 p2 p3 : Int32) : mS := if (isCopyB p0 && isCopyB p1 && isCellB p2 p3) = true then rdF μ p0.toNatClampNeg p1.toNatClampNeg p2.toNatClampNeg p3.toNatClampNeg else thr μ 1
def rdMR (μ : mS) (p0 p1 p2 p3 : Int32) : Int32 := if (isCopyB p0 && isCopyB p1 && isCellB p2 p3) = true then rdR μ p0.toNatClampNeg p1.toNatClampNeg p2.toNatClampNeg p3.toNatClampNeg else nI 0
theorem rdMS_g {μ : mS} {i j r c : Nat} (hi : i ≤ 2) (hj : j ≤ 2) (hr : r ≤ 15) (hc : c ≤ 3) : rdMS μ (nI i) (nI j) (nI r) (nI c) = rdF μ i j r c ∧ rdMR μ (nI i) (nI j) (nI r) (nI c) = rdR μ i j r c := by
  have e : (isCopyB (nI i) && isCopyB (nI j) && isCellB (nI r) (nI c)) = true := by rw [cop_g hi, cop_g hj, isCellB_ok (by omega) (by omega)]; rfl
  unfold rdMS rdMR
  rw [if_pos e, if_pos e, cl_n (by omega), cl_n (by omega), cl_n (by omega), cl_n (by omega)]
  exact ⟨rfl, rfl⟩
theorem thr_all {σ : cS} {μ : mS} (h : Rel σ μ) : RE σ (thr μ 0) ∧ RT σ (thr μ 0) ∧ RR σ (thr μ 0) ∧ RV σ (thr μ 0) ∧ RU σ (thr μ 0) ∧ mOK (thr μ 0) ∧ ∀ i, i < 3 → ∀ c ∈ hL (thr μ 0) i, okC c := Rel_thr h
theorem hL_same {μ ν : mS} (h : ν.2 = μ.2) (hI : ∀ p q, 45 ≤ p → mI ν p q = mI μ p q) (i : Nat) : hL ν i = hL μ i := by
  obtain ⟨-, -, -, h4, h5⟩ := m_of h
  unfold hL hC
  rw [h4, h5]
  exact List.map_congr_left (fun j _ => by rw [hI 50 _ (by decide), hI 51 _ (by decide), hI 52 _ (by decide)])
theorem hI_same {σ τ : cS} {G : wG} {L : Nat → List Ch} (h : τ.2 = σ.2) (H : HI G σ L) : HI G τ L := HI_of (c_of h).2.2.2.2.1 (c_of h).2.2.2.2.2.1 (c_of h).2.2.2.2.2.2 H
theorem ok_same {μ ν : mS} (h : ν.2 = μ.2) (H : mOK μ) : mOK ν := by
  obtain ⟨-, h2, h3, h4, h5⟩ := m_of h
  unfold mOK
  rw [h2, h3, h4, h5]
  exact H
/-- the tables change, nothing else -/
theorem RH_tab {G : wG} {σ τ : cS} {μ ν : mS} (h : RH G σ μ) (hE : RE τ ν) (hT : RT τ ν) (hR : RR τ ν) (h1 : τ.2 = σ.2) (h2 : ν.2 = μ.2) (hI : ∀ p q, 45 ≤ p → mI ν p q = mI μ p q) : RH G τ ν := by
  obtain ⟨⟨-, -, -, hV, hU, hm, hH⟩, hHI⟩ := h
  refine ⟨⟨hE, hT, hR, ?_, ?_, ok_same h2 hm, fun i hi c hc => hH i hi c (by rw [← hL_same h2 hI i]; exact hc)⟩, HI_cong (hI_same h1 hHI) (fun k _ => hL_same h2 hI k)⟩
  · unfold RV; rw [(c_of h1).1, (m_of h2).1]; exact hV
  · unfold RU; rw [(c_of h1).2.1, (m_of h2).2.1]; exact hU
theorem rdE_w {μ : mS} {k j row col : Nat} : rdE μ k j row col = mV' (rdS μ k j row col 92) 16 (mV (rdS μ k j row col 92) 16 + (if rdB μ k j row col 92 = true then nI 0 else nI 1)) := by
  first
    | (unfold rdE; done)
    | (unfold rdE; with_reducible rfl)
theorem rd_post {G : wG} {σ : cS} {μ : mS} {o : Nat → Int64} {i j row col : Nat} (h : RH G σ μ) (hi : i < 3) (hj : j < 3) (hr : row < 16) (hc : col < 4) (hij : i ≠ j) (hui : mU μ i = true) (huj : mU μ j = true) : LQ G μ (rdF μ i j row col) (rdR μ i j row col) (nI 0) (rdK σ i j row col, μ, vp_updL o 0 (visV (rdK σ i j row col) i row col (cV (rdK σ i j row col) 4)).toInt64) := by
  have h0 := RH_thr (k := 0) h
  obtain ⟨hE, hT, hR, hV, hU, hm, hH⟩ := h0.1
  have eC : rdC μ i j = 0 := by unfold rdC; rw [if_neg hij, if_pos hui, if_pos huj]
  unfold rdF rdR
  rw [if_pos eC, if_pos eC]
  have hE' := RE_read hE hT hR (i := i) (j := j) (row := row) (col := col) (by omega) (by omega) hij hr hc
  have hT' := RT_read hT hR (i := i) (j := j) (row := row) (col := col) (by omega) (by omega) hij hr hc
  have hs := sF_rdB hE hT hR (i := i) (j := j) (row := row) (col := col) (by omega) (by omega) hij hr hc
  have r1 : (rdS (thr μ 0) i j row col 92).2 = (thr μ 0).2 := rdS_r 92
  have r2 : ∀ p q, 45 ≤ p → mI (rdS (thr μ 0) i j row col 92) p q = mI (thr μ 0) p q := fun p q hp => rdS_I hp 92
  rw [rdE_w] at hE' hT' ⊢
  generalize rdS (thr μ 0) i j row col 92 = M at hE' hT' r1 r2 ⊢
  generalize rdB (thr μ 0) i j row col 92 = Bb at hE' hT' hs ⊢
  obtain ⟨x, hx⟩ : ∃ x, x = mV M 16 + (if Bb = true then nI 0 else nI 1) := ⟨_, rfl⟩
  rw [← hx] at hE' hT' ⊢
  have hK := rdK_eq (σ := σ) (i := i) (j := j) (row := row) (col := col)
  have rb := bkE_r (σ := σ) (i := i) (j := j) (row := row) (col := col)
  have ri : ∀ p q, p < 16 → cI (bkE σ i j row col) p q = cI σ p q := fun p q h => bkE_I h
  generalize bkE σ i j row col = K at hK rb ri
  generalize rdK σ i j row col = T at hK hE' hT' ⊢
  generalize sFn σ i j row col 11 = Sn at hK hs
  have hR' : RR T (mV' M 16 x) := by
    rw [hK]
    split
    · exact RR_of (ν := mV' M 16 x) (μ := thr μ 0) (fun _ => rfl) (fun _ => rfl) (fun q => r2 45 q (by decide)) (fun q => r2 46 q (by decide)) (m_of r1).2.2.1 hR
    · exact RR_of (ν := mV' M 16 x) (μ := thr μ 0) (fun q => ri 2 q (by decide)) (fun q => ri 3 q (by decide)) (fun q => r2 45 q (by decide)) (fun q => r2 46 q (by decide)) (m_of r1).2.2.1 hR
  have eV : ∀ k, k ≠ 16 → mV (mV' M 16 x) k = mV (thr μ 0) k := fun k hk => by
    show va_up (mV M) 16 x k = _
    rw [va_up_ne _ _ hk, (m_of r1).1]
  have eX : mV (mV' M 16 x) 16 = x := by
    show va_up (mV M) 16 x 16 = x
    rw [va_up_self]
  have cV4 : cV T 4 = cV σ 4 ∧ cV T 5 = cV σ 5 ∧ cV T 6 = cV σ 6 + (if Sn = true then nI 0 else nI 1) := by
    rw [hK]
    split
    · exact ⟨rfl, rfl, by rw [nI_0, Int32.add_zero]⟩
    · refine ⟨?_, ?_, ?_⟩
      · show va_up (cV K) 6 (cV σ 6 + nI 1) 4 = _
        rw [va_up_ne _ _ (by decide), (c_of rb).1]
      · show va_up (cV K) 6 (cV σ 6 + nI 1) 5 = _
        rw [va_up_ne _ _ (by decide), (c_of rb).1]
      · show va_up (cV K) 6 (cV σ 6 + nI 1) 6 = _
        rw [va_up_self]
  have hV' : RV T (mV' M 16 x) := by
    unfold RV
    rw [cV4.1, cV4.2.1, cV4.2.2, eV 14 (by decide), eV 15 (by decide), eX, hx, (m_of r1).1, hs, hV.2.2.1]
    exact ⟨hV.1, hV.2.1, rfl, hV.2.2.2⟩
  have c2 : cU T = cU σ ∧ cL T = cL σ ∧ cE T = cE σ ∧ cW T = cW σ := by
    rw [hK]
    split
    · exact ⟨rfl, rfl, rfl, rfl⟩
    · have r := c_of rb
      exact ⟨r.2.1, r.2.2.2.2.1, r.2.2.2.2.2.1, r.2.2.2.2.2.2⟩
  have eL : ∀ k, hL (mV' M 16 x) k = hL μ k := fun k => hL_same (μ := thr μ 0) (ν := M) r1 r2 k
  refine LQ_ok ⟨⟨hE', hT', hR', hV', ?_, ok_V.mpr (ok_same r1 hm), fun k hk c hcm => hH k hk c (by rw [eL k] at hcm; exact hcm)⟩, HI_cong (HI_of c2.2.1 c2.2.2.1 c2.2.2.2 h.2) (fun k _ => eL k)⟩ ?_ ?_
  · intro k hk
    rw [c2.1]
    show cU σ k = mU M k
    rw [(m_of r1).2.1]
    exact hU k hk
  · rw [eV 18 (by decide)]; exact thr_18
  · exact (vis_eq hE' hT' hR' hV' (by omega) hr hc).symm
theorem p2_le {l : Nat} (h : l < 5) : 2 ^ l ≤ 16 := p2 h
theorem w_read (l : Launch) (hst : l.stackTraces = false) (G : wG) (σ : cS) (μ : mS) (o : Nat → Int64) (p0 p1 p2 p3 : Int32) (h : RH G σ μ) : Met l yL_read wsL_read rmL (wPc G σ μ o [.ref (gA G 0), .int p0, .int p1, .int p2, .int p3, .ref (gA G 53)]) (QLP G μ (rdMS μ p0 p1 p2 p3) (rdMR μ p0 p1 p2 p3)) 4 34 (gP G) := by
  rcases wi_split p0 (n := 2) (by decide) with b | ⟨i, hi, rfl⟩
  · exact kL_read_X1 l hst G σ μ o _ _ _ _ _ _ b (LQ_bad h (by decide) (by decide) (if_neg (by rw [cop_b b]; simp)))
  rcases wi_split p1 (n := 2) (by decide) with b | ⟨j, hj, rfl⟩
  · exact kL_read_X2 l hst G σ μ o _ _ _ _ _ _ (by omega) b (LQ_bad h (by decide) (by decide) (if_neg (by rw [cop_b b]; simp)))
  rcases wi_split p2 (n := 15) (by decide) with b | ⟨r, hr, rfl⟩
  · exact kL_read_X3 l hst G σ μ o _ _ _ _ _ _ (by omega) (by omega) b (LQ_bad h (by decide) (by decide) (if_neg (by rw [cell_b1 b]; simp)))
  rcases wi_split p3 (n := 3) (by decide) with b | ⟨c, hc, rfl⟩
  · exact kL_read_X4 l hst G σ μ o _ _ _ _ _ _ (by omega) (by omega) (by omega) b (LQ_bad h (by decide) (by decide) (if_neg (by rw [cell_b2 b]; simp)))
  rw [(rdMS_g hi hj hr hc).1, (rdMS_g hi hj hr hc).2]
  have hU := h.1.2.2.2.2.1
  by_cases hij : i = j
  · exact kL_read_X5 l hst G σ μ o _ _ _ _ _ _ (by omega) (by omega) (by omega) (by omega) hij (LQ_bad h (by decide) (by decide) (by unfold rdF; rw [show rdC μ i j = 2 from if_pos hij, if_neg (by decide)]))
  by_cases hui : mU μ i = true
  · by_cases huj : mU μ j = true
    · exact kL_read l hst G σ μ o _ _ _ _ _ _ (by omega) (by omega) (by omega) (by omega) hij ((hU i (by omega)).trans hui) ((hU j (by omega)).trans huj) (rd_post h (by omega) (by omega) (by omega) (by omega) hij hui huj)
    · exact kL_read_X7 l hst G σ μ o _ _ _ _ _ _ (by omega) (by omega) (by omega) (by omega) hij ((hU i (by omega)).trans hui) ((hU j (by omega)).trans (by revert huj; cases mU μ j <;> simp)) (LQ_bad h (by decide) (by decide) (by unfold rdF; rw [show rdC μ i j = 3 from by unfold rdC; rw [if_neg hij, if_pos hui, if_neg huj], if_neg (by decide)]))
  · exact kL_read_X6 l hst G σ μ o _ _ _ _ _ _ (by omega) (by omega) (by omega) (by omega) hij ((hU i (by omega)).trans (by revert hui; cases mU μ i <;> simp)) (LQ_bad h (by decide) (by decide) (by unfold rdF; rw [show rdC μ i j = 3 from by unfold rdC; rw [if_neg hij, if_neg hui], if_neg (by decide)]))
/-! two copies compared -/
theorem cop2_b1 {x y : Int32} (b : wi x (nI 2) = false) : (isCopyB x && isCopyB y) = false := by rw [cop_b b]; rfl
theorem cop2_b2 {x y : Int32} (b : wi y (nI 2) = false) : (isCopyB x && isCopyB y) = false := by rw [cop_b b, Bool.and_false]
theorem cop2_g {i j : Nat} (hi : i ≤ 2) (hj : j ≤ 2) : (isCopyB (nI i) && isCopyB (nI j)) = true := by rw [cop_g hi, cop_g hj]; rfl
theorem RH_cmp {G : wG} {σ : cS} {μ : mS} {i j : Nat} (h : RH G σ μ) : RH G (cmp σ i j) (cpE (thr μ 0) i j) := by
  obtain ⟨hE, hT, hR, hV, hU, hm, hH⟩ := thr_all h.1
  obtain ⟨g1, g2, g3⟩ := R_I (σ := σ) (τ := cmp σ i j) (μ := thr μ 0) (fun p j h6 h7 => cmp_I h6 h7)
  have r := cmS_r (σ := σ) (t := i) (t2 := j) 31
  unfold cpE
  refine ⟨⟨g1 hE, g2 hT, g3 hR, ?_, ?_, hm, hH⟩, HI_of r.2.2.2.1 r.2.2.2.2.1 r.2.2.2.2.2 h.2⟩
  · unfold RV
    rw [show cV (cmp σ i j) = cV σ from r.1]
    exact hV
  · unfold RU
    rw [show cU (cmp σ i j) = cU σ from r.2.1]
    exact hU
theorem cpE_18 {μ : mS} {i j : Nat} : mV (cpE (thr μ 0) i j) 18 = nI 0 := by
  unfold cpE
  show va_up (mV (thr μ 0)) 17 (cpC (thr μ 0) i j 5) 18 = _
  rw [va_up_ne _ _ (by decide)]
  exact thr_18
def maMS (μ : mS) (p0 p1 : Int32) : mS := if (isCopyB p0 && isCopyB p1) = true then maF μ p0.toNatClampNeg p1.toNatClampNeg else thr μ 1
def maMR (μ : mS) (p0 p1 : Int32) : Int32 := if (isCopyB p0 && isCopyB p1) = true then nI (maQ μ p0.toNatClampNeg p1.toNatClampNeg) else nI 0
theorem maMS_g {μ : mS} {i j : Nat} (hi : i ≤ 2) (hj : j ≤ 2) : maMS μ (nI i) (nI j) = maF μ i j ∧ maMR μ (nI i) (nI j) = nI (maQ μ i j) := by
  unfold maMS maMR
  rw [if_pos (cop2_g hi hj), if_pos (cop2_g hi hj), cl_n (by omega), cl_n (by omega)]
  exact ⟨rfl, rfl⟩
theorem ma_post {G : wG} {σ : cS} {μ : mS} {o : Nat → Int64} {i j : Nat} (h : RH G σ μ) (hi : i < 3) (hj : j < 3) (hij : i ≠ j) (hui : mU μ i = true) (huj : mU μ j = true) : LQ G μ (maF μ i j) (nI (maQ μ i j)) (nI 0) (makR (cmp σ i j) i j (urn (cmp σ i j) 16) 16, μ, vp_updL o 0 (bitc (urn (cmp σ i j) 16)).toInt64) := by
  have eC : rdC μ i j = 0 := by unfold rdC; rw [if_neg hij, if_pos hui, if_pos huj]
  unfold maF maQ
  rw [if_pos eC, if_pos eC]
  have h0 := RH_cmp (i := i) (j := j) h
  obtain ⟨hE, hT, hR, -⟩ := thr_all h.1
  have eU := (cmp_eq hE hT hR (i := i) (j := j) (by omega) (by omega)).1
  have eB := bitc_urn (c := cmp σ i j)
  rw [eU] at eB ⊢
  generalize cpS (thr μ 0) i j 5 = S at *
  generalize cmp σ i j = τ at *
  generalize hν : cpE (thr μ 0) i j = ν at *
  obtain ⟨g1, g2, g3, g4, g5, g6⟩ := makR_all (u := S) h0.1.1 h0.1.2.1 h0.1.2.2.1 (i := i) (j := j) (by omega) (by omega) hij 16 (Nat.le_refl _)
  refine LQ_ok (RH_tab h0 g1 g2 g3 g4 g5 g6) ?_ eB.symm
  rw [(m_of g5).1, ← hν]
  exact cpE_18
theorem w_makeAlike (l : Launch) (hst : l.stackTraces = false) (G : wG) (σ : cS) (μ : mS) (o : Nat → Int64) (p0 p1 : Int32) (h : RH G σ μ) : Met l yL_makeAlike wsL_makeAlike rmL (wPc G σ μ o [.ref (gA G 0), .int p0, .int p1, .ref (gA G 53)]) (QLP G μ (maMS μ p0 p1) (maMR μ p0 p1)) 4 34 (gP G) := by
  rcases wi_split p0 (n := 2) (by decide) with b | ⟨i, hi, rfl⟩
  · exact kL_makeAlike_X1 l hst G σ μ o _ _ _ _ b (LQ_bad h (by decide) (by decide) (if_neg (by rw [cop2_b1 b]; decide)))
  rcases wi_split p1 (n := 2) (by decide) with b | ⟨j, hj, rfl⟩
  · exact kL_makeAlike_X2 l hst G σ μ o _ _ _ _ (by omega) b (LQ_bad h (by decide) (by decide) (if_neg (by rw [cop2_b2 b]; decide)))
  rw [(maMS_g hi hj).1, (maMS_g hi hj).2]
  have hU := h.1.2.2.2.2.1
  by_cases hij : i = j
  · exact kL_makeAlike_X3 l hst G σ μ o _ _ _ _ (by omega) (by omega) hij (LQ_bad h (by decide) (by decide) (by unfold maF; rw [show rdC μ i j = 2 from if_pos hij, if_neg (by decide)]))
  by_cases hui : mU μ i = true
  · by_cases huj : mU μ j = true
    · exact kL_makeAlike l hst G σ μ o _ _ _ _ (by omega) (by omega) hij ((hU i (by omega)).trans hui) ((hU j (by omega)).trans huj) (ma_post h (by omega) (by omega) hij hui huj)
    · exact kL_makeAlike_X5 l hst G σ μ o _ _ _ _ (by omega) (by omega) hij ((hU i (by omega)).trans hui) ((hU j (by omega)).trans (by revert huj; cases mU μ j <;> simp)) (LQ_bad h (by decide) (by decide) (by unfold maF; rw [show rdC μ i j = 3 from by unfold rdC; rw [if_neg hij, if_pos hui, if_neg huj], if_neg (by decide)]))
  · exact kL_makeAlike_X4 l hst G σ μ o _ _ _ _ (by omega) (by omega) hij ((hU i (by omega)).trans (by revert hui; cases mU μ i <;> simp)) (LQ_bad h (by decide) (by decide) (by unfold maF; rw [show rdC μ i j = 3 from by unfold rdC; rw [if_neg hij, if_neg hui], if_neg (by decide)]))
def cmMS (μ : mS) (p0 p1 : Int32) : mS := if (isCopyB p0 && isCopyB p1) = true then cpE (thr μ 0) p0.toNatClampNeg p1.toNatClampNeg else thr μ 1
def cmMR (μ : mS) (p0 p1 : Int32) : Int32 := if (isCopyB p0 && isCopyB p1) = true then cpC (thr μ 0) p0.toNatClampNeg p1.toNatClampNeg 5 else nI 0
def ulMR (μ : mS) (p0 p1 : Int32) : Int32 := if (isCopyB p0 && isCopyB p1) = true then cpS (thr μ 0) p0.toNatClampNeg p1.toNatClampNeg 5 else nI 0
theorem cmMS_g {μ : mS} {i j : Nat} (hi : i ≤ 2) (hj : j ≤ 2) : cmMS μ (nI i) (nI j) = cpE (thr μ 0) i j ∧ cmMR μ (nI i) (nI j) = cpC (thr μ 0) i j 5 ∧ ulMR μ (nI i) (nI j) = cpS (thr μ 0) i j 5 := by
  unfold cmMS cmMR ulMR
  rw [if_pos (cop2_g hi hj), if_pos (cop2_g hi hj), if_pos (cop2_g hi hj), cl_n (by omega), cl_n (by omega)]
  exact ⟨rfl, rfl, rfl⟩
theorem w_compared (l : Launch) (hst : l.stackTraces = false) (G : wG) (σ : cS) (μ : mS) (o : Nat → Int64) (p0 p1 : Int32) (h : RH G σ μ) : Met l yL_compared wsL_compared rmL (wPc G σ μ o [.ref (gA G 0), .int p0, .int p1, .ref (gA G 53)]) (QLP G μ (cmMS μ p0 p1) (cmMR μ p0 p1)) 4 34 (gP G) := by
  rcases wi_split p0 (n := 2) (by decide) with b | ⟨i, hi, rfl⟩
  · exact kL_compared_X1 l hst G σ μ o _ _ _ _ b (LQ_bad h (by decide) (by decide) (if_neg (by rw [cop2_b1 b]; decide)))
  rcases wi_split p1 (n := 2) (by decide) with b | ⟨j, hj, rfl⟩
  · exact kL_compared_X2 l hst G σ μ o _ _ _ _ (by omega) b (LQ_bad h (by decide) (by decide) (if_neg (by rw [cop2_b2 b]; decide)))
  rw [(cmMS_g hi hj).1, (cmMS_g hi hj).2.1]
  obtain ⟨hE, hT, hR, -⟩ := thr_all h.1
  exact kL_compared l hst G σ μ o _ _ _ _ (by omega) (by omega) (LQ_ok (RH_cmp h) cpE_18 (cmp_eq hE hT hR (i := i) (j := j) (by omega) (by omega)).2.symm)
theorem w_unlike (l : Launch) (hst : l.stackTraces = false) (G : wG) (σ : cS) (μ : mS) (o : Nat → Int64) (p0 p1 : Int32) (h : RH G σ μ) : Met l yL_unlike wsL_unlike rmL (wPc G σ μ o [.ref (gA G 0), .int p0, .int p1, .ref (gA G 53)]) (QLP G μ (cmMS μ p0 p1) (ulMR μ p0 p1)) 4 34 (gP G) := by
  rcases wi_split p0 (n := 2) (by decide) with b | ⟨i, hi, rfl⟩
  · exact kL_unlike_X1 l hst G σ μ o _ _ _ _ b (LQ_bad h (by decide) (by decide) (if_neg (by rw [cop2_b1 b]; decide)))
  rcases wi_split p1 (n := 2) (by decide) with b | ⟨j, hj, rfl⟩
  · exact kL_unlike_X2 l hst G σ μ o _ _ _ _ (by omega) b (LQ_bad h (by decide) (by decide) (if_neg (by rw [cop2_b2 b]; decide)))
  rw [(cmMS_g hi hj).1, (cmMS_g hi hj).2.2]
  obtain ⟨hE, hT, hR, -⟩ := thr_all h.1
  exact kL_unlike l hst G σ μ o _ _ _ _ (by omega) (by omega) (LQ_ok (RH_cmp h) cpE_18 (cmp_eq hE hT hR (i := i) (j := j) (by omega) (by omega)).1.symm)
/-! asking -/
def q2MS (μ : mS) (p0 p1 : Int32) : mS := if (isCopyB p0 && isCopyB p1) = true then thr μ 0 else thr μ 1
def alMR (μ : mS) (p0 p1 : Int32) : Int32 := if (isCopyB p0 && isCopyB p1) = true then bi (alT (thr μ 0) p0.toNatClampNeg p1.toNatClampNeg 92) else nI 0
theorem w_areAlike (l : Launch) (hst : l.stackTraces = false) (G : wG) (σ : cS) (μ : mS) (o : Nat → Int64) (p0 p1 : Int32) (h : RH G σ μ) : Met l yL_areAlike wsL_areAlike rmL (wPc G σ μ o [.ref (gA G 0), .int p0, .int p1, .ref (gA G 53)]) (QLP G μ (q2MS μ p0 p1) (alMR μ p0 p1)) 4 34 (gP G) := by
  rcases wi_split p0 (n := 2) (by decide) with b | ⟨i, hi, rfl⟩
  · exact kL_areAlike_X1 l hst G σ μ o _ _ _ _ b (LQ_bad h (by decide) (by decide) (if_neg (by rw [cop2_b1 b]; decide)))
  rcases wi_split p1 (n := 2) (by decide) with b | ⟨j, hj, rfl⟩
  · exact kL_areAlike_X2 l hst G σ μ o _ _ _ _ (by omega) b (LQ_bad h (by decide) (by decide) (if_neg (by rw [cop2_b2 b]; decide)))
  obtain ⟨hE, hT, hR, -⟩ := thr_all h.1
  refine kL_areAlike l hst G σ μ o _ _ _ _ (by omega) (by omega) ?_
  unfold q2MS alMR
  rw [if_pos (cop2_g hi hj), if_pos (cop2_g hi hj), cl_n (by omega), cl_n (by omega)]
  exact LQ_ok (RH_thr h) thr_18 (by rw [alike_eq hE hT (by omega) (by omega)])
def q1MS (μ : mS) (p0 : Int32) : mS := if isCopyB p0 = true then thr μ 0 else thr μ 1
def iuMR (μ : mS) (p0 : Int32) : Int32 := if isCopyB p0 = true then bi (mU μ p0.toNatClampNeg) else nI 0
def htMR (μ : mS) (p0 : Int32) : Int32 := if isCopyB p0 = true then nI (mH μ p0.toNatClampNeg) else nI 0
def enMR (μ : mS) (p0 : Int32) : Int32 := if isCopyB p0 = true then nI (ecM (thr μ 0) p0.toNatClampNeg 64) else nI 0
theorem w_isUp (l : Launch) (hst : l.stackTraces = false) (G : wG) (σ : cS) (μ : mS) (o : Nat → Int64) (p0 : Int32) (h : RH G σ μ) : Met l yL_isUp wsL_isUp rmL (wPc G σ μ o [.ref (gA G 0), .int p0, .ref (gA G 53)]) (QLP G μ (q1MS μ p0) (iuMR μ p0)) 4 34 (gP G) := by
  rcases wi_split p0 (n := 2) (by decide) with b | ⟨i, hi, rfl⟩
  · exact kL_isUp_X1 l hst G σ μ o _ _ _ b (LQ_bad h (by decide) (by decide) (if_neg (by rw [cop_b b]; decide)))
  refine kL_isUp l hst G σ μ o _ _ _ (by omega) ?_
  unfold q1MS iuMR
  rw [if_pos (cop_g hi), if_pos (cop_g hi), cl_n (by omega)]
  exact LQ_ok (RH_thr h) thr_18 (by rw [h.1.2.2.2.2.1 i (by omega)])
theorem w_hints (l : Launch) (hst : l.stackTraces = false) (G : wG) (σ : cS) (μ : mS) (o : Nat → Int64) (p0 : Int32) (h : RH G σ μ) : Met l yL_hints wsL_hints rmL (wPc G σ μ o [.ref (gA G 0), .int p0, .ref (gA G 53)]) (QLP G μ (q1MS μ p0) (htMR μ p0)) 4 34 (gP G) := by
  rcases wi_split p0 (n := 2) (by decide) with b | ⟨i, hi, rfl⟩
  · exact kL_hints_X1 l hst G σ μ o _ _ _ b (LQ_bad h (by decide) (by decide) (if_neg (by rw [cop_b b]; decide)))
  refine kL_hints l hst G σ μ o _ _ _ (by omega) ?_
  unfold q1MS htMR
  rw [if_pos (cop_g hi), if_pos (cop_g hi), cl_n (by omega)]
  exact LQ_ok (RH_thr h) thr_18 (by rw [(h.2.1 i (by omega)).2.1, hL_len])
theorem w_entries (l : Launch) (hst : l.stackTraces = false) (G : wG) (σ : cS) (μ : mS) (o : Nat → Int64) (p0 : Int32) (h : RH G σ μ) : Met l yL_entries wsL_entries rmL (wPc G σ μ o [.ref (gA G 0), .int p0, .ref (gA G 53)]) (QLP G μ (q1MS μ p0) (enMR μ p0)) 4 34 (gP G) := by
  rcases wi_split p0 (n := 2) (by decide) with b | ⟨i, hi, rfl⟩
  · exact kL_entries_X1 l hst G σ μ o _ _ _ b (LQ_bad h (by decide) (by decide) (if_neg (by rw [cop_b b]; decide)))
  refine kL_entries l hst G σ μ o _ _ _ (by omega) ?_
  unfold q1MS enMR
  rw [if_pos (cop_g hi), if_pos (cop_g hi), cl_n (by omega)]
  exact LQ_ok (RH_thr h) thr_18 (congrArg nI (cnt_E (thr_all h.1).1 (by omega) 64 (Nat.le_refl _)).symm)
def q3MS (μ : mS) (p0 p1 p2 : Int32) : mS := if (isCopyB p0 && isCellB p1 p2) = true then thr μ 0 else thr μ 1
def vaMR (μ : mS) (p0 p1 p2 : Int32) : Int32 := if (isCopyB p0 && isCellB p1 p2) = true then seeM (thr μ 0) p0.toNatClampNeg p1.toNatClampNeg p2.toNatClampNeg else nI 0
def saMR (μ : mS) (p0 p1 p2 : Int32) : Int32 := if (isCopyB p0 && isCellB p1 p2) = true then mI (thr μ 0) 40 (64 * p0.toNatClampNeg + 4 * p1.toNatClampNeg + p2.toNatClampNeg) else nI 0
def bbMR (μ : mS) (p0 p1 p2 : Int32) : Int32 := if (isCopyB p0 && isCellB p1 p2) = true then buM (thr μ 0) p0.toNatClampNeg p1.toNatClampNeg p2.toNatClampNeg else nI 0
theorem q3_g {i r c : Nat} (hi : i ≤ 2) (hr : r ≤ 15) (hc : c ≤ 3) : (isCopyB (nI i) && isCellB (nI r) (nI c)) = true := by rw [cop_g hi, isCellB_ok (by omega) (by omega)]; rfl
theorem q3_b1 {x y z : Int32} (b : wi x (nI 2) = false) : ¬ (isCopyB x && isCellB y z) = true := by rw [cop_b b]; simp
theorem q3_b2 {x y z : Int32} (b : wi y (nI 15) = false) : ¬ (isCopyB x && isCellB y z) = true := by rw [cell_b1 b]; simp
theorem q3_b3 {x y z : Int32} (b : wi z (nI 3) = false) : ¬ (isCopyB x && isCellB y z) = true := by rw [cell_b2 b]; simp
theorem w_valueAt (l : Launch) (hst : l.stackTraces = false) (G : wG) (σ : cS) (μ : mS) (o : Nat → Int64) (p0 p1 p2 : Int32) (h : RH G σ μ) : Met l yL_valueAt wsL_valueAt rmL (wPc G σ μ o [.ref (gA G 0), .int p0, .int p1, .int p2, .ref (gA G 53)]) (QLP G μ (q3MS μ p0 p1 p2) (vaMR μ p0 p1 p2)) 4 34 (gP G) := by
  rcases wi_split p0 (n := 2) (by decide) with b | ⟨i, hi, rfl⟩
  · exact kL_valueAt_X1 l hst G σ μ o _ _ _ _ _ b (LQ_bad h (by decide) (by decide) (if_neg (q3_b1 b)))
  rcases wi_split p1 (n := 15) (by decide) with b | ⟨r, hr, rfl⟩
  · exact kL_valueAt_X2 l hst G σ μ o _ _ _ _ _ (by omega) b (LQ_bad h (by decide) (by decide) (if_neg (q3_b2 b)))
  rcases wi_split p2 (n := 3) (by decide) with b | ⟨c, hc, rfl⟩
  · exact kL_valueAt_X3 l hst G σ μ o _ _ _ _ _ (by omega) (by omega) b (LQ_bad h (by decide) (by decide) (if_neg (q3_b3 b)))
  refine kL_valueAt l hst G σ μ o _ _ _ _ _ (by omega) (by omega) (by omega) ?_
  unfold q3MS vaMR
  rw [if_pos (q3_g hi hr hc), if_pos (q3_g hi hr hc), cl_n (by omega), cl_n (by omega), cl_n (by omega)]
  obtain ⟨hE, hT, hR, hV, -⟩ := thr_all h.1
  exact LQ_ok (RH_thr h) thr_18 (vis_eq hE hT hR hV (by omega) (by omega) (by omega)).symm
theorem w_stampAt (l : Launch) (hst : l.stackTraces = false) (G : wG) (σ : cS) (μ : mS) (o : Nat → Int64) (p0 p1 p2 : Int32) (h : RH G σ μ) : Met l yL_stampAt wsL_stampAt rmL (wPc G σ μ o [.ref (gA G 0), .int p0, .int p1, .int p2, .ref (gA G 53)]) (QLP G μ (q3MS μ p0 p1 p2) (saMR μ p0 p1 p2)) 4 34 (gP G) := by
  rcases wi_split p0 (n := 2) (by decide) with b | ⟨i, hi, rfl⟩
  · exact kL_stampAt_X1 l hst G σ μ o _ _ _ _ _ b (LQ_bad h (by decide) (by decide) (if_neg (q3_b1 b)))
  rcases wi_split p1 (n := 15) (by decide) with b | ⟨r, hr, rfl⟩
  · exact kL_stampAt_X2 l hst G σ μ o _ _ _ _ _ (by omega) b (LQ_bad h (by decide) (by decide) (if_neg (q3_b2 b)))
  rcases wi_split p2 (n := 3) (by decide) with b | ⟨c, hc, rfl⟩
  · exact kL_stampAt_X3 l hst G σ μ o _ _ _ _ _ (by omega) (by omega) b (LQ_bad h (by decide) (by decide) (if_neg (q3_b3 b)))
  refine kL_stampAt l hst G σ μ o _ _ _ _ _ (by omega) (by omega) (by omega) ?_
  unfold q3MS saMR
  rw [if_pos (q3_g hi hr hc), if_pos (q3_g hi hr hc), cl_n (by omega), cl_n (by omega), cl_n (by omega)]
  exact LQ_ok (RH_thr h) thr_18 (by rw [cE_1 (thr_all h.1).1 (by omega) (by omega), show 64 * i + (r * 4 + c) = 64 * i + 4 * r + c by omega])
theorem w_buriedBy (l : Launch) (hst : l.stackTraces = false) (G : wG) (σ : cS) (μ : mS) (o : Nat → Int64) (p0 p1 p2 : Int32) (h : RH G σ μ) : Met l yL_buriedBy wsL_buriedBy rmL (wPc G σ μ o [.ref (gA G 0), .int p0, .int p1, .int p2, .ref (gA G 53)]) (QLP G μ (q3MS μ p0 p1 p2) (bbMR μ p0 p1 p2)) 4 34 (gP G) := by
  rcases wi_split p0 (n := 2) (by decide) with b | ⟨i, hi, rfl⟩
  · exact kL_buriedBy_X1 l hst G σ μ o _ _ _ _ _ b (LQ_bad h (by decide) (by decide) (if_neg (q3_b1 b)))
  rcases wi_split p1 (n := 15) (by decide) with b | ⟨r, hr, rfl⟩
  · exact kL_buriedBy_X2 l hst G σ μ o _ _ _ _ _ (by omega) b (LQ_bad h (by decide) (by decide) (if_neg (q3_b2 b)))
  rcases wi_split p2 (n := 3) (by decide) with b | ⟨c, hc, rfl⟩
  · exact kL_buriedBy_X3 l hst G σ μ o _ _ _ _ _ (by omega) (by omega) b (LQ_bad h (by decide) (by decide) (if_neg (q3_b3 b)))
  refine kL_buriedBy l hst G σ μ o _ _ _ _ _ (by omega) (by omega) (by omega) ?_
  unfold q3MS bbMR
  rw [if_pos (q3_g hi hr hc), if_pos (q3_g hi hr hc), cl_n (by omega), cl_n (by omega), cl_n (by omega)]
  obtain ⟨hE, hT, hR, hV, -⟩ := thr_all h.1
  exact LQ_ok (RH_thr h) thr_18 (gB_eq hT hR (by omega) (by omega) (by omega)).symm
def toMS (μ : mS) (p0 p1 : Int32) : mS := if isCopyB p0 = true then toS μ p1 else thr μ 1
def toMR (μ : mS) (p0 p1 : Int32) : Int32 := if isCopyB p0 = true then nI (toR μ p0.toNatClampNeg p1) else nI 0
theorem toMS_g {μ : mS} {i : Nat} {p1 : Int32} (hi : i ≤ 2) : toMS μ (nI i) p1 = toS μ p1 ∧ toMR μ (nI i) p1 = nI (toR μ i p1) := by
  unfold toMS toMR
  rw [if_pos (cop_g hi), if_pos (cop_g hi), cl_n (by omega)]
  exact ⟨rfl, rfl⟩
theorem w_tombstones (l : Launch) (hst : l.stackTraces = false) (G : wG) (σ : cS) (μ : mS) (o : Nat → Int64) (p0 p1 : Int32) (h : RH G σ μ) : Met l yL_tombstones wsL_tombstones rmL (wPc G σ μ o [.ref (gA G 0), .int p0, .int p1, .ref (gA G 53)]) (QLP G μ (toMS μ p0 p1) (toMR μ p0 p1)) 4 34 (gP G) := by
  rcases wi_split p0 (n := 2) (by decide) with b | ⟨i, hi, rfl⟩
  · exact kL_tombstones_X1 l hst G σ μ o _ _ _ _ b (LQ_bad h (by decide) (by decide) (if_neg (by rw [cop_b b]; decide)))
  rcases wi_split p1 (n := 3) (by decide) with b | ⟨r, hr, rfl⟩
  · exact kL_tombstones_X2 l hst G σ μ o _ _ _ _ (by omega) b (LQ_bad h (by decide) (by decide) (by rw [(toMS_g hi).1]; exact if_neg (by rw [← wi_in, b]; decide)))
  refine kL_tombstones l hst G σ μ o _ _ _ _ (by omega) (by omega) ?_
  rw [(toMS_g hi).1, (toMS_g hi).2]
  have e : isInB (nI r) (nI 0) (nI 3) = true := isInB_ok (Nat.zero_le _) hr (by decide)
  unfold toS toR
  rw [if_pos e, if_pos e]
  exact LQ_ok (RH_thr h) thr_18 (congrArg nI (cnt_T (thr_all h.1).2.1 (by omega) (by omega)).symm)
def idMS (μ : mS) (p0 p1 : Int32) : mS := if isCellB p0 p1 = true then thr μ 0 else thr μ 1
def idMR (μ : mS) (p0 p1 : Int32) : Int32 := if isCellB p0 p1 = true then seeM (thr μ 0) 3 p0.toNatClampNeg p1.toNatClampNeg else nI 0
theorem w_ideal (l : Launch) (hst : l.stackTraces = false) (G : wG) (σ : cS) (μ : mS) (o : Nat → Int64) (p0 p1 : Int32) (h : RH G σ μ) : Met l yL_ideal wsL_ideal rmL (wPc G σ μ o [.ref (gA G 0), .int p0, .int p1, .ref (gA G 53)]) (QLP G μ (idMS μ p0 p1) (idMR μ p0 p1)) 4 34 (gP G) := by
  rcases wi_split p0 (n := 15) (by decide) with b | ⟨r, hr, rfl⟩
  · exact kL_ideal_X1 l hst G σ μ o _ _ _ _ b (LQ_bad h (by decide) (by decide) (if_neg (by rw [cell_b1 b]; decide)))
  rcases wi_split p1 (n := 3) (by decide) with b | ⟨c, hc, rfl⟩
  · exact kL_ideal_X2 l hst G σ μ o _ _ _ _ (by omega) b (LQ_bad h (by decide) (by decide) (if_neg (by rw [cell_b2 b]; decide)))
  refine kL_ideal l hst G σ μ o _ _ _ _ (by omega) (by omega) ?_
  unfold idMS idMR
  have e : isCellB (nI r) (nI c) = true := isCellB_ok (by omega) (by omega)
  rw [if_pos e, if_pos e, cl_n (by omega), cl_n (by omega)]
  obtain ⟨hE, hT, hR, hV, -⟩ := thr_all h.1
  exact LQ_ok (RH_thr h) thr_18 (vis_eq hE hT hR hV (by decide) (by omega) (by omega)).symm
def suB (p0 p1 p2 : Int32) : Bool := isCopyB p0 && isInB p1 (nI 0) (nI 4) && isInB p2 (nI 0) ((nI 1 <<< (p1 &&& 31)) - nI 1)
def smMS (μ : mS) (p0 p1 p2 : Int32) : mS := if suB p0 p1 p2 = true then thr μ 0 else thr μ 1
def smMR (μ : mS) (p0 p1 p2 : Int32) : Int32 := if suB p0 p1 p2 = true then snM μ p0.toNatClampNeg p1.toNatClampNeg p2.toNatClampNeg else nI 0
theorem suB_lv {i lv : Nat} {p2 : Int32} (hi : i ≤ 2) (hl : lv ≤ 4) : suB (nI i) (nI lv) p2 = isInB p2 (nI 0) (nI ((2 ^ lv) - 1)) := by
  unfold suB
  rw [cop_g hi, isInB_ok (Nat.zero_le _) hl (by decide), shl1 lv (by omega), pk_sub (Nat.pow_pos (by decide))]
  rfl
theorem w_sumOf (l : Launch) (hst : l.stackTraces = false) (G : wG) (σ : cS) (μ : mS) (o : Nat → Int64) (p0 p1 p2 : Int32) (h : RH G σ μ) : Met l yL_sumOf wsL_sumOf rmL (wPc G σ μ o [.ref (gA G 0), .int p0, .int p1, .int p2, .ref (gA G 53)]) (QLP G μ (smMS μ p0 p1 p2) (smMR μ p0 p1 p2)) 4 34 (gP G) := by
  rcases wi_split p0 (n := 2) (by decide) with b | ⟨i, hi, rfl⟩
  · exact kL_sumOf_X1 l hst G σ μ o _ _ _ _ _ b (LQ_bad h (by decide) (by decide) (if_neg (by unfold suB; rw [cop_b b]; simp)))
  rcases wi_split p1 (n := 4) (by decide) with b | ⟨lv, hl, rfl⟩
  · exact kL_sumOf_X2 l hst G σ μ o _ _ _ _ _ (by omega) b (LQ_bad h (by decide) (by decide) (if_neg (by unfold suB; rw [← wi_in p1, b]; simp)))
  have hp := p2_le (show lv < 5 by omega)
  have hpos : 0 < 2 ^ lv := Nat.pow_pos (by decide)
  rcases wi_split p2 (n := 2 ^ lv - 1) (by omega) with b | ⟨nd, hn, rfl⟩
  · exact kL_sumOf_X3 l hst G σ μ o _ _ _ _ _ (by omega) (by omega) b (LQ_bad h (by decide) (by decide) (if_neg (by rw [suB_lv hi hl, ← wi_in, b]; decide)))
  refine kL_sumOf l hst G σ μ o _ _ _ _ _ (by omega) (by omega) (by omega) ?_
  have e : suB (nI i) (nI lv) (nI nd) = true := by rw [suB_lv hi hl]; exact isInB_ok (Nat.zero_le _) hn (by omega)
  unfold smMS smMR
  rw [if_pos e, if_pos e, cl_n (by omega), cl_n (by omega), cl_n (by omega)]
  obtain ⟨hE, hT, hR, hV, hU, hm, hH⟩ := thr_all h.1
  obtain ⟨g1, g2, g3⟩ := R_I (σ := σ) (τ := mkS σ i 6) (μ := thr μ 0) (fun p j h6 _ => mkS_I h6)
  have r := c_of (mkS_r (σ := σ) (t := i) (k := 6))
  refine LQ_ok ⟨⟨g1 hE, g2 hT, g3 hR, ?_, ?_, hm, hH⟩, HI_of r.2.2.2.2.1 r.2.2.2.2.2.1 r.2.2.2.2.2.2 h.2⟩ thr_18 (node_sum h.1.1 h.1.2.1 h.1.2.2.1 (by omega) (Or.inl rfl) (by omega) (by omega)).symm
  · unfold RV; rw [r.1]; exact hV
  · unfold RU; rw [r.2.1]; exact hU
/-! cleaning -/
def clMS (μ : mS) (p0 : Int32) : mS := if isCopyB p0 = true then clF μ p0.toNatClampNeg else thr μ 1
def clMR (μ : mS) (p0 : Int32) : Int32 := if isCopyB p0 = true then nI (clQ μ p0.toNatClampNeg) else nI 0
theorem clMS_g {μ : mS} {i : Nat} (hi : i ≤ 2) : clMS μ (nI i) = clF μ i ∧ clMR μ (nI i) = nI (clQ μ i) := by
  unfold clMS clMR
  rw [if_pos (cop_g hi), if_pos (cop_g hi), cl_n (by omega)]
  exact ⟨rfl, rfl⟩
theorem cl_post {G : wG} {σ : cS} {μ : mS} {o : Nat → Int64} {i : Nat} (h : RH G σ μ) (hi : i < 3) (hu : mU μ i = true) {la1 la2 : Int32} (e1 : la1 = cV σ 4 - cV σ 5) (e2 : la2 = cV σ 4 - cV σ 5) : LQ G μ (clF μ i) (nI (clQ μ i)) (nI 0) ((des (dts (dcs σ i 64).1 i la1 92).1 i la2 64).1, μ, vp_updL o 0 (nI ((dcs σ i 64).2 + (dts (dcs σ i 64).1 i la1 92).2 + (des (dts (dcs σ i 64).1 i la1 92).1 i la2 64).2)).toInt64) := by
  subst e1 e2
  have h0 := RH_thr (k := 0) h
  obtain ⟨hE, hT, hR, hV, hU, hm, hH⟩ := h0.1
  obtain ⟨a, ha, ea⟩ := hV.2.2.2.1
  obtain ⟨g, hg, eg⟩ := hV.2.2.2.2
  obtain ⟨k1, k2, k3, k4, k5⟩ := cl_3 (t := i) (⟨hE, hT, hR⟩ : R3 σ (thr μ 0)) (by omega) ha hg ea eg 64 (Nat.le_refl _)
  rw [show cV σ 4 = nI a from hV.1.trans ea, show cV σ 5 = nI g from hV.2.1.trans eg]
  unfold clF clQ
  rw [if_pos hu, if_pos hu]
  generalize des (dts (dcs σ i 64).1 i (nI a - nI g) 92).1 i (nI a - nI g) 64 = D at *
  generalize dts (dcs σ i 64).1 i (nI a - nI g) 92 = E at *
  generalize dcs σ i 64 = F at *
  generalize cl3 (thr μ 0) i 64 = M at *
  refine LQ_ok (RH_tab h0 k1.1 k1.2.1 k1.2.2 k3 k4 k5) ?_ (congrArg nI k2.symm)
  rw [(m_of k4).1]
  exact thr_18
theorem dcs_V {σ : cS} {t : Nat} : ∀ n, (dcs σ t n).1.2 = σ.2
  | 0 => rfl
  | n + 1 => by
    unfold dcs
    split
    · exact dcs_V n
    · split
      · exact dcs_V n
      · exact dcs_V n
theorem dts_V {σ : cS} {t : Nat} {la : Int32} : ∀ n, (dts σ t la n).1.2 = σ.2
  | 0 => rfl
  | n + 1 => by
    unfold dts
    split
    · exact dts_V n
    · split
      · exact dts_V n
      · exact dts_V n
theorem w_clean (l : Launch) (hst : l.stackTraces = false) (G : wG) (σ : cS) (μ : mS) (o : Nat → Int64) (p0 : Int32) (h : RH G σ μ) : Met l yL_clean wsL_clean rmL (wPc G σ μ o [.ref (gA G 0), .int p0, .ref (gA G 53)]) (QLP G μ (clMS μ p0) (clMR μ p0)) 4 34 (gP G) := by
  rcases wi_split p0 (n := 2) (by decide) with b | ⟨i, hi, rfl⟩
  · exact kL_clean_X1 l hst G σ μ o _ _ _ b (LQ_bad h (by decide) (by decide) (if_neg (by rw [cop_b b]; decide)))
  rw [(clMS_g hi).1, (clMS_g hi).2]
  have hU := h.1.2.2.2.2.1
  by_cases hu : mU μ i = true
  · refine kL_cleanS l hst G σ μ o _ _ _ _ _ (by omega) ((hU i (by omega)).trans hu) rfl rfl ?_
    have q1 : cV (dcs σ i 64).1 = cV σ := (c_of (dcs_V 64)).1
    have q2 : ∀ la, cV (dts (dcs σ i 64).1 i la 92).1 = cV σ := fun la => (c_of (dts_V 92)).1.trans q1
    exact cl_post h (by omega) hu (by rw [q1]) (by rw [q2])
  · exact kL_clean_X2 l hst G σ μ o _ _ _ (by omega) ((hU i (by omega)).trans (by revert hu; cases mU μ i <;> simp)) (LQ_bad h (by decide) (by decide) (if_neg hu))
