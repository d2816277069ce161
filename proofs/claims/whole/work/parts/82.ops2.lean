/-! each call, further -/
def drMS (μ : mS) (p0 p1 p2 p3 : Int32) : mS := if (isInB p1 (nI 0) (nI 15) && isInB p2 (nI 0) (nI 15)) = true then drM μ p0 p1.toNatClampNeg p2.toNatClampNeg p3 else thr μ 1
def drMR (μ : mS) (p0 p1 p2 p3 : Int32) : Int32 := if (isInB p1 (nI 0) (nI 15) && isInB p2 (nI 0) (nI 15)) = true then nI (drR μ p0 p1.toNatClampNeg p2.toNatClampNeg p3) else nI 0
theorem drMS_g {μ : mS} {a b : Nat} {p0 p3 : Int32} (ha : a ≤ 15) (hb : b ≤ 15) : drMS μ p0 (nI a) (nI b) p3 = drM μ p0 a b p3 ∧ drMR μ p0 (nI a) (nI b) p3 = nI (drR μ p0 a b p3) := by
  have e : (isInB (nI a) (nI 0) (nI 15) && isInB (nI b) (nI 0) (nI 15)) = true := by rw [isInB_ok (Nat.zero_le _) ha (by decide), isInB_ok (Nat.zero_le _) hb (by decide)]; rfl
  unfold drMS drMR
  rw [if_pos e, if_pos e, cl_n (by omega), cl_n (by omega)]
  exact ⟨rfl, rfl⟩
theorem RE_w {σ : cS} {μ : mS} {r : Nat} {x y : Int32} (h : RE σ μ) : RE (w1 (w1 σ 2 r x) 3 r y) (mR' (w2 (w2 μ 45 r x) 46 r y) (mR μ + 1)) := by
  intro t k ht hk
  have e1 : sE (w1 (w1 σ 2 r x) 3 r y) t k = sE σ t k := by
    unfold sE
    rw [w1_n (by omega), w1_n (by omega), w1_n (by omega), w1_n (by omega), w1_n (by omega), w1_n (by omega)]
  have e2 : xE (mR' (w2 (w2 μ 45 r x) 46 r y) (mR μ + 1)) (64 * t + k) = xE μ (64 * t + k) := by
    show xE (w2 (w2 μ 45 r x) 46 r y) (64 * t + k) = _
    unfold xE
    rw [mI_w2n (by decide), mI_w2n (by decide), mI_w2n (by decide), mI_w2n (by decide), mI_w2n (by decide), mI_w2n (by decide)]
  rw [e1, e2]
  exact h t k ht hk
theorem RT_w {σ : cS} {μ : mS} {r : Nat} {x y : Int32} (h : RT σ μ) : RT (w1 (w1 σ 2 r x) 3 r y) (mR' (w2 (w2 μ 45 r x) 46 r y) (mR μ + 1)) := by
  intro t k ht hk
  have e1 : sT (w1 (w1 σ 2 r x) 3 r y) t k = sT σ t k := by
    unfold sT
    rw [w1_n (by omega), w1_n (by omega), w1_n (by omega), w1_n (by omega)]
  have e2 : xT (mR' (w2 (w2 μ 45 r x) 46 r y) (mR μ + 1)) (92 * t + k) = xT μ (92 * t + k) := by
    show xT (w2 (w2 μ 45 r x) 46 r y) (92 * t + k) = _
    unfold xT
    rw [mI_w2n (by decide), mI_w2n (by decide), mI_w2n (by decide), mI_w2n (by decide)]
  rw [e1, e2]
  exact h t k ht hk
theorem hL_w {μ : mS} {r i : Nat} {x y : Int32} : hL (mR' (w2 (w2 μ 45 r x) 46 r y) (mR μ + 1)) i = hL μ i := by
  unfold hL
  show List.map _ (List.range (mH μ i)) = _
  apply List.map_congr_left
  intro j _
  show hC (w2 (w2 μ 45 r x) 46 r y) (10 * i + j) = _
  unfold hC
  rw [mI_w2n (by decide), mI_w2n (by decide), mI_w2n (by decide), mI_w2n (by decide), mI_w2n (by decide), mI_w2n (by decide)]
  rfl
theorem RH_new {G : wG} {σ : cS} {μ : mS} {a b : Nat} (h : RH G σ μ) (hab : a ≤ b) (hb : b < 16) (h8 : mR μ < 8) : RH G (w1 (w1 σ 2 (mR μ) (nI a)) 3 (mR μ) (nI b)) (mR' (w2 (w2 μ 45 (mR μ) (nI a)) 46 (mR μ) (nI b)) (mR μ + 1)) := by
  obtain ⟨⟨hE, hT, hR, hV, hU, hm, hH⟩, hI⟩ := h
  refine ⟨⟨RE_w hE, RT_w hT, RR_new hR hab hb h8, hV, hU, ok_mR (ok_w2.mpr (ok_w2.mpr hm)) (by omega), fun i hi c hc => ?_⟩, HI_cong (HI_of rfl rfl rfl hI) (fun k _ => hL_w)⟩
  rw [hL_w] at hc
  exact hH i hi c hc
theorem drG_ok {a b k1 k4 : Nat} (h1 : k1 ≤ 7) (h4 : k4 ≤ 999) (hab : a ≤ b) : drG (nI k1) a b (nI k4) = true := by
  unfold drG
  rw [isInB_ok (Nat.zero_le _) h1 (by decide), isInB_ok (Nat.zero_le _) h4 (by decide), decide_eq_true hab]
  rfl
theorem w_deleteRange (l : Launch) (hst : l.stackTraces = false) (G : wG) (σ : cS) (μ : mS) (o : Nat → Int64) (p0 p1 p2 p3 : Int32) (h : RH G σ μ) : Met l yL_deleteRange wsL_deleteRange rmL (wPc G σ μ o [.ref (gA G 0), .int p0, .int p1, .int p2, .int p3, .ref (gA G 53)]) (QLP G μ (drMS μ p0 p1 p2 p3) (drMR μ p0 p1 p2 p3)) 4 34 (gP G) := by
  rcases wi_split p1 (n := 15) (by decide) with b | ⟨k2, h2, rfl⟩
  · exact kL_deleteRange_X1 l hst G σ μ o _ _ _ _ _ _ b (LQ_bad h (by decide) (by decide) (if_neg (by rw [← wi_in, b]; simp)))
  rcases wi_split p2 (n := 15) (by decide) with b | ⟨k3, h3, rfl⟩
  · exact kL_deleteRange_X2 l hst G σ μ o _ _ _ _ _ _ h2 b (LQ_bad h (by decide) (by decide) (if_neg (by rw [← wi_in p2, b]; simp)))
  have e := fun q0 q3 => drMS_g (μ := μ) (p0 := q0) (p3 := q3) h2 h3
  rcases wi_split p0 (n := 7) (by decide) with b | ⟨k1, h1, rfl⟩
  · exact kL_deleteRange_X3 l hst G σ μ o _ _ _ _ _ _ h2 h3 b (LQ_bad h (by decide) (by decide) (by rw [(e _ _).1]; exact if_neg (by unfold drG; rw [← wi_in, b]; simp)))
  rcases wi_split p3 (n := 999) (by decide) with b | ⟨k4, h4, rfl⟩
  · exact kL_deleteRange_X4 l hst G σ μ o _ _ _ _ _ _ h1 h2 h3 b (LQ_bad h (by decide) (by decide) (by rw [(e _ _).1]; exact if_neg (by unfold drG; rw [← wi_in p3, b]; simp)))
  rw [(e _ _).1, (e _ _).2]
  by_cases hab : k2 ≤ k3
  · have hfr := frI_le (μ := μ) k2 k3
    have h8 := h.1.2.2.1.1
    have hri := rgi_fr h.1.2.2.1 k2 k3
    have eG := drG_ok h1 h4 hab
    by_cases hz : frI μ k2 k3 = 8
    · have eS : rgS σ k2 k3 = σ := by unfold rgS; rw [if_neg (by omega)]
      have eR : rgR σ k2 k3 = -1 := by unfold rgR; rw [if_neg (by omega)]
      refine kL_deleteRange_X6 l hst G σ μ o _ _ _ _ _ _ h1 h2 h3 h4 hab eR ?_
      rw [eS]
      exact LQ_bad h (by decide) (by decide) (by unfold drM; rw [if_pos eG, if_pos hz])
    · refine kL_deleteRange l hst G σ μ o k1 k2 k3 k4 (hL μ) _ _ h1 h2 h3 h4 hab (by omega) h.2 (fun ns hp => ?_)
      unfold drM drR
      rw [if_pos eG, if_pos eG, if_neg hz, if_neg hz]
      by_cases hm : frI μ k2 k3 = mR μ
      · have eS : rgS σ k2 k3 = w1 (w1 σ 2 (mR μ) (nI k2)) 3 (mR μ) (nI k3) := by
          unfold rgS
          rw [hri, hm, if_pos ⟨by omega, (h.1.2.2.1.2.2 (mR μ) (Nat.le_refl _) (by omega)).1⟩]
        rw [if_pos hm, if_pos hm]
        rw [eS, hri, hm] at hp
        rw [eS, hm]
        exact bu_post (RH_new (RH_thr (k := 0) h) hab (by omega) (by show mR μ < 8; omega)) h1 (by omega) h4 hp
      · have eS : rgS σ k2 k3 = σ := by
          unfold rgS
          rw [hri, if_neg (fun z => ?_)]
          obtain ⟨g1, g2, x, y, g3, g4, g5, g6⟩ := h.1.2.2.1.2.1 (frI μ k2 k3) (by omega)
          rw [g1, g5] at z
          exact nI_nm1 (by omega) z.2
        rw [if_neg hm, if_neg hm]
        rw [eS, hri] at hp
        rw [eS]
        exact bu_post (RH_thr (k := 0) h) h1 (by omega) h4 hp
  · exact kL_deleteRange_X5 l hst G σ μ o _ _ _ _ _ _ h1 h2 h3 h4 (by omega) (LQ_bad h (by decide) (by decide) (by unfold drM; exact if_neg (by unfold drG; rw [decide_eq_false hab, Bool.and_false]; decide)))
/-! copies -/
theorem cop_b {x : Int32} (h : wi x (nI 2) = false) : isCopyB x = false := by unfold isCopyB; rw [← wi_in]; exact h
theorem cop_g {k : Nat} (h : k ≤ 2) : isCopyB (nI k) = true := isCopyB_ok (by omega)
def suMS (μ : mS) (p0 : Int32) (b : Bool) : mS := if isCopyB p0 = true then suE μ p0.toNatClampNeg b else thr μ 1
def suMR (μ : mS) (p0 : Int32) (b : Bool) : Int32 := if isCopyB p0 = true then nI (if b = true then mH μ p0.toNatClampNeg else 0) else nI 0
theorem suMS_g {μ : mS} {k : Nat} {b : Bool} (h : k ≤ 2) : suMS μ (nI k) b = suE μ k b ∧ suMR μ (nI k) b = nI (if b = true then mH μ k else 0) := by
  unfold suMS suMR
  rw [if_pos (cop_g h), if_pos (cop_g h), cl_n (by omega)]
  exact ⟨rfl, rfl⟩
theorem suS_go {μ : mS} {k n : Nat} : suS μ k (n + 1) = goM (suS μ k n) k (hC (suS μ k n) (10 * k + n)) := by
  rw [suS, goes2_eq, if_pos (by rw [(suS_k n).2.1, va_up_self])]
  rfl
theorem suS_hC {μ : mS} {k q : Nat} : ∀ n, hC (suS μ k n) q = hC μ q
  | 0 => rfl
  | n + 1 => by rw [suS_go, hC_goM]; exact suS_hC n
theorem suS_V {μ : mS} {k : Nat} : ∀ n, mV (suS μ k n) = mV (thr μ 0)
  | 0 => rfl
  | n + 1 => by rw [suS_go, (m_of goM_r).1]; exact suS_V n
theorem suS_I {μ : mS} {k p j : Nat} (hp : 45 ≤ p) : ∀ n, mI (suS μ k n) p j = mI μ p j
  | 0 => rfl
  | n + 1 => by rw [suS_go, mI_goM hp]; exact suS_I hp n
theorem hL_at {μ : mS} {i n : Nat} (hn : n < mH μ i) : (hL μ i)[n]? = some (hC μ (10 * i + n)) := by
  unfold hL
  rw [List.getElem?_map, List.getElem?_range hn]
  rfl
theorem cuS_r {σ : cS} {i : Nat} : ∀ L : List Ch, (cuS σ i L).2 = (cU' σ i true).2 := by
  intro L
  unfold cuS
  suffices h : ∀ (L : List Ch) (τ : cS), (L.foldl (fun s c => goC s i c) τ).2 = τ.2 from h L _
  intro L
  induction L with
  | nil => intro τ; rfl
  | cons c L ih => intro τ; rw [List.foldl_cons, ih, goC_r]
theorem cuS_I {σ : cS} {i p j : Nat} (hp : p < 16) : ∀ L : List Ch, cI (cuS σ i L) p j = cI σ p j := by
  intro L
  unfold cuS
  suffices h : ∀ (L : List Ch) (τ : cS), cI (L.foldl (fun s c => goC s i c) τ) p j = cI τ p j from h L _
  intro L
  induction L with
  | nil => intro τ; rfl
  | cons c L ih => intro τ; rw [List.foldl_cons, ih, cI_goC hp]
theorem up_all {σ : cS} {μ : mS} {i : Nat} (hE : RE σ μ) (hT : RT σ μ) (hH : ∀ c ∈ hL μ i, okC c) : ∀ n, n ≤ mH μ i → RE (cuS σ i ((hL μ i).take n)) (suS μ i n) ∧ RT (cuS σ i ((hL μ i).take n)) (suS μ i n)
  | 0, _ => by rw [List.take_zero]; exact ⟨hE, hT⟩
  | n + 1, hn => by
    obtain ⟨h1, h2⟩ := up_all hE hT hH n (by omega)
    have ha := hL_at (μ := μ) (i := i) (n := n) (by omega)
    have hok := hH _ (List.mem_of_getElem? ha)
    rw [cuS_app ha, suS_go, suS_hC]
    exact ⟨RE_go h1 hok, RT_go h2 hok⟩
theorem hL_clr {μ ν : mS} {i k : Nat} (h1 : ∀ q, hC ν q = hC μ q) (h2 : mH ν = mH μ) : hL (mH' ν i 0) k = va_up (hL μ) i [] k := by
  by_cases hk : k = i
  · subst hk
    rw [va_up_self]
    unfold hL
    show List.map _ (List.range (va_up (mH ν) k 0 k)) = _
    rw [va_up_self]
    rfl
  · rw [va_up_ne _ _ hk]
    unfold hL
    show List.map (fun j => hC ν (10 * k + j)) (List.range (va_up (mH ν) i 0 k)) = _
    rw [va_up_ne _ _ hk, h2]
    exact List.map_congr_left (fun j _ => h1 _)
theorem ok_clr {μ : mS} {i : Nat} (h : mOK μ) : mOK (mH' μ i 0) := by
  refine ⟨h.1, h.2.1, fun k hk => ?_, h.2.2.2⟩
  show va_up (mH μ) i 0 k ≤ 10
  by_cases hki : k = i
  · subst hki; rw [va_up_self]; omega
  · rw [va_up_ne _ _ hki]; exact h.2.2.1 k hk
theorem mem_clr {μ : mS} {i k : Nat} {c : Ch} (h : c ∈ va_up (hL μ) i [] k) : c ∈ hL μ k := by
  by_cases hk : k = i
  · subst hk; rw [va_up_self] at h; cases h
  · rw [va_up_ne _ _ hk] at h; exact h
theorem su_post {G : wG} {σ ns : cS} {μ : mS} {o : Nat → Int64} {i : Nat} (h : RH G σ μ) (hi : i < 3) (hp : sc ns (cuS σ i (hL μ i)) ∧ HI G ns (va_up (hL μ) i [])) : LQ G μ (suE μ i true) (nI (if true = true then mH μ i else 0)) (nI 0) (ns, μ, vp_updL o 0 (nI ((hL μ i).length)).toInt64) := by
  obtain ⟨⟨hE, hT, hR, hV, hU, hm, hH⟩, hI⟩ := h
  obtain ⟨g1, g2⟩ := up_all hE hT (hH i hi) (mH μ i) (Nat.le_refl _)
  rw [← hL_len (μ := μ) (i := i), List.take_length, hL_len] at g1 g2
  obtain ⟨k1, k2, k3, k4⟩ := suS_k (μ := μ) (k := i) (mH μ i)
  have r := c_of (cuS_r (σ := σ) (i := i) (hL μ i))
  have eE : suE μ i true = mH' (suS μ i (mH μ i)) i 0 := if_pos rfl
  have eL : ∀ k, hL (mH' (suS μ i (mH μ i)) i 0) k = va_up (hL μ) i [] k := fun k => hL_clr (fun q => suS_hC (mH μ i)) k1
  rw [eE]
  refine LQ_ok ⟨⟨RE_sc hp.1 g1, RT_sc hp.1 g2, RR_sc hp.1 (RR_of (fun _ => cuS_I (by decide) _) (fun _ => cuS_I (by decide) _) (fun _ => suS_I (by decide) _) (fun _ => suS_I (by decide) _) k4 hR), RV_sc hp.1 ?_, RU_sc hp.1 ?_, ok_clr (ok_suS hm hi _), fun k hk c hc => hH k hk c (mem_clr (by rw [← eL k]; exact hc))⟩, HI_cong hp.2 (fun k _ => eL k)⟩ ?_ ?_
  · show RV (cuS σ i (hL μ i)) (suS μ i (mH μ i))
    unfold RV
    rw [r.1, suS_V]
    exact hV
  · show RU (cuS σ i (hL μ i)) (suS μ i (mH μ i))
    unfold RU
    rw [r.2.1, k2]
    intro k hk
    show va_up (cU σ) i true k = va_up (mU μ) i true k
    by_cases hki : k = i
    · subst hki; rw [va_up_self, va_up_self]
    · rw [va_up_ne _ _ hki, va_up_ne _ _ hki]; exact hU k hk
  · show mV (suS μ i (mH μ i)) 18 = nI 0
    rw [suS_V]
    exact thr_18
  · rw [if_pos rfl, hL_len]
theorem w_setUp (l : Launch) (hst : l.stackTraces = false) (G : wG) (σ : cS) (μ : mS) (o : Nat → Int64) (p0 : Int32) (b : Bool) (h : RH G σ μ) : Met l yL_setUp wsL_setUp rmL (wPc G σ μ o [.ref (gA G 0), .int p0, .int (bi b), .ref (gA G 53)]) (QLP G μ (suMS μ p0 b) (suMR μ p0 b)) 4 34 (gP G) := by
  rcases wi_split p0 (n := 2) (by decide) with hb | ⟨i, hi, rfl⟩
  · exact kL_setUp_X1 l hst G σ μ o _ _ _ _ hb (LQ_bad h (by decide) (by decide) (if_neg (by rw [cop_b hb]; decide)))
  rw [(suMS_g hi).1, (suMS_g hi).2]
  cases b with
  | true => exact kL_setUp_t l hst G σ μ o i (hL μ) _ _ (by omega) h.2 (h.1.2.2.2.2.2.2 i (by omega)) (fun ns hp => su_post h (by omega) hp)
  | false =>
    refine kL_setUp_f l hst G σ μ o i _ _ (by omega) ?_
    obtain ⟨⟨hE, hT, hR, hV, hU, hm, hH⟩, hI⟩ := h
    have e : suE μ i false = mU' (thr μ 0) i false := if_neg (by decide)
    rw [e]
    refine LQ_ok ⟨⟨hE, hT, hR, hV, fun k hk => ?_, ⟨hm.1, ?_, hm.2.2⟩, hH⟩, HI_of rfl rfl rfl hI⟩ (show mV (thr μ 0) 18 = nI 0 from thr_18) (congrArg nI (if_neg Bool.false_ne_true))
    · show va_up (cU σ) i false k = va_up (mU μ) i false k
      by_cases hki : k = i
      · subst hki; rw [va_up_self, va_up_self]
      · rw [va_up_ne _ _ hki, va_up_ne _ _ hki]; exact hU k hk
    · show va_up (mU μ) i false 3 = true
      rw [va_up_ne _ _ (by omega)]; exact hm.2.1
def lhMS (μ : mS) (p0 : Int32) : mS := if isCopyB p0 = true then mH' (thr μ 0) p0.toNatClampNeg 0 else thr μ 1
def lhMR (μ : mS) (p0 : Int32) : Int32 := if isCopyB p0 = true then nI (mH μ p0.toNatClampNeg) else nI 0
theorem lhMS_g {μ : mS} {k : Nat} (h : k ≤ 2) : lhMS μ (nI k) = mH' (thr μ 0) k 0 ∧ lhMR μ (nI k) = nI (mH μ k) := by
  unfold lhMS lhMR
  rw [if_pos (cop_g h), if_pos (cop_g h), cl_n (by omega)]
  exact ⟨rfl, rfl⟩
theorem w_loseHints (l : Launch) (hst : l.stackTraces = false) (G : wG) (σ : cS) (μ : mS) (o : Nat → Int64) (p0 : Int32) (h : RH G σ μ) : Met l yL_loseHints wsL_loseHints rmL (wPc G σ μ o [.ref (gA G 0), .int p0, .ref (gA G 53)]) (QLP G μ (lhMS μ p0) (lhMR μ p0)) 4 34 (gP G) := by
  rcases wi_split p0 (n := 2) (by decide) with hb | ⟨i, hi, rfl⟩
  · exact kL_loseHints_X1 l hst G σ μ o _ _ _ hb (LQ_bad h (by decide) (by decide) (if_neg (by rw [cop_b hb]; decide)))
  rw [(lhMS_g hi).1, (lhMS_g hi).2]
  refine kL_loseHints l hst G σ μ o i (hL μ) _ _ (by omega) h.2 (fun ns hp => ?_)
  obtain ⟨⟨hE, hT, hR, hV, hU, hm, hH⟩, hI⟩ := h
  have eL : ∀ k, hL (mH' (thr μ 0) i 0) k = va_up (hL μ) i [] k := fun k => hL_clr (fun q => rfl) rfl
  exact LQ_ok ⟨Rel_sc hp.1 ⟨hE, hT, hR, hV, hU, ok_clr hm, fun k hk c hc => hH k hk c (mem_clr (by rw [← eL k]; exact hc))⟩, HI_cong hp.2 (fun k _ => eL k)⟩ (show mV (thr μ 0) 18 = nI 0 from thr_18) (by rw [hL_len])
/-! time and grace -/
theorem in_split (x : Int32) {a b : Nat} (hb : b < 2 ^ 31) (ha : a < 2 ^ 31) : (x < nI a ∨ nI b < x) ∨ ∃ k : Nat, a ≤ k ∧ k ≤ b ∧ x = nI k := by
  by_cases h1 : x < nI a
  · exact Or.inl (Or.inl h1)
  · by_cases h2 : nI b < x
    · exact Or.inl (Or.inr h2)
    · have h0 : ¬ x < 0 := fun z => h1 (fa_trans z (by rw [← nI_0]; exact nI_le (Nat.zero_le _) ha))
      obtain ⟨k, hk, rfl⟩ := nI_of2 (nI_toInt hb) h0 (fa_of_nlt h2)
      refine Or.inr ⟨k, ?_, hk, rfl⟩
      rw [nI_ltI (by omega) ha] at h1
      omega
theorem w_pass (l : Launch) (hst : l.stackTraces = false) (G : wG) (σ : cS) (μ : mS) (o : Nat → Int64) (p0 : Int32) (h : RH G σ μ) : Met l yL_pass wsL_pass rmL (wPc G σ μ o [.ref (gA G 0), .int p0, .ref (gA G 53)]) (QLP G μ (paS μ p0) (paR μ p0)) 4 34 (gP G) := by
  rcases in_split p0 (a := 1) (b := 100) (by decide) (by decide) with hb | ⟨k, h1, h2, rfl⟩
  · refine kL_pass_X1 l hst G σ μ o _ _ _ hb (LQ_bad h (by decide) (by decide) ?_)
    unfold paS
    rw [if_neg]
    unfold isInB
    rcases hb with z | z
    · rw [decide_eq_true z, Bool.not_true, Bool.false_and]; exact Bool.false_ne_true
    · rw [decide_eq_true z, Bool.not_true, Bool.and_false]; exact Bool.false_ne_true
  obtain ⟨a, ha, ea, eb⟩ := now_ok h.1
  have ei : isInB (nI k) (nI 1) (nI 100) = true := isInB_ok h1 h2 (by decide)
  have es : cV σ 4 + nI k = nI (a + k) := by rw [ea, nI_add]
  have em : mV μ 14 + nI k = nI (a + k) := by rw [eb, nI_add]
  by_cases hc : a + k ≤ 10000
  · refine kL_pass l hst G σ μ o k _ _ h1 h2 (by rw [es, nI_ltI (by decide) (by omega)]; omega) ?_
    unfold paS paR
    rw [if_pos ei, if_pos ei, em, if_pos (nI_le hc (by decide)), if_pos (nI_le hc (by decide)), show mV (thr μ 0) 14 + nI k = nI (a + k) from em, es]
    obtain ⟨⟨hE, hT, hR, hV, hU, hm, hH⟩, hI⟩ := h
    refine LQ_ok ⟨⟨hE, hT, hR, ?_, hU, hm, hH⟩, HI_of rfl rfl rfl hI⟩ (show mV (thr μ 0) 18 = nI 0 from thr_18) rfl
    exact ⟨rfl, hV.2.1, hV.2.2.1, ⟨a + k, hc, rfl⟩, hV.2.2.2.2⟩
  · refine kL_pass_X2 l hst G σ μ o k _ _ h1 h2 (by rw [es, nI_ltI (by decide) (by omega)]; omega) (LQ_bad h (by decide) (by decide) ?_)
    unfold paS
    rw [if_pos ei, em, if_neg (by rw [nI_leI (by omega) (by decide)]; exact hc)]
theorem w_setGrace (l : Launch) (hst : l.stackTraces = false) (G : wG) (σ : cS) (μ : mS) (o : Nat → Int64) (p0 : Int32) (h : RH G σ μ) : Met l yL_setGrace wsL_setGrace rmL (wPc G σ μ o [.ref (gA G 0), .int p0, .ref (gA G 53)]) (QLP G μ (sgS μ p0) (sgR μ p0)) 4 34 (gP G) := by
  rcases wi_split p0 (n := 1000) (by decide) with hb | ⟨k, hk, rfl⟩
  · exact kL_setGrace_X1 l hst G σ μ o _ _ _ hb (LQ_bad h (by decide) (by decide) (if_neg (by rw [← wi_in, hb]; decide)))
  have ei : isInB (nI k) (nI 0) (nI 1000) = true := isInB_ok (Nat.zero_le _) hk (by decide)
  refine kL_setGrace l hst G σ μ o k _ _ hk ?_
  unfold sgS sgR
  rw [if_pos ei, if_pos ei]
  obtain ⟨⟨hE, hT, hR, hV, hU, hm, hH⟩, hI⟩ := h
  exact LQ_ok ⟨⟨hE, hT, hR, ⟨hV.1, rfl, hV.2.2.1, hV.2.2.2.1, k, hk, rfl⟩, hU, hm, hH⟩, HI_of rfl rfl rfl hI⟩ (show mV (thr μ 0) 18 = nI 0 from thr_18) hV.2.1.symm
