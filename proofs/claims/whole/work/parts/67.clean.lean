/-! cleaning, counting, ranges -/
theorem xE_w40 {μ : mS} {q q' : Nat} {x : Int32} : xE (w2 μ 40 q x) q' = if q' = q then (x, (xE μ q').2) else xE μ q' := by
  unfold xE
  simp only [mI_w2]
  by_cases h : q' = q <;> simp [h]
theorem xT_w40 {μ : mS} {q q' : Nat} {x : Int32} : xT (w2 μ 40 q x) q' = xT μ q' := by
  unfold xT
  simp [mI_w2]
theorem xT_w43 {μ : mS} {q q' : Nat} {x : Int32} : xT (w2 μ 43 q x) q' = if q' = q then (x, (xT μ q').2) else xT μ q' := by
  unfold xT
  simp only [mI_w2]
  by_cases h : q' = q <;> simp [h]
theorem xE_w43 {μ : mS} {q q' : Nat} {x : Int32} : xE (w2 μ 43 q x) q' = xE μ q' := by
  unfold xE
  simp [mI_w2]
theorem mI_w2n {μ : mS} {p q p' j : Nat} {x : Int32} (h : p' ≠ p) : mI (w2 μ p q x) p' j = mI μ p' j := by rw [mI_w2, if_neg (fun z => h z.1)]
theorem sE_dropE {σ : cS} {t k t' k' : Nat} : sE (dropE σ t k) t' k' = if t' = t ∧ k' = k then (-1, nI 0, nI 0) else sE σ t' k' := sE_putE
theorem sT_dropE {σ : cS} {t k t' k' : Nat} : sT (dropE σ t k) t' k' = sT σ t' k' := sT_putE
/-- both states, related -/
def R3 (σ : cS) (μ : mS) : Prop := RE σ μ ∧ RT σ μ ∧ RR σ μ
theorem R3_dropE {σ : cS} {μ : mS} {t k : Nat} (h : R3 σ μ) (hk : k < 64) : R3 (dropE σ t k) (w2 μ 40 (64 * t + k) (-1)) := by
  obtain ⟨hE, hT, hR⟩ := h
  refine ⟨fun t' k' ht' hk' => ?_, fun t' k' ht' hk' => ?_, ?_⟩
  · rw [sE_dropE, xE_w40]
    by_cases h : t' = t ∧ k' = k
    · rw [if_pos h, if_pos (by omega)]
      exact ⟨(if_pos rfl).symm, Or.inl rfl⟩
    · rw [if_neg h, if_neg (by omega)]
      exact hE t' k' ht' hk'
  · rw [sT_dropE, xT_w40]
    exact hT t' k' ht' hk'
  · exact RR_of (fun _ => cI_putE (by decide)) (fun _ => cI_putE (by decide)) (fun _ => mI_w2n (by decide)) (fun _ => mI_w2n (by decide)) rfl hR
theorem R3_dropT {σ : cS} {μ : mS} {t k : Nat} (h : R3 σ μ) (hk : k < 92) : R3 (putT σ t k (-1) (nI 0)) (w2 μ 43 (92 * t + k) (-1)) := by
  obtain ⟨hE, hT, hR⟩ := h
  refine ⟨fun t' k' ht' hk' => ?_, fun t' k' ht' hk' => ?_, ?_⟩
  · rw [sE_putT, xE_w43]
    exact hE t' k' ht' hk'
  · rw [sT_putT, xT_w43]
    by_cases h : t' = t ∧ k' = k
    · rw [if_pos h, if_pos (by omega)]
      exact ⟨(if_pos rfl).symm, Or.inl rfl⟩
    · rw [if_neg h, if_neg (by omega)]
      exact hT t' k' ht' hk'
  · exact RR_of (fun _ => cI_putT (by decide)) (fun _ => cI_putT (by decide)) (fun _ => mI_w2n (by decide)) (fun _ => mI_w2n (by decide)) rfl hR
theorem putE_r {σ : cS} {t k : Nat} {v sp en : Int32} : (putE σ t k v sp en).2 = σ.2 := rfl
theorem putT_r {σ : cS} {t k : Nat} {sp ma : Int32} : (putT σ t k sp ma).2 = σ.2 := rfl
theorem cl_1 {σ : cS} {μ : mS} {t : Nat} (h : R3 σ μ) (ht : t < 4) : ∀ n, n ≤ 64 → R3 (dcs σ t n).1 (cl1 μ t n).1 ∧ (dcs σ t n).2 = (cl1 μ t n).2 ∧ (dcs σ t n).1.2 = σ.2 ∧ (cl1 μ t n).1.2 = μ.2 ∧ ∀ p q, 45 ≤ p → mI (cl1 μ t n).1 p q = mI μ p q
  | 0, _ => ⟨h, rfl, rfl, rfl, fun _ _ _ => rfl⟩
  | n + 1, hn => by
    obtain ⟨h1, h2, h3, h4, h5⟩ := cl_1 h ht n (by omega)
    unfold dcs cl1
    rw [cE_1 h1.1 ht (by omega), cov_eq h1.1 h1.2.1 h1.2.2 ht (show n / 4 < 16 by omega) (Nat.mod_lt _ (by decide)), show 4 * (n / 4) + n % 4 = n by omega]
    by_cases c1 : mI (cl1 μ t n).1 40 (64 * t + n) = -1
    · rw [if_pos c1, if_pos c1]; exact ⟨h1, h2, h3, h4, h5⟩
    · rw [if_neg c1, if_neg c1]
      by_cases c2 : buM (cl1 μ t n).1 t (n / 4) (n % 4) < mI (cl1 μ t n).1 40 (64 * t + n)
      · rw [if_pos c2, if_neg (by rw [decide_eq_true c2]; decide)]; exact ⟨h1, h2, h3, h4, h5⟩
      · rw [if_neg c2, if_pos (by rw [decide_eq_false c2]; rfl), h2]
        exact ⟨R3_dropE h1 (by omega), rfl, putE_r.trans h3, h4, fun p q hp => (mI_w2n (by omega)).trans (h5 p q hp)⟩
theorem la_T {a g m : Nat} (ha : a ≤ 10000) (hg : g ≤ 1000) (hm : m ≤ 11001) : (nI a - nI g < nI m ↔ (nI a - nI m : Int32) < nI g) := by
  rw [fa_lt, fa_lt, pk_sub_toInt (by omega) (by omega), pk_sub_toInt (by omega) (by omega), nI_toInt (by omega), nI_toInt (by omega)]
  omega
theorem la_E {a g : Nat} (ha : a ≤ 10000) (hg : g ≤ 1000) : nI a - nI g < nI 11001 := by
  rw [fa_lt, pk_sub_toInt (by omega) (by omega), nI_toInt (by decide)]
  omega
theorem cl_2 {σ : cS} {μ : mS} {t : Nat} (h : R3 σ μ) (ht : t < 4) {a g : Nat} (ha : a ≤ 10000) (hg : g ≤ 1000) (hV : mV μ 14 = nI a) (hG : mV μ 15 = nI g) : ∀ n, n ≤ 92 → R3 (dts (dcs σ t 64).1 t (nI a - nI g) n).1 (cl2 μ t n).1 ∧ (dcs σ t 64).2 + (dts (dcs σ t 64).1 t (nI a - nI g) n).2 = (cl2 μ t n).2 ∧ (dts (dcs σ t 64).1 t (nI a - nI g) n).1.2 = σ.2 ∧ (cl2 μ t n).1.2 = μ.2 ∧ ∀ p q, 45 ≤ p → mI (cl2 μ t n).1 p q = mI μ p q
  | 0, _ => by
    obtain ⟨h1, h2, h3, h4, h5⟩ := cl_1 h ht 64 (Nat.le_refl _)
    rw [dts, cl2]
    generalize dcs σ t 64 = D at *
    generalize cl1 μ t 64 = E at *
    exact ⟨h1, h2, h3, h4, h5⟩
  | n + 1, hn => by
    obtain ⟨h1, h2, h3, h4, h5⟩ := cl_2 h ht ha hg hV hG n (by omega)
    have hv : mV (cl2 μ t n).1 = mV μ := (m_of h4).1
    generalize hD : dcs σ t 64 = D at *
    unfold dts cl2
    have hx := h1.2.1 t n ht (by omega)
    have x1 : cI (dts D.1 t (nI a - nI g) n).1 (15 + 6 * t + 4) n = mI (cl2 μ t n).1 43 (92 * t + n) := cT_1 h1.2.1 ht (by omega)
    have x2 : cI (dts D.1 t (nI a - nI g) n).1 (15 + 6 * t + 5) n = (nT (xT (cl2 μ t n).1 (92 * t + n))).2 := congrArg Prod.snd hx.1
    rw [x1, x2, hv, hV, hG]
    by_cases c1 : mI (cl2 μ t n).1 43 (92 * t + n) = -1
    · rw [if_pos c1, if_pos c1]; exact ⟨h1, h2, h3, h4, h5⟩
    · rw [if_neg c1, if_neg c1]
      have hok := hx.2.resolve_left c1
      rw [nT_ok hok]
      obtain ⟨s, m, -, hm, e⟩ := hok
      have e2 : mI (cl2 μ t n).1 44 (92 * t + n) = nI m := congrArg Prod.snd e
      rw [show (xT (cl2 μ t n).1 (92 * t + n)).2 = nI m from congrArg Prod.snd e, e2]
      by_cases c2 : nI a - nI g < nI m
      · rw [if_pos c2, if_pos ((la_T ha hg (by omega)).mp c2)]; exact ⟨h1, h2, h3, h4, h5⟩
      · rw [if_neg c2, if_neg (fun z => c2 ((la_T ha hg (by omega)).mpr z))]
        exact ⟨R3_dropT h1 (by omega), by show D.2 + ((dts D.1 t (nI a - nI g) n).2 + 1) = (cl2 μ t n).2 + 1; omega, putT_r.trans h3, h4, fun p q hp => (mI_w2n (by omega)).trans (h5 p q hp)⟩
theorem cl_3 {σ : cS} {μ : mS} {t : Nat} (h : R3 σ μ) (ht : t < 4) {a g : Nat} (ha : a ≤ 10000) (hg : g ≤ 1000) (hV : mV μ 14 = nI a) (hG : mV μ 15 = nI g) : ∀ n, n ≤ 64 → R3 (des (dts (dcs σ t 64).1 t (nI a - nI g) 92).1 t (nI a - nI g) n).1 (cl3 μ t n).1 ∧ (dcs σ t 64).2 + (dts (dcs σ t 64).1 t (nI a - nI g) 92).2 + (des (dts (dcs σ t 64).1 t (nI a - nI g) 92).1 t (nI a - nI g) n).2 = (cl3 μ t n).2 ∧ (des (dts (dcs σ t 64).1 t (nI a - nI g) 92).1 t (nI a - nI g) n).1.2 = σ.2 ∧ (cl3 μ t n).1.2 = μ.2 ∧ ∀ p q, 45 ≤ p → mI (cl3 μ t n).1 p q = mI μ p q
  | 0, _ => by
    obtain ⟨h1, h2, h3, h4, h5⟩ := cl_2 h ht ha hg hV hG 92 (Nat.le_refl _)
    rw [des, cl3]
    generalize dts (dcs σ t 64).1 t (nI a - nI g) 92 = D at *
    generalize dcs σ t 64 = C at *
    generalize cl2 μ t 92 = E at *
    exact ⟨h1, h2, h3, h4, h5⟩
  | n + 1, hn => by
    obtain ⟨h1, h2, h3, h4, h5⟩ := cl_3 h ht ha hg hV hG n (by omega)
    have hv : mV (cl3 μ t n).1 = mV μ := (m_of h4).1
    generalize hD : dts (dcs σ t 64).1 t (nI a - nI g) 92 = D at *
    generalize hC : dcs σ t 64 = C at *
    unfold des cl3
    have hx := h1.1 t n ht (by omega)
    have x1 : cI (des D.1 t (nI a - nI g) n).1 (15 + 6 * t + 1) n = mI (cl3 μ t n).1 40 (64 * t + n) := cE_1 h1.1 ht (by omega)
    have x2 : cI (des D.1 t (nI a - nI g) n).1 (15 + 6 * t + 3) n = (nE (xE (cl3 μ t n).1 (64 * t + n))).2.2 := congrArg (fun z => z.2.2) hx.1
    rw [x1, x2, hv, hV, hG]
    by_cases c1 : mI (cl3 μ t n).1 40 (64 * t + n) = -1
    · rw [if_pos c1, if_pos c1]; exact ⟨h1, h2, h3, h4, h5⟩
    · rw [if_neg c1, if_neg c1]
      have hok := hx.2.resolve_left c1
      rw [nE_ok hok]
      obtain ⟨s, v, m, -, -, hm1, hm, e | e⟩ := hok
      · have e2 : mI (cl3 μ t n).1 42 (64 * t + n) = -1 := congrArg (fun z => z.2.2) e
        rw [show (xE (cl3 μ t n).1 (64 * t + n)).2.2 = -1 from congrArg (fun z => z.2.2) e, e2, if_pos rfl, endR_m, if_pos (la_E ha hg)]
        exact ⟨h1, h2, h3, h4, h5⟩
      · have e2 : mI (cl3 μ t n).1 42 (64 * t + n) = nI m := congrArg (fun z => z.2.2) e
        rw [show (xE (cl3 μ t n).1 (64 * t + n)).2.2 = nI m from congrArg (fun z => z.2.2) e, e2, if_neg (nI_nm1 (show m < 2 ^ 31 by omega)), endR_i (by omega)]
        by_cases c2 : nI a - nI g < nI m
        · rw [if_pos c2, if_pos ((la_T ha hg (by omega)).mp c2)]; exact ⟨h1, h2, h3, h4, h5⟩
        · rw [if_neg c2, if_neg (fun z => c2 ((la_T ha hg (by omega)).mpr z))]
          exact ⟨R3_dropE h1 (by omega), by show C.2 + D.2 + ((des D.1 t (nI a - nI g) n).2 + 1) = (cl3 μ t n).2 + 1; omega, putE_r.trans h3, h4, fun p q hp => (mI_w2n (by omega)).trans (h5 p q hp)⟩
/-! counting -/
theorem cnt_E {σ : cS} {μ : mS} (hE : RE σ μ) {t : Nat} (ht : t < 4) : ∀ n, n ≤ 64 → cntE σ t n = ecM μ t n
  | 0, _ => rfl
  | n + 1, hn => by unfold cntE ecM; rw [cE_1 hE ht (by omega), cnt_E hE ht n (by omega)]
theorem cntT_ct {σ : cS} {t a : Nat} : ∀ n, cntT σ t a n = fb_ct (fun i => !decide (cI σ (15 + 6 * t + 4) (a + i) = -1)) n
  | 0 => rfl
  | n + 1 => by
    unfold cntT
    rw [fb_ct_succ, ← cntT_ct n]
    by_cases h : cI σ (15 + 6 * t + 4) (a + n) = -1
    · rw [if_pos h, decide_eq_true h]; rfl
    · rw [if_neg h, decide_eq_false h]; rfl
theorem kdM_lt (r : Nat) : kdM r < 2 ^ 31 := by unfold kdM; (repeat' split) <;> decide
theorem tcM_ct {μ : mS} {k r : Nat} (hr : r < 4) : ∀ n, tcM μ k (nI r) n = fb_ct (fun i => !decide (mI μ 43 (92 * k + i) = -1) && decide (kdM i = r)) n
  | 0 => rfl
  | n + 1 => by
    unfold tcM
    rw [fb_ct_succ, ← tcM_ct hr n]
    by_cases h : mI μ 43 (92 * k + n) = -1
    · rw [if_pos h, decide_eq_true h]; rfl
    · rw [if_neg h, decide_eq_false h]
      by_cases h2 : kdM n = r
      · rw [if_pos (by rw [h2]), decide_eq_true h2]; rfl
      · rw [if_neg (fun z => h2 ((nI_eq (kdM_lt n) (by omega)).mp z)), decide_eq_false h2]; rfl
theorem ct_none {p : Nat → Bool} {n : Nat} (h : ∀ k, k < n → p k = false) : fb_ct p n = 0 := fb_ct_zero.mpr h
theorem ct_mid {p : Nat → Bool} {a w n : Nat} (h : a + w ≤ n) (h0 : ∀ k, k < n → (k < a ∨ a + w ≤ k) → p k = false) : fb_ct p n = fb_ct (fun k => p (a + k)) w := by
  obtain ⟨r, rfl⟩ : ∃ r, n = a + w + r := ⟨n - (a + w), by omega⟩
  rw [fb_ct_split, fb_ct_split, ct_none (p := p) (n := a) (fun k hk => h0 k (by omega) (Or.inl hk)), ct_none (p := fun k => p (a + w + k)) (n := r) (fun k hk => h0 _ (by omega) (Or.inr (by omega))), Nat.zero_add, Nat.add_zero]
theorem kd_in {r k : Nat} (hr : r < 4) (hk : k < 92) : kdM k = r ↔ fpl r ≤ k ∧ k < fpl (r + 1) := by
  unfold kdM fpl
  rcases (show r = 0 ∨ r = 1 ∨ r = 2 ∨ r = 3 by omega) with rfl | rfl | rfl | rfl <;> simp <;> (repeat' split) <;> omega
theorem cnt_T {σ : cS} {μ : mS} (hT : RT σ μ) {t r : Nat} (ht : t < 4) (hr : r < 4) : cntT σ t (fpl r) (fpl (r + 1) - fpl r) = tcM μ t (nI r) 92 := by
  have h1 := fpl_le (r + 1)
  have h2 := fpl_mono r
  rw [cntT_ct, tcM_ct hr, ct_mid (a := fpl r) (w := fpl (r + 1) - fpl r) (n := 92) (by omega) (fun k hk h => by rw [decide_eq_false (show ¬ kdM k = r from fun z => by have := (kd_in hr hk).mp z; omega), Bool.and_false])]
  apply fb_ct_cong
  intro k hk
  show (!decide (cI σ (15 + 6 * t + 4) (fpl r + k) = -1)) = (!decide (mI μ 43 (92 * t + (fpl r + k)) = -1) && decide (kdM (fpl r + k) = r))
  rw [cT_1 hT ht (by omega), decide_eq_true ((kd_in hr (show fpl r + k < 92 by omega)).mpr ⟨by omega, by omega⟩), Bool.and_true]
/-! ranges -/
theorem rgh_eq {σ : cS} {μ : mS} (hR : RR σ μ) {a b r : Nat} (hr : r < mR μ) : rgh σ a b r = frM μ a b r := by
  obtain ⟨h1, h2, x, y, hxy, hy, h3, h4⟩ := hR.2.1 r hr
  unfold rgh frM
  rw [h1, h2, decide_eq_false (by rw [h3]; exact nI_nm1 (by omega)), Bool.false_or]
theorem rg_fr {σ : cS} {μ : mS} (hR : RR σ μ) {a b : Nat} : ∀ n d i, n + i = mR μ → mR μ + d = 8 → rg σ a b (n + d) i = fr μ a b n i
  | 0, d, i, h1, h2 => by
    rw [Nat.zero_add]
    unfold fr
    cases d with
    | zero => rfl
    | succ d =>
      unfold rg
      obtain ⟨h3, h4⟩ := hR.2.2 i (by omega) (by omega)
      rw [if_pos (by unfold rgh; rw [h3]; rfl)]
  | n + 1, d, i, h1, h2 => by
    rw [show n + 1 + d = (n + d) + 1 by omega]
    unfold rg fr
    rw [rgh_eq hR (by omega), rg_fr hR n d (i + 1) (by omega) h2]
theorem rgi_fr {σ : cS} {μ : mS} (hR : RR σ μ) (a b : Nat) : rgi σ a b = frI μ a b := by
  unfold rgi frI
  have h := rg_fr hR (a := a) (b := b) (mR μ) (8 - mR μ) 0 (by omega) (by have := hR.1; omega)
  rw [show mR μ + (8 - mR μ) = 8 by have := hR.1; omega] at h
  exact h
theorem frI_le {μ : mS} (a b : Nat) : frI μ a b ≤ mR μ := by have h := fr_le (μ := μ) (a := a) (b := b) (mR μ) 0; unfold frI; omega
/-- a range that is new -/
theorem RR_new {σ : cS} {μ : mS} (hR : RR σ μ) {a b : Nat} (hab : a ≤ b) (hb : b < 16) (h8 : mR μ < 8) : RR (w1 (w1 σ 2 (mR μ) (nI a)) 3 (mR μ) (nI b)) (mR' (w2 (w2 μ 45 (mR μ) (nI a)) 46 (mR μ) (nI b)) (mR μ + 1)) := by
  have eR : mR (mR' (w2 (w2 μ 45 (mR μ) (nI a)) 46 (mR μ) (nI b)) (mR μ + 1)) = mR μ + 1 := rfl
  have e45 : ∀ r, mI (mR' (w2 (w2 μ 45 (mR μ) (nI a)) 46 (mR μ) (nI b)) (mR μ + 1)) 45 r = if r = mR μ then nI a else mI μ 45 r := fun r => by
    show mI (w2 (w2 μ 45 (mR μ) (nI a)) 46 (mR μ) (nI b)) 45 r = _
    rw [mI_w2, if_neg (by omega), mI_w2]
    simp
  have e46 : ∀ r, mI (mR' (w2 (w2 μ 45 (mR μ) (nI a)) 46 (mR μ) (nI b)) (mR μ + 1)) 46 r = if r = mR μ then nI b else mI μ 46 r := fun r => by
    show mI (w2 (w2 μ 45 (mR μ) (nI a)) 46 (mR μ) (nI b)) 46 r = _
    rw [mI_w2, mI_w2, if_neg (show ¬ (46 = 45 ∧ r = mR μ) by omega)]
    simp
  have e2 : ∀ r, cI (w1 (w1 σ 2 (mR μ) (nI a)) 3 (mR μ) (nI b)) 2 r = if r = mR μ then nI a else cI σ 2 r := fun r => by
    rw [cI_w1, if_neg (by omega), cI_w1]
    simp
  have e3 : ∀ r, cI (w1 (w1 σ 2 (mR μ) (nI a)) 3 (mR μ) (nI b)) 3 r = if r = mR μ then nI b else cI σ 3 r := fun r => by
    rw [cI_w1, cI_w1, if_neg (show ¬ (3 = 2 ∧ r = mR μ) by omega)]
    simp
  refine ⟨by rw [eR]; omega, fun r hr => ?_, fun r h1 h2 => ?_⟩
  · rw [eR] at hr
    rw [e45, e46, e2, e3]
    by_cases h : r = mR μ
    · rw [if_pos h, if_pos h, if_pos h, if_pos h]
      exact ⟨rfl, rfl, a, b, hab, hb, rfl, rfl⟩
    · rw [if_neg h, if_neg h, if_neg h, if_neg h]
      exact hR.2.1 r (by omega)
  · rw [eR] at h1
    rw [e2, e3, if_neg (by omega), if_neg (by omega)]
    exact hR.2.2 r (by omega) h2
