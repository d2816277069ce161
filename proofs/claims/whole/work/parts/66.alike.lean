/-! making alike -/
theorem tkRn_I {σ : cS} {t t2 row p j : Nat} (hp : p < 16) : ∀ n, cI (tkRn σ t t2 row n) p j = cI σ p j
  | 0 => rfl
  | n + 1 => by unfold tkRn tkC; rw [tkCn_I hp]; exact tkRn_I hp n
theorem tkRn_r {σ : cS} {t t2 row : Nat} : ∀ n, (tkRn σ t t2 row n).2 = σ.2
  | 0 => rfl
  | n + 1 => by unfold tkRn tkC; rw [tkCn_r]; exact tkRn_r n
theorem cpO_tkRn {σ : cS} {t t2 row n : Nat} (r2 c2 c : Nat) : cpO (tkRn σ t t2 row n) r2 c2 c = cpO σ r2 c2 c := cpO_I (funext fun _ => tkRn_I (by decide) n) (funext fun _ => tkRn_I (by decide) n) _ _ _
theorem sE_tkRn {σ : cS} {t t2 row t' k : Nat} (h2 : t2 ≠ t) : ∀ n, sE (tkRn σ t t2 row n) t' k = if t' = t ∧ row * 4 ≤ k ∧ k < row * 4 + n then tkE (sE σ t k) (sE σ t2 k) else sE σ t' k
  | 0 => (if_neg (by omega)).symm
  | n + 1 => by
    have ih := fun t' => sE_tkRn (σ := σ) (t := t) (t2 := t2) (row := row) (t' := t') (k := k) h2 n
    unfold tkRn tkC
    rw [sE_tkCn, ih t, ih t2, ih t']
    by_cases hk : k = row * 4 + n
    · rw [if_neg (show ¬ (t = t ∧ row * 4 ≤ k ∧ k < row * 4 + n) by omega), if_neg (show ¬ (t2 = t ∧ row * 4 ≤ k ∧ k < row * 4 + n) by omega), if_neg (show ¬ (t' = t ∧ row * 4 ≤ k ∧ k < row * 4 + n) by omega)]
      by_cases ht : t' = t
      · rw [if_pos ⟨ht, hk⟩, if_pos ⟨ht, by omega, by omega⟩]
      · rw [if_neg (fun z => ht z.1), if_neg (fun z => ht z.1)]
    · rw [if_neg (fun z => hk z.2)]
      by_cases h : t' = t ∧ row * 4 ≤ k ∧ k < row * 4 + n
      · rw [if_pos h, if_pos (by omega)]
      · rw [if_neg h, if_neg (by omega)]
theorem sT_tkRn {σ : cS} {t t2 row : Nat} (h2 : t2 ≠ t) : ∀ n, (∀ t' p, ¬ (t' = t ∧ ∃ d, d < n ∧ ∃ c, c < 11 ∧ cpO σ row d c = some p) → sT (tkRn σ t t2 row n) t' p = sT σ t' p) ∧ ∀ p, (∃ d, d < n ∧ ∃ c, c < 11 ∧ cpO σ row d c = some p) → sT (tkRn σ t t2 row n) t p = tkT (sT σ t p) (sT σ t2 p)
  | 0 => ⟨fun t' p _ => rfl, fun p ⟨d, hd, _⟩ => absurd hd (Nat.not_lt_zero _)⟩
  | n + 1 => by
    obtain ⟨ih1, ih2⟩ := sT_tkRn (σ := σ) (t := t) (t2 := t2) (row := row) h2 n
    obtain ⟨g1, g2⟩ := sT_tkCn (σ := tkRn σ t t2 row n) (row := row) (col := n) h2 11
    have e : ∀ c, cpO (tkRn σ t t2 row n) row n c = cpO σ row n c := fun c => cpO_tkRn _ _ c
    simp only [e] at g1 g2
    unfold tkRn tkC
    refine ⟨fun t' p h => ?_, fun p ⟨d, hd, hx⟩ => ?_⟩
    · rw [g1 t' p (fun z => h ⟨z.1, n, by omega, z.2⟩)]
      exact ih1 t' p (fun ⟨h1, d, hd, hx⟩ => h ⟨h1, d, by omega, hx⟩)
    · by_cases hn : ∃ c, c < 11 ∧ cpO σ row n c = some p
      · rw [g2 p hn, ih1 t2 p (fun z => h2 z.1)]
        by_cases hb : ∃ d, d < n ∧ ∃ c, c < 11 ∧ cpO σ row d c = some p
        · rw [ih2 p hb, tkT_twice]
        · rw [ih1 t p (fun z => hb z.2)]
      · rw [g1 t p (fun z => hn z.2)]
        refine ih2 p ⟨d, ?_, hx⟩
        rcases Nat.lt_or_ge d n with q | q
        · exact q
        · obtain rfl : d = n := by omega
          exact absurd hx hn
/-- both ways taken, a whole row -/
def bkR (σ : cS) (i j row : Nat) : cS := tkR (tkR σ i j row) j i row
theorem bkR_r {σ : cS} {i j row : Nat} : (bkR σ i j row).2 = σ.2 := by unfold bkR tkR; rw [tkRn_r, tkRn_r]
theorem bkR_I {σ : cS} {i j row p q : Nat} (hp : p < 16) : cI (bkR σ i j row) p q = cI σ p q := by unfold bkR tkR; rw [tkRn_I hp, tkRn_I hp]
theorem sE_bkR {σ : cS} {i j row t p : Nat} (hij : i ≠ j) : sE (bkR σ i j row) t p = if row * 4 ≤ p ∧ p < row * 4 + 4 then (if t = i then tkE (sE σ i p) (sE σ j p) else if t = j then tkE (sE σ j p) (sE σ i p) else sE σ t p) else sE σ t p := by
  have hji : j ≠ i := fun z => hij z.symm
  unfold bkR tkR
  rw [sE_tkRn hij, sE_tkRn hji, sE_tkRn hji, sE_tkRn hji]
  by_cases h : row * 4 ≤ p ∧ p < row * 4 + 4
  · by_cases h1 : t = i
    · subst h1
      rw [if_neg (fun z => hij z.1), if_pos ⟨rfl, h⟩, if_pos h, if_pos rfl]
    · by_cases h2 : t = j
      · subst h2
        rw [if_pos ⟨rfl, h⟩, if_neg (fun z => h1 z.1), if_pos ⟨rfl, h⟩, if_pos h, if_neg h1, if_pos rfl, tkE_back]
      · rw [if_neg (fun z => h2 z.1), if_neg (fun z => h1 z.1), if_pos h, if_neg h1, if_neg h2]
  · rw [if_neg (fun z => h z.2), if_neg (fun z => h z.2), if_neg h]
theorem tou_ex {μ : mS} {p row : Nat} : touM μ p row = true ↔ ∃ d, d < 4 ∧ covM μ p row d = true := by
  unfold touM
  simp only [Bool.or_eq_true]
  constructor
  · rintro (((h | h) | h) | h)
    · exact ⟨0, by decide, h⟩
    · exact ⟨1, by decide, h⟩
    · exact ⟨2, by decide, h⟩
    · exact ⟨3, by decide, h⟩
  · rintro ⟨d, hd, h⟩
    rcases (show d = 0 ∨ d = 1 ∨ d = 2 ∨ d = 3 by omega) with rfl | rfl | rfl | rfl
    · exact Or.inl (Or.inl (Or.inl h))
    · exact Or.inl (Or.inl (Or.inr h))
    · exact Or.inl (Or.inr h)
    · exact Or.inr h
theorem tou_cp {σ : cS} {μ : mS} (hR : RR σ μ) {p row : Nat} (hrow : row < 16) (hp : p < 92) : touM μ p row = true ↔ ∃ d, d < 4 ∧ ∃ c, c < 11 ∧ cpO σ row d c = some p := by
  rw [tou_ex]
  constructor
  · rintro ⟨d, hd, h⟩
    exact ⟨d, hd, cp_of hR hrow hd hp h⟩
  · rintro ⟨d, hd, c, hc, h⟩
    exact ⟨d, hd, (cp_in hR hrow hd hc h).2⟩
theorem sT_bkR {σ : cS} {μ : mS} (hR : RR σ μ) {i j row t p : Nat} (hij : i ≠ j) (hrow : row < 16) (hp : p < 92) : sT (bkR σ i j row) t p = if touM μ p row = true then (if t = i then tkT (sT σ i p) (sT σ j p) else if t = j then tkT (sT σ j p) (sT σ i p) else sT σ t p) else sT σ t p := by
  unfold bkR tkR
  obtain ⟨h1, h2⟩ := sT_tkRn (σ := σ) (row := row) (fun z => hij z.symm) 4
  obtain ⟨g1, g2⟩ := sT_tkRn (σ := tkRn σ i j row 4) (row := row) hij 4
  have e1 : ∀ d c, cpO (tkRn σ i j row 4) row d c = cpO σ row d c := fun d c => cpO_tkRn _ _ c
  simp only [e1] at g1 g2
  by_cases h : touM μ p row = true
  · rw [if_pos h]
    have hex := (tou_cp hR hrow hp).mp h
    by_cases ht : t = i
    · subst ht
      rw [if_pos rfl, g1 t p (fun z => hij z.1), h2 p hex]
    · rw [if_neg ht]
      by_cases ht2 : t = j
      · subst ht2
        rw [if_pos rfl, g2 p hex, h1 t p (fun z => ht z.1), h2 p hex, tkT_back]
      · rw [if_neg ht2, g1 t p (fun z => ht2 z.1), h1 t p (fun z => ht z.1)]
  · rw [if_neg h]
    have hno : ¬ ∃ d, d < 4 ∧ ∃ c, c < 11 ∧ cpO σ row d c = some p := fun z => h ((tou_cp hR hrow hp).mpr z)
    rw [g1 t p (fun z => hno z.2), h1 t p (fun z => hno z.2)]
/-- the model's row -/
theorem maC_I {μ : mS} {k j row p i : Nat} (hp : 45 ≤ p) : ∀ n, mI (maC μ k j row n) p i = mI μ p i
  | 0 => rfl
  | n + 1 => by unfold maC; rw [mI_givE hp, mI_givE hp]; exact maC_I hp n
theorem maC_r {μ : mS} {k j row : Nat} : ∀ n, (maC μ k j row n).2 = μ.2
  | 0 => rfl
  | n + 1 => by unfold maC; rw [givE_r, givE_r]; exact maC_r n
theorem maT_I {μ : mS} {k j row p i : Nat} (hp : 45 ≤ p) : ∀ n, mI (maT μ k j row n) p i = mI μ p i
  | 0 => by unfold maT; exact maC_I hp 4
  | n + 1 => by
    unfold maT
    split
    · rw [mI_givT hp, mI_givT hp]; exact maT_I hp n
    · exact maT_I hp n
theorem maT_r {μ : mS} {k j row : Nat} : ∀ n, (maT μ k j row n).2 = μ.2
  | 0 => by unfold maT; exact maC_r 4
  | n + 1 => by
    unfold maT
    split
    · rw [givT_r, givT_r]; exact maT_r n
    · exact maT_r n
theorem touM_I {μ ν : mS} (h1 : mI μ 45 = mI ν 45) (h2 : mI μ 46 = mI ν 46) (h3 : mR μ = mR ν) (r row : Nat) : touM μ r row = touM ν r row := by
  unfold touM
  rw [covM_I h1 h2 h3, covM_I h1 h2 h3, covM_I h1 h2 h3, covM_I h1 h2 h3]
theorem touM_maT {μ : mS} {k j row n : Nat} (r r2 : Nat) : touM (maT μ k j row n) r r2 = touM μ r r2 := touM_I (funext fun _ => maT_I (by decide) n) (funext fun _ => maT_I (by decide) n) (m_of (maT_r n)).2.2.1 _ _
theorem xE_maC {μ : mS} {k j row t p : Nat} (hkj : k ≠ j) (hrow : row < 16) (hp : p < 64) : ∀ n, n ≤ 4 → xE (maC μ k j row n) (64 * t + p) = boE μ k j (decide (4 * row ≤ p ∧ p < 4 * row + n)) t p
  | 0, _ => by
    unfold maC boE
    rw [decide_eq_false (by omega), if_neg (by decide)]
  | n + 1, hn => by
    have ih := fun t p hp => xE_maC (μ := μ) (k := k) (j := j) (row := row) (t := t) (p := p) hkj hrow hp n (by omega)
    unfold maC
    rw [xE_both hkj (by omega) hp]
    by_cases h : p = 4 * row + n
    · rw [if_pos h, ← h, ih k p hp, ih j p hp, ih t p hp]
      unfold boE
      rw [decide_eq_false (show ¬ (4 * row ≤ p ∧ p < 4 * row + n) by omega), decide_eq_true (show 4 * row ≤ p ∧ p < 4 * row + (n + 1) by omega)]
      simp
    · rw [if_neg h, ih t p hp]
      by_cases h2 : 4 * row ≤ p ∧ p < 4 * row + n
      · rw [decide_eq_true h2, decide_eq_true (by omega)]
      · rw [decide_eq_false h2, decide_eq_false (by omega)]
theorem xT_maC {μ : mS} {k j row q : Nat} : ∀ n, xT (maC μ k j row n) q = xT μ q
  | 0 => rfl
  | n + 1 => by unfold maC; rw [xT_givE, xT_givE]; exact xT_maC n
theorem xE_maT {μ : mS} {k j row q : Nat} : ∀ n, xE (maT μ k j row n) q = xE (maC μ k j row 4) q
  | 0 => by unfold maT; rfl
  | n + 1 => by
    unfold maT
    split
    · rw [xE_givT, xE_givT]; exact xE_maT n
    · exact xE_maT n
theorem xT_maT {μ : mS} {k j row t p : Nat} (hkj : k ≠ j) (hp : p < 92) : ∀ n, n ≤ 92 → xT (maT μ k j row n) (92 * t + p) = boT μ k j (decide (p < n) && touM μ p row) t p
  | 0, _ => by
    unfold maT boT
    rw [xT_maC, decide_eq_false (Nat.not_lt_zero _), Bool.false_and, if_neg (by decide)]
  | n + 1, hn => by
    have ih := fun t p hp => xT_maT (μ := μ) (k := k) (j := j) (row := row) (t := t) (p := p) hkj hp n (by omega)
    unfold maT
    rw [touM_maT]
    by_cases hc : touM μ n row = true
    · rw [if_pos hc, xT_both hkj (by omega) hp]
      by_cases h : p = n
      · subst h
        rw [if_pos rfl, ih k p hp, ih j p hp, ih t p hp]
        unfold boT
        rw [decide_eq_false (Nat.lt_irrefl _), decide_eq_true (Nat.lt_succ_self p), hc]
        simp
      · rw [if_neg h, ih t p hp, show decide (p < n + 1) = decide (p < n) from by simp; omega]
    · rw [if_neg hc, ih t p hp]
      by_cases h : p = n
      · subst h
        have hc' : touM μ p row = false := by revert hc; cases touM μ p row <;> simp
        rw [hc', Bool.and_false, Bool.and_false]
      · rw [show decide (p < n + 1) = decide (p < n) from by simp; omega]
theorem RE_row {σ : cS} {μ : mS} (hE : RE σ μ) {i j row : Nat} (hi : i < 4) (hj : j < 4) (hij : i ≠ j) (hrow : row < 16) : RE (bkR σ i j row) (maT μ i j row 92) := by
  intro t p ht hp
  rw [xE_maT, xE_maC hij hrow hp 4 (by decide), sE_bkR hij]
  obtain ⟨h1, h2⟩ := boE_eq hE (k := i) (j := j) hi hj ht hp (decide (4 * row ≤ p ∧ p < 4 * row + 4))
  refine ⟨?_, h2⟩
  rw [h1]
  by_cases hc : 4 * row ≤ p ∧ p < 4 * row + 4
  · rw [decide_eq_true hc, if_pos rfl, if_pos (by omega)]
  · rw [decide_eq_false hc, if_neg (show ¬ (row * 4 ≤ p ∧ p < row * 4 + 4) by omega)]; rfl
theorem RT_row {σ : cS} {μ : mS} (hT : RT σ μ) (hR : RR σ μ) {i j row : Nat} (hi : i < 4) (hj : j < 4) (hij : i ≠ j) (hrow : row < 16) : RT (bkR σ i j row) (maT μ i j row 92) := by
  intro t p ht hp
  rw [xT_maT hij hp 92 (Nat.le_refl _), sT_bkR hR hij hrow hp, decide_eq_true hp, Bool.true_and]
  obtain ⟨h1, h2⟩ := boT_eq hT (k := i) (j := j) hi hj ht hp (touM μ p row)
  exact ⟨h1.symm, h2⟩
theorem RR_of {σ τ : cS} {μ ν : mS} (h2 : ∀ j, cI τ 2 j = cI σ 2 j) (h3 : ∀ j, cI τ 3 j = cI σ 3 j) (g1 : ∀ j, mI ν 45 j = mI μ 45 j) (g2 : ∀ j, mI ν 46 j = mI μ 46 j) (g3 : mR ν = mR μ) (h : RR σ μ) : RR τ ν := by
  unfold RR
  rw [funext h2, funext h3, funext g1, funext g2, g3]
  exact h
theorem makR_all {σ : cS} {μ : mS} {u : Int32} {i j : Nat} (hE : RE σ μ) (hT : RT σ μ) (hR : RR σ μ) (hi : i < 4) (hj : j < 4) (hij : i ≠ j) : ∀ n, n ≤ 16 → RE (makR σ i j u n) (maR μ i j u n) ∧ RT (makR σ i j u n) (maR μ i j u n) ∧ RR (makR σ i j u n) (maR μ i j u n) ∧ (makR σ i j u n).2 = σ.2 ∧ (maR μ i j u n).2 = μ.2 ∧ ∀ p q, 45 ≤ p → mI (maR μ i j u n) p q = mI μ p q
  | 0, _ => ⟨hE, hT, hR, rfl, rfl, fun _ _ _ => rfl⟩
  | n + 1, hn => by
    obtain ⟨h1, h2, h3, h4, h5, h6⟩ := makR_all (u := u) hE hT hR hi hj hij n (by omega)
    unfold makR maR
    by_cases hb : bitB u n = true
    · rw [if_pos hb, if_pos (show decide ((u >>> (nI n &&& 31)) &&& nI 1 = nI 1) = true from hb)]
      show RE (bkR (makR σ i j u n) i j n) _ ∧ RT (bkR (makR σ i j u n) i j n) _ ∧ RR (bkR (makR σ i j u n) i j n) _ ∧ (bkR (makR σ i j u n) i j n).2 = _ ∧ _
      exact ⟨RE_row h1 hi hj hij (by omega), RT_row h2 h3 hi hj hij (by omega), RR_of (fun _ => bkR_I (by decide)) (fun _ => bkR_I (by decide)) (fun _ => maT_I (by decide) 92) (fun _ => maT_I (by decide) 92) (m_of (maT_r 92)).2.2.1 h3, bkR_r.trans h4, (maT_r 92).trans h5, fun p q hp => (maT_I hp 92).trans (h6 p q hp)⟩
    · rw [if_neg hb, if_neg (show ¬ decide ((u >>> (nI n &&& 31)) &&& nI 1 = nI 1) = true from hb)]
      exact ⟨h1, h2, h3, h4, h5, h6⟩
/-! counting bits -/
def bcN (k : Nat) : Nat :=
  (fun x1 : Nat => (fun x2 : Nat => (fun x3 : Nat => (fun x4 : Nat => Nat.land (Nat.add x4 (Nat.div x4 65536)) 63) (Nat.add x3 (Nat.div x3 256))) (Nat.land (Nat.add x2 (Nat.div x2 16)) 252645135)) (Nat.add (Nat.land x1 858993459) (Nat.land (Nat.div x1 4) 858993459))) (Nat.sub k (Nat.land (Nat.div k 2) 1431655765))
def pcN (k : Nat) : Nat → Nat
  | 0 => 0
  | n + 1 => Nat.add (pcN k n) (Nat.mod (Nat.div k (Nat.pow 2 n)) 2)
def allb (p : Nat → Bool) : Nat → Bool
  | 0 => true
  | n + 1 => p n && allb p n
theorem allb_at {p : Nat → Bool} : ∀ n, allb p n = true → ∀ k, k < n → p k = true
  | 0, _, k, hk => absurd hk (Nat.not_lt_zero _)
  | n + 1, h, k, hk => by
    unfold allb at h
    rw [Bool.and_eq_true] at h
    rcases Nat.lt_or_ge k n with q | q
    · exact allb_at n h.2 k q
    · rw [show k = n by omega]; exact h.1
theorem bc_all : allb (fun a => allb (fun b => Nat.beq (bcN (Nat.add (Nat.mul 256 a) b)) (pcN (Nat.add (Nat.mul 256 a) b) 16)) 256) 256 = true := by decide +kernel
theorem bc_ok {k : Nat} (h : k < 65536) : bcN k = pcN k 16 := by
  have h1 := allb_at _ (allb_at _ bc_all (k / 256) (by omega)) (k % 256) (Nat.mod_lt _ (by decide))
  have h2 := Nat.eq_of_beq_eq_true h1
  rw [show Nat.add (Nat.mul 256 (k / 256)) (k % 256) = k from Nat.div_add_mod k 256] at h2
  exact h2
theorem ush_N {n : Nat} (hn : n < 2 ^ 32) (j : Nat) (hj : j < 32) : ushr (nI n) (nI j) = nI (n / 2 ^ j) := pk_ushrN hn (nI j) j (s_u j hj)
theorem bitc_N {k : Nat} (h : k < 65536) : bitc (nI k) = nI (pcN k 16) := by
  rw [← bc_ok h]
  have l1 : k / 2 &&& 1431655765 ≤ k / 2 := Nat.and_le_left
  have e1 : bc1 (nI k) = nI (k - (k / 2 &&& 1431655765)) := by
    unfold bc1
    rw [ush_N (by omega) 1 (by decide), show (1431655765 : Int32) = nI 1431655765 from rfl, fa_and, Nat.pow_one, pk_sub (by omega)]
  have b1 : k - (k / 2 &&& 1431655765) < 65536 := by omega
  generalize hx1 : k - (k / 2 &&& 1431655765) = x1 at e1 b1
  have e2 : bc2 (nI x1) = nI ((x1 &&& 858993459) + (x1 / 4 &&& 858993459)) := by
    unfold bc2
    rw [ush_N (by omega) 2 (by decide), show (858993459 : Int32) = nI 858993459 from rfl, fa_and, fa_and, nI_add]
  have l2 : x1 &&& 858993459 ≤ x1 := Nat.and_le_left
  have l2' : x1 / 4 &&& 858993459 ≤ x1 / 4 := Nat.and_le_left
  have b2 : (x1 &&& 858993459) + (x1 / 4 &&& 858993459) < 131072 := by omega
  generalize hx2 : (x1 &&& 858993459) + (x1 / 4 &&& 858993459) = x2 at e2 b2
  have e3 : bc3 (nI x2) = nI ((x2 + x2 / 16) &&& 252645135) := by
    unfold bc3
    rw [ush_N (by omega) 4 (by decide), show (252645135 : Int32) = nI 252645135 from rfl, nI_add, fa_and]
  have l3 : (x2 + x2 / 16) &&& 252645135 ≤ x2 + x2 / 16 := Nat.and_le_left
  have b3 : (x2 + x2 / 16) &&& 252645135 < 262144 := by omega
  generalize hx3 : (x2 + x2 / 16) &&& 252645135 = x3 at e3 b3
  have e4 : bc4 (nI x3) = nI (x3 + x3 / 256) := by
    unfold bc4
    rw [ush_N (by omega) 8 (by decide), nI_add]
  have b4 : x3 + x3 / 256 < 524288 := by omega
  generalize hx4 : x3 + x3 / 256 = x4 at e4 b4
  have e5 : bc5 (nI x4) = nI (x4 + x4 / 65536) := by
    unfold bc5
    rw [ush_N (by omega) 16 (by decide), nI_add]
  have eN : bcN k = (x4 + x4 / 65536) &&& 63 := by
    subst hx4 hx3 hx2 hx1
    rfl
  unfold bitc
  rw [e1, e2, e3, e4, e5, fa_and, eN]
theorem bt_N {k i : Nat} (hi : i < 32) : bt (nI k) i = k.testBit i := by
  show (BitVec.ofNat 32 k).getLsbD i = _
  rw [BitVec.getLsbD_ofNat, decide_eq_true hi, Bool.true_and]
theorem maN_N {k : Nat} : ∀ n, n ≤ 32 → maN (nI k) n = pcN k n
  | 0, _ => rfl
  | n + 1, hn => by
    unfold maN
    rw [maN_N n (by omega), bitB_bt (by omega), bt_N (by omega), Nat.testBit_eq_decide_div_mod_eq]
    show _ = pcN k n + k / 2 ^ n % 2
    by_cases h : k / 2 ^ n % 2 = 1
    · rw [decide_eq_true h, if_pos rfl, h]
    · rw [decide_eq_false h, if_neg (by decide)]; omega
theorem urn_N {c : cS} : ∀ n, n ≤ 16 → ∃ k, k < 2 ^ n ∧ urn c n = nI k
  | 0, _ => ⟨0, by decide, rfl⟩
  | n + 1, hn => by
    obtain ⟨k, h1, h2⟩ := urn_N (c := c) n (by omega)
    unfold urn
    have h3 : k < 2 ^ (n + 1) := Nat.lt_of_lt_of_le h1 (Nat.pow_le_pow_right (by decide) (by omega))
    split
    · rw [h2, shl1 n (by omega), fa_or]
      exact ⟨_, Nat.or_lt_two_pow h3 (Nat.pow_lt_pow_right (by decide) (by omega)), rfl⟩
    · exact ⟨k, h3, h2⟩
theorem bitc_urn {c : cS} : bitc (urn c 16) = nI (maN (urn c 16) 16) := by
  obtain ⟨k, h1, h2⟩ := urn_N (c := c) 16 (Nat.le_refl _)
  rw [h2, bitc_N h1, maN_N 16 (by decide)]
