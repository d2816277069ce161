/-! cleaning and counting -/
def hasE (σ : cS) (t k : Nat) : Bool := !decide ((sE σ t k).1 = -1)
def hasT (σ : cS) (t p : Nat) : Bool := !decide ((sT σ t p).1 = -1)
theorem cntE_ct {σ : cS} {t : Nat} : ∀ n, cntE σ t n = fb_ct (hasE σ t) n
  | 0 => rfl
  | n + 1 => by
    unfold cntE
    rw [fb_ct_succ, ← cntE_ct n]
    by_cases h : cI σ (15 + 6 * t + 1) n = -1
    · rw [if_pos h, if_neg (by rw [show hasE σ t n = false from by show (!decide (cI σ (15 + 6 * t + 1) n = -1)) = false; rw [decide_eq_true h]; rfl]; decide)]
      rfl
    · rw [if_neg h, if_pos (by show (!decide (cI σ (15 + 6 * t + 1) n = -1)) = true; rw [decide_eq_false h]; rfl)]
/-- all tombstones, by reach -/
def tmb (σ : cS) (t r : Nat) : Nat := cntT σ t (fpl r) (fpl (r + 1) - fpl r)
theorem tmb_all {σ : cS} {t : Nat} : tmb σ t 0 + tmb σ t 1 + tmb σ t 2 + tmb σ t 3 = fb_ct (hasT σ t) 92 := by
  have e : ∀ a n, cntT σ t a n = fb_ct (fun i => hasT σ t (a + i)) n := fun a n => cntT_ct n
  show cntT σ t 0 64 + cntT σ t 64 4 + cntT σ t 68 16 + cntT σ t 84 8 = _
  rw [e, e, e, e, show 92 = 64 + 4 + 16 + 8 from rfl, fb_ct_split, fb_ct_split, fb_ct_split]
  congr 3 <;> exact fb_ct_cong (fun k _ => by rw [Nat.zero_add])
theorem tmb_le {σ : cS} {t r : Nat} (hr : r < 4) : tmb σ t r ≤ fpl (r + 1) - fpl r := by
  unfold tmb
  rw [cntT_ct]
  exact fb_ct_le _ _
theorem tmb_3 {σ : cS} {n t : Nat} (hT : IT σ n) (hn : n ≤ 8) (ht : t < 4) : tmb σ t 3 ≤ n := by
  show cntT σ t 84 8 ≤ n
  rw [cntT_ct, show 8 = n + (8 - n) by omega, fb_ct_split]
  have h0 : fb_ct (fun k => !decide (cI σ (15 + 6 * t + 4) (84 + (n + k)) = -1)) (8 - n) = 0 := fb_ct_zero.mpr (fun k hk => by
    have h := (hT t (84 + (n + k)) ht (by omega)).2 (by omega)
    have e : cI σ (15 + 6 * t + 4) (84 + (n + k)) = -1 := congrArg (fun z => z.1) h
    rw [decide_eq_true e]
    rfl)
  rw [h0]
  exact fb_ct_le _ n
theorem ct_drop {p q : Nat → Bool} {i n : Nat} (hi : i < n) (hp : p i = true) (hq : ∀ k, k < n → q k = if k = i then false else p k) : fb_ct q n + 1 = fb_ct p n := by
  have h := fb_ct_upd p false hi
  rw [if_pos hp, if_neg (by decide)] at h
  rw [fb_ct_cong hq]
  exact h
/-- covered; made long ago; ended long ago -/
def cvd (σ : cS) (t k : Nat) : Prop := (sE σ t k).1 ≠ -1 ∧ ¬ gB σ t (k / 4) (k % 4) < (sE σ t k).1
def oldT (σ : cS) (t : Nat) (la : Int32) (p : Nat) : Prop := (sT σ t p).1 ≠ -1 ∧ ¬ la < (sT σ t p).2
def oldE (σ : cS) (t : Nat) (la : Int32) (k : Nat) : Prop := (sE σ t k).1 ≠ -1 ∧ ¬ la < endR (sE σ t k).2.2
theorem cI_dropE {σ : cS} {t k p j : Nat} (hp : p < 16) : cI (dropE σ t k) p j = cI σ p j := cI_putE hp
theorem dcs_all {σ : cS} {t : Nat} : ∀ n, n ≤ 64 → (∀ t' k, (t' = t ∧ k < n ∧ cvd σ t k → sE (dcs σ t n).1 t' k = (-1, nI 0, nI 0)) ∧ (¬ (t' = t ∧ k < n ∧ cvd σ t k) → sE (dcs σ t n).1 t' k = sE σ t' k)) ∧ (∀ t' p, sT (dcs σ t n).1 t' p = sT σ t' p) ∧ (dcs σ t n).1.2 = σ.2 ∧ (∀ p, p < 16 → cI (dcs σ t n).1 p = cI σ p) ∧ fb_ct (hasE (dcs σ t n).1 t) 64 + (dcs σ t n).2 = fb_ct (hasE σ t) 64
  | 0, _ => ⟨fun t' k => ⟨fun h => absurd h.2.1 (Nat.not_lt_zero _), fun _ => rfl⟩, fun _ _ => rfl, rfl, fun _ _ => rfl, Nat.add_zero _⟩
  | n + 1, hn => by
    obtain ⟨h1, h2, h3, h4, h5⟩ := dcs_all (σ := σ) (t := t) n (by omega)
    have en : sE (dcs σ t n).1 t n = sE σ t n := (h1 t n).2 (fun z => by omega)
    have e1 : cI (dcs σ t n).1 (15 + 6 * t + 1) n = (sE σ t n).1 := congrArg (fun z => z.1) en
    have eg : gB (dcs σ t n).1 t (n / 4) (n % 4) = gB σ t (n / 4) (n % 4) := gB_cg (cv_of (h4 2 (by decide)) (h4 3 (by decide)) _ _) (fun p _ => by rw [h2])
    have ec : covB (dcs σ t n).1 t (n / 4) (n % 4) = true ↔ ¬ gB σ t (n / 4) (n % 4) < (sE σ t n).1 := by
      unfold covB
      rw [show n / 4 * 4 + n % 4 = n by omega, eg, e1]
      simp
    by_cases hc : cvd σ t n
    · have e : dcs σ t (n + 1) = (dropE (dcs σ t n).1 t n, (dcs σ t n).2 + 1) := by
        rw [dcs, if_neg (by rw [e1]; exact hc.1), if_pos (ec.mpr hc.2)]
      rw [e]
      refine ⟨fun t' k => ⟨fun h => ?_, fun h => ?_⟩, fun t' p => ?_, ?_, fun p hp => ?_, ?_⟩
      · show sE (dropE (dcs σ t n).1 t n) t' k = _
        rw [sE_dropE]
        by_cases hk : k = n
        · rw [if_pos ⟨h.1, hk⟩]
        · rw [if_neg (fun z => hk z.2)]
          exact (h1 t' k).1 ⟨h.1, by omega, h.2.2⟩
      · show sE (dropE (dcs σ t n).1 t n) t' k = _
        rw [sE_dropE]
        by_cases hk : t' = t ∧ k = n
        · exact absurd ⟨hk.1, by omega, by rw [hk.2]; exact hc⟩ h
        · rw [if_neg hk]
          exact (h1 t' k).2 (fun z => h ⟨z.1, by omega, z.2.2⟩)
      · show sT (dropE (dcs σ t n).1 t n) t' p = _
        rw [sT_dropE, h2]
      · exact h3
      · show cI (dropE (dcs σ t n).1 t n) p = _
        rw [← h4 p hp]
        exact funext fun j => cI_dropE hp
      · show fb_ct (hasE (dropE (dcs σ t n).1 t n) t) 64 + ((dcs σ t n).2 + 1) = _
        rw [← h5]
        have := ct_drop (p := hasE (dcs σ t n).1 t) (q := hasE (dropE (dcs σ t n).1 t n) t) (i := n) (n := 64) (by omega) (by unfold hasE; rw [en, decide_eq_false hc.1]; rfl) (fun k hk => by
          unfold hasE
          rw [sE_dropE]
          by_cases e : k = n
          · rw [if_pos ⟨rfl, e⟩, if_pos e]; rfl
          · rw [if_neg (fun z => e z.2), if_neg e])
        omega
    · have e : dcs σ t (n + 1) = dcs σ t n := by
        rw [dcs]
        by_cases h0 : cI (dcs σ t n).1 (15 + 6 * t + 1) n = -1
        · rw [if_pos h0]
        · rw [if_neg h0, if_neg (fun z => hc ⟨by rw [← e1]; exact h0, ec.mp z⟩)]
      rw [e]
      refine ⟨fun t' k => ⟨fun h => ?_, fun h => ?_⟩, h2, h3, h4, h5⟩
      · by_cases hk : k = n
        · rw [hk] at h; exact absurd h.2.2 hc
        · exact (h1 t' k).1 ⟨h.1, by omega, h.2.2⟩
      · exact (h1 t' k).2 (fun z => h ⟨z.1, by omega, z.2.2⟩)
theorem dts_all {σ : cS} {t : Nat} {la : Int32} : ∀ n, n ≤ 92 → (∀ t' p, (t' = t ∧ p < n ∧ oldT σ t la p → sT (dts σ t la n).1 t' p = (-1, nI 0)) ∧ (¬ (t' = t ∧ p < n ∧ oldT σ t la p) → sT (dts σ t la n).1 t' p = sT σ t' p)) ∧ (∀ t' k, sE (dts σ t la n).1 t' k = sE σ t' k) ∧ (dts σ t la n).1.2 = σ.2 ∧ (∀ p, p < 16 → cI (dts σ t la n).1 p = cI σ p) ∧ fb_ct (hasT (dts σ t la n).1 t) 92 + (dts σ t la n).2 = fb_ct (hasT σ t) 92
  | 0, _ => ⟨fun t' k => ⟨fun h => absurd h.2.1 (Nat.not_lt_zero _), fun _ => rfl⟩, fun _ _ => rfl, rfl, fun _ _ => rfl, Nat.add_zero _⟩
  | n + 1, hn => by
    obtain ⟨h1, h2, h3, h4, h5⟩ := dts_all (σ := σ) (t := t) (la := la) n (by omega)
    have en : sT (dts σ t la n).1 t n = sT σ t n := (h1 t n).2 (fun z => by omega)
    have e1 : cI (dts σ t la n).1 (15 + 6 * t + 4) n = (sT σ t n).1 := congrArg (fun z => z.1) en
    have e2 : cI (dts σ t la n).1 (15 + 6 * t + 5) n = (sT σ t n).2 := congrArg (fun z => z.2) en
    by_cases hc : oldT σ t la n
    · have e : dts σ t la (n + 1) = (putT (dts σ t la n).1 t n (-1) (nI 0), (dts σ t la n).2 + 1) := by
        rw [dts, if_neg (by rw [e1]; exact hc.1), if_neg (by rw [e2]; exact hc.2)]
      rw [e]
      refine ⟨fun t' p => ⟨fun h => ?_, fun h => ?_⟩, fun t' k => ?_, ?_, fun p hp => ?_, ?_⟩
      · show sT (putT (dts σ t la n).1 t n (-1) (nI 0)) t' p = _
        rw [sT_putT]
        by_cases hk : p = n
        · rw [if_pos ⟨h.1, hk⟩]
        · rw [if_neg (fun z => hk z.2)]
          exact (h1 t' p).1 ⟨h.1, by omega, h.2.2⟩
      · show sT (putT (dts σ t la n).1 t n (-1) (nI 0)) t' p = _
        rw [sT_putT]
        by_cases hk : t' = t ∧ p = n
        · exact absurd ⟨hk.1, by omega, by rw [hk.2]; exact hc⟩ h
        · rw [if_neg hk]
          exact (h1 t' p).2 (fun z => h ⟨z.1, by omega, z.2.2⟩)
      · show sE (putT (dts σ t la n).1 t n (-1) (nI 0)) t' k = _
        rw [sE_putT, h2]
      · exact h3
      · show cI (putT (dts σ t la n).1 t n (-1) (nI 0)) p = _
        rw [← h4 p hp]
        exact funext fun j => cI_putT hp
      · show fb_ct (hasT (putT (dts σ t la n).1 t n (-1) (nI 0)) t) 92 + ((dts σ t la n).2 + 1) = _
        rw [← h5]
        have := ct_drop (p := hasT (dts σ t la n).1 t) (q := hasT (putT (dts σ t la n).1 t n (-1) (nI 0)) t) (i := n) (n := 92) (by omega) (by unfold hasT; rw [en, decide_eq_false hc.1]; rfl) (fun k hk => by
          unfold hasT
          rw [sT_putT]
          by_cases e : k = n
          · rw [if_pos ⟨rfl, e⟩, if_pos e]; rfl
          · rw [if_neg (fun z => e z.2), if_neg e])
        omega
    · have e : dts σ t la (n + 1) = dts σ t la n := by
        rw [dts]
        by_cases h0 : cI (dts σ t la n).1 (15 + 6 * t + 4) n = -1
        · rw [if_pos h0]
        · rw [if_neg h0]
          by_cases h9 : la < cI (dts σ t la n).1 (15 + 6 * t + 5) n
          · rw [if_pos h9]
          · exact absurd ⟨by rw [← e1]; exact h0, by rw [← e2]; exact h9⟩ hc
      rw [e]
      refine ⟨fun t' k => ⟨fun h => ?_, fun h => ?_⟩, h2, h3, h4, h5⟩
      · by_cases hk : k = n
        · rw [hk] at h; exact absurd h.2.2 hc
        · exact (h1 t' k).1 ⟨h.1, by omega, h.2.2⟩
      · exact (h1 t' k).2 (fun z => h ⟨z.1, by omega, z.2.2⟩)
theorem des_all {σ : cS} {t : Nat} {la : Int32} : ∀ n, n ≤ 64 → (∀ t' k, (t' = t ∧ k < n ∧ oldE σ t la k → sE (des σ t la n).1 t' k = (-1, nI 0, nI 0)) ∧ (¬ (t' = t ∧ k < n ∧ oldE σ t la k) → sE (des σ t la n).1 t' k = sE σ t' k)) ∧ (∀ t' p, sT (des σ t la n).1 t' p = sT σ t' p) ∧ (des σ t la n).1.2 = σ.2 ∧ (∀ p, p < 16 → cI (des σ t la n).1 p = cI σ p) ∧ fb_ct (hasE (des σ t la n).1 t) 64 + (des σ t la n).2 = fb_ct (hasE σ t) 64
  | 0, _ => ⟨fun t' k => ⟨fun h => absurd h.2.1 (Nat.not_lt_zero _), fun _ => rfl⟩, fun _ _ => rfl, rfl, fun _ _ => rfl, Nat.add_zero _⟩
  | n + 1, hn => by
    obtain ⟨h1, h2, h3, h4, h5⟩ := des_all (σ := σ) (t := t) (la := la) n (by omega)
    have en : sE (des σ t la n).1 t n = sE σ t n := (h1 t n).2 (fun z => by omega)
    have e1 : cI (des σ t la n).1 (15 + 6 * t + 1) n = (sE σ t n).1 := congrArg (fun z => z.1) en
    have e2 : cI (des σ t la n).1 (15 + 6 * t + 3) n = (sE σ t n).2.2 := congrArg (fun z => z.2.2) en
    by_cases hc : oldE σ t la n
    · have e : des σ t la (n + 1) = (dropE (des σ t la n).1 t n, (des σ t la n).2 + 1) := by
        rw [des, if_neg (by rw [e1]; exact hc.1), if_neg (by rw [e2]; exact hc.2)]
      rw [e]
      refine ⟨fun t' k => ⟨fun h => ?_, fun h => ?_⟩, fun t' p => ?_, ?_, fun p hp => ?_, ?_⟩
      · show sE (dropE (des σ t la n).1 t n) t' k = _
        rw [sE_dropE]
        by_cases hk : k = n
        · rw [if_pos ⟨h.1, hk⟩]
        · rw [if_neg (fun z => hk z.2)]
          exact (h1 t' k).1 ⟨h.1, by omega, h.2.2⟩
      · show sE (dropE (des σ t la n).1 t n) t' k = _
        rw [sE_dropE]
        by_cases hk : t' = t ∧ k = n
        · exact absurd ⟨hk.1, by omega, by rw [hk.2]; exact hc⟩ h
        · rw [if_neg hk]
          exact (h1 t' k).2 (fun z => h ⟨z.1, by omega, z.2.2⟩)
      · show sT (dropE (des σ t la n).1 t n) t' p = _
        rw [sT_dropE, h2]
      · exact h3
      · show cI (dropE (des σ t la n).1 t n) p = _
        rw [← h4 p hp]
        exact funext fun j => cI_dropE hp
      · show fb_ct (hasE (dropE (des σ t la n).1 t n) t) 64 + ((des σ t la n).2 + 1) = _
        rw [← h5]
        have := ct_drop (p := hasE (des σ t la n).1 t) (q := hasE (dropE (des σ t la n).1 t n) t) (i := n) (n := 64) (by omega) (by unfold hasE; rw [en, decide_eq_false hc.1]; rfl) (fun k hk => by
          unfold hasE
          rw [sE_dropE]
          by_cases e : k = n
          · rw [if_pos ⟨rfl, e⟩, if_pos e]; rfl
          · rw [if_neg (fun z => e z.2), if_neg e])
        omega
    · have e : des σ t la (n + 1) = des σ t la n := by
        rw [des]
        by_cases h0 : cI (des σ t la n).1 (15 + 6 * t + 1) n = -1
        · rw [if_pos h0]
        · rw [if_neg h0]
          by_cases h9 : la < endR (cI (des σ t la n).1 (15 + 6 * t + 3) n)
          · rw [if_pos h9]
          · exact absurd ⟨by rw [← e1]; exact h0, by rw [← e2]; exact h9⟩ hc
      rw [e]
      refine ⟨fun t' k => ⟨fun h => ?_, fun h => ?_⟩, h2, h3, h4, h5⟩
      · by_cases hk : k = n
        · rw [hk] at h; exact absurd h.2.2 hc
        · exact (h1 t' k).1 ⟨h.1, by omega, h.2.2⟩
      · exact (h1 t' k).2 (fun z => h ⟨z.1, by omega, z.2.2⟩)
/-- what cleaning leaves -/
def clA (σ : cS) (t : Nat) : cS := (dcs σ t 64).1
def clB (σ : cS) (t : Nat) (la : Int32) : cS := (dts (clA σ t) t la 92).1
def clS (σ : cS) (t : Nat) (la : Int32) : cS := (des (clB σ t la) t la 64).1
def clN (σ : cS) (t : Nat) (la : Int32) : Nat := (dcs σ t 64).2 + (dts (clA σ t) t la 92).2 + (des (clB σ t la) t la 64).2
theorem cl_E {σ : cS} {t k : Nat} {la : Int32} (hk : k < 64) : (sE (clS σ t la) t k = (-1, nI 0, nI 0) ∧ (cvd σ t k ∨ oldE σ t la k ∨ (sE σ t k).1 = -1)) ∨ (sE (clS σ t la) t k = sE σ t k ∧ ¬ cvd σ t k ∧ ¬ oldE σ t la k) := by
  have a := (dcs_all (σ := σ) (t := t) 64 (Nat.le_refl _)).1 t k
  have b := (dts_all (σ := clA σ t) (t := t) (la := la) 92 (Nat.le_refl _)).2.1 t k
  have c := (des_all (σ := clB σ t la) (t := t) (la := la) 64 (Nat.le_refl _)).1 t k
  have b : sE (clB σ t la) t k = sE (clA σ t) t k := b
  by_cases h1 : cvd σ t k
  · have a1 : sE (clA σ t) t k = (-1, nI 0, nI 0) := a.1 ⟨rfl, hk, h1⟩
    refine Or.inl ⟨?_, Or.inl h1⟩
    have hno : ¬ oldE (clB σ t la) t la k := fun z => z.1 (by rw [b, a1])
    have := c.2 (fun z => hno z.2.2)
    rw [b, a1] at this
    exact this
  · have a1 : sE (clA σ t) t k = sE σ t k := a.2 (fun z => h1 z.2.2)
    have eo : oldE (clB σ t la) t la k ↔ oldE σ t la k := by
      unfold oldE
      rw [b, a1]
    by_cases h2 : oldE σ t la k
    · exact Or.inl ⟨c.1 ⟨rfl, hk, eo.mpr h2⟩, Or.inr (Or.inl h2)⟩
    · refine Or.inr ⟨?_, h1, h2⟩
      have := c.2 (fun z => h2 (eo.mp z.2.2))
      rw [b, a1] at this
      exact this
theorem cl_Eo {σ : cS} {t t' k : Nat} {la : Int32} (ht : t' ≠ t) : sE (clS σ t la) t' k = sE σ t' k := by
  have a := ((dcs_all (σ := σ) (t := t) 64 (Nat.le_refl _)).1 t' k).2 (fun z => ht z.1)
  have b := (dts_all (σ := clA σ t) (t := t) (la := la) 92 (Nat.le_refl _)).2.1 t' k
  have c := ((des_all (σ := clB σ t la) (t := t) (la := la) 64 (Nat.le_refl _)).1 t' k).2 (fun z => ht z.1)
  exact c.trans (b.trans a)
theorem cl_T {σ : cS} {t t' p : Nat} {la : Int32} : sT (clS σ t la) t' p = (-1, nI 0) ∨ sT (clS σ t la) t' p = sT σ t' p := by
  have a := (dcs_all (σ := σ) (t := t) 64 (Nat.le_refl _)).2.1 t' p
  have b := (dts_all (σ := clA σ t) (t := t) (la := la) 92 (Nat.le_refl _)).1 t' p
  have c := (des_all (σ := clB σ t la) (t := t) (la := la) 64 (Nat.le_refl _)).2.1 t' p
  by_cases h : t' = t ∧ p < 92 ∧ oldT (clA σ t) t la p
  · exact Or.inl (c.trans (b.1 h))
  · exact Or.inr (c.trans ((b.2 h).trans a))
theorem cl_r {σ : cS} {t : Nat} {la : Int32} : (clS σ t la).2 = σ.2 := by
  have a : (clA σ t).2 = σ.2 := by unfold clA; exact (dcs_all (σ := σ) (t := t) 64 (Nat.le_refl _)).2.2.1
  have b : (clB σ t la).2 = (clA σ t).2 := by unfold clB; exact (dts_all (σ := clA σ t) (t := t) (la := la) 92 (Nat.le_refl _)).2.2.1
  have c : (clS σ t la).2 = (clB σ t la).2 := by unfold clS; exact (des_all (σ := clB σ t la) (t := t) (la := la) 64 (Nat.le_refl _)).2.2.1
  exact c.trans (b.trans a)
theorem cl_I {σ : cS} {t p : Nat} {la : Int32} (hp : p < 16) : cI (clS σ t la) p = cI σ p := by
  have a : cI (clA σ t) p = cI σ p := by unfold clA; exact (dcs_all (σ := σ) (t := t) 64 (Nat.le_refl _)).2.2.2.1 p hp
  have b : cI (clB σ t la) p = cI (clA σ t) p := by unfold clB; exact (dts_all (σ := clA σ t) (t := t) (la := la) 92 (Nat.le_refl _)).2.2.2.1 p hp
  have c : cI (clS σ t la) p = cI (clB σ t la) p := by unfold clS; exact (des_all (σ := clB σ t la) (t := t) (la := la) 64 (Nat.le_refl _)).2.2.2.1 p hp
  exact c.trans (b.trans a)
theorem cl_cnt {σ : cS} {t : Nat} {la : Int32} : fb_ct (hasE (clS σ t la) t) 64 + fb_ct (hasT (clS σ t la) t) 92 + clN σ t la = fb_ct (hasE σ t) 64 + fb_ct (hasT σ t) 92 := by
  obtain ⟨-, a2, -, -, a5⟩ := dcs_all (σ := σ) (t := t) 64 (Nat.le_refl _)
  obtain ⟨-, b2, -, -, b5⟩ := dts_all (σ := clA σ t) (t := t) (la := la) 92 (Nat.le_refl _)
  obtain ⟨-, c2, -, -, c5⟩ := des_all (σ := clB σ t la) (t := t) (la := la) 64 (Nat.le_refl _)
  have e1 : fb_ct (hasE (clB σ t la) t) 64 = fb_ct (hasE (clA σ t) t) 64 := fb_ct_cong (fun k _ => by unfold hasE; rw [show sE (clB σ t la) t k = sE (clA σ t) t k from b2 t k])
  have e2 : fb_ct (hasT (clS σ t la) t) 92 = fb_ct (hasT (clB σ t la) t) 92 := fb_ct_cong (fun k _ => by unfold hasT; rw [show sT (clS σ t la) t k = sT (clB σ t la) t k from c2 t k])
  have e3 : fb_ct (hasT (clA σ t) t) 92 = fb_ct (hasT σ t) 92 := fb_ct_cong (fun k _ => by unfold hasT; rw [show sT (clA σ t) t k = sT σ t k from a2 t k])
  have a5 : fb_ct (hasE (clA σ t) t) 64 + (dcs σ t 64).2 = fb_ct (hasE σ t) 64 := a5
  have b5 : fb_ct (hasT (clB σ t la) t) 92 + (dts (clA σ t) t la 92).2 = fb_ct (hasT (clA σ t) t) 92 := b5
  have c5 : fb_ct (hasE (clS σ t la) t) 64 + (des (clB σ t la) t la 64).2 = fb_ct (hasE (clB σ t la) t) 64 := c5
  unfold clN
  omega
theorem cl_gB {σ : cS} {t row col : Nat} {la : Int32} : gB (clS σ t la) t row col ≤ gB σ t row col := by
  refine gB_le gB_ge (fun p hp => ?_)
  have hp' : cv σ row col p := (cv_of (cl_I (by decide)) (cl_I (by decide)) row col p).mp hp
  rcases cl_T (σ := σ) (t := t) (t' := t) (p := p) (la := la) with e | e <;> rw [e]
  · exact gB_ge
  · exact gB_ub hp'
theorem cl_KP {G : wG} {σ : cS} {L : Nat → List Ch} {n t : Nat} {la : Int32} (ht : t < 4) (hK : KP G σ L n) : KP G (clS σ t la) L n := by
  obtain ⟨hH, hE, hT, hR, hL⟩ := hK
  obtain ⟨-, -, -, -, r5, r6, r7⟩ := c_of (cl_r (σ := σ) (t := t) (la := la))
  refine ⟨HI_of r5 r6 r7 hH, fun t' k h4 hk => ?_, fun t' p h4 hp => ?_, IR_of (cl_I (by decide)) (cl_I (by decide)) hR, hL⟩
  · by_cases e : t' = t
    · rw [e]
      rcases cl_E (σ := σ) (t := t) (la := la) hk with ⟨z, -⟩ | ⟨z, -⟩ <;> rw [z]
      · exact Or.inl rfl
      · exact hE t k ht hk
    · rw [cl_Eo e]; exact hE t' k h4 hk
  · rcases cl_T (σ := σ) (t := t) (t' := t') (p := p) (la := la) with z | z <;> rw [z]
    · exact ⟨Or.inl rfl, fun _ => rfl⟩
    · exact hT t' p h4 hp
/-- what a cell tells behind a cleaning -/
theorem cl_cell {σ : cS} {t k a g : Nat} (hE : IE σ) (ht : t < 4) (hk : k < 64) (ha : a ≤ 10000) (hg : g ≤ 1000) : visV (clS σ t (nI a - nI g)) t (k / 4) (k % 4) (nI a) = visV σ t (k / 4) (k % 4) (nI a) ∧ ((sE (clS σ t (nI a - nI g)) t k).1 = -1 ∨ ((sE (clS σ t (nI a - nI g)) t k).1 = (sE σ t k).1 ∧ gB σ t (k / 4) (k % 4) < (sE (clS σ t (nI a - nI g)) t k).1)) ∧ (visV σ t (k / 4) (k % 4) (nI a) = -1 ∨ (sE (clS σ t (nI a - nI g)) t k).1 = (sE σ t k).1) := by
  have hk4 : k / 4 * 4 + k % 4 = k := by omega
  have la_le : ∀ x : Int32, nI a < x → nI a - nI g < x := fun x hx => by
    rw [fa_lt] at hx ⊢
    rw [pk_sub_toInt (by omega) (by omega)]
    rw [nI_toInt (by omega)] at hx
    omega
  have hEE := cl_E (σ := σ) (t := t) (la := nI a - nI g) hk
  have hGG := cl_gB (σ := σ) (t := t) (row := k / 4) (col := k % 4) (la := nI a - nI g)
  generalize clS σ t (nI a - nI g) = ν at hEE hGG ⊢
  rcases vis_or hE (row := k / 4) (col := k % 4) ht (by omega) (by omega) (nI a) with hv | ⟨b, hb, hv, h1, h2, h3⟩
  · rcases hEE with ⟨e, -⟩ | ⟨e, q1, q2⟩
    · refine ⟨?_, Or.inl (by rw [e]), Or.inl hv⟩
      rw [hv]
      exact vis_not (Or.inl (by rw [hk4, e]))
    · by_cases h0 : (sE σ t k).1 = -1
      · refine ⟨?_, Or.inl (by rw [e]; exact h0), Or.inl hv⟩
        rw [hv]
        exact vis_not (Or.inl (by rw [hk4, e]; exact h0))
      · have hlt : gB σ t (k / 4) (k % 4) < (sE σ t k).1 := by
          by_cases z : gB σ t (k / 4) (k % 4) < (sE σ t k).1
          · exact z
          · exact absurd ⟨h0, z⟩ q1
        refine ⟨?_, Or.inr ⟨by rw [e], by rw [e]; exact hlt⟩, Or.inl hv⟩
        rw [hv]
        refine vis_not (Or.inr (Or.inl ?_))
        rw [hk4, e]
        by_cases z : endR (sE σ t k).2.2 ≤ nI a
        · exact z
        · exfalso
          have hv2 := hv
          unfold visV covB at hv2
          rw [hk4] at hv2
          have z1 : ¬ cI σ (15 + 6 * t + 1) k = -1 := h0
          have z2 : ¬ endR (cI σ (15 + 6 * t + 3) k) ≤ nI a := z
          have z3 : gB σ t (k / 4) (k % 4) < cI σ (15 + 6 * t + 1) k := hlt
          rw [if_neg z1, if_neg z2, decide_eq_true z3, if_neg (by decide)] at hv2
          obtain ⟨b, hb, e2⟩ := okF_v (hE t k ht hk)
          have e3 : cI σ (15 + 6 * t + 2) k = nI b := e2
          rw [e3] at hv2
          exact nI_nm1 (by omega) hv2
  · rw [hk4] at h1 h2 h3
    rcases hEE with ⟨e, q | q | q⟩ | ⟨e, -, -⟩
    · exact absurd h1 q.2
    · exact absurd (la_le _ h3) q.2
    · exact absurd q h2
    · refine ⟨?_, Or.inr ⟨by rw [e], by rw [e]; exact h1⟩, Or.inr (by rw [e])⟩
      have e1 : cI ν (15 + 6 * t + 1) k = cI σ (15 + 6 * t + 1) k := congrArg (fun z => z.1) e
      have e2 : cI ν (15 + 6 * t + 2) k = cI σ (15 + 6 * t + 2) k := congrArg (fun z => z.2.1) e
      have e3 : cI ν (15 + 6 * t + 3) k = cI σ (15 + 6 * t + 3) k := congrArg (fun z => z.2.2) e
      have z1 : ¬ cI σ (15 + 6 * t + 1) k = -1 := h2
      have z2 : ¬ endR (cI σ (15 + 6 * t + 3) k) ≤ nI a := (fa_of_lt h3).2.1
      have z3 : gB σ t (k / 4) (k % 4) < cI σ (15 + 6 * t + 1) k := h1
      have z4 : gB ν t (k / 4) (k % 4) < cI σ (15 + 6 * t + 1) k := by
        have := hGG
        rw [fa_lt] at z3 ⊢
        rw [fa_le] at this
        omega
      unfold visV covB
      rw [hk4, e1, e2, e3, if_neg z1, if_neg z2, if_neg z1, if_neg z2, decide_eq_true z3, decide_eq_true z4]
