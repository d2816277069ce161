/-! what the law's own methods tell -/
def mny (a : Nat) : Nat := a % 2 + a / 2 % 2 + a / 4 % 2
theorem mny_eq : ∀ a, a < 8 → (nI a &&& nI 1) + ((nI a >>> (nI 1 &&& 31)) &&& nI 1) + ((nI a >>> (nI 2 &&& 31)) &&& nI 1) = nI (mny a) := by decide
theorem mny_le (a : Nat) : mny a ≤ 3 := by unfold mny; omega
def cpy (m : Nat → Nat) (y : Nat) : Nat := if m 7 = 1 then 7 else y % 8
theorem cpy_lt (m : Nat → Nat) (y : Nat) : cpy m y < 8 := by unfold cpy; split <;> omega
/-- the class and what the law counts -/
def LI (G : wG) (σ : cS) (m : Nat → Nat) : Prop := ∃ (L : Nat → List Ch) (nn : Nat), KP G σ L nn ∧ cV σ 4 = nI (m 0) ∧ cV σ 5 = nI (m 1) ∧ m 1 ≤ 1000 ∧ (∀ i, i < 3 → m (2 + i) = (L i).length) ∧ m 5 < 8 ∧ (∀ i, i < 3 → (m 5).testBit i = cU σ i) ∧ m 7 ≤ 1 ∧ (m 7 = 1 → m 6 = 0 ∧ Jp σ L) ∧ nn ≤ m 8 ∧ m 8 ≤ 8
theorem LI_Sm {G : wG} {σ τ : cS} {m : Nat → Nat} (h : Sm σ τ) (hL : LI G σ m) : LI G τ m := by
  obtain ⟨L, nn, hK, h0, h1, h1b, h2, h5, h5b, h7, h7b, h8, h8b⟩ := hL
  exact ⟨L, nn, KP_Sm h hK, by rw [h.2.1]; exact h0, by rw [h.2.1]; exact h1, h1b, h2, h5, fun i hi => by rw [h.2.2.1]; exact h5b i hi, h7, fun z => ⟨(h7b z).1, Jp_Sm h (h7b z).2⟩, h8, h8b⟩
theorem cntE_y {σ : cS} {i k : Nat} (h : 0 ≤ (sE σ i k).1) : cntE σ i (k + 1) = cntE σ i k + 1 := by
  have h0 : ¬ cI σ (15 + 6 * i + 1) k = -1 := fun z => by
    have e : (sE σ i k).1 = -1 := z
    rw [e] at h
    exact absurd h (by decide)
  rw [cntE, if_neg h0]
theorem cntE_n {σ : cS} {i k : Nat} (hs : stP (sE σ i k).1) (h : ¬ 0 ≤ (sE σ i k).1) : cntE σ i (k + 1) = cntE σ i k := by
  rcases hs with e | ⟨a, ha, e⟩
  · have e : cI σ (15 + 6 * i + 1) k = -1 := e
    rw [cntE, if_pos e]
  · exact absurd (by rw [e]; exact nI_pos' (by omega)) h
theorem cntE_le {σ : cS} {i : Nat} (n : Nat) : cntE σ i n ≤ n := by rw [cntE_ct]; exact fb_ct_le _ n
theorem vis_lo {v : Int32} {P : Nat → Prop} (h : v = -1 ∨ ∃ b, b ≤ 999 ∧ v = nI b ∧ P b) : -1 ≤ v := by
  rcases h with e | ⟨b, hb, e, -⟩
  · rw [e]; exact i_refl _
  · rw [e]; exact m1_le (by omega)
theorem vis_hi {v : Int32} {P : Nat → Prop} (h : v = -1 ∨ ∃ b, b ≤ 999 ∧ v = nI b ∧ P b) : v ≤ nI 999 := by
  rcases h with e | ⟨b, hb, e, -⟩
  · rw [e]; exact m1_le (by decide)
  · rw [e, nI_leI (by omega) (by decide)]; exact hb
theorem vis_gt {v a b : Int32} {P : Prop} (h : v = -1 ∨ ∃ c, c ≤ 999 ∧ v = nI c ∧ b < a ∧ P) (hv : ¬ v < 0) : ¬ a ≤ b := by
  rcases h with e | ⟨c, hc, e, h1, -⟩
  · rw [e] at hv; exact absurd (by decide) hv
  · exact (fa_of_lt h1).2.1
def tsum (σ : cS) (i : Nat) : Nat → Nat
  | 0 => 0
  | r + 1 => tsum σ i r + tmb σ i r
theorem tsum_4 {σ : cS} {i : Nat} : tsum σ i 4 = fb_ct (hasT σ i) 92 := by
  rw [← tmb_all]
  show 0 + tmb σ i 0 + tmb σ i 1 + tmb σ i 2 + tmb σ i 3 = _
  omega
theorem tsum_le {σ : cS} {i : Nat} : tsum σ i 4 ≤ 92 := by rw [tsum_4]; exact fb_ct_le _ 92
theorem tsum_lt {σ : cS} {i r : Nat} (hr : r ≤ 4) : tsum σ i r ≤ 400 := by
  have h0 := tmb_le (σ := σ) (t := i) (r := 0) (by decide)
  have h1 := tmb_le (σ := σ) (t := i) (r := 1) (by decide)
  have h2 := tmb_le (σ := σ) (t := i) (r := 2) (by decide)
  have h3 := tmb_le (σ := σ) (t := i) (r := 3) (by decide)
  have e0 : tmb σ i 0 ≤ 64 := h0
  have e1 : tmb σ i 1 ≤ 4 := h1
  have e2 : tmb σ i 2 ≤ 16 := h2
  have e3 : tmb σ i 3 ≤ 8 := h3
  rcases (show r = 0 ∨ r = 1 ∨ r = 2 ∨ r = 3 ∨ r = 4 by omega) with rfl | rfl | rfl | rfl | rfl <;> simp only [tsum] <;> omega
theorem NS_lv {σ : cS} {i lv nd : Nat} (hlv : lv < 4) (hnd : nd < 2 ^ lv) : NS σ i (2 ^ lv + nd) = jrem (NS σ i (2 ^ (lv + 1) + 2 * nd) + NS σ i (2 ^ (lv + 1) + (2 * nd + 1))) 65521 := by
  have hp : 2 ^ (lv + 1) = 2 * 2 ^ lv := by rw [Nat.pow_succ, Nat.mul_comm]
  have h8 : 2 ^ lv ≤ 8 := by
    rcases (show lv = 0 ∨ lv = 1 ∨ lv = 2 ∨ lv = 3 by omega) with rfl | rfl | rfl | rfl <;> decide
  have h1 : 1 ≤ 2 ^ lv := Nat.two_pow_pos lv
  rw [NS_node (σ := σ) (t := i) (i := 2 ^ lv + nd) (by omega) (by omega), show 2 * (2 ^ lv + nd) = 2 ^ (lv + 1) + 2 * nd by omega, show 2 ^ (lv + 1) + 2 * nd + 1 = 2 ^ (lv + 1) + (2 * nd + 1) by omega]
theorem pow_in {lv nd : Nat} (h : nd < 2 ^ lv) : 2 * nd < 2 ^ (lv + 1) := by rw [Nat.pow_succ]; omega
theorem pow_in1 {lv nd : Nat} (h : nd < 2 ^ lv) : 2 * nd + 1 < 2 ^ (lv + 1) := by rw [Nat.pow_succ]; omega
/-- copies that got all tell the same as the ideal one -/
theorem Jp_nil {σ : cS} {L : Nat → List Ch} {i : Nat} (hJ : Jp σ L) (hi : i < 3) (h : (L i).length = 0) : (∀ k, k < 64 → sE σ i k = sE σ 3 k) ∧ ∀ p, p < 92 → sT σ i p = sT σ 3 p := by
  have e : L i = [] := List.eq_nil_of_length_eq_zero h
  have := hJ i hi
  rw [e] at this
  exact this
theorem Jp_vis {σ : cS} {L : Nat → List Ch} {i row col : Nat} {now : Int32} (hJ : Jp σ L) (hi : i < 3) (h : (L i).length = 0) (hr : row < 16) (hc : col < 4) : visV σ i row col now = visV σ 3 row col now := by
  obtain ⟨h1, h2⟩ := Jp_nil hJ hi h
  exact vis_cg (h1 _ (by omega)) (gB_cg (fun _ => Iff.rfl) (fun p hp => by rw [h2 p (cv_lt hr hc hp)]))
theorem Jp_alk {σ : cS} {L : Nat → List Ch} {i j : Nat} (hJ : Jp σ L) (hi : i < 3) (hj : j < 3) (h : (L i).length = 0) (g : (L j).length = 0) : alk σ i j = true := by
  obtain ⟨h1, h2⟩ := Jp_nil hJ hi h
  obtain ⟨g1, g2⟩ := Jp_nil hJ hj g
  exact alk_iff.mpr ⟨fun k hk => (h1 k hk).trans (g1 k hk).symm, fun p hp => (h2 p hp).trans (g2 p hp).symm⟩
