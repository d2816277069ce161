/-! making alike -/
theorem tkRn_I {σ : cS} {t t2 row p j : Nat} (hp : p < 16) : ∀ n, cI (tkRn σ t t2 row n) p j = cI σ p j
  | 0 => rfl
  | n + 1 => by unfold tkRn tkC; rw [tkCn_I hp]; exact tkRn_I hp n
theorem tkRn_r {σ : cS} {t t2 row : Nat} : ∀ n, (tkRn σ t t2 row n).2 = σ.2
  | 0 => rfl
  | n + 1 => by unfold tkRn tkC; rw [tkCn_r]; exact tkRn_r n
theorem cpO_tkRn {σ : cS} {t t2 row n : Nat} (r2 c2 c : Nat) : cpO (tkRn σ t t2 row n) r2 c2 c = cpO σ r2 c2 c := cpO_I (funext fun _ => tkRn_I (by decide) n) (funext fun _ => tkRn_I (by decide) n) _ _ _
theorem sE_tkRn {σ : cS} {t t2 row t' k : Nat} (h2 : t2 ≠ t) : ∀ n, sE (tkRn σ t t2 row n) t' k = if t' = t ∧ row * 4 ≤ k ∧ k < row * 4 + n then tkE (sE σ t k) (sE σ t2 k) else sE σ t' k
  | 0 => (if_neg (by omega)).symm
  | n + 1 => by
    have ih := fun t' => sE_tkRn (σ := σ) (t := t) (t2 := t2) (row := row) (t' := t') (k := k) h2 n
    unfold tkRn tkC
    rw [sE_tkCn, ih t, ih t2, ih t']
    by_cases hk : k = row * 4 + n
    · rw [if_neg (show ¬ (t = t ∧ row * 4 ≤ k ∧ k < row * 4 + n) by omega), if_neg (show ¬ (t2 = t ∧ row * 4 ≤ k ∧ k < row * 4 + n) by omega), if_neg (show ¬ (t' = t ∧ row * 4 ≤ k ∧ k < row * 4 + n) by omega)]
      by_cases ht : t' = t
      · rw [if_pos ⟨ht, hk⟩, if_pos ⟨ht, by omega, by omega⟩]
      · rw [if_neg (fun z => ht z.1), if_neg (fun z => ht z.1)]
    · rw [if_neg (fun z => hk z.2)]
      by_cases h : t' = t ∧ row * 4 ≤ k ∧ k < row * 4 + n
      · rw [if_pos h, if_pos (by omega)]
      · rw [if_neg h, if_neg (by omega)]
theorem sT_tkRn {σ : cS} {t t2 row : Nat} (h2 : t2 ≠ t) : ∀ n, (∀ t' p, ¬ (t' = t ∧ ∃ d, d < n ∧ ∃ c, c < 11 ∧ cpO σ row d c = some p) → sT (tkRn σ t t2 row n) t' p = sT σ t' p) ∧ ∀ p, (∃ d, d < n ∧ ∃ c, c < 11 ∧ cpO σ row d c = some p) → sT (tkRn σ t t2 row n) t p = tkT (sT σ t p) (sT σ t2 p)
  | 0 => ⟨fun t' p _ => rfl, fun p ⟨d, hd, _⟩ => absurd hd (Nat.not_lt_zero _)⟩
  | n + 1 => by
    obtain ⟨ih1, ih2⟩ := sT_tkRn (σ := σ) (t := t) (t2 := t2) (row := row) h2 n
    obtain ⟨g1, g2⟩ := sT_tkCn (σ := tkRn σ t t2 row n) (row := row) (col := n) h2 11
    have e : ∀ c, cpO (tkRn σ t t2 row n) row n c = cpO σ row n c := fun c => cpO_tkRn _ _ c
    simp only [e] at g1 g2
    unfold tkRn tkC
    refine ⟨fun t' p h => ?_, fun p ⟨d, hd, hx⟩ => ?_⟩
    · rw [g1 t' p (fun z => h ⟨z.1, n, by omega, z.2⟩)]
      exact ih1 t' p (fun ⟨h1, d, hd, hx⟩ => h ⟨h1, d, by omega, hx⟩)
    · by_cases hn : ∃ c, c < 11 ∧ cpO σ row n c = some p
      · rw [g2 p hn, ih1 t2 p (fun z => h2 z.1)]
        by_cases hb : ∃ d, d < n ∧ ∃ c, c < 11 ∧ cpO σ row d c = some p
        · rw [ih2 p hb, tkT_twice]
        · rw [ih1 t p (fun z => hb z.2)]
      · rw [g1 t p (fun z => hn z.2)]
        refine ih2 p ⟨d, ?_, hx⟩
        rcases Nat.lt_or_ge d n with q | q
        · exact q
        · obtain rfl : d = n := by omega
          exact absurd hx hn
/-- both ways taken, a whole row -/
def bkR (σ : cS) (i j row : Nat) : cS := tkR (tkR σ i j row) j i row
theorem bkR_r {σ : cS} {i j row : Nat} : (bkR σ i j row).2 = σ.2 := by unfold bkR tkR; rw [tkRn_r, tkRn_r]
theorem bkR_I {σ : cS} {i j row p q : Nat} (hp : p < 16) : cI (bkR σ i j row) p q = cI σ p q := by unfold bkR tkR; rw [tkRn_I hp, tkRn_I hp]
theorem sE_bkR {σ : cS} {i j row t p : Nat} (hij : i ≠ j) : sE (bkR σ i j row) t p = if row * 4 ≤ p ∧ p < row * 4 + 4 then (if t = i then tkE (sE σ i p) (sE σ j p) else if t = j then tkE (sE σ j p) (sE σ i p) else sE σ t p) else sE σ t p := by
  have hji : j ≠ i := fun z => hij z.symm
  unfold bkR tkR
  rw [sE_tkRn hij, sE_tkRn hji, sE_tkRn hji, sE_tkRn hji]
  by_cases h : row * 4 ≤ p ∧ p < row * 4 + 4
  · by_cases h1 : t = i
    · subst h1
      rw [if_neg (fun z => hij z.1), if_pos ⟨rfl, h⟩, if_pos h, if_pos rfl]
    · by_cases h2 : t = j
      · subst h2
        rw [if_pos ⟨rfl, h⟩, if_neg (fun z => h1 z.1), if_pos ⟨rfl, h⟩, if_pos h, if_neg h1, if_pos rfl, tkE_back]
      · rw [if_neg (fun z => h2 z.1), if_neg (fun z => h1 z.1), if_pos h, if_neg h1, if_neg h2]
  · rw [if_neg (fun z => h z.2), if_neg (fun z => h z.2), if_neg h]
/-! counting bits -/
def bcN (k : Nat) : Nat :=
  (fun x1 : Nat => (fun x2 : Nat => (fun x3 : Nat => (fun x4 : Nat => Nat.land (Nat.add x4 (Nat.div x4 65536)) 63) (Nat.add x3 (Nat.div x3 256))) (Nat.land (Nat.add x2 (Nat.div x2 16)) 252645135)) (Nat.add (Nat.land x1 858993459) (Nat.land (Nat.div x1 4) 858993459))) (Nat.sub k (Nat.land (Nat.div k 2) 1431655765))
def pcN (k : Nat) : Nat → Nat
  | 0 => 0
  | n + 1 => Nat.add (pcN k n) (Nat.mod (Nat.div k (Nat.pow 2 n)) 2)
def allb (p : Nat → Bool) : Nat → Bool
  | 0 => true
  | n + 1 => p n && allb p n
theorem allb_at {p : Nat → Bool} : ∀ n, allb p n = true → ∀ k, k < n → p k = true
  | 0, _, k, hk => absurd hk (Nat.not_lt_zero _)
  | n + 1, h, k, hk => by
    unfold allb at h
    rw [Bool.and_eq_true] at h
    rcases Nat.lt_or_ge k n with q | q
    · exact allb_at n h.2 k q
    · rw [show k = n by omega]; exact h.1
theorem bc_all : allb (fun a => allb (fun b => Nat.beq (bcN (Nat.add (Nat.mul 256 a) b)) (pcN (Nat.add (Nat.mul 256 a) b) 16)) 256) 256 = true := by decide +kernel
theorem bc_ok {k : Nat} (h : k < 65536) : bcN k = pcN k 16 := by
  have h1 := allb_at _ (allb_at _ bc_all (k / 256) (by omega)) (k % 256) (Nat.mod_lt _ (by decide))
  have h2 := Nat.eq_of_beq_eq_true h1
  rw [show Nat.add (Nat.mul 256 (k / 256)) (k % 256) = k from Nat.div_add_mod k 256] at h2
  exact h2
theorem ush_N {n : Nat} (hn : n < 2 ^ 32) (j : Nat) (hj : j < 32) : ushr (nI n) (nI j) = nI (n / 2 ^ j) := pk_ushrN hn (nI j) j (s_u j hj)
theorem bitc_N {k : Nat} (h : k < 65536) : bitc (nI k) = nI (pcN k 16) := by
  rw [← bc_ok h]
  have l1 : k / 2 &&& 1431655765 ≤ k / 2 := Nat.and_le_left
  have e1 : bc1 (nI k) = nI (k - (k / 2 &&& 1431655765)) := by
    unfold bc1
    rw [ush_N (by omega) 1 (by decide), show (1431655765 : Int32) = nI 1431655765 from rfl, fa_and, Nat.pow_one, pk_sub (by omega)]
  have b1 : k - (k / 2 &&& 1431655765) < 65536 := by omega
  generalize hx1 : k - (k / 2 &&& 1431655765) = x1 at e1 b1
  have e2 : bc2 (nI x1) = nI ((x1 &&& 858993459) + (x1 / 4 &&& 858993459)) := by
    unfold bc2
    rw [ush_N (by omega) 2 (by decide), show (858993459 : Int32) = nI 858993459 from rfl, fa_and, fa_and, nI_add]
  have l2 : x1 &&& 858993459 ≤ x1 := Nat.and_le_left
  have l2' : x1 / 4 &&& 858993459 ≤ x1 / 4 := Nat.and_le_left
  have b2 : (x1 &&& 858993459) + (x1 / 4 &&& 858993459) < 131072 := by omega
  generalize hx2 : (x1 &&& 858993459) + (x1 / 4 &&& 858993459) = x2 at e2 b2
  have e3 : bc3 (nI x2) = nI ((x2 + x2 / 16) &&& 252645135) := by
    unfold bc3
    rw [ush_N (by omega) 4 (by decide), show (252645135 : Int32) = nI 252645135 from rfl, nI_add, fa_and]
  have l3 : (x2 + x2 / 16) &&& 252645135 ≤ x2 + x2 / 16 := Nat.and_le_left
  have b3 : (x2 + x2 / 16) &&& 252645135 < 262144 := by omega
  generalize hx3 : (x2 + x2 / 16) &&& 252645135 = x3 at e3 b3
  have e4 : bc4 (nI x3) = nI (x3 + x3 / 256) := by
    unfold bc4
    rw [ush_N (by omega) 8 (by decide), nI_add]
  have b4 : x3 + x3 / 256 < 524288 := by omega
  generalize hx4 : x3 + x3 / 256 = x4 at e4 b4
  have e5 : bc5 (nI x4) = nI (x4 + x4 / 65536) := by
    unfold bc5
    rw [ush_N (by omega) 16 (by decide), nI_add]
  have eN : bcN k = (x4 + x4 / 65536) &&& 63 := by
    subst hx4 hx3 hx2 hx1
    rfl
  unfold bitc
  rw [e1, e2, e3, e4, e5, fa_and, eN]
theorem bt_N {k i : Nat} (hi : i < 32) : bt (nI k) i = k.testBit i := by
  show (BitVec.ofNat 32 k).getLsbD i = _
  rw [BitVec.getLsbD_ofNat, decide_eq_true hi, Bool.true_and]
theorem maN_N {k : Nat} : ∀ n, n ≤ 32 → maN (nI k) n = pcN k n
  | 0, _ => rfl
  | n + 1, hn => by
    unfold maN
    rw [maN_N n (by omega), bitB_bt (by omega), bt_N (by omega), Nat.testBit_eq_decide_div_mod_eq]
    show _ = pcN k n + k / 2 ^ n % 2
    by_cases h : k / 2 ^ n % 2 = 1
    · rw [decide_eq_true h, if_pos rfl, h]
    · rw [decide_eq_false h, if_neg (by decide)]; omega
theorem urn_N {c : cS} : ∀ n, n ≤ 16 → ∃ k, k < 2 ^ n ∧ urn c n = nI k
  | 0, _ => ⟨0, by decide, rfl⟩
  | n + 1, hn => by
    obtain ⟨k, h1, h2⟩ := urn_N (c := c) n (by omega)
    unfold urn
    have h3 : k < 2 ^ (n + 1) := Nat.lt_of_lt_of_le h1 (Nat.pow_le_pow_right (by decide) (by omega))
    split
    · rw [h2, shl1 n (by omega), fa_or]
      exact ⟨_, Nat.or_lt_two_pow h3 (Nat.pow_lt_pow_right (by decide) (by omega)), rfl⟩
    · exact ⟨k, h3, h2⟩
theorem bitc_urn {c : cS} : bitc (urn c 16) = nI (maN (urn c 16) 16) := by
  obtain ⟨k, h1, h2⟩ := urn_N (c := c) 16 (Nat.le_refl _)
  rw [h2, bitc_N h1, maN_N 16 (by decide)]
