/-! what the class' calls leave -/
def KP (G : wG) (σ : cS) (L : Nat → List Ch) (n : Nat) : Prop := HI G σ L ∧ IE σ ∧ IT σ n ∧ IR σ n ∧ IL n L
theorem IR_of {σ τ : cS} {n : Nat} (h2 : cI τ 2 = cI σ 2) (h3 : cI τ 3 = cI σ 3) (h : IR σ n) : IR τ n := by
  unfold IR
  rw [h2, h3]
  exact h
theorem IE_of {σ τ : cS} (h : ∀ t k, sE τ t k = sE σ t k) (hE : IE σ) : IE τ := fun t k ht hk => by rw [h]; exact hE t k ht hk
theorem IT_of {σ τ : cS} {n : Nat} (h : ∀ t p, sT τ t p = sT σ t p) (hT : IT σ n) : IT τ n := fun t p ht hp => by rw [h]; exact hT t p ht hp
theorem Jp_of {σ τ : cS} {L : Nat → List Ch} (h : ∀ t k, sE τ t k = sE σ t k) (g : ∀ t p, sT τ t p = sT σ t p) (hJ : Jp σ L) : Jp τ L := by
  unfold Jp
  simp only [h, g]
  exact hJ
theorem KP_Sm {G : wG} {σ τ : cS} {L : Nat → List Ch} {n : Nat} (h : Sm σ τ) (hK : KP G σ L n) : KP G τ L n :=
  ⟨HI_of h.2.2.2.1 h.2.2.2.2.1 h.2.2.2.2.2 hK.1, IE_of (sE_Sm h) hK.2.1, IT_of (sT_Sm h) hK.2.2.1, IR_of (Sm_p h 2 (by decide) (by decide)) (Sm_p h 3 (by decide) (by decide)) hK.2.2.2.1, hK.2.2.2.2⟩
theorem Jp_Sm {σ τ : cS} {L : Nat → List Ch} (h : Sm σ τ) (hJ : Jp σ L) : Jp τ L := Jp_of (sE_Sm h) (sT_Sm h) hJ
/-- what is sent -/
def tks (σ : cS) (cs : Int32) (t : Nat) : Prop := bitB cs t = true ∧ cU σ t = true
theorem sd_E {σ ns : cS} {c : Ch} {cs : Int32} (hs : sc ns (sdS σ c cs 3)) {t k : Nat} (ht : t < 4) (hk : k < 64) : ((t = 3 ∨ tks σ cs t) → sE ns t k = gE c k (sE σ t k)) ∧ (¬ (t = 3 ∨ tks σ cs t) → sE ns t k = sE σ t k) := by
  rw [sE_sc hs, sE_sdS hk 3 (Nat.le_refl _)]
  constructor
  · intro h
    exact if_pos (by rcases h with h | h; exact Or.inl h; by_cases e : t = 3; exact Or.inl e; exact Or.inr ⟨by omega, h⟩)
  · intro h
    exact if_neg (fun z => h (z.imp id (fun z => z.2)))
theorem sd_T {σ ns : cS} {c : Ch} {cs : Int32} (hs : sc ns (sdS σ c cs 3)) {t p : Nat} (ht : t < 4) : ((t = 3 ∨ tks σ cs t) → sT ns t p = gT c p (sT σ t p)) ∧ (¬ (t = 3 ∨ tks σ cs t) → sT ns t p = sT σ t p) := by
  rw [sT_sc hs, sT_sdS 3 (Nat.le_refl _)]
  constructor
  · intro h
    exact if_pos (by rcases h with h | h; exact Or.inl h; by_cases e : t = 3; exact Or.inl e; exact Or.inr ⟨by omega, h⟩)
  · intro h
    exact if_neg (fun z => h (z.imp id (fun z => z.2)))
theorem sd_I {σ ns : cS} {c : Ch} {cs : Int32} (hs : sc ns (sdS σ c cs 3)) {p : Nat} (hp : p < 16) : cI ns p = cI σ p := by
  rw [hs.1]
  exact funext fun j => cI_sdS hp 3
theorem sd_V {σ ns : cS} {c : Ch} {cs : Int32} (hs : sc ns (sdS σ c cs 3)) : cV ns = cV σ := by rw [hs.2.1, (c_of (sdS_r 3)).1]
theorem sd_U {σ ns : cS} {c : Ch} {cs : Int32} (hs : sc ns (sdS σ c cs 3)) : cU ns = cU σ := by rw [hs.2.2.1, (c_of (sdS_r 3)).2.1]
theorem send_KP {G : wG} {σ ns : cS} {c : Ch} {cs : Int32} {L : Nat → List Ch} {n : Nat} (hK : KP G σ L n) (hc : okN n c) (hs : sc ns (sdS σ c cs 3)) (hH : HI G ns (sdLL σ cs c L)) : KP G ns (sdLL σ cs c L) n := by
  obtain ⟨-, hE, hT, hR, hL⟩ := hK
  refine ⟨hH, fun t k ht hk => ?_, fun t p ht hp => ?_, IR_of (sd_I hs (by decide)) (sd_I hs (by decide)) hR, fun i hi d hd => ?_⟩
  · by_cases h : t = 3 ∨ tks σ cs t
    · rw [(sd_E hs ht hk).1 h]; exact okF_g hc.1 hk (hE t k ht hk)
    · rw [(sd_E hs ht hk).2 h]; exact hE t k ht hk
  · by_cases h : t = 3 ∨ tks σ cs t
    · rw [(sd_T hs ht).1 h]
      refine ⟨okG_g hc.1 (hT t p ht hp).1, fun hn => ?_⟩
      unfold gT
      rw [if_neg (by have := hc.2; omega)]
      exact (hT t p ht hp).2 hn
    · rw [(sd_T hs ht).2 h]; exact hT t p ht hp
  · unfold sdLL at hd
    split at hd
    · rcases List.mem_append.mp hd with q | q
      · exact hL i hi d q
      · rw [List.mem_singleton.mp q]; exact hc
    · exact hL i hi d hd
theorem send_Jp {G : wG} {σ ns : cS} {c : Ch} {cs : Int32} {L : Nat → List Ch} {n : Nat} (hK : KP G σ L n) (hc : okN n c) (hs : sc ns (sdS σ c cs 3)) (hb : ∀ i, i < 3 → bitB cs i = true) (hl : ∀ i, i < 3 → cU σ i = false → (L i).length < 10) (hJ : Jp σ L) : Jp ns (sdLL σ cs c L) := by
  obtain ⟨-, hE, hT, -, hL⟩ := hK
  intro i hi
  have hLi : ∀ d ∈ L i, okC d := fun d hd => (hL i hi d hd).1
  by_cases hu : cU σ i = true
  · have e : sdLL σ cs c L i = L i := if_neg (fun z => by rw [hu] at z; exact absurd z.2.1 (by decide))
    rw [e]
    refine ⟨fun k hk => ?_, fun p hp => ?_⟩
    · rw [(sd_E hs (by omega) hk).1 (Or.inr ⟨hb i hi, hu⟩), (sd_E hs (by decide) hk).1 (Or.inl rfl), jE_g hk hLi hc.1 (hE i k (by omega) hk), (hJ i hi).1 k hk]
    · rw [(sd_T hs (by omega)).1 (Or.inr ⟨hb i hi, hu⟩), (sd_T hs (by decide)).1 (Or.inl rfl), jT_g hLi hc.1 (hT i p (by omega) hp).1, (hJ i hi).2 p hp]
  · have hu' : cU σ i = false := by revert hu; cases cU σ i <;> simp
    have e : sdLL σ cs c L i = L i ++ [c] := if_pos ⟨hb i hi, hu', hl i hi hu'⟩
    have ht : ¬ (i = 3 ∨ tks σ cs i) := fun z => z.elim (by omega) (fun z => hu z.2)
    rw [e]
    refine ⟨fun k hk => ?_, fun p hp => ?_⟩
    · rw [(sd_E hs (by omega) hk).2 ht, (sd_E hs (by decide) hk).1 (Or.inl rfl), jE_app, (hJ i hi).1 k hk]
    · rw [(sd_T hs (by omega)).2 ht, (sd_T hs (by decide)).1 (Or.inl rfl), jT_app, (hJ i hi).2 p hp]
/-- the stamp of an entry that was sent -/
theorem send_st {σ ns : cS} {cs sp v en : Int32} {k t : Nat} (hs : sc ns (sdS σ (k, sp, v, en) cs 3)) (ht : t < 3) (hk : k < 64) : cI ns (15 + 6 * t + 1) k = if bitB cs t = true ∧ cU σ t = true then mx (cI σ (15 + 6 * t + 1) k) sp else cI σ (15 + 6 * t + 1) k := by
  show (sE ns t k).1 = _
  by_cases h : bitB cs t = true ∧ cU σ t = true
  · rw [if_pos h, (sd_E hs (by omega) hk).1 (Or.inr h)]
    unfold gE
    rw [if_pos rfl, tkE_1]
    rfl
  · rw [if_neg h, (sd_E hs (by omega) hk).2 (fun z => z.elim (by omega) h)]
    rfl
/-- what buries a cell that a tombstone sent covers -/
theorem send_bu {σ τ ns : cS} {cs sp ma en : Int32} {P t row col : Nat} (hsp : -1 ≤ sp) (hs : sc ns (sdS τ (64 + P, sp, ma, en) cs 3)) (hT : ∀ t p, sT τ t p = sT σ t p) (hU : cU τ = cU σ) (hc : ∀ p, cv τ row col p ↔ (cv σ row col p ∨ p = P)) (hn : cv σ row col P ∨ (sT σ t P).1 = -1) (ht : t < 3) : gB ns t row col = if bitB cs t = true ∧ cU σ t = true then mx (gB σ t row col) sp else gB σ t row col := by
  have hc' : ∀ p, cv ns row col p ↔ (cv σ row col p ∨ p = P) := fun p => (cv_of (sd_I hs (by decide)) (sd_I hs (by decide)) row col p).trans (hc p)
  by_cases h : bitB cs t = true ∧ cU σ t = true
  · rw [if_pos h]
    refine gB_take hsp hc' hn (fun p _ => ?_)
    rw [(sd_T hs (by omega)).1 (Or.inr ⟨h.1, by rw [hU]; exact h.2⟩), hT]
    unfold gT
    by_cases e : p = P
    · rw [if_pos (show 64 + P = 64 + p by omega), if_pos e, tkT_1]
      rfl
    · rw [if_neg (show ¬ 64 + P = 64 + p by omega), if_neg e]
  · rw [if_neg h]
    refine gB_keep hc' hn (fun p _ => ?_)
    rw [(sd_T hs (by omega)).2 (fun z => z.elim (by omega) (fun z => h ⟨z.1, by rw [← hU]; exact z.2⟩)), hT]
/-! ranges -/
theorem rg_spec {σ : cS} {a b : Nat} : ∀ m i, (rg σ a b m i = i + m ∧ ∀ j, i ≤ j → j < i + m → rgh σ a b j = false) ∨ (i ≤ rg σ a b m i ∧ rg σ a b m i < i + m ∧ rgh σ a b (rg σ a b m i) = true ∧ ∀ j, i ≤ j → j < rg σ a b m i → rgh σ a b j = false)
  | 0, i => Or.inl ⟨rfl, fun j h1 h2 => by omega⟩
  | m + 1, i => by
    unfold rg
    by_cases h : rgh σ a b i = true
    · rw [if_pos h]
      exact Or.inr ⟨Nat.le_refl _, by omega, h, fun j h1 h2 => by omega⟩
    · rw [if_neg h]
      have h' : rgh σ a b i = false := by revert h; cases rgh σ a b i <;> simp
      rcases rg_spec (σ := σ) (a := a) (b := b) m (i + 1) with ⟨e, q⟩ | ⟨q1, q2, q3, q4⟩
      · refine Or.inl ⟨by rw [e]; omega, fun j h1 h2 => ?_⟩
        by_cases hj : j = i
        · rw [hj]; exact h'
        · exact q j (by omega) (by omega)
      · refine Or.inr ⟨by omega, by omega, q3, fun j h1 h2 => ?_⟩
        by_cases hj : j = i
        · rw [hj]; exact h'
        · exact q4 j (by omega) h2
theorem rgh_iff {σ : cS} {a b r : Nat} : rgh σ a b r = true ↔ cI σ 2 r = -1 ∨ (cI σ 2 r = nI a ∧ cI σ 3 r = nI b) := by
  unfold rgh
  simp only [Bool.or_eq_true, Bool.and_eq_true, decide_eq_true_iff]
theorem rg_cases {σ : cS} {n a b : Nat} (hR : IR σ n) : (rgi σ a b < n ∧ rgi σ a b < 8 ∧ rgS σ a b = σ ∧ cI σ 2 (rgi σ a b) = nI a ∧ cI σ 3 (rgi σ a b) = nI b) ∨ (n < 8 ∧ rgi σ a b = n ∧ rgS σ a b = w1 (w1 σ 2 n (nI a)) 3 n (nI b)) ∨ (n = 8 ∧ ¬ rgi σ a b < 8 ∧ rgR σ a b = -1 ∧ rgS σ a b = σ) := by
  obtain ⟨hn, h1, h2⟩ := hR
  rcases rg_spec (σ := σ) (a := a) (b := b) 8 0 with ⟨e, q⟩ | ⟨-, q2, q3, q4⟩
  · have e8 : rgi σ a b = 8 := by unfold rgi; rw [e]
    have hn8 : n = 8 := by
      rcases Nat.lt_or_ge n 8 with z | z
      · have := q n (Nat.zero_le _) (by omega)
        rw [rgh_iff.mpr (Or.inl (h2 n (Nat.le_refl _) z).1)] at this
        cases this
      · omega
    refine Or.inr (Or.inr ⟨hn8, by omega, ?_, ?_⟩)
    · unfold rgR; rw [if_neg (by omega)]
    · unfold rgS; rw [if_neg (by omega)]
  · have q2 : rgi σ a b < 8 := by unfold rgi; omega
    have q3 : rgh σ a b (rgi σ a b) = true := q3
    have q4 : ∀ j, j < rgi σ a b → rgh σ a b j = false := fun j hj => q4 j (Nat.zero_le _) hj
    rcases Nat.lt_or_ge (rgi σ a b) n with z | z
    · obtain ⟨x, y, hxy, hy, e1, e2⟩ := h1 _ z
      have hne : ¬ cI σ 2 (rgi σ a b) = -1 := by rw [e1]; exact nI_nm1 (by omega)
      refine Or.inl ⟨z, q2, ?_, (rgh_iff.mp q3).resolve_left hne⟩
      unfold rgS
      rw [if_neg (fun w => hne w.2)]
    · have e : rgi σ a b = n := by
        rcases Nat.lt_or_ge n (rgi σ a b) with w | w
        · have := q4 n w
          rw [rgh_iff.mpr (Or.inl (h2 n (Nat.le_refl _) (by omega)).1)] at this
          cases this
        · omega
      refine Or.inr (Or.inl ⟨by omega, e, ?_⟩)
      unfold rgS
      rw [e, if_pos ⟨by omega, (h2 n (Nat.le_refl _) (by omega)).1⟩]
theorem hasB_iff {σ : cS} {r row x y : Nat} (hx : x < 2 ^ 31) (hy : y < 2 ^ 31) (hr : row < 2 ^ 31) (e1 : cI σ 2 r = nI x) (e2 : cI σ 3 r = nI y) : hasB σ r row = true ↔ x ≤ row ∧ row ≤ y := by
  unfold hasB
  rw [e1, e2]
  simp only [Bool.and_eq_true, Bool.not_eq_true', decide_eq_false_iff_not, nI_ltI hr hx, nI_ltI hy hr]
  omega
theorem hasB_no {σ : cS} {r row : Nat} (hr : row < 2 ^ 31) (e2 : cI σ 3 r = -1) : hasB σ r row = false := by
  unfold hasB
  rw [e2, decide_eq_true (m1_lt hr)]
  simp
/-- a range that is new: what covers, what is kept -/
theorem new_I2 {σ : cS} {n a b r : Nat} : cI (w1 (w1 σ 2 n (nI a)) 3 n (nI b)) 2 r = if r = n then nI a else cI σ 2 r := by
  rw [cI_w1, if_neg (by omega), cI_w1]
  by_cases h : r = n
  · rw [if_pos ⟨rfl, h⟩, if_pos h]
  · rw [if_neg (fun z => h z.2), if_neg h]
theorem new_I3 {σ : cS} {n a b r : Nat} : cI (w1 (w1 σ 2 n (nI a)) 3 n (nI b)) 3 r = if r = n then nI b else cI σ 3 r := by
  rw [cI_w1]
  by_cases h : r = n
  · rw [if_pos ⟨rfl, h⟩, if_pos h]
  · rw [if_neg (fun z => h z.2), if_neg h, cI_w1, if_neg (by omega)]
theorem new_sE {σ : cS} {n a b t k : Nat} : sE (w1 (w1 σ 2 n (nI a)) 3 n (nI b)) t k = sE σ t k := by
  unfold sE
  simp only [cI_w1]
  rw [if_neg (by omega), if_neg (by omega), if_neg (by omega), if_neg (by omega), if_neg (by omega), if_neg (by omega)]
theorem new_sT {σ : cS} {n a b t k : Nat} : sT (w1 (w1 σ 2 n (nI a)) 3 n (nI b)) t k = sT σ t k := by
  unfold sT
  simp only [cI_w1]
  rw [if_neg (by omega), if_neg (by omega), if_neg (by omega), if_neg (by omega)]
theorem new_has {σ : cS} {n a b r row : Nat} (h : r ≠ n) : hasB (w1 (w1 σ 2 n (nI a)) 3 n (nI b)) r row = hasB σ r row := by
  unfold hasB
  rw [new_I2, new_I3, if_neg h, if_neg h]
theorem new_IR {σ : cS} {n a b : Nat} (hR : IR σ n) (hn : n < 8) (hab : a ≤ b) (hb : b < 16) : IR (w1 (w1 σ 2 n (nI a)) 3 n (nI b)) (n + 1) := by
  obtain ⟨-, h1, h2⟩ := hR
  refine ⟨by omega, fun r hr => ?_, fun r hr h8 => ?_⟩
  · rw [new_I2, new_I3]
    by_cases e : r = n
    · rw [if_pos e, if_pos e]; exact ⟨a, b, hab, hb, rfl, rfl⟩
    · rw [if_neg e, if_neg e]; exact h1 r (by omega)
  · rw [new_I2, new_I3, if_neg (by omega), if_neg (by omega)]
    exact h2 r (by omega) h8
/-- a range deleted: where its tombstone lies, what covers, what is kept -/
theorem range_all {G : wG} {σ : cS} {L : Nat → List Ch} {n a b : Nat} (hK : KP G σ L n) (hab : a ≤ b) (hb : b < 16) (h8 : rgi σ a b < 8) : ∃ n', n ≤ n' ∧ n' ≤ n + 1 ∧ n' ≤ 8 ∧ rgi σ a b < n' ∧ KP G (rgS σ a b) L n' ∧ (∀ t k, sE (rgS σ a b) t k = sE σ t k) ∧ (∀ t p, sT (rgS σ a b) t p = sT σ t p) ∧ ∀ col, (∀ p, cv (rgS σ a b) a col p ↔ (cv σ a col p ∨ p = 84 + rgi σ a b)) ∧ (cv σ a col (84 + rgi σ a b) ∨ ∀ t, t < 4 → (sT σ t (84 + rgi σ a b)).1 = -1) := by
  obtain ⟨hH, hE, hT, hR, hL⟩ := hK
  rcases rg_cases (a := a) (b := b) hR with ⟨z, -, e, e1, e2⟩ | ⟨z, e0, e⟩ | ⟨-, z, -⟩
  · have hcv : ∀ col, cv σ a col (84 + rgi σ a b) := fun col => cv_iff.mpr (Or.inr (Or.inr (Or.inr ⟨rgi σ a b, h8, (hasB_iff (by omega) (by omega) (by omega) e1 e2).mpr ⟨Nat.le_refl _, hab⟩, rfl⟩)))
    rw [e]
    exact ⟨n, Nat.le_refl _, by omega, hR.1, z, ⟨hH, hE, hT, hR, hL⟩, fun _ _ => rfl, fun _ _ => rfl, fun col => ⟨fun p => ⟨Or.inl, fun q => q.elim id (fun q => by rw [q]; exact hcv col)⟩, Or.inl (hcv col)⟩⟩
  · rw [e0, e]
    refine ⟨n + 1, by omega, by omega, by omega, by omega, ⟨HI_of rfl rfl rfl hH, IE_of (fun _ _ => new_sE) hE, fun t p ht hp => ?_, new_IR hR z hab hb, fun i hi c hc => ⟨(hL i hi c hc).1, by have := (hL i hi c hc).2; omega⟩⟩, fun _ _ => new_sE, fun _ _ => new_sT, fun col => ⟨fun p => ?_, Or.inr (fun t ht => ?_)⟩⟩
    · rw [new_sT]
      exact ⟨(hT t p ht hp).1, fun q => (hT t p ht hp).2 (by omega)⟩
    · rw [cv_iff, cv_iff]
      constructor
      · rintro (q | q | q | ⟨r, hr, hb9, q⟩)
        · exact Or.inl (Or.inl q)
        · exact Or.inl (Or.inr (Or.inl q))
        · exact Or.inl (Or.inr (Or.inr (Or.inl q)))
        · by_cases er : r = n
          · rw [er] at q; exact Or.inr q
          · rw [new_has er] at hb9
            exact Or.inl (Or.inr (Or.inr (Or.inr ⟨r, hr, hb9, q⟩)))
      · rintro ((q | q | q | ⟨r, hr, hb9, q⟩) | q)
        · exact Or.inl q
        · exact Or.inr (Or.inl q)
        · exact Or.inr (Or.inr (Or.inl q))
        · have er : r ≠ n := fun er => by
            rw [er, hasB_no (by omega) (hR.2.2 n (Nat.le_refl _) z).2] at hb9
            cases hb9
          exact Or.inr (Or.inr (Or.inr ⟨r, hr, by rw [new_has er]; exact hb9, q⟩))
        · exact Or.inr (Or.inr (Or.inr ⟨n, z, (hasB_iff (x := a) (y := b) (by omega) (by omega) (by omega) (by rw [new_I2, if_pos rfl]) (by rw [new_I3, if_pos rfl])).mpr ⟨Nat.le_refl _, hab⟩, q⟩))
    · rw [(hT t (84 + n) ht (by omega)).2 (Nat.le_refl _)]
  · exact absurd h8 z
theorem range_V {σ : cS} {a b : Nat} : (rgS σ a b).2 = σ.2 := rgS_r
/-! a copy comes up -/
theorem fold_E {i t k : Nat} (hk : k < 64) : ∀ (L : List Ch) (τ : cS), sE (L.foldl (fun s c => goC s i c) τ) t k = if t = i then jE k L (sE τ i k) else sE τ t k
  | [], τ => by
    show sE τ t k = _
    split
    · rename_i h; rw [h]; rfl
    · rfl
  | c :: L, τ => by
    show sE (L.foldl (fun s c => goC s i c) (goC τ i c)) t k = _
    rw [fold_E hk L, sE_goC hk, sE_goC hk, if_pos rfl]
    split
    · rfl
    · rfl
theorem fold_T {i t p : Nat} : ∀ (L : List Ch) (τ : cS), sT (L.foldl (fun s c => goC s i c) τ) t p = if t = i then jT p L (sT τ i p) else sT τ t p
  | [], τ => by
    show sT τ t p = _
    split
    · rename_i h; rw [h]; rfl
    · rfl
  | c :: L, τ => by
    show sT (L.foldl (fun s c => goC s i c) (goC τ i c)) t p = _
    rw [fold_T L, sT_goC, sT_goC, if_pos rfl]
    split
    · rfl
    · rfl
theorem fold_I {i q j : Nat} (hq : q < 16) : ∀ (L : List Ch) (τ : cS), cI (L.foldl (fun s c => goC s i c) τ) q j = cI τ q j
  | [], _ => rfl
  | c :: L, τ => by
    show cI (L.foldl (fun s c => goC s i c) (goC τ i c)) q j = _
    rw [fold_I hq L, cI_goC hq]
theorem fold_r {i : Nat} : ∀ (L : List Ch) (τ : cS), (L.foldl (fun s c => goC s i c) τ).2 = τ.2
  | [], _ => rfl
  | c :: L, τ => by
    show (L.foldl (fun s c => goC s i c) (goC τ i c)).2 = _
    rw [fold_r L, goC_r]
theorem up_KP {G : wG} {σ ns : cS} {L : Nat → List Ch} {n i : Nat} (hi : i < 3) (hK : KP G σ L n) (hs : sc ns (cuS σ i (L i))) (hH : HI G ns (va_up L i [])) : KP G ns (va_up L i []) n ∧ (Jp σ L → Jp ns (va_up L i [])) ∧ cV ns = cV σ ∧ cU ns = va_up (cU σ) i true := by
  obtain ⟨-, hE, hT, hR, hL⟩ := hK
  have hLi : ∀ d ∈ L i, okC d := fun d hd => (hL i hi d hd).1
  have eE : ∀ t k, k < 64 → sE ns t k = if t = i then jE k (L i) (sE σ i k) else sE σ t k := fun t k hk => by
    rw [sE_sc hs]; exact fold_E hk (L i) (cU' σ i true)
  have eT : ∀ t p, sT ns t p = if t = i then jT p (L i) (sT σ i p) else sT σ t p := fun t p => by
    rw [sT_sc hs]; exact fold_T (L i) (cU' σ i true)
  have eI : ∀ q, q < 16 → cI ns q = cI σ q := fun q hq => by
    rw [hs.1]; exact funext fun j => fold_I hq (L i) (cU' σ i true)
  have er : (cuS σ i (L i)).2 = (cU' σ i true).2 := fold_r (L i) _
  refine ⟨⟨hH, fun t k ht hk => ?_, fun t p ht hp => ?_, IR_of (eI 2 (by decide)) (eI 3 (by decide)) hR, fun j hj c hc => ?_⟩, fun hJ j hj => ?_, ?_, ?_⟩
  · rw [eE t k hk]
    split
    · exact okF_j hk _ _ hLi (hE i k (by omega) hk)
    · exact hE t k ht hk
  · rw [eT]
    split
    · refine ⟨okG_j _ _ hLi (hT i p (by omega) hp).1, fun hn => ?_⟩
      have key : ∀ (M : List Ch), (∀ d ∈ M, okN n d) → jT p M (-1, nI 0) = (-1, nI 0) := by
        intro M
        induction M with
        | nil => intro _; rfl
        | cons c M ih =>
          intro hM
          rw [jT_s]
          have : gT c p (-1, nI 0) = (-1, nI 0) := if_neg (by have := (hM c List.mem_cons_self).2; omega)
          rw [this]
          exact ih (fun d hd => hM d (List.mem_cons_of_mem _ hd))
      rw [(hT i p (by omega) hp).2 hn]
      exact key (L i) (hL i hi)
    · exact hT t p ht hp
  · by_cases hji : j = i
    · rw [hji, va_up_self] at hc
      exact absurd hc List.not_mem_nil
    · rw [va_up_ne _ _ hji] at hc
      exact hL j hj c hc
  · by_cases hji : j = i
    · rw [hji, va_up_self]
      refine ⟨fun k hk => ?_, fun p hp => ?_⟩
      · rw [eE i k hk, if_pos rfl, eE 3 k hk, if_neg (by omega)]
        exact (hJ i hi).1 k hk
      · rw [eT i p, if_pos rfl, eT 3 p, if_neg (by omega)]
        exact (hJ i hi).2 p hp
    · rw [va_up_ne _ _ hji]
      refine ⟨fun k hk => ?_, fun p hp => ?_⟩
      · rw [eE j k hk, if_neg hji, eE 3 k hk, if_neg (by omega)]
        exact (hJ j hj).1 k hk
      · rw [eT j p, if_neg hji, eT 3 p, if_neg (by omega)]
        exact (hJ j hj).2 p hp
  · rw [hs.2.1, (c_of er).1]; rfl
  · rw [hs.2.2.1, (c_of er).2.1]; rfl
/-! a read, a row made alike -/
theorem bk_read {σ : cS} {i j row col : Nat} (hij : i ≠ j) : BK σ (bkE σ i j row col) i j (fun k => k = row * 4 + col) (cv σ row col) := by
  have hji : j ≠ i := fun z => hij z.symm
  have g1 := sT_tkCn (σ := σ) (t := i) (t2 := j) (row := row) (col := col) hji 11
  have g2 := sT_tkCn (σ := tkC σ i j row col) (t := j) (t2 := i) (row := row) (col := col) hij 11
  have e : ∀ p, (∃ c, c < 11 ∧ cpO (tkC σ i j row col) row col c = some p) ↔ cv σ row col p := fun p => by
    unfold cv tkC
    simp only [cpO_tkCn]
  refine ⟨fun k hk => ?_, fun t k hk => ?_, fun p hp => ?_, fun t p hp => ?_⟩
  · rw [sE_bk hij, sE_bk hij, if_pos hk, if_pos hk, if_pos rfl, if_neg hji, if_pos rfl]
    exact ⟨rfl, rfl⟩
  · rw [sE_bk hij]
    by_cases h : k = row * 4 + col
    · rw [if_pos h, if_neg (fun z => hk ⟨h, Or.inl z⟩), if_neg (fun z => hk ⟨h, Or.inr z⟩)]
    · rw [if_neg h]
  · unfold bkE
    have a1 : sT (tkC σ i j row col) i p = tkT (sT σ i p) (sT σ j p) := g1.2 p hp
    have a2 : sT (tkC σ i j row col) j p = sT σ j p := g1.1 j p (fun z => hji z.1)
    have b1 : sT (tkC (tkC σ i j row col) j i row col) i p = sT (tkC σ i j row col) i p := g2.1 i p (fun z => hij z.1)
    have b2 : sT (tkC (tkC σ i j row col) j i row col) j p = tkT (sT (tkC σ i j row col) j p) (sT (tkC σ i j row col) i p) := g2.2 p ((e p).mpr hp)
    rw [b1, b2, a1, a2, tkT_back]
    exact ⟨rfl, rfl⟩
  · unfold bkE
    have b1 : sT (tkC (tkC σ i j row col) j i row col) t p = sT (tkC σ i j row col) t p := g2.1 t p (fun z => hp ⟨(e p).mp z.2, Or.inr z.1⟩)
    rw [b1]
    exact g1.1 t p (fun z => hp ⟨z.2, Or.inl z.1⟩)
def rowK (r : Nat) (k : Nat) : Prop := r * 4 ≤ k ∧ k < r * 4 + 4
def rowP (σ : cS) (r : Nat) (p : Nat) : Prop := ∃ d, d < 4 ∧ cv σ r d p
theorem bk_row {σ : cS} {i j r : Nat} (hij : i ≠ j) : BK σ (bkR σ i j r) i j (rowK r) (rowP σ r) := by
  have hji : j ≠ i := fun z => hij z.symm
  have g1 := sT_tkRn (σ := σ) (t := i) (t2 := j) (row := r) hji 4
  have g2 := sT_tkRn (σ := tkR σ i j r) (t := j) (t2 := i) (row := r) hij 4
  have e : ∀ p, (∃ d, d < 4 ∧ ∃ c, c < 11 ∧ cpO (tkR σ i j r) r d c = some p) ↔ rowP σ r p := fun p => by
    unfold rowP cv tkR
    simp only [cpO_tkRn]
  refine ⟨fun k hk => ?_, fun t k hk => ?_, fun p hp => ?_, fun t p hp => ?_⟩
  · have hk : r * 4 ≤ k ∧ k < r * 4 + 4 := hk
    rw [sE_bkR hij, sE_bkR hij, if_pos hk, if_pos hk, if_pos rfl, if_neg hji, if_pos rfl]
    exact ⟨rfl, rfl⟩
  · rw [sE_bkR hij]
    by_cases h : r * 4 ≤ k ∧ k < r * 4 + 4
    · rw [if_pos h, if_neg (fun z => hk ⟨h, Or.inl z⟩), if_neg (fun z => hk ⟨h, Or.inr z⟩)]
    · rw [if_neg h]
  · unfold bkR
    have a1 : sT (tkR σ i j r) i p = tkT (sT σ i p) (sT σ j p) := g1.2 p hp
    have a2 : sT (tkR σ i j r) j p = sT σ j p := g1.1 j p (fun z => hji z.1)
    have b1 : sT (tkR (tkR σ i j r) j i r) i p = sT (tkR σ i j r) i p := g2.1 i p (fun z => hij z.1)
    have b2 : sT (tkR (tkR σ i j r) j i r) j p = tkT (sT (tkR σ i j r) j p) (sT (tkR σ i j r) i p) := g2.2 p ((e p).mpr hp)
    rw [b1, b2, a1, a2, tkT_back]
    exact ⟨rfl, rfl⟩
  · unfold bkR
    have b1 : sT (tkR (tkR σ i j r) j i r) t p = sT (tkR σ i j r) t p := g2.1 t p (fun z => hp ⟨(e p).mp z.2, Or.inr z.1⟩)
    rw [b1]
    exact g1.1 t p (fun z => hp ⟨z.2, Or.inl z.1⟩)
/-- a row at which two tables have the same -/
def alR (σ : cS) (i j r : Nat) : Prop := (∀ k, rowK r k → sE σ i k = sE σ j k) ∧ ∀ p, rowP σ r p → sT σ i p = sT σ j p
theorem rowP_of {σ τ : cS} (h2 : cI τ 2 = cI σ 2) (h3 : cI τ 3 = cI σ 3) (r p : Nat) : rowP τ r p ↔ rowP σ r p := by
  unfold rowP
  simp only [cv_of h2 h3]
theorem rowP_lt {σ : cS} {r p : Nat} (hr : r < 16) (h : rowP σ r p) : p < 92 := by
  obtain ⟨d, hd, h⟩ := h
  exact cv_lt hr hd h
/-- what is kept while two tables are made alike -/
def MK (σ τ : cS) (i j n : Nat) : Prop := τ.2 = σ.2 ∧ (∀ p, p < 16 → cI τ p = cI σ p) ∧ IE τ ∧ IT τ n ∧ ∀ L, IL n L → Jp σ L → Jp τ L
theorem mak_all {σ : cS} {i j n : Nat} {u : Int32} (hi : i < 3) (hj : j < 3) (hij : i ≠ j) (hE : IE σ) (hT : IT σ n) : ∀ m, m ≤ 16 → MK σ (makR σ i j u m) i j n ∧ ∀ r, r < m → bitB u r = true → alR (makR σ i j u m) i j r
  | 0, _ => ⟨⟨rfl, fun _ _ => rfl, hE, hT, fun _ _ h => h⟩, fun r hr => absurd hr (Nat.not_lt_zero _)⟩
  | m + 1, hm => by
    obtain ⟨⟨h1, h2, h3, h4, h5⟩, h6⟩ := mak_all (u := u) hi hj hij hE hT m (by omega)
    by_cases hb : bitB u m = true
    · have e : makR σ i j u (m + 1) = bkR (makR σ i j u m) i j m := if_pos hb
      have hB := bk_row (σ := makR σ i j u m) (i := i) (j := j) (r := m) hij
      have e2 : ∀ p, p < 16 → cI (bkR (makR σ i j u m) i j m) p = cI (makR σ i j u m) p := fun p hp => funext fun q => bkR_I hp
      rw [e]
      refine ⟨⟨bkR_r.trans h1, fun p hp => (e2 p hp).trans (h2 p hp), BK_IE hB (by omega) (by omega) h3, BK_IT hB (by omega) (by omega) h4, fun L hL hJ => BK_Jp hB hi hj h3 h4 hL (h5 L hL hJ)⟩, fun r hr hbr => ?_⟩
      refine ⟨fun k hk => BK_eqE hB (by omega) (by omega) h3 (by unfold rowK at hk; omega) ?_, fun p hp => ?_⟩
      · by_cases er : r = m
        · exact Or.inl (by rw [← er]; exact hk)
        · exact Or.inr ((h6 r (by omega) hbr).1 k hk)
      · have hp' : rowP (makR σ i j u m) r p := (rowP_of (e2 2 (by decide)) (e2 3 (by decide)) r p).mp hp
        refine BK_eqT hB (by omega) (by omega) h4 (rowP_lt (by omega) hp') ?_
        by_cases er : r = m
        · subst er
          exact Or.inl hp'
        · exact Or.inr ((h6 r (by omega) hbr).2 p hp')
    · have e : makR σ i j u (m + 1) = makR σ i j u m := if_neg hb
      rw [e]
      refine ⟨⟨h1, h2, h3, h4, h5⟩, fun r hr hbr => ?_⟩
      by_cases er : r = m
      · rw [er] at hbr; exact absurd hbr hb
      · exact h6 r (by omega) hbr
