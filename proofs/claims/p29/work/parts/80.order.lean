/-! the class' state alone: entries and tombstones are in order -/
def okF (x : tE) : Prop := x = (-1, nI 0, nI 0) ∨ okE x
def okG (y : tT) : Prop := y = (-1, nI 0) ∨ okT y
/-- an entry's rank, a tombstone's -/
def rkE (x : tE) : Nat := if x.1 = -1 then 0 else 1 + ((x.1.toInt.toNat * 1000 + x.2.1.toInt.toNat) * 11002 + (endR x.2.2).toInt.toNat)
def rkT (y : tT) : Nat := if y.1 = -1 then 0 else 1 + (y.1.toInt.toNat * 10001 + y.2.toInt.toNat)
theorem nI_nat {n : Nat} (h : n < 2 ^ 31) : (nI n).toInt.toNat = n := by rw [nI_toInt h]; rfl
theorem rkE_0 : rkE (-1, nI 0, nI 0) = 0 := if_pos rfl
theorem rkT_0 : rkT (-1, nI 0) = 0 := if_pos rfl
theorem rkE_m {a b : Nat} (ha : a ≤ 999) (hb : b ≤ 999) : rkE (nI a, nI b, -1) = 1 + ((a * 1000 + b) * 11002 + 11001) := by
  show (if nI a = -1 then 0 else 1 + (((nI a).toInt.toNat * 1000 + (nI b).toInt.toNat) * 11002 + (endR (-1)).toInt.toNat)) = _
  rw [if_neg (nI_nm1 (by omega)), nI_nat (by omega), nI_nat (by omega), endR_m, nI_nat (by decide)]
theorem rkE_c {a b c : Nat} (ha : a ≤ 999) (hb : b ≤ 999) (hc : c ≤ 11000) : rkE (nI a, nI b, nI c) = 1 + ((a * 1000 + b) * 11002 + c) := by
  show (if nI a = -1 then 0 else 1 + (((nI a).toInt.toNat * 1000 + (nI b).toInt.toNat) * 11002 + (endR (nI c)).toInt.toNat)) = _
  rw [if_neg (nI_nm1 (by omega)), nI_nat (by omega), nI_nat (by omega), endR_i (by omega), nI_nat (by omega)]
theorem rkT_c {a b : Nat} (ha : a ≤ 999) (hb : b ≤ 10000) : rkT (nI a, nI b) = 1 + (a * 10001 + b) := by
  show (if nI a = -1 then 0 else 1 + ((nI a).toInt.toNat * 10001 + (nI b).toInt.toNat)) = _
  rw [if_neg (nI_nm1 (by omega)), nI_nat (by omega), nI_nat (by omega)]
theorem rkE_p {x : tE} (h : okE x) : 0 < rkE x := by
  unfold rkE
  rw [if_neg (okE_1 h).2]
  omega
theorem rkT_p {y : tT} (h : okT y) : 0 < rkT y := by
  unfold rkT
  rw [if_neg (okT_1 h).2]
  omega
theorem bE_0 {y : tE} (h : okE y) : bE (-1, nI 0, nI 0) y = true := by
  unfold bE
  rw [if_neg (okE_1 h).2]
  exact decide_eq_true (okE_1 h).1
theorem bT_0 {y : tT} (h : okT y) : bT (-1, nI 0) y = true := by
  unfold bT
  rw [if_neg (okT_1 h).2]
  exact decide_eq_true (okT_1 h).1
theorem bE_rk {x y : tE} (hx : okF x) (hy : okF y) : bE x y = true ↔ rkE x < rkE y := by
  rcases hx with rfl | hx
  · rcases hy with rfl | hy
    · rw [bE_irr, rkE_0]; simp
    · rw [bE_0 hy, rkE_0]
      exact ⟨fun _ => rkE_p hy, fun _ => rfl⟩
  · rcases hy with rfl | hy
    · rw [bE_asy (bE_0 hx), rkE_0]; simp
    · obtain ⟨a, b, c, ha, hb, hc1, hc, hx⟩ := hx
      obtain ⟨a', b', c', ha', hb', hc1', hc', hy⟩ := hy
      have A : a < 2 ^ 31 := by omega
      have B : b < 2 ^ 31 := by omega
      have C : c < 2 ^ 31 := by omega
      have A' : a' < 2 ^ 31 := by omega
      have B' : b' < 2 ^ 31 := by omega
      have C' : c' < 2 ^ 31 := by omega
      have D : 11001 < 2 ^ 31 := by decide
      rcases hx with rfl | rfl <;> rcases hy with rfl | rfl
      · rw [rkE_m ha hb, rkE_m ha' hb']
        unfold bE
        simp only [nI_eq A' A, nI_eq B' B, nI_ltI A A', nI_ltI B B', endR_m, nI_ltI D D]
        (repeat' split) <;> simp only [decide_eq_true_iff] <;> omega
      · rw [rkE_m ha hb, rkE_c ha' hb' hc']
        unfold bE
        simp only [nI_eq A' A, nI_eq B' B, nI_ltI A A', nI_ltI B B', endR_m, endR_i C', nI_ltI D C']
        (repeat' split) <;> simp only [decide_eq_true_iff] <;> omega
      · rw [rkE_c ha hb hc, rkE_m ha' hb']
        unfold bE
        simp only [nI_eq A' A, nI_eq B' B, nI_ltI A A', nI_ltI B B', endR_m, endR_i C, nI_ltI C D]
        (repeat' split) <;> simp only [decide_eq_true_iff] <;> omega
      · rw [rkE_c ha hb hc, rkE_c ha' hb' hc']
        unfold bE
        simp only [nI_eq A' A, nI_eq B' B, nI_ltI A A', nI_ltI B B', endR_i C, endR_i C', nI_ltI C C']
        (repeat' split) <;> simp only [decide_eq_true_iff] <;> omega
theorem bT_rk {x y : tT} (hx : okG x) (hy : okG y) : bT x y = true ↔ rkT x < rkT y := by
  rcases hx with rfl | hx
  · rcases hy with rfl | hy
    · rw [bT_irr, rkT_0]; simp
    · rw [bT_0 hy, rkT_0]
      exact ⟨fun _ => rkT_p hy, fun _ => rfl⟩
  · rcases hy with rfl | hy
    · rw [bT_asy (bT_0 hx), rkT_0]; simp
    · obtain ⟨a, b, ha, hb, rfl⟩ := hx
      obtain ⟨a', b', ha', hb', rfl⟩ := hy
      have A : a < 2 ^ 31 := by omega
      have B : b < 2 ^ 31 := by omega
      have A' : a' < 2 ^ 31 := by omega
      have B' : b' < 2 ^ 31 := by omega
      rw [rkT_c ha hb, rkT_c ha' hb']
      unfold bT
      simp only [nI_eq A' A, nI_ltI A A', nI_ltI B B']
      (repeat' split) <;> simp only [decide_eq_true_iff] <;> omega
theorem rkE_inj {x y : tE} (hx : okF x) (hy : okF y) (h : rkE x = rkE y) : x = y := by
  rcases hx with rfl | hx
  · rcases hy with rfl | hy
    · rfl
    · rw [rkE_0] at h; have := rkE_p hy; omega
  · rcases hy with rfl | hy
    · rw [rkE_0] at h; have := rkE_p hx; omega
    · obtain ⟨a, b, c, ha, hb, hc1, hc, hx⟩ := hx
      obtain ⟨a', b', c', ha', hb', hc1', hc', hy⟩ := hy
      rcases hx with rfl | rfl <;> rcases hy with rfl | rfl
      · rw [rkE_m ha hb, rkE_m ha' hb'] at h
        rw [show a = a' by omega, show b = b' by omega]
      · rw [rkE_m ha hb, rkE_c ha' hb' hc'] at h
        omega
      · rw [rkE_c ha hb hc, rkE_m ha' hb'] at h
        omega
      · rw [rkE_c ha hb hc, rkE_c ha' hb' hc'] at h
        rw [show a = a' by omega, show b = b' by omega, show c = c' by omega]
theorem rkT_inj {x y : tT} (hx : okG x) (hy : okG y) (h : rkT x = rkT y) : x = y := by
  rcases hx with rfl | hx
  · rcases hy with rfl | hy
    · rfl
    · rw [rkT_0] at h; have := rkT_p hy; omega
  · rcases hy with rfl | hy
    · rw [rkT_0] at h; have := rkT_p hx; omega
    · obtain ⟨a, b, ha, hb, rfl⟩ := hx
      obtain ⟨a', b', ha', hb', rfl⟩ := hy
      rw [rkT_c ha hb, rkT_c ha' hb'] at h
      rw [show a = a' by omega, show b = b' by omega]
theorem okF_tk {x y : tE} (hx : okF x) (hy : okF y) : okF (tkE x y) := by unfold tkE; split <;> assumption
theorem okG_tk {x y : tT} (hx : okG x) (hy : okG y) : okG (tkT x y) := by unfold tkT; split <;> assumption
theorem rkE_tk {x y : tE} (hx : okF x) (hy : okF y) : rkE (tkE x y) = Nat.max (rkE x) (rkE y) := by
  unfold tkE
  by_cases h : bE x y = true
  · rw [if_pos h]
    exact (Nat.max_eq_right (Nat.le_of_lt ((bE_rk hx hy).mp h))).symm
  · rw [if_neg h]
    exact (Nat.max_eq_left (Nat.not_lt.mp (fun z => h ((bE_rk hx hy).mpr z)))).symm
theorem rkT_tk {x y : tT} (hx : okG x) (hy : okG y) : rkT (tkT x y) = Nat.max (rkT x) (rkT y) := by
  unfold tkT
  by_cases h : bT x y = true
  · rw [if_pos h]
    exact (Nat.max_eq_right (Nat.le_of_lt ((bT_rk hx hy).mp h))).symm
  · rw [if_neg h]
    exact (Nat.max_eq_left (Nat.not_lt.mp (fun z => h ((bT_rk hx hy).mpr z)))).symm
theorem tkE_comm {x y : tE} (hx : okF x) (hy : okF y) : tkE x y = tkE y x :=
  rkE_inj (okF_tk hx hy) (okF_tk hy hx) (by rw [rkE_tk hx hy, rkE_tk hy hx]; exact Nat.max_comm _ _)
theorem tkT_comm {x y : tT} (hx : okG x) (hy : okG y) : tkT x y = tkT y x :=
  rkT_inj (okG_tk hx hy) (okG_tk hy hx) (by rw [rkT_tk hx hy, rkT_tk hy hx]; exact Nat.max_comm _ _)
/-- what is taken twice in either order -/
theorem tkE_swap {x y z : tE} (hx : okF x) (hy : okF y) (hz : okF z) : tkE (tkE x y) z = tkE (tkE x z) y :=
  rkE_inj (okF_tk (okF_tk hx hy) hz) (okF_tk (okF_tk hx hz) hy) (by
    rw [rkE_tk (okF_tk hx hy) hz, rkE_tk hx hy, rkE_tk (okF_tk hx hz) hy, rkE_tk hx hz]
    show max (max _ _) _ = max (max _ _) _
    omega)
theorem tkT_swap {x y z : tT} (hx : okG x) (hy : okG y) (hz : okG z) : tkT (tkT x y) z = tkT (tkT x z) y :=
  rkT_inj (okG_tk (okG_tk hx hy) hz) (okG_tk (okG_tk hx hz) hy) (by
    rw [rkT_tk (okG_tk hx hy) hz, rkT_tk hx hy, rkT_tk (okG_tk hx hz) hy, rkT_tk hx hz]
    show max (max _ _) _ = max (max _ _) _
    omega)
theorem tkE_ge {x y : tE} (hx : okF x) (hy : okF y) (h : rkE y ≤ rkE x) : tkE x y = x := if_neg (fun z => absurd ((bE_rk hx hy).mp z) (by omega))
theorem tkT_ge {x y : tT} (hx : okG x) (hy : okG y) (h : rkT y ≤ rkT x) : tkT x y = x := if_neg (fun z => absurd ((bT_rk hx hy).mp z) (by omega))
/-- stamps of what is taken -/
theorem tkE_1 (x y : tE) : (tkE x y).1 = if x.1 < y.1 then y.1 else x.1 := by
  unfold tkE bE
  by_cases h : y.1 = x.1
  · have hx : ¬ x.1 < y.1 := by rw [h]; exact i_irr _
    rw [if_pos h, show (if x.1 < y.1 then y.1 else x.1) = x.1 from if_neg hx]
    (repeat' split) <;> first | exact h | rfl
  · rw [if_neg h]
    by_cases h2 : x.1 < y.1
    · rw [if_pos h2, if_pos (decide_eq_true h2)]
    · rw [if_neg h2, if_neg (by rw [decide_eq_false h2]; decide)]
theorem tkT_1 (x y : tT) : (tkT x y).1 = if x.1 < y.1 then y.1 else x.1 := by
  unfold tkT bT
  by_cases h : y.1 = x.1
  · have hx : ¬ x.1 < y.1 := by rw [h]; exact i_irr _
    rw [if_pos h, show (if x.1 < y.1 then y.1 else x.1) = x.1 from if_neg hx]
    (repeat' split) <;> first | exact h | rfl
  · rw [if_neg h]
    by_cases h2 : x.1 < y.1
    · rw [if_pos h2, if_pos (decide_eq_true h2)]
    · rw [if_neg h2, if_neg (by rw [decide_eq_false h2]; decide)]
theorem okF_1 {x : tE} (h : okF x) : x.1 = -1 ∨ ∃ a, a ≤ 999 ∧ x.1 = nI a := by
  rcases h with rfl | ⟨a, b, c, ha, -, -, -, rfl | rfl⟩
  · exact Or.inl rfl
  · exact Or.inr ⟨a, ha, rfl⟩
  · exact Or.inr ⟨a, ha, rfl⟩
theorem okG_1 {y : tT} (h : okG y) : y.1 = -1 ∨ ∃ a, a ≤ 999 ∧ y.1 = nI a := by
  rcases h with rfl | ⟨a, b, ha, -, rfl⟩
  · exact Or.inl rfl
  · exact Or.inr ⟨a, ha, rfl⟩
theorem okF_v {x : tE} (h : okF x) : ∃ b, b ≤ 999 ∧ x.2.1 = nI b := by
  rcases h with rfl | ⟨a, b, c, -, hb, -, -, rfl | rfl⟩
  · exact ⟨0, by decide, rfl⟩
  · exact ⟨b, hb, rfl⟩
  · exact ⟨b, hb, rfl⟩
/-- a stamp: none, or a number -/
def stP (x : Int32) : Prop := x = -1 ∨ ∃ a, a ≤ 999 ∧ x = nI a
theorem stP_ge {x : Int32} (h : stP x) : -1 ≤ x := by
  rcases h with rfl | ⟨a, ha, rfl⟩
  · exact i_refl _
  · exact m1_le (by omega)
theorem stP_le {x : Int32} (h : stP x) : x ≤ nI 999 := by
  rcases h with rfl | ⟨a, ha, rfl⟩
  · exact m1_le (by decide)
  · rw [nI_leI (by omega) (by decide)]; exact ha
/-! lists of changes taken -/
def jE (k : Nat) (L : List Ch) (x : tE) : tE := L.foldl (fun x c => gE c k x) x
def jT (k : Nat) (L : List Ch) (y : tT) : tT := L.foldl (fun y c => gT c k y) y
theorem okF_g {c : Ch} {k : Nat} {x : tE} (hc : okC c) (hk : k < 64) (hx : okF x) : okF (gE c k x) := by
  unfold gE
  split
  · rename_i h
    rcases hc with hc | hc
    · exact okF_tk hx (Or.inr hc.2)
    · omega
  · exact hx
theorem okG_g {c : Ch} {k : Nat} {y : tT} (hc : okC c) (hy : okG y) : okG (gT c k y) := by
  unfold gT
  split
  · rename_i h
    rcases hc with hc | hc
    · omega
    · exact okG_tk hy (Or.inr hc.2.2)
  · exact hy
theorem gE_swap {c : Ch} {k : Nat} {x y : tE} (hc : okC c) (hk : k < 64) (hx : okF x) (hy : okF y) : gE c k (tkE x y) = tkE (gE c k x) y := by
  unfold gE
  split
  · rename_i h
    rcases hc with hc | hc
    · exact tkE_swap hx hy (Or.inr hc.2)
    · omega
  · rfl
theorem gT_swap {c : Ch} {k : Nat} {x y : tT} (hc : okC c) (hx : okG x) (hy : okG y) : gT c k (tkT x y) = tkT (gT c k x) y := by
  unfold gT
  split
  · rename_i h
    rcases hc with hc | hc
    · omega
    · exact tkT_swap hx hy (Or.inr hc.2.2)
  · rfl
theorem gE_ge {c : Ch} {k : Nat} {x : tE} (hc : okC c) (hk : k < 64) (hx : okF x) : rkE x ≤ rkE (gE c k x) := by
  unfold gE
  split
  · rename_i h
    rcases hc with hc | hc
    · rw [rkE_tk hx (Or.inr hc.2)]; exact Nat.le_max_left _ _
    · omega
  · exact Nat.le_refl _
theorem gT_ge {c : Ch} {k : Nat} {y : tT} (hc : okC c) (hy : okG y) : rkT y ≤ rkT (gT c k y) := by
  unfold gT
  split
  · rename_i h
    rcases hc with hc | hc
    · omega
    · rw [rkT_tk hy (Or.inr hc.2.2)]; exact Nat.le_max_left _ _
  · exact Nat.le_refl _
theorem jE_s {k : Nat} {L : List Ch} {x : tE} {c : Ch} : jE k (c :: L) x = jE k L (gE c k x) := rfl
theorem jT_s {k : Nat} {L : List Ch} {y : tT} {c : Ch} : jT k (c :: L) y = jT k L (gT c k y) := rfl
theorem jE_app {k : Nat} {L : List Ch} {x : tE} {c : Ch} : jE k (L ++ [c]) x = gE c k (jE k L x) := by
  unfold jE
  rw [List.foldl_append]
  rfl
theorem jT_app {k : Nat} {L : List Ch} {y : tT} {c : Ch} : jT k (L ++ [c]) y = gT c k (jT k L y) := by
  unfold jT
  rw [List.foldl_append]
  rfl
theorem okF_j {k : Nat} (hk : k < 64) : ∀ (L : List Ch) (x : tE), (∀ c ∈ L, okC c) → okF x → okF (jE k L x)
  | [], _, _, hx => hx
  | c :: L, x, h, hx => by
    rw [jE_s]
    exact okF_j hk L _ (fun d hd => h d (List.mem_cons_of_mem _ hd)) (okF_g (h c List.mem_cons_self) hk hx)
theorem okG_j {k : Nat} : ∀ (L : List Ch) (y : tT), (∀ c ∈ L, okC c) → okG y → okG (jT k L y)
  | [], _, _, hy => hy
  | c :: L, y, h, hy => by
    rw [jT_s]
    exact okG_j L _ (fun d hd => h d (List.mem_cons_of_mem _ hd)) (okG_g (h c List.mem_cons_self) hy)
theorem jE_ge {k : Nat} (hk : k < 64) : ∀ (L : List Ch) (x : tE), (∀ c ∈ L, okC c) → okF x → rkE x ≤ rkE (jE k L x)
  | [], _, _, _ => Nat.le_refl _
  | c :: L, x, h, hx => by
    rw [jE_s]
    exact Nat.le_trans (gE_ge (h c List.mem_cons_self) hk hx) (jE_ge hk L _ (fun d hd => h d (List.mem_cons_of_mem _ hd)) (okF_g (h c List.mem_cons_self) hk hx))
theorem jT_ge {k : Nat} : ∀ (L : List Ch) (y : tT), (∀ c ∈ L, okC c) → okG y → rkT y ≤ rkT (jT k L y)
  | [], _, _, _ => Nat.le_refl _
  | c :: L, y, h, hy => by
    rw [jT_s]
    exact Nat.le_trans (gT_ge (h c List.mem_cons_self) hy) (jT_ge L _ (fun d hd => h d (List.mem_cons_of_mem _ hd)) (okG_g (h c List.mem_cons_self) hy))
theorem jE_tk {k : Nat} (hk : k < 64) : ∀ (L : List Ch) (x y : tE), (∀ c ∈ L, okC c) → okF x → okF y → jE k L (tkE x y) = tkE (jE k L x) y
  | [], _, _, _, _, _ => rfl
  | c :: L, x, y, h, hx, hy => by
    rw [jE_s, jE_s, gE_swap (h c List.mem_cons_self) hk hx hy]
    exact jE_tk hk L _ _ (fun d hd => h d (List.mem_cons_of_mem _ hd)) (okF_g (h c List.mem_cons_self) hk hx) hy
theorem jT_tk {k : Nat} : ∀ (L : List Ch) (x y : tT), (∀ c ∈ L, okC c) → okG x → okG y → jT k L (tkT x y) = tkT (jT k L x) y
  | [], _, _, _, _, _ => rfl
  | c :: L, x, y, h, hx, hy => by
    rw [jT_s, jT_s, gT_swap (h c List.mem_cons_self) hx hy]
    exact jT_tk L _ _ (fun d hd => h d (List.mem_cons_of_mem _ hd)) (okG_g (h c List.mem_cons_self) hx) hy
theorem jE_g {k : Nat} (hk : k < 64) {L : List Ch} {x : tE} {c : Ch} (h : ∀ c ∈ L, okC c) (hc : okC c) (hx : okF x) : jE k L (gE c k x) = gE c k (jE k L x) := by
  unfold gE
  split
  · rename_i h1
    rcases hc with hc | hc
    · exact jE_tk hk L _ _ h hx (Or.inr hc.2)
    · omega
  · rfl
theorem jT_g {k : Nat} {L : List Ch} {y : tT} {c : Ch} (h : ∀ c ∈ L, okC c) (hc : okC c) (hy : okG y) : jT k L (gT c k y) = gT c k (jT k L y) := by
  unfold gT
  split
  · rename_i h1
    rcases hc with hc | hc
    · omega
    · exact jT_tk L _ _ h hy (Or.inr hc.2.2)
  · rfl
