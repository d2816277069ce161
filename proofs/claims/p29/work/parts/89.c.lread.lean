/-! what a read and a making alike leave -/
theorem mx_1 {a b : Int32} (h : a ≤ b) : b = mx a b := by
  unfold mx
  by_cases q : a < b
  · rw [if_pos q]
  · rw [if_neg q]; exact i_anti (i_le_lt.mpr q) h
theorem mx_2 {a b : Int32} (h : ¬ a ≤ b) : a = mx a b := by
  unfold mx
  rw [if_neg (fun q => h (fa_of_lt q).1)]
theorem gB_max {σ τ : cS} {i j t row col : Nat} (hc : ∀ p, cv τ row col p ↔ cv σ row col p) (h : ∀ p, cv σ row col p → (sT τ t p).1 = mx (sT σ i p).1 (sT σ j p).1) : gB τ t row col = mx (gB σ i row col) (gB σ j row col) := by
  apply i_anti
  · refine gB_le (i_trans gB_ge (mx_l _ _)) (fun p hp => ?_)
    rw [h p ((hc p).mp hp)]
    exact mx_le (i_trans (gB_ub ((hc p).mp hp)) (mx_l _ _)) (i_trans (gB_ub ((hc p).mp hp)) (mx_r _ _))
  · refine mx_le (gB_le gB_ge (fun p hp => ?_)) (gB_le gB_ge (fun p hp => ?_))
    · have e := gB_ub (t := t) ((hc p).mpr hp)
      rw [h p hp] at e
      exact i_trans (mx_l _ _) e
    · have e := gB_ub (t := t) ((hc p).mpr hp)
      rw [h p hp] at e
      exact i_trans (mx_r _ _) e
def RD (G : wG) (σ : cS) (L : Nat → List Ch) (n i j row col : Nat) (ns : cS) : Prop := KP G ns L n ∧ (Jp σ L → Jp ns L) ∧ cU ns = cU σ ∧ cV ns 4 = cV σ 4 ∧ cV ns 5 = cV σ 5 ∧ sE ns i (row * 4 + col) = sE ns j (row * 4 + col) ∧ (∀ p, cv ns row col p → sT ns i p = sT ns j p) ∧ (sE ns i (row * 4 + col)).1 = mx (sE σ i (row * 4 + col)).1 (sE σ j (row * 4 + col)).1 ∧ gB ns i row col = mx (gB σ i row col) (gB σ j row col) ∧ (cV ns 6 = cV σ 6 ∨ (cV ns 6 = cV σ 6 + nI 1 ∧ alk σ i j = false))
theorem sF_iff {σ : cS} {i j row col : Nat} : sFn σ i j row col 11 = true ↔ sE σ i (row * 4 + col) = sE σ j (row * 4 + col) ∧ ∀ p, cv σ row col p → sT σ i p = sT σ j p := by
  rw [sFn_eq, sameE_eq]
  constructor
  · rintro ⟨h1, h2⟩
    exact ⟨h1, fun p ⟨c, hc, hp⟩ => sameT_eq.mp (h2 c p hc hp)⟩
  · rintro ⟨h1, h2⟩
    exact ⟨h1, fun c p hc hp => sameT_eq.mpr (h2 p ⟨c, hc, hp⟩)⟩
theorem rd_all {G : wG} {σ : cS} {L : Nat → List Ch} {n i j row col : Nat} (hi : i < 3) (hj : j < 3) (hij : i ≠ j) (hr : row < 16) (hc : col < 4) (hK : KP G σ L n) : RD G σ L n i j row col (rdK σ i j row col) := by
  obtain ⟨hH, hE, hT, hR, hL⟩ := hK
  rw [rdK_eq]
  by_cases hs : sFn σ i j row col 11 = true
  · rw [if_pos hs]
    obtain ⟨h1, h2⟩ := sF_iff.mp hs
    refine ⟨⟨hH, hE, hT, hR, hL⟩, id, rfl, rfl, rfl, h1, h2, ?_, ?_, Or.inl rfl⟩
    · rw [h1, mx_self]
    · rw [gB_cg (σ := σ) (τ := σ) (t := i) (s := j) (fun _ => Iff.rfl) (fun p hp => by rw [h2 p hp]), mx_self]
  · rw [if_neg hs]
    have hB := bk_read (σ := σ) (i := i) (j := j) (row := row) (col := col) hij
    have hk : row * 4 + col < 64 := by omega
    have er := bkE_r (σ := σ) (i := i) (j := j) (row := row) (col := col)
    have eI : ∀ p, p < 16 → cI (bkE σ i j row col) p = cI σ p := fun p hp => funext fun q => bkE_I hp
    generalize bkE σ i j row col = τ at hB er eI ⊢
    obtain ⟨eV, eU, -, -, eL, eE, eW⟩ := c_of er
    have hcv : ∀ p, cv τ row col p ↔ cv σ row col p := fun p => cv_of (eI 2 (by decide)) (eI 3 (by decide)) row col p
    refine ⟨⟨HI_of eL eE eW hH, BK_IE hB (by omega) (by omega) hE, BK_IT hB (by omega) (by omega) hT, IR_of (eI 2 (by decide)) (eI 3 (by decide)) hR, hL⟩, fun hJ => BK_Jp hB hi hj hE hT hL hJ, eU, congrFun eV 4, congrFun eV 5, BK_eqE hB (by omega) (by omega) hE hk (Or.inl rfl), fun p hp => BK_eqT hB (by omega) (by omega) hT (cv_lt hr hc ((hcv p).mp hp)) (Or.inl ((hcv p).mp hp)), ?_, ?_, Or.inr ⟨rfl, ?_⟩⟩
    · show (sE τ i (row * 4 + col)).1 = _
      rw [(hB.1 _ rfl).1, tkE_1]
      rfl
    · show gB τ i row col = _
      refine gB_max hcv (fun p hp => ?_)
      rw [(hB.2.2.1 p hp).1, tkT_1]
      rfl
    · cases ha : alk σ i j
      · rfl
      · obtain ⟨a1, a2⟩ := alk_iff.mp ha
        exact absurd (sF_iff.mpr ⟨a1 _ hk, fun p hp => a2 p (cv_lt hr hc hp)⟩) hs
theorem rd_same {σ : cS} {i j row col : Nat} (h1 : sE σ i (row * 4 + col) = sE σ j (row * 4 + col)) (h2 : ∀ p, cv σ row col p → sT σ i p = sT σ j p) : rdK σ j i row col = σ := by
  rw [rdK_eq, if_pos (sF_iff.mpr ⟨h1.symm, fun p hp => (h2 p hp).symm⟩)]
def MA (G : wG) (σ : cS) (L : Nat → List Ch) (n i j U : Nat) (ns : cS) : Prop := KP G ns L n ∧ (Jp σ L → Jp ns L) ∧ cU ns = cU σ ∧ cV ns 4 = cV σ 4 ∧ cV ns 5 = cV σ 5 ∧ ∀ r, r < 16 → U.testBit r = true → alR ns i j r
theorem ma_all {G : wG} {σ τ : cS} {L : Nat → List Ch} {n i j U : Nat} (hs : Sm σ τ) (hi : i < 3) (hj : j < 3) (hij : i ≠ j) (hK : KP G σ L n) : MA G σ L n i j U (makR (cmp τ i j) i j (nI U) 16) := by
  have hs2 : Sm σ (cmp τ i j) := Sm_tr hs Sm_cmp
  obtain ⟨hH, hE, hT, hR, hL⟩ := KP_Sm hs2 hK
  obtain ⟨⟨h1, h2, h3, h4, h5⟩, h6⟩ := mak_all (u := nI U) hi hj hij hE hT 16 (Nat.le_refl _)
  obtain ⟨eV, eU, -, -, eL, eE, eW⟩ := c_of h1
  exact ⟨⟨HI_of eL eE eW hH, h3, h4, IR_of (h2 2 (by decide)) (h2 3 (by decide)) hR, hL⟩, fun hJ => h5 L hL (Jp_Sm hs2 hJ), eU.trans hs2.2.2.1, (congrFun eV 4).trans (congrFun hs2.2.1 4), (congrFun eV 5).trans (congrFun hs2.2.1 5), fun r hr hb => h6 r hr (by rw [tb_bitB (by omega)]; exact hb)⟩
/-- rows that differ, as a number -/
theorem lpS_N {σ : cS} {i j : Nat} : ∃ U, U < 65536 ∧ lpS σ i j 5 = nI U ∧ ∀ r, r < 16 → U.testBit r = true → rowS σ i r ≠ rowS σ j r := by
  obtain ⟨U, h1, h2⟩ := urn_N (c := cmp σ i j) 16 (Nat.le_refl _)
  refine ⟨U, by omega, by rw [lp_set]; exact h2, fun r hr hb => un_bit hr ?_⟩
  rw [h2, tb_bitB (by omega)]
  exact hb
theorem pc_le {U : Nat} : ∀ n, pcN U n ≤ n
  | 0 => Nat.le_refl _
  | n + 1 => by
    show pcN U n + U / 2 ^ n % 2 ≤ n + 1
    have := pc_le (U := U) n
    omega
theorem mny_7 (a : Nat) : mny (a &&& 7) = a % 2 + a / 2 % 2 + a / 4 % 2 := by
  have e : a &&& 7 = a % 8 := Nat.and_two_pow_sub_one_eq_mod a 3
  rw [e]
  unfold mny
  omega
theorem pc_s {U n : Nat} : pcN U (n + 1) = pcN U n + U / 2 ^ n % 2 := rfl
theorem pc_0 {U : Nat} : pcN U 0 = 0 := rfl
theorem pc_16 {U : Nat} (h : U < 65536) : pcN U 16 = mny (U &&& 7) + mny (U / 8 &&& 7) + mny (U / 64 &&& 7) + mny (U / 512 &&& 7) + mny (U / 4096 &&& 7) + U / 32768 := by
  have h15 : U / 32768 % 2 = U / 32768 := Nat.mod_eq_of_lt (by omega)
  rw [mny_7, mny_7, mny_7, mny_7, mny_7]
  simp only [pc_s, pc_0, Nat.div_div_eq_div_mul, Nat.reduceMul, Nat.reducePow, Nat.div_one, Nat.zero_add, Nat.add_assoc, h15]
theorem and7_lt (a : Nat) : a &&& 7 < 8 := Nat.lt_of_le_of_lt Nat.and_le_right (by decide)
theorem nI_shr {a k d : Nat} (ha : a < 2 ^ 31) (hk : (((nI k &&& 31) : Int32).toBitVec.smod 32).toNat = d) : nI a >>> (nI k &&& 31) = nI (a / 2 ^ d) := pk_shrN ha _ d hk
section LR3
variable {p : Program} {l : Launch} {e : Env} {R : Room} {s : State} {m : MethodId} {args : Array Value} {below : List Frame} {meth : Method} {c : Code} {H : Heap} {locs : List Loc} {cells slots : Nat} {Q : State → Prop}
variable {cc : ByteArray} {nL : Nat} {Ts : List Cond} {own : String} {pc : Nat} {ls : Array Slot} {rest : List Value}
theorem r_shrN (S : CallFix p m c cc nL s args Ts own) {a k d b : Nat} (ha : a < 2 ^ 31) (hk : (((nI k &&& 31) : Int32).toBitVec.smod 32).toNat = d) (hb : 2 ^ d = b) (hdg : decode cc pc = .ok (.ishr, 1)) (kk : W p l e R s m args below meth c H locs cells slots Q (F0 m (pc + 1) ls (.int (nI (a / b)) :: rest))) : W p l e R s m args below meth c H locs cells slots Q (F0 m pc ls (.int (nI k) :: .int (nI a) :: rest)) :=
  lv_ishr S.1 S.2.1 hdg (by rw [nI_shr ha hk, hb]; exact kk)
end LR3
theorem LI_keep {G : wG} {σ ns : cS} {m : Nat → Nat} {L : Nat → List Ch} {n : Nat} (hK : KP G ns L n) (hJ : Jp σ L → Jp ns L) (eU : cU ns = cU σ) (e4 : cV ns 4 = cV σ 4) (e5 : cV ns 5 = cV σ 5) (h0 : cV σ 4 = nI (m 0)) (h1 : cV σ 5 = nI (m 1)) (h1b : m 1 ≤ 1000) (h2 : ∀ i, i < 3 → m (2 + i) = (L i).length) (h5 : m 5 < 8) (h5b : ∀ i, i < 3 → (m 5).testBit i = cU σ i) (h7 : m 7 ≤ 1) (h7b : m 7 = 1 → m 6 = 0 ∧ Jp σ L) (h8 : n ≤ m 8) (h8b : m 8 ≤ 8) : LI G ns m :=
  ⟨L, n, hK, e4.trans h0, e5.trans h1, h1b, h2, h5, fun i hi => by rw [eU]; exact h5b i hi, h7, fun z => ⟨(h7b z).1, hJ (h7b z).2⟩, h8, h8b⟩
theorem bi2 {a b : Bool} : bi a + bi b < nI 2 ∨ (a = true ∧ b = true) := by
  cases a <;> cases b <;> decide
theorem sub0 (a : Int32) : a - a = nI 0 := Int32.sub_self a
theorem sub1 (a : Int32) : a + nI 1 - a = nI 1 := by rw [Int32.add_comm, Int32.add_sub_cancel]
section WR2
variable (l : Launch) (G : wG) (τ : cS) (μ : mS) (o : Nat → Int64) (σ0 : cS)
theorem kr_makeAlike (i j U : Nat) (L : Nat → List Ch) (n : Nat) (hs : Sm σ0 τ) (hi : i < 3) (hj : j < 3) (hij : i ≠ j) (hui : cU σ0 i = true) (huj : cU σ0 j = true) (hK : KP G σ0 L n) (hU : lpS σ0 i j 5 = nI U) (hU2 : U < 65536) : Met l yX7_makeAlike wsX7_makeAlike rm_k_X7_makeAlike (wPc G τ μ o [.ref (gA G 0), .int (nI i), .int (nI j)]) (va_Qi (fun (rr : Int32) (u : cS × mS) => rr = nI (pcN U 16) ∧ u.2 = μ ∧ (fun ns : cS => MA G σ0 L n i j U ns) u.1) (fun u t => wI G u.1 u.2 o t) (gP G)) 0 0 (gP G) :=
  Met_Qi (k_X7_makeAlike l G τ μ o i j hi hj hij (by rw [hs.2.2.1]; exact hui) (by rw [hs.2.2.1]; exact huj)) (fun rr u h => by
    have e : urn (cmp τ i j) 16 = nI U := by rw [← lp_set, lpS_Sm hs i j 5 (Nat.le_refl _)]; exact hU
    rw [e, bitc_N hU2] at h
    refine ⟨h.1, by rw [h.2], ?_⟩
    show MA G σ0 L n i j U u.1
    rw [h.2]
    exact ma_all hs hi hj hij hK)
theorem kr_read (i j row col : Nat) (L : Nat → List Ch) (n : Nat) (hi : i < 3) (hj : j < 3) (hrow : row < 16) (hcol : col < 4) (hij : i ≠ j) (hui : cU τ i = true) (huj : cU τ j = true) (hK : KP G τ L n) : Met l yX7_read wsX7_read rm_k_X7_read (wPc G τ μ o [.ref (gA G 0), .int (nI i), .int (nI j), .int (nI row), .int (nI col)]) (va_Qi (fun (rr : Int32) (u : cS × mS) => rr = visV u.1 i row col (cV u.1 4) ∧ u.2 = μ ∧ RD G τ L n i j row col u.1) (fun u t => wI G u.1 u.2 o t) (gP G)) 0 0 (gP G) :=
  Met_Qi (k_X7_read l G τ μ o i j row col hi hj hrow hcol hij hui huj) (fun rr u h => by
    rw [h.2]
    exact ⟨h.1, rfl, rd_all hi hj hij hrow hcol hK⟩)
theorem kr_readS (i j row col : Nat) (hi : i < 3) (hj : j < 3) (hrow : row < 16) (hcol : col < 4) (hij : i ≠ j) (hui : cU τ i = true) (huj : cU τ j = true) (h1 : sE τ j (row * 4 + col) = sE τ i (row * 4 + col)) (h2 : ∀ p, cv τ row col p → sT τ j p = sT τ i p) : Met l yX7_read wsX7_read rm_k_X7_read (wPc G τ μ o [.ref (gA G 0), .int (nI i), .int (nI j), .int (nI row), .int (nI col)]) (va_Qi (fun (rr : Int32) (u : cS × mS) => rr = visV τ i row col (cV τ 4) ∧ u = (τ, μ)) (fun u t => wI G u.1 u.2 o t) (gP G)) 0 0 (gP G) := by
  have h := k_X7_read l G τ μ o i j row col hi hj hrow hcol hij hui huj
  rw [rd_same h1 h2] at h
  exact h
set_option maxRecDepth 100000 in
theorem kr_clean (i a g : Nat) (hi : i < 3) (hu : cU τ i = true) (h0 : cV τ 4 = nI a) (h1 : cV τ 5 = nI g) : Met l yX7_clean wsX7_clean rm_k_X7_clean (wPc G τ μ o [.ref (gA G 0), .int (nI i)]) (va_Qi (fun (rr : Int32) (u : cS × mS) => rr = nI (clN τ i (nI a - nI g)) ∧ u.2 = μ ∧ (fun ns : cS => ns = clS τ i (nI a - nI g)) u.1) (fun u t => wI G u.1 u.2 o t) (gP G)) 0 0 (gP G) :=
  Met_Qi (k_X7_clean l G τ μ o i hi hu) (fun rr u h => by
    have e1 : cV (dcs τ i 64).1 = cV τ := (c_of (dcs_all 64 (Nat.le_refl _)).2.2.1).1
    have e2 : ∀ la, cV (dts (dcs τ i 64).1 i la 92).1 = cV τ := fun la => (c_of (dts_all 92 (Nat.le_refl _)).2.2.1).1.trans e1
    rw [e1, h0, h1, e2, h0, h1] at h
    have e9 : clS τ i (nI a - nI g) = (des (dts (dcs τ i 64).1 i (nI a - nI g) 92).1 i (nI a - nI g) 64).1 := by simp only [clS, clB, clA]
    obtain ⟨u1, u2⟩ := u
    have h2 := Prod.mk.inj h.2
    refine ⟨by unfold clN clB clA; exact h.1, h2.2, ?_⟩
    show u1 = clS τ i (nI a - nI g)
    exact Eq.trans h2.1 (Eq.symm e9))
end WR2
