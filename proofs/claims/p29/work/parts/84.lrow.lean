/-! rows over the law's own arrays; the class' contracts over a state that is the same but for sums -/
abbrev iA (G : wG) (n : Nat) (f : Nat → Int32) : va_E := .inl (gC G 0, n, .inl f)
abbrev cA (G : wG) (m : Nat → Nat) : va_E := .inl (gC G 0, 9, .inl (fun j => nI (m j)))
section LR
variable {p : Program} {l : Launch} {e : Env} {R : Room} {s : State} {m : MethodId} {args : Array Value} {below : List Frame} {meth : Method} {c : Code} {H : Heap} {locs : List Loc} {cells slots : Nat} {Q : State → Prop}
variable {cc : ByteArray} {nL : Nat} {Ts : List Cond} {own : String} {G : wG} {σ : cS} {μ w : mS} {o : Nat → Int64} {pc : Nat} {ls : Array Slot} {rest : List Value} {ca : Nat} {mm : Nat → Nat}
theorem r_ldc (S : CallFix p m c cc nL s args Ts own) (Z : wZ G σ ((ca, cA G mm) :: w) o s H locs) {j : Nat} (hj : j < 9) (hdg : decode cc pc = .ok (.iaload, 1))
    (kk : W p l e R s m args below meth c H locs cells slots Q (F0 m (pc + 1) ls (.int (nI (mm j)) :: rest))) : W p l e R s m args below meth c H locs cells slots Q (F0 m pc ls (.int (nI j) :: .ref ca :: rest)) :=
  va_iald S.1 S.2.1 Z.2.1.1 Z.2.2.1 (39 + 0) 0 (wl_lw (j := 0) rfl) rfl (vp_in_nI hj (by decide)) hdg (by rw [nI_clamp (by omega)]; exact kk)
theorem r_stc (S : CallFix p m c cc nL s args Ts own) (Z : wZ G σ ((ca, cA G mm) :: w) o s H locs) {j x : Nat} (hj : j < 9) (hdg : decode cc pc = .ok (.iastore, 1))
    (kk : ∀ (H1 : Heap) (locs1 : List Loc), wZ G σ ((ca, cA G (va_up mm j x)) :: w) o s H1 locs1 → W p l e R s m args below meth c H1 locs1 cells slots Q (F0 m (pc + 1) ls rest)) : W p l e R s m args below meth c H locs cells slots Q (F0 m pc ls (.int (nI x) :: .int (nI j) :: .ref ca :: rest)) := by
  refine va_iast S.1 S.2.1 Z.2.1.1 Z.2.2.1 Z.2.2.2.1 Z.2.2.2.2 (39 + 0) 0 (wl_lw (j := 0) rfl) rfl (vp_in_nI hj (by decide)) hdg (fun H1 locs1 hP hD hS => ?_)
  rw [nI_clamp (by omega), upd_nI, wl_setL (by simp)] at hP hD
  exact kk H1 locs1 ⟨Z.1, Z.2.1, hP, hD, hS⟩
theorem r_ldA (S : CallFix p m c cc nL s args Ts own) (Z : wZ G σ ((ca, cA G mm) :: w) o s H locs) {q j n ad : Nat} {f : Nat → Int32} (hq : w[q]? = some (ad, iA G n f)) (hj : j < n) (hn : n < 2 ^ 31) (hdg : decode cc pc = .ok (.iaload, 1))
    (kk : W p l e R s m args below meth c H locs cells slots Q (F0 m (pc + 1) ls (.int (f j) :: rest))) : W p l e R s m args below meth c H locs cells slots Q (F0 m pc ls (.int (nI j) :: .ref ad :: rest)) :=
  va_iald S.1 S.2.1 Z.2.1.1 Z.2.2.1 (39 + (q + 1)) 0 (wl_lw (j := q + 1) hq) rfl (vp_in_nI hj hn) hdg (by rw [nI_clamp (by omega)]; exact kk)
theorem r_stA (S : CallFix p m c cc nL s args Ts own) (Z : wZ G σ ((ca, cA G mm) :: w) o s H locs) {q j n ad : Nat} {f : Nat → Int32} {x : Int32} (hq : w[q]? = some (ad, iA G n f)) (hj : j < n) (hn : n < 2 ^ 31) (hdg : decode cc pc = .ok (.iastore, 1))
    (kk : ∀ (H1 : Heap) (locs1 : List Loc), wZ G σ ((ca, cA G mm) :: w.set q (ad, iA G n (upd f j x))) o s H1 locs1 → W p l e R s m args below meth c H1 locs1 cells slots Q (F0 m (pc + 1) ls rest)) : W p l e R s m args below meth c H locs cells slots Q (F0 m pc ls (.int x :: .int (nI j) :: .ref ad :: rest)) := by
  have hlt := (List.getElem?_eq_some_iff.mp hq).1
  refine va_iast S.1 S.2.1 Z.2.1.1 Z.2.2.1 Z.2.2.2.1 Z.2.2.2.2 (39 + (q + 1)) 0 (wl_lw (j := q + 1) hq) rfl (vp_in_nI hj hn) hdg (fun H1 locs1 hP hD hS => ?_)
  rw [nI_clamp (by omega), wl_setL (by simp; omega)] at hP hD
  exact kk H1 locs1 ⟨Z.1, Z.2.1, hP, hD, hS⟩
theorem r_newA (S : CallFix p m c cc nL s args Ts own) (Z : wZ G σ μ o s H locs) {n : Nat} (hn : n < 1000) (harr : Cond.arrayClass .int ∈ Ts) (hcells : cells + 1 ≤ R.cells) (hslots : slots + n ≤ R.slots) (hdg : decode cc pc = .ok (.newarray .int, 2))
    (kk : ∀ (q : Nat) (H1 : Heap), wZ G σ (μ ++ [(q, iA G n (fun _ => 0))]) o s H1 locs → W p l e R s m args below meth c H1 locs (cells + 1) (slots + n) Q (F0 m (pc + 2) ls (.ref q :: rest))) : W p l e R s m args below meth c H locs cells slots Q (F0 m pc ls (.int (nI n) :: rest)) := by
  refine va_newa (atype := .int) (ty := .int) (N' := n) (a0 := (n, .inl (fun _ => 0))) S.1 S.2.1 (S.2.2.2.2 _ harr) rfl Z.2.1.1 Z.2.2.1 Z.2.2.2.1 Z.2.2.2.2 (wZ_A Z) (fun cA => by rw [vp_cell_i]; rfl) (nI_pos (by omega)) (nI_clamp (by omega)) (by show n * 4 ≤ 536870912; omega) hcells hslots hdg (fun q cA1 H1 hK hP hD hS => ?_)
  have e : cA1 = gC G 0 := Option.some.inj ((va_nm_int (hK.2 4 (cA1, .int) rfl).2).symm.trans (va_nm_int (Z.2.1.1.2 0 (gC G 0, .int) rfl).2))
  subst e
  exact kk q H1 ⟨Z.1, Z.2.1, P_perm wl_pushM hP, D_perm wl_pushM hD, hS⟩
theorem wZ_drop (Z : wZ G σ μ o s H locs) {μ' : mS} (h : μ'.Sublist μ) : wZ G σ μ' o s H locs :=
  ⟨Z.1, Z.2.1, P_mono Z.2.2.1 (fun _ hq => (wl_drop h).subset hq), D_subl (wl_drop h) Z.2.2.2.1, Z.2.2.2.2⟩
/-- a truth value and 1 -/
theorem r_b1_ne (S : CallFix p m c cc nL s args Ts own) {x : Bool} {off : Int} {tgt : Nat} (hdg : decode cc pc = .ok (.if_icmp .ne off, 3)) (ht : (pc : Int) + off = (tgt : Int)) (k1 : x = false → W p l e R s m args below meth c H locs cells slots Q (F0 m tgt ls rest)) (k2 : x = true → W p l e R s m args below meth c H locs cells slots Q (F0 m (pc + 3) ls rest)) : W p l e R s m args below meth c H locs cells slots Q (F0 m pc ls (.int (nI 1) :: .int (bi x) :: rest)) :=
  lv_icmp_ne S.1 S.2.1 hdg ht (fun h => k1 (by cases x; rfl; exact absurd rfl h)) (fun h => k2 (by cases x; exact absurd h (by decide); rfl))
theorem r_b1_eq (S : CallFix p m c cc nL s args Ts own) {x : Bool} {off : Int} {tgt : Nat} (hdg : decode cc pc = .ok (.if_icmp .eq off, 3)) (ht : (pc : Int) + off = (tgt : Int)) (k1 : x = true → W p l e R s m args below meth c H locs cells slots Q (F0 m tgt ls rest)) (k2 : x = false → W p l e R s m args below meth c H locs cells slots Q (F0 m (pc + 3) ls rest)) : W p l e R s m args below meth c H locs cells slots Q (F0 m pc ls (.int (nI 1) :: .int (bi x) :: rest)) :=
  lv_icmp_eq S.1 S.2.1 hdg ht (fun h => k1 (by cases x; exact absurd h (by decide); rfl)) (fun h => k2 (by cases x; rfl; exact absurd rfl h))
end LR
theorem Met_mono {l : Launch} {y : MethodName} {ws : List Cond} {rm : Room} {Pc : Array Value → State → Prop} {Qc Qc' : Array Value → State → Outcome → State → Prop} {mc ms : Nat} {free : Addr → Prop} (h : Met l y ws rm Pc Qc mc ms free) (hq : ∀ a st oc t, Qc a st oc t → Qc' a st oc t) : Met l y ws rm Pc Qc' mc ms free := by
  intro p e ha hc hk s m args below hf happ hP hK
  obtain ⟨n, oc, h1, h2, h3, h4, h5⟩ := h p e ha hc hk s m args below hf happ hP trivial
  exact ⟨n, oc, h1, h2, h3, hq _ _ _ _ h4, h5⟩
theorem Met_Qi {S : Type} {l : Launch} {y : MethodName} {ws : List Cond} {rm : Room} {Pc : Array Value → State → Prop} {post post' : Int32 → S → Prop} {B : S → State → Prop} {A : Nat → Prop} {mc ms : Nat} {free : Addr → Prop} (h : Met l y ws rm Pc (va_Qi post B A) mc ms free) (hq : ∀ r u, post r u → post' r u) : Met l y ws rm Pc (va_Qi post' B A) mc ms free :=
  Met_mono h (fun _ _ _ _ ⟨⟨r, u, h1, h2, h3⟩, h4⟩ => ⟨⟨r, u, h1, hq r u h2, h3⟩, h4⟩)
/-! the class' contracts, of a state that is the same as σ0 but for sums -/
theorem cntE_Sm {σ τ : cS} (h : Sm σ τ) (t n : Nat) : cntE τ t n = cntE σ t n := by
  rw [cntE_ct, cntE_ct]
  exact fb_ct_cong (fun k _ => by unfold hasE; rw [sE_Sm h])
theorem tmb_Sm {σ τ : cS} (h : Sm σ τ) (t r : Nat) : tmb τ t r = tmb σ t r := by
  unfold tmb
  rw [cntT_ct, cntT_ct, Sm_p h (15 + 6 * t + 4) (by omega) (by omega)]
theorem lnx_I {σ τ : cS} (h : Sm σ τ) (i j lv nd : Nat) (hlv : lv < 5) (hnd : nd < 2 ^ lv) : lnx τ i j lv nd = lnx σ i j lv nd := by
  have h16 := p2 hlv
  have h1 : 1 ≤ 2 ^ lv := Nat.two_pow_pos lv
  unfold lnx
  rw [NS_Sm h (by omega) (by omega), NS_Sm h (by omega) (by omega)]
theorem lpX_Sm {σ τ : cS} (h : Sm σ τ) (i j lv : Nat) (hlv : lv < 5) (set : Int32) : ∀ n, n ≤ 2 ^ lv → lpX τ i j lv set n = lpX σ i j lv set n
  | 0, _ => rfl
  | n + 1, hn => by
    unfold lpX
    rw [lpX_Sm h i j lv hlv set n (by omega), lnx_I h i j lv n hlv (by omega)]
theorem lpS_Sm {σ τ : cS} (h : Sm σ τ) (i j : Nat) : ∀ n, n ≤ 5 → lpS τ i j n = lpS σ i j n
  | 0, _ => rfl
  | n + 1, hn => by
    unfold lpS
    rw [lpS_Sm h i j n (by omega)]
    exact lpX_Sm h i j n (by omega) _ _ (Nat.le_refl _)
theorem lpC_Sm {σ τ : cS} (h : Sm σ τ) (i j : Nat) : ∀ n, n ≤ 5 → lpC τ i j n = lpC σ i j n
  | 0, _ => rfl
  | n + 1, hn => by
    unfold lpC
    rw [lpC_Sm h i j n (by omega), lpS_Sm h i j n (by omega)]
section WR
variable (l : Launch) (G : wG) (τ : cS) (μ : mS) (o : Nat → Int64) (σ0 : cS)
theorem kr_sumOf (i lv nd : Nat) (hs : Sm σ0 τ) (hi : i < 3) (hlv : lv < 5) (hnd : nd < 2 ^ lv) : Met l yX7_sumOf wsX7_sumOf rm_k_X7_sumOf (wPc G τ μ o [.ref (gA G 0), .int (nI i), .int (nI lv), .int (nI nd)]) (va_Qi (fun (rr : Int32) (u : cS × mS) => rr = NS σ0 i (2 ^ lv + nd) ∧ u.2 = μ ∧ (fun ns : cS => Sm σ0 ns) u.1) (fun u t => wI G u.1 u.2 o t) (gP G)) 0 0 (gP G) :=
  Met_Qi (k_X7_sumOf l G τ μ o i lv nd hi hlv hnd) (fun rr u h => by
    have h16 := p2 hlv
    have h1 : 1 ≤ 2 ^ lv := Nat.two_pow_pos lv
    refine ⟨h.1.trans (NS_Sm hs (by omega) (by omega)), by rw [h.2], ?_⟩
    show Sm σ0 u.1
    rw [h.2]
    exact Sm_tr hs Sm_mk)
theorem kr_compared (i j : Nat) (hs : Sm σ0 τ) (hi : i < 3) (hj : j < 3) : Met l yX7_compared wsX7_compared rm_k_X7_compared (wPc G τ μ o [.ref (gA G 0), .int (nI i), .int (nI j)]) (va_Qi (fun (rr : Int32) (u : cS × mS) => rr = nI (lpC σ0 i j 5) ∧ u.2 = μ ∧ (fun ns : cS => Sm σ0 ns) u.1) (fun u t => wI G u.1 u.2 o t) (gP G)) 0 0 (gP G) :=
  Met_Qi (k_X7_compared l G τ μ o i j hi hj) (fun rr u h => by
    refine ⟨by rw [h.1, ← lp_cnt, lpC_Sm hs i j 5 (Nat.le_refl _)], by rw [h.2], ?_⟩
    show Sm σ0 u.1
    rw [h.2]
    exact Sm_tr hs Sm_cmp)
theorem kr_unlike (i j : Nat) (hs : Sm σ0 τ) (hi : i < 3) (hj : j < 3) : Met l yX7_unlike wsX7_unlike rm_k_X7_unlike (wPc G τ μ o [.ref (gA G 0), .int (nI i), .int (nI j)]) (va_Qi (fun (rr : Int32) (u : cS × mS) => rr = lpS σ0 i j 5 ∧ u.2 = μ ∧ (fun ns : cS => Sm σ0 ns) u.1) (fun u t => wI G u.1 u.2 o t) (gP G)) 0 0 (gP G) :=
  Met_Qi (k_X7_unlike l G τ μ o i j hi hj) (fun rr u h => by
    refine ⟨by rw [h.1, ← lp_set, lpS_Sm hs i j 5 (Nat.le_refl _)], by rw [h.2], ?_⟩
    show Sm σ0 u.1
    rw [h.2]
    exact Sm_tr hs Sm_cmp)
theorem kr_areAlike (i j : Nat) (hs : Sm σ0 τ) (hi : i < 3) (hj : j < 3) : Met l yX7_areAlike wsX7_areAlike rm_k_X7_areAlike (wPc G τ μ o [.ref (gA G 0), .int (nI i), .int (nI j)]) (vp_Si (fun rr => rr = bi (alk σ0 i j))) 0 0 (fun _ => False) := by
  have h := k_X7_areAlike l G τ μ o i j hi hj
  rw [show (sEn τ i j 64 && sTn τ i j 92) = alk σ0 i j from alk_Sm hs i j] at h
  exact h
theorem kr_stampAt (i row col : Nat) (hs : Sm σ0 τ) (hi : i < 3) (hrow : row < 16) (hcol : col < 4) : Met l yX7_stampAt wsX7_stampAt rm_k_X7_stampAt (wPc G τ μ o [.ref (gA G 0), .int (nI i), .int (nI row), .int (nI col)]) (vp_Si (fun rr => rr = (sE σ0 i (row * 4 + col)).1)) 0 0 (fun _ => False) := by
  have h := k_X7_stampAt l G τ μ o i row col hi hrow hcol
  rw [show cI τ (15 + 6 * i + 1) (row * 4 + col) = (sE σ0 i (row * 4 + col)).1 from congrArg (fun z => z.1) (sE_Sm hs i (row * 4 + col))] at h
  exact h
theorem kr_valueAt (i row col : Nat) (hs : Sm σ0 τ) (hi : i < 3) (hrow : row < 16) (hcol : col < 4) : Met l yX7_valueAt wsX7_valueAt rm_k_X7_valueAt (wPc G τ μ o [.ref (gA G 0), .int (nI i), .int (nI row), .int (nI col)]) (vp_Si (fun rr => rr = visV σ0 i row col (cV σ0 4))) 0 0 (fun _ => False) := by
  have h := k_X7_valueAt l G τ μ o i row col hi hrow hcol
  rw [vis_Sm hs, hs.2.1] at h
  exact h
theorem kr_ideal (row col : Nat) (hs : Sm σ0 τ) (hrow : row < 16) (hcol : col < 4) : Met l yX7_ideal wsX7_ideal rm_k_X7_ideal (wPc G τ μ o [.ref (gA G 0), .int (nI row), .int (nI col)]) (vp_Si (fun rr => rr = visV σ0 3 row col (cV σ0 4))) 0 0 (fun _ => False) := by
  have h := k_X7_ideal l G τ μ o row col hrow hcol
  rw [vis_Sm hs, hs.2.1] at h
  exact h
theorem kr_buriedBy (i row col : Nat) (hs : Sm σ0 τ) (hi : i < 3) (hrow : row < 16) (hcol : col < 4) : Met l yX7_buriedBy wsX7_buriedBy rm_k_X7_buriedBy (wPc G τ μ o [.ref (gA G 0), .int (nI i), .int (nI row), .int (nI col)]) (vp_Si (fun rr => rr = gB σ0 i row col)) 0 0 (fun _ => False) := by
  have h := k_X7_buriedBy l G τ μ o i row col hi hrow hcol
  rw [gB_Sm hs] at h
  exact h
theorem kr_entries (i : Nat) (hs : Sm σ0 τ) (hi : i < 3) : Met l yX7_entries wsX7_entries rm_k_X7_entries (wPc G τ μ o [.ref (gA G 0), .int (nI i)]) (vp_Si (fun rr => rr = nI (cntE σ0 i 64))) 0 0 (fun _ => False) := by
  have h := k_X7_entries l G τ μ o i hi
  rw [cntE_Sm hs] at h
  exact h
theorem kr_tombstones (i r : Nat) (hs : Sm σ0 τ) (hi : i < 3) (hr : r < 4) : Met l yX7_tombstones wsX7_tombstones rm_k_X7_tombstones (wPc G τ μ o [.ref (gA G 0), .int (nI i), .int (nI r)]) (vp_Si (fun rr => rr = nI (tmb σ0 i r))) 0 0 (fun _ => False) := by
  have h := k_X7_tombstones l G τ μ o i r hi hr
  rw [show cntT τ i (fpl r) (fpl (r + 1) - fpl r) = tmb σ0 i r from tmb_Sm hs i r] at h
  exact h
theorem kr_isUp (i : Nat) (hs : Sm σ0 τ) (hi : i < 3) : Met l yX7_isUp wsX7_isUp rm_k_X7_isUp (wPc G τ μ o [.ref (gA G 0), .int (nI i)]) (vp_Si (fun rr => rr = bi (cU σ0 i))) 0 0 (fun _ => False) := by
  have h := k_X7_isUp l G τ μ o i hi
  rw [hs.2.2.1] at h
  exact h
theorem kr_hints (i : Nat) (hs : Sm σ0 τ) (hi : i < 3) : Met l yX7_hints wsX7_hints rm_k_X7_hints (wPc G τ μ o [.ref (gA G 0), .int (nI i)]) (vp_Si (fun rr => rr = nI (cL σ0 i))) 0 0 (fun _ => False) := by
  have h := k_X7_hints l G τ μ o i hi
  rw [hs.2.2.2.1] at h
  exact h
theorem kr_time (hs : Sm σ0 τ) : Met l yX7_time wsX7_time rm_k_X7_time (wPc G τ μ o [.ref (gA G 0)]) (vp_Si (fun rr => rr = cV σ0 4)) 0 0 (fun _ => False) := by
  have h := k_X7_time l G τ μ o
  rw [hs.2.1] at h
  exact h
theorem kr_repairs (hs : Sm σ0 τ) : Met l yX7_repairs wsX7_repairs rm_k_X7_repairs (wPc G τ μ o [.ref (gA G 0)]) (vp_Si (fun rr => rr = cV σ0 6)) 0 0 (fun _ => False) := by
  have h := k_X7_repairs l G τ μ o
  rw [hs.2.1] at h
  exact h
end WR
