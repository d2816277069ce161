/-! the world of a run: thirty-nine places with addresses of their own, the law's own cells, and moving cells behind them -/
/-- first address of ours, the places' addresses, the tables' numbers, classes of arrays, further addresses -/
abbrev wG : Type := Nat × (Nat → Nat) × va_G × (Nat → ClassId) × (Nat → Nat)
abbrev gN (G : wG) : Nat := G.1
abbrev gA (G : wG) : Nat → Nat := G.2.1
abbrev gD (G : wG) : va_G := G.2.2.1
abbrev gC (G : wG) : Nat → ClassId := G.2.2.2.1
abbrev gX (G : wG) : Nat → Nat := G.2.2.2.2
/-- the class: int arrays by their place; now 4, grace 5, repairs 6; up; differs; of the lists: modCount, size, where their rows lie; moving cells -/
abbrev cS : Type := (Nat → Nat → Int32) × (Nat → Int32) × (Nat → Bool) × (Nat → Bool) × (Nat → Int32) × (Nat → Nat) × (Nat → Nat) × va_W
/-- the law's own cells -/
abbrev mS : Type := va_W
abbrev cI (c : cS) : Nat → Nat → Int32 := c.1
abbrev cV (c : cS) : Nat → Int32 := c.2.1
abbrev cU (c : cS) : Nat → Bool := c.2.2.1
abbrev cF (c : cS) : Nat → Bool := c.2.2.2.1
abbrev cM (c : cS) : Nat → Int32 := c.2.2.2.2.1
abbrev cL (c : cS) : Nat → Nat := c.2.2.2.2.2.1
abbrev cE (c : cS) : Nat → Nat := c.2.2.2.2.2.2.1
abbrev cW (c : cS) : va_W := c.2.2.2.2.2.2.2
def bi (b : Bool) : Int32 := if b then nI 1 else nI 0
/-- what is written -/
def cI' (c : cS) (k : Nat) (f : Nat → Int32) : cS := (va_up c.1 k f, c.2)
def cV' (c : cS) (k : Nat) (x : Int32) : cS := (c.1, va_up c.2.1 k x, c.2.2)
def cU' (c : cS) (k : Nat) (x : Bool) : cS := (c.1, c.2.1, va_up c.2.2.1 k x, c.2.2.2)
def cF' (c : cS) (k : Nat) (x : Bool) : cS := (c.1, c.2.1, c.2.2.1, va_up c.2.2.2.1 k x, c.2.2.2.2)
def cM' (c : cS) (k : Nat) (x : Int32) : cS := (c.1, c.2.1, c.2.2.1, c.2.2.2.1, va_up c.2.2.2.2.1 k x, c.2.2.2.2.2)
def cL' (c : cS) (k : Nat) (x : Nat) : cS := (c.1, c.2.1, c.2.2.1, c.2.2.2.1, c.2.2.2.2.1, va_up c.2.2.2.2.2.1 k x, c.2.2.2.2.2.2)
def cE' (c : cS) (k : Nat) (x : Nat) : cS := (c.1, c.2.1, c.2.2.1, c.2.2.2.1, c.2.2.2.2.1, c.2.2.2.2.2.1, va_up c.2.2.2.2.2.2.1 k x, c.2.2.2.2.2.2.2)
def cW' (c : cS) (w : va_W) : cS := (c.1, c.2.1, c.2.2.1, c.2.2.2.1, c.2.2.2.2.1, c.2.2.2.2.2.1, c.2.2.2.2.2.2.1, w)
/-- what lies at the places -/
def wE (G : wG) (c : cS) (m : mS) (o : Nat → Int64) : Nat → va_E := fun k => match k with
  | 0 => .inr (7, [.ref (gA G 1), .ref (gA G 33), .ref (gA G 4), .ref (gA G 5), .int (c.2.1 4), .int (c.2.1 5), .int (c.2.1 6)])
  | 1 => .inr (4, [.ref (gA G 2), .ref (gA G 3)])
  | 2 => .inl (gC G 0, 8, .inl (c.1 2))
  | 3 => .inl (gC G 0, 8, .inl (c.1 3))
  | 4 => .inl (gC G 2, 3, .inr (.inr (.inr (.inr (fun j => some (gA G (9 + j)))))))
  | 5 => .inr (1, [.ref (gA G 6), .ref (gA G 7), .ref (gA G 8)])
  | 6 => .inl (gC G 0, 32, .inl (c.1 6))
  | 7 => .inl (gC G 0, 32, .inl (c.1 7))
  | 8 => .inl (gC G 1, 32, .inl (fun j => bi (c.2.2.2.1 j)))
  | 9 => .inr (3, [.ref (gA G 15), .ref (gA G 12), .int (bi (c.2.2.1 0))])
  | 10 => .inr (3, [.ref (gA G 21), .ref (gA G 13), .int (bi (c.2.2.1 1))])
  | 11 => .inr (3, [.ref (gA G 27), .ref (gA G 14), .int (bi (c.2.2.1 2))])
  | 12 => .inr (0, [.int (c.2.2.2.2.1 0), .ref (c.2.2.2.2.2.2.1 0), .int (nI (c.2.2.2.2.2.1 0))])
  | 13 => .inr (0, [.int (c.2.2.2.2.1 1), .ref (c.2.2.2.2.2.2.1 1), .int (nI (c.2.2.2.2.2.1 1))])
  | 14 => .inr (0, [.int (c.2.2.2.2.1 2), .ref (c.2.2.2.2.2.2.1 2), .int (nI (c.2.2.2.2.2.1 2))])
  | 15 => .inr (5, [.ref (gA G 1), .ref (gA G 16), .ref (gA G 17), .ref (gA G 18), .ref (gA G 19), .ref (gA G 20)])
  | 16 => .inl (gC G 0, 64, .inl (c.1 16))
  | 17 => .inl (gC G 0, 64, .inl (c.1 17))
  | 18 => .inl (gC G 0, 64, .inl (c.1 18))
  | 19 => .inl (gC G 0, 92, .inl (c.1 19))
  | 20 => .inl (gC G 0, 92, .inl (c.1 20))
  | 21 => .inr (5, [.ref (gA G 1), .ref (gA G 22), .ref (gA G 23), .ref (gA G 24), .ref (gA G 25), .ref (gA G 26)])
  | 22 => .inl (gC G 0, 64, .inl (c.1 22))
  | 23 => .inl (gC G 0, 64, .inl (c.1 23))
  | 24 => .inl (gC G 0, 64, .inl (c.1 24))
  | 25 => .inl (gC G 0, 92, .inl (c.1 25))
  | 26 => .inl (gC G 0, 92, .inl (c.1 26))
  | 27 => .inr (5, [.ref (gA G 1), .ref (gA G 28), .ref (gA G 29), .ref (gA G 30), .ref (gA G 31), .ref (gA G 32)])
  | 28 => .inl (gC G 0, 64, .inl (c.1 28))
  | 29 => .inl (gC G 0, 64, .inl (c.1 29))
  | 30 => .inl (gC G 0, 64, .inl (c.1 30))
  | 31 => .inl (gC G 0, 92, .inl (c.1 31))
  | 32 => .inl (gC G 0, 92, .inl (c.1 32))
  | 33 => .inr (5, [.ref (gA G 1), .ref (gA G 34), .ref (gA G 35), .ref (gA G 36), .ref (gA G 37), .ref (gA G 38)])
  | 34 => .inl (gC G 0, 64, .inl (c.1 34))
  | 35 => .inl (gC G 0, 64, .inl (c.1 35))
  | 36 => .inl (gC G 0, 64, .inl (c.1 36))
  | 37 => .inl (gC G 0, 92, .inl (c.1 37))
  | _ => .inl (gC G 0, 92, .inl (c.1 38))
def Wl (G : wG) (c : cS) (m : mS) (o : Nat → Int64) : va_W := (List.range 39).map (fun k => (gA G k, wE G c m o k)) ++ m ++ cW c
theorem wl_get {G : wG} {c : cS} {m : mS} {o : Nat → Int64} {k : Nat} (hk : k < 39) : (Wl G c m o)[k]? = some (gA G k, wE G c m o k) := by
  unfold Wl
  rw [List.append_assoc, List.getElem?_append_left (by simpa using hk), List.getElem?_map, List.getElem?_range hk]
  rfl
theorem wl_at {G : wG} {c : cS} {m : mS} {o : Nat → Int64} {k : Nat} {e : va_E} (hk : k < 39) (he : wE G c m o k = e) : (Wl G c m o)[k]? = some (gA G k, e) := by rw [wl_get hk, he]
theorem wl_lw {G : wG} {c : cS} {m : mS} {o : Nat → Int64} {j : Nat} {q : Nat × va_E} (h : m[j]? = some q) : (Wl G c m o)[39 + j]? = some q := by
  unfold Wl
  have hj := (List.getElem?_eq_some_iff.mp h).1
  rw [List.append_assoc, List.getElem?_append_right (by simp)]
  rw [List.getElem?_append_left (by simp; exact hj)]
  simpa using h
theorem wl_mv {G : wG} {c : cS} {m : mS} {o : Nat → Int64} {j : Nat} {q : Nat × va_E} (h : (cW c)[j]? = some q) : (Wl G c m o)[39 + m.length + j]? = some q := by
  unfold Wl
  rw [List.getElem?_append_right (by simp)]
  simpa using h
theorem wE_m {G : wG} {c : cS} {m m' : mS} {o : Nat → Int64} : wE G c m o = wE G c m' o := by
  funext k
  unfold wE
  rfl
theorem wl_set {G : wG} {c c' : cS} {m m' : mS} {o o' : Nat → Int64} {k : Nat} {e : va_E} (hk : k < 39) (hw : (m', cW c') = (m, cW c)) (hs : ∀ q, q < 39 → wE G c' m' o' q = if q = k then e else wE G c m o q) : (Wl G c m o).set k (gA G k, e) = Wl G c' m' o' := by
  obtain ⟨rfl, hw2⟩ := Prod.mk.inj hw
  unfold Wl
  rw [List.append_assoc, List.append_assoc, List.set_append_left _ _ (by simpa using hk), hw2]
  congr 1
  apply List.ext_getElem?
  intro i
  rw [List.getElem?_set]
  simp only [List.length_map, List.length_range, List.getElem?_map]
  by_cases hi : i < 39
  · rw [List.getElem?_range hi]
    simp only [Option.map_some]
    rw [hs i hi]
    by_cases h : k = i
    · subst h; simp [hk]
    · simp [h]
      intro z
      exact absurd z.symm h
  · have h1 : (List.range 39)[i]? = none := by simp; omega
    rw [h1]
    by_cases h : k = i
    · omega
    · simp [h]
theorem wE_W {G : wG} {c : cS} {m : mS} {o : Nat → Int64} (w : va_W) : wE G (cW' c w) m o = wE G c m o := by
  funext k
  unfold wE
  rfl
theorem wl_setW {G : wG} {c : cS} {m : mS} {o : Nat → Int64} {j : Nat} {q : Nat × va_E} : (Wl G c m o).set (39 + m.length + j) q = Wl G (cW' c ((cW c).set j q)) m o := by
  unfold Wl
  rw [List.set_append_right _ _ (by simp), wE_W]
  simp [cW']
theorem wl_setL {G : wG} {c : cS} {m : mS} {o : Nat → Int64} {j : Nat} {q : Nat × va_E} (hj : j < m.length) : (Wl G c m o).set (39 + j) q = Wl G c (m.set j q) o := by
  unfold Wl
  rw [List.append_assoc, List.set_append_right _ _ (by simp), List.set_append_left _ _ (by simp; exact hj), wE_m (m' := m.set j q), ← List.append_assoc]
  simp
theorem wl_push {G : wG} {c : cS} {m : mS} {o : Nat → Int64} {q : Nat × va_E} : Wl G c m o ++ [q] = Wl G (cW' c (cW c ++ [q])) m o := by
  unfold Wl
  rw [List.append_assoc _ (cW c)]
  rfl
/-- cells in any order, some of them forgotten -/
theorem P_mono {D : va_G} {cl : List vw_C} {ws ws' : va_W} {H : Heap} (hP : va_P D cl ws H) (h : ∀ q ∈ ws', q ∈ ws) : va_P D cl ws' H := by
  intro k q hk
  obtain ⟨j, hj⟩ := List.mem_iff_getElem?.mp (h q (List.mem_of_getElem? hk))
  exact hP j q hj
theorem D_nodup {A : Nat → Prop} {ws : va_W} : va_D A ws ↔ (ws.map (fun q => q.1)).Nodup ∧ ∀ q ∈ ws, A q.1 := by
  constructor
  · intro h
    refine ⟨?_, fun q hq => ?_⟩
    · rw [List.nodup_iff_pairwise_ne, List.pairwise_iff_getElem]
      intro i j hi hj hij e
      have hi : i < ws.length := by simpa using hi
      have hj : j < ws.length := by simpa using hj
      have e1 : ws[i].1 = ws[j].1 := by simpa using e
      have := h.1 i j _ _ (List.getElem?_eq_getElem hi) (List.getElem?_eq_getElem hj) e1
      omega
    · obtain ⟨j, hj⟩ := List.mem_iff_getElem?.mp hq
      exact h.2 j q hj
  · rintro ⟨h1, h2⟩
    refine ⟨fun i j p q hi hj e => ?_, fun i q hi => h2 q (List.mem_of_getElem? hi)⟩
    obtain ⟨hi1, hi2⟩ := List.getElem?_eq_some_iff.mp hi
    obtain ⟨hj1, hj2⟩ := List.getElem?_eq_some_iff.mp hj
    have e3 : (ws.map (fun q => q.1))[i]'(by simpa using hi1) = (ws.map (fun q => q.1))[j]'(by simpa using hj1) := by
      simp only [List.getElem_map]
      rw [hi2, hj2]
      exact e
    exact (List.getElem_inj h1).mp e3
theorem wl_pushM {G : wG} {c : cS} {m : mS} {o : Nat → Int64} {q : Nat × va_E} : (Wl G c m o ++ [q]).Perm (Wl G c (m ++ [q]) o) := by
  unfold Wl
  rw [wE_m (m' := m ++ [q])]
  simp only [List.append_assoc]
  refine List.Perm.append_left _ (List.Perm.append_left _ ?_)
  exact List.perm_append_comm
theorem P_perm {D : va_G} {cl : List vw_C} {ws ws' : va_W} {H : Heap} (h : ws.Perm ws') (hP : va_P D cl ws H) : va_P D cl ws' H := P_mono hP (fun _ hq => h.mem_iff.mpr hq)
theorem D_perm {A : Nat → Prop} {ws ws' : va_W} (h : ws.Perm ws') (hD : va_D A ws) : va_D A ws' := by
  rw [D_nodup] at hD ⊢
  exact ⟨(List.Perm.nodup_iff (h.map _)).mp hD.1, fun q hq => hD.2 q (h.mem_iff.mpr hq)⟩
theorem D_subl {A : Nat → Prop} {ws ws' : va_W} (h : ws'.Sublist ws) (hD : va_D A ws) : va_D A ws' := by
  rw [D_nodup] at hD ⊢
  exact ⟨hD.1.sublist (h.map _), fun q hq => hD.2 q (h.subset hq)⟩
theorem wl_drop {G : wG} {c : cS} {m m' : mS} {o : Nat → Int64} (h : m'.Sublist m) : (Wl G c m' o).Sublist (Wl G c m o) := by
  unfold Wl
  rw [wE_m (m' := m)]
  exact List.Sublist.append (List.Sublist.append (List.Sublist.refl _) h) (List.Sublist.refl _)
def kC : Nat → Bool := fun k => decide (k ∈ [2, 3, 6, 7, 16, 17, 18, 19, 20, 22, 23, 24, 25, 26, 28, 29, 30, 31, 32, 34, 35, 36, 37, 38])
def lnn : Nat → Nat := fun k => match k with
  | 2 => 8
  | 3 => 8
  | 6 => 32
  | 7 => 32
  | 16 => 64
  | 17 => 64
  | 18 => 64
  | 19 => 92
  | 20 => 92
  | 22 => 64
  | 23 => 64
  | 24 => 64
  | 25 => 92
  | 26 => 92
  | 28 => 64
  | 29 => 64
  | 30 => 64
  | 31 => 92
  | 32 => 92
  | 34 => 64
  | 35 => 64
  | 36 => 64
  | 37 => 92
  | 38 => 92
  | _ => 0
/-- an int array of the class, with so many elements -/
def pC (k n : Nat) : Prop := kC k = true ∧ lnn k = n
theorem pC_mem {k n : Nat} (h : pC k n) : k ∈ [2, 3, 6, 7, 16, 17, 18, 19, 20, 22, 23, 24, 25, 26, 28, 29, 30, 31, 32, 34, 35, 36, 37, 38] := of_decide_eq_true h.1
theorem pC_lt {k n : Nat} (h : pC k n) : k < 39 := by
  have := pC_mem h
  simp at this
  omega
theorem pC_e {G : wG} {c : cS} {m : mS} {o : Nat → Int64} {k n : Nat} (h : pC k n) : wE G c m o k = .inl (gC G 0, n, .inl (cI c k)) := by
  have h1 := pC_mem h
  obtain ⟨-, rfl⟩ := h
  simp only [List.mem_cons, List.not_mem_nil, or_false] at h1
  rcases h1 with rfl | rfl | rfl | rfl | rfl | rfl | rfl | rfl | rfl | rfl | rfl | rfl | rfl | rfl | rfl | rfl | rfl | rfl | rfl | rfl | rfl | rfl | rfl | rfl <;> rfl
theorem all54 {p : Nat → Prop} (h0 : p 0) (h1 : p 1) (h2 : p 2) (h3 : p 3) (h4 : p 4) (h5 : p 5) (h6 : p 6) (h7 : p 7) (h8 : p 8) (h9 : p 9) (h10 : p 10) (h11 : p 11) (h12 : p 12) (h13 : p 13) (h14 : p 14) (h15 : p 15) (h16 : p 16) (h17 : p 17) (h18 : p 18) (h19 : p 19) (h20 : p 20) (h21 : p 21) (h22 : p 22) (h23 : p 23) (h24 : p 24) (h25 : p 25) (h26 : p 26) (h27 : p 27) (h28 : p 28) (h29 : p 29) (h30 : p 30) (h31 : p 31) (h32 : p 32) (h33 : p 33) (h34 : p 34) (h35 : p 35) (h36 : p 36) (h37 : p 37) (h38 : p 38) : ∀ q, q < 39 → p q := by
  intro q hq
  match q, hq with
  | 0, _ => exact h0
  | 1, _ => exact h1
  | 2, _ => exact h2
  | 3, _ => exact h3
  | 4, _ => exact h4
  | 5, _ => exact h5
  | 6, _ => exact h6
  | 7, _ => exact h7
  | 8, _ => exact h8
  | 9, _ => exact h9
  | 10, _ => exact h10
  | 11, _ => exact h11
  | 12, _ => exact h12
  | 13, _ => exact h13
  | 14, _ => exact h14
  | 15, _ => exact h15
  | 16, _ => exact h16
  | 17, _ => exact h17
  | 18, _ => exact h18
  | 19, _ => exact h19
  | 20, _ => exact h20
  | 21, _ => exact h21
  | 22, _ => exact h22
  | 23, _ => exact h23
  | 24, _ => exact h24
  | 25, _ => exact h25
  | 26, _ => exact h26
  | 27, _ => exact h27
  | 28, _ => exact h28
  | 29, _ => exact h29
  | 30, _ => exact h30
  | 31, _ => exact h31
  | 32, _ => exact h32
  | 33, _ => exact h33
  | 34, _ => exact h34
  | 35, _ => exact h35
  | 36, _ => exact h36
  | 37, _ => exact h37
  | 38, _ => exact h38
  | q + 39, hq => omega
theorem sC {G : wG} {c : cS} {m : mS} {o : Nat → Int64} {k n : Nat} (h : pC k n) (f : Nat → Int32) : ∀ q, q < 39 → wE G (cI' c k f) m o q = if q = k then .inl (gC G 0, n, .inl f) else wE G c m o q := by
  have h1 := pC_mem h
  obtain ⟨-, rfl⟩ := h
  refine all54 ?_ ?_ ?_ ?_ ?_ ?_ ?_ ?_ ?_ ?_ ?_ ?_ ?_ ?_ ?_ ?_ ?_ ?_ ?_ ?_ ?_ ?_ ?_ ?_ ?_ ?_ ?_ ?_ ?_ ?_ ?_ ?_ ?_ ?_ ?_ ?_ ?_ ?_ ?_
  · rw [if_neg (by intro e; subst e; revert h1; decide)]; rfl
  · rw [if_neg (by intro e; subst e; revert h1; decide)]; rfl
  · by_cases e : 2 = k
    · subst e; rw [if_pos rfl]; show (.inl (gC G 0, lnn 2, .inl (va_up c.1 2 f 2)) : va_E) = _; rw [va_up_self]
    · rw [if_neg e]; show (.inl (gC G 0, lnn 2, .inl (va_up c.1 k f 2)) : va_E) = _; rw [va_up_ne _ _ e]; rfl
  · by_cases e : 3 = k
    · subst e; rw [if_pos rfl]; show (.inl (gC G 0, lnn 3, .inl (va_up c.1 3 f 3)) : va_E) = _; rw [va_up_self]
    · rw [if_neg e]; show (.inl (gC G 0, lnn 3, .inl (va_up c.1 k f 3)) : va_E) = _; rw [va_up_ne _ _ e]; rfl
  · rw [if_neg (by intro e; subst e; revert h1; decide)]; rfl
  · rw [if_neg (by intro e; subst e; revert h1; decide)]; rfl
  · by_cases e : 6 = k
    · subst e; rw [if_pos rfl]; show (.inl (gC G 0, lnn 6, .inl (va_up c.1 6 f 6)) : va_E) = _; rw [va_up_self]
    · rw [if_neg e]; show (.inl (gC G 0, lnn 6, .inl (va_up c.1 k f 6)) : va_E) = _; rw [va_up_ne _ _ e]; rfl
  · by_cases e : 7 = k
    · subst e; rw [if_pos rfl]; show (.inl (gC G 0, lnn 7, .inl (va_up c.1 7 f 7)) : va_E) = _; rw [va_up_self]
    · rw [if_neg e]; show (.inl (gC G 0, lnn 7, .inl (va_up c.1 k f 7)) : va_E) = _; rw [va_up_ne _ _ e]; rfl
  · rw [if_neg (by intro e; subst e; revert h1; decide)]; rfl
  · rw [if_neg (by intro e; subst e; revert h1; decide)]; rfl
  · rw [if_neg (by intro e; subst e; revert h1; decide)]; rfl
  · rw [if_neg (by intro e; subst e; revert h1; decide)]; rfl
  · rw [if_neg (by intro e; subst e; revert h1; decide)]; rfl
  · rw [if_neg (by intro e; subst e; revert h1; decide)]; rfl
  · rw [if_neg (by intro e; subst e; revert h1; decide)]; rfl
  · rw [if_neg (by intro e; subst e; revert h1; decide)]; rfl
  · by_cases e : 16 = k
    · subst e; rw [if_pos rfl]; show (.inl (gC G 0, lnn 16, .inl (va_up c.1 16 f 16)) : va_E) = _; rw [va_up_self]
    · rw [if_neg e]; show (.inl (gC G 0, lnn 16, .inl (va_up c.1 k f 16)) : va_E) = _; rw [va_up_ne _ _ e]; rfl
  · by_cases e : 17 = k
    · subst e; rw [if_pos rfl]; show (.inl (gC G 0, lnn 17, .inl (va_up c.1 17 f 17)) : va_E) = _; rw [va_up_self]
    · rw [if_neg e]; show (.inl (gC G 0, lnn 17, .inl (va_up c.1 k f 17)) : va_E) = _; rw [va_up_ne _ _ e]; rfl
  · by_cases e : 18 = k
    · subst e; rw [if_pos rfl]; show (.inl (gC G 0, lnn 18, .inl (va_up c.1 18 f 18)) : va_E) = _; rw [va_up_self]
    · rw [if_neg e]; show (.inl (gC G 0, lnn 18, .inl (va_up c.1 k f 18)) : va_E) = _; rw [va_up_ne _ _ e]; rfl
  · by_cases e : 19 = k
    · subst e; rw [if_pos rfl]; show (.inl (gC G 0, lnn 19, .inl (va_up c.1 19 f 19)) : va_E) = _; rw [va_up_self]
    · rw [if_neg e]; show (.inl (gC G 0, lnn 19, .inl (va_up c.1 k f 19)) : va_E) = _; rw [va_up_ne _ _ e]; rfl
  · by_cases e : 20 = k
    · subst e; rw [if_pos rfl]; show (.inl (gC G 0, lnn 20, .inl (va_up c.1 20 f 20)) : va_E) = _; rw [va_up_self]
    · rw [if_neg e]; show (.inl (gC G 0, lnn 20, .inl (va_up c.1 k f 20)) : va_E) = _; rw [va_up_ne _ _ e]; rfl
  · rw [if_neg (by intro e; subst e; revert h1; decide)]; rfl
  · by_cases e : 22 = k
    · subst e; rw [if_pos rfl]; show (.inl (gC G 0, lnn 22, .inl (va_up c.1 22 f 22)) : va_E) = _; rw [va_up_self]
    · rw [if_neg e]; show (.inl (gC G 0, lnn 22, .inl (va_up c.1 k f 22)) : va_E) = _; rw [va_up_ne _ _ e]; rfl
  · by_cases e : 23 = k
    · subst e; rw [if_pos rfl]; show (.inl (gC G 0, lnn 23, .inl (va_up c.1 23 f 23)) : va_E) = _; rw [va_up_self]
    · rw [if_neg e]; show (.inl (gC G 0, lnn 23, .inl (va_up c.1 k f 23)) : va_E) = _; rw [va_up_ne _ _ e]; rfl
  · by_cases e : 24 = k
    · subst e; rw [if_pos rfl]; show (.inl (gC G 0, lnn 24, .inl (va_up c.1 24 f 24)) : va_E) = _; rw [va_up_self]
    · rw [if_neg e]; show (.inl (gC G 0, lnn 24, .inl (va_up c.1 k f 24)) : va_E) = _; rw [va_up_ne _ _ e]; rfl
  · by_cases e : 25 = k
    · subst e; rw [if_pos rfl]; show (.inl (gC G 0, lnn 25, .inl (va_up c.1 25 f 25)) : va_E) = _; rw [va_up_self]
    · rw [if_neg e]; show (.inl (gC G 0, lnn 25, .inl (va_up c.1 k f 25)) : va_E) = _; rw [va_up_ne _ _ e]; rfl
  · by_cases e : 26 = k
    · subst e; rw [if_pos rfl]; show (.inl (gC G 0, lnn 26, .inl (va_up c.1 26 f 26)) : va_E) = _; rw [va_up_self]
    · rw [if_neg e]; show (.inl (gC G 0, lnn 26, .inl (va_up c.1 k f 26)) : va_E) = _; rw [va_up_ne _ _ e]; rfl
  · rw [if_neg (by intro e; subst e; revert h1; decide)]; rfl
  · by_cases e : 28 = k
    · subst e; rw [if_pos rfl]; show (.inl (gC G 0, lnn 28, .inl (va_up c.1 28 f 28)) : va_E) = _; rw [va_up_self]
    · rw [if_neg e]; show (.inl (gC G 0, lnn 28, .inl (va_up c.1 k f 28)) : va_E) = _; rw [va_up_ne _ _ e]; rfl
  · by_cases e : 29 = k
    · subst e; rw [if_pos rfl]; show (.inl (gC G 0, lnn 29, .inl (va_up c.1 29 f 29)) : va_E) = _; rw [va_up_self]
    · rw [if_neg e]; show (.inl (gC G 0, lnn 29, .inl (va_up c.1 k f 29)) : va_E) = _; rw [va_up_ne _ _ e]; rfl
  · by_cases e : 30 = k
    · subst e; rw [if_pos rfl]; show (.inl (gC G 0, lnn 30, .inl (va_up c.1 30 f 30)) : va_E) = _; rw [va_up_self]
    · rw [if_neg e]; show (.inl (gC G 0, lnn 30, .inl (va_up c.1 k f 30)) : va_E) = _; rw [va_up_ne _ _ e]; rfl
  · by_cases e : 31 = k
    · subst e; rw [if_pos rfl]; show (.inl (gC G 0, lnn 31, .inl (va_up c.1 31 f 31)) : va_E) = _; rw [va_up_self]
    · rw [if_neg e]; show (.inl (gC G 0, lnn 31, .inl (va_up c.1 k f 31)) : va_E) = _; rw [va_up_ne _ _ e]; rfl
  · by_cases e : 32 = k
    · subst e; rw [if_pos rfl]; show (.inl (gC G 0, lnn 32, .inl (va_up c.1 32 f 32)) : va_E) = _; rw [va_up_self]
    · rw [if_neg e]; show (.inl (gC G 0, lnn 32, .inl (va_up c.1 k f 32)) : va_E) = _; rw [va_up_ne _ _ e]; rfl
  · rw [if_neg (by intro e; subst e; revert h1; decide)]; rfl
  · by_cases e : 34 = k
    · subst e; rw [if_pos rfl]; show (.inl (gC G 0, lnn 34, .inl (va_up c.1 34 f 34)) : va_E) = _; rw [va_up_self]
    · rw [if_neg e]; show (.inl (gC G 0, lnn 34, .inl (va_up c.1 k f 34)) : va_E) = _; rw [va_up_ne _ _ e]; rfl
  · by_cases e : 35 = k
    · subst e; rw [if_pos rfl]; show (.inl (gC G 0, lnn 35, .inl (va_up c.1 35 f 35)) : va_E) = _; rw [va_up_self]
    · rw [if_neg e]; show (.inl (gC G 0, lnn 35, .inl (va_up c.1 k f 35)) : va_E) = _; rw [va_up_ne _ _ e]; rfl
  · by_cases e : 36 = k
    · subst e; rw [if_pos rfl]; show (.inl (gC G 0, lnn 36, .inl (va_up c.1 36 f 36)) : va_E) = _; rw [va_up_self]
    · rw [if_neg e]; show (.inl (gC G 0, lnn 36, .inl (va_up c.1 k f 36)) : va_E) = _; rw [va_up_ne _ _ e]; rfl
  · by_cases e : 37 = k
    · subst e; rw [if_pos rfl]; show (.inl (gC G 0, lnn 37, .inl (va_up c.1 37 f 37)) : va_E) = _; rw [va_up_self]
    · rw [if_neg e]; show (.inl (gC G 0, lnn 37, .inl (va_up c.1 k f 37)) : va_E) = _; rw [va_up_ne _ _ e]; rfl
  · by_cases e : 38 = k
    · subst e; rw [if_pos rfl]; show (.inl (gC G 0, lnn 38, .inl (va_up c.1 38 f 38)) : va_E) = _; rw [va_up_self]
    · rw [if_neg e]; show (.inl (gC G 0, lnn 38, .inl (va_up c.1 k f 38)) : va_E) = _; rw [va_up_ne _ _ e]; rfl
theorem pT {t i : Nat} (ht : t < 4) (h1 : 1 ≤ i) (h3 : i ≤ 3) : pC (15 + 6 * t + i) 64 := by
  rcases (show t = 0 ∨ t = 1 ∨ t = 2 ∨ t = 3 by omega) with rfl | rfl | rfl | rfl <;> rcases (show i = 1 ∨ i = 2 ∨ i = 3 by omega) with rfl | rfl | rfl <;> exact ⟨rfl, rfl⟩
theorem pB {t i : Nat} (ht : t < 4) (h1 : 4 ≤ i) (h3 : i ≤ 5) : pC (15 + 6 * t + i) 92 := by
  rcases (show t = 0 ∨ t = 1 ∨ t = 2 ∨ t = 3 by omega) with rfl | rfl | rfl | rfl <;> rcases (show i = 4 ∨ i = 5 by omega) with rfl | rfl <;> exact ⟨rfl, rfl⟩
theorem eT {G : wG} {c : cS} {m : mS} {o : Nat → Int64} {t : Nat} (ht : t < 4) : wE G c m o (15 + 6 * t) = .inr (5, [.ref (gA G 1), .ref (gA G (15 + 6 * t + 1)), .ref (gA G (15 + 6 * t + 2)), .ref (gA G (15 + 6 * t + 3)), .ref (gA G (15 + 6 * t + 4)), .ref (gA G (15 + 6 * t + 5))]) := by
  rcases (show t = 0 ∨ t = 1 ∨ t = 2 ∨ t = 3 by omega) with rfl | rfl | rfl | rfl <;> rfl
theorem eK {G : wG} {c : cS} {m : mS} {o : Nat → Int64} {i : Nat} (hi : i < 3) : wE G c m o (9 + i) = .inr (3, [.ref (gA G (15 + 6 * i)), .ref (gA G (12 + i)), .int (bi (cU c i))]) := by
  rcases (show i = 0 ∨ i = 1 ∨ i = 2 by omega) with rfl | rfl | rfl <;> rfl
theorem eL {G : wG} {c : cS} {m : mS} {o : Nat → Int64} {i : Nat} (hi : i < 3) : wE G c m o (12 + i) = .inr (0, [.int (cM c i), .ref (cE c i), .int (nI (cL c i))]) := by
  rcases (show i = 0 ∨ i = 1 ∨ i = 2 by omega) with rfl | rfl | rfl <;> rfl
theorem sV4 {G : wG} {c : cS} {m : mS} {o : Nat → Int64}  (x : Int32) : ∀ q, q < 39 → wE G (cV' c 4 x) m o q = if q = 0 then .inr (7, [.ref (gA G 1), .ref (gA G 33), .ref (gA G 4), .ref (gA G 5), .int x, .int (cV c 5), .int (cV c 6)]) else wE G c m o q := by
  refine all54 ?_ ?_ ?_ ?_ ?_ ?_ ?_ ?_ ?_ ?_ ?_ ?_ ?_ ?_ ?_ ?_ ?_ ?_ ?_ ?_ ?_ ?_ ?_ ?_ ?_ ?_ ?_ ?_ ?_ ?_ ?_ ?_ ?_ ?_ ?_ ?_ ?_ ?_ ?_
  all_goals first | (rw [if_neg (by decide)]; rfl) | (rw [if_pos rfl]; rfl) | (rw [if_neg (by decide)]; simp [wE, cV', va_up])
theorem sV5 {G : wG} {c : cS} {m : mS} {o : Nat → Int64}  (x : Int32) : ∀ q, q < 39 → wE G (cV' c 5 x) m o q = if q = 0 then .inr (7, [.ref (gA G 1), .ref (gA G 33), .ref (gA G 4), .ref (gA G 5), .int (cV c 4), .int x, .int (cV c 6)]) else wE G c m o q := by
  refine all54 ?_ ?_ ?_ ?_ ?_ ?_ ?_ ?_ ?_ ?_ ?_ ?_ ?_ ?_ ?_ ?_ ?_ ?_ ?_ ?_ ?_ ?_ ?_ ?_ ?_ ?_ ?_ ?_ ?_ ?_ ?_ ?_ ?_ ?_ ?_ ?_ ?_ ?_ ?_
  all_goals first | (rw [if_neg (by decide)]; rfl) | (rw [if_pos rfl]; rfl) | (rw [if_neg (by decide)]; simp [wE, cV', va_up])
theorem sV6 {G : wG} {c : cS} {m : mS} {o : Nat → Int64}  (x : Int32) : ∀ q, q < 39 → wE G (cV' c 6 x) m o q = if q = 0 then .inr (7, [.ref (gA G 1), .ref (gA G 33), .ref (gA G 4), .ref (gA G 5), .int (cV c 4), .int (cV c 5), .int x]) else wE G c m o q := by
  refine all54 ?_ ?_ ?_ ?_ ?_ ?_ ?_ ?_ ?_ ?_ ?_ ?_ ?_ ?_ ?_ ?_ ?_ ?_ ?_ ?_ ?_ ?_ ?_ ?_ ?_ ?_ ?_ ?_ ?_ ?_ ?_ ?_ ?_ ?_ ?_ ?_ ?_ ?_ ?_
  all_goals first | (rw [if_neg (by decide)]; rfl) | (rw [if_pos rfl]; rfl) | (rw [if_neg (by decide)]; simp [wE, cV', va_up])
theorem sU {G : wG} {c : cS} {m : mS} {o : Nat → Int64} {i : Nat} (hi : i < 3) (x : Bool) : ∀ q, q < 39 → wE G (cU' c i x) m o q = if q = 9 + i then .inr (3, [.ref (gA G (15 + 6 * i)), .ref (gA G (12 + i)), .int (bi x)]) else wE G c m o q := by
  rcases (show i = 0 ∨ i = 1 ∨ i = 2 by omega) with rfl | rfl | rfl
  all_goals refine all54 ?_ ?_ ?_ ?_ ?_ ?_ ?_ ?_ ?_ ?_ ?_ ?_ ?_ ?_ ?_ ?_ ?_ ?_ ?_ ?_ ?_ ?_ ?_ ?_ ?_ ?_ ?_ ?_ ?_ ?_ ?_ ?_ ?_ ?_ ?_ ?_ ?_ ?_ ?_
  all_goals first | (rw [if_neg (by decide)]; rfl) | (rw [if_pos rfl]; rfl) | (rw [if_neg (by decide)]; simp [wE, cU', va_up])
theorem sLM {G : wG} {c : cS} {m : mS} {o : Nat → Int64} {i : Nat} (hi : i < 3) (x : Int32) : ∀ q, q < 39 → wE G (cM' c i x) m o q = if q = 12 + i then .inr (0, [.int x, .ref (cE c i), .int (nI (cL c i))]) else wE G c m o q := by
  rcases (show i = 0 ∨ i = 1 ∨ i = 2 by omega) with rfl | rfl | rfl
  all_goals refine all54 ?_ ?_ ?_ ?_ ?_ ?_ ?_ ?_ ?_ ?_ ?_ ?_ ?_ ?_ ?_ ?_ ?_ ?_ ?_ ?_ ?_ ?_ ?_ ?_ ?_ ?_ ?_ ?_ ?_ ?_ ?_ ?_ ?_ ?_ ?_ ?_ ?_ ?_ ?_
  all_goals first | (rw [if_neg (by decide)]; rfl) | (rw [if_pos rfl]; rfl) | (rw [if_neg (by decide)]; simp [wE, cM', va_up])
theorem sLL {G : wG} {c : cS} {m : mS} {o : Nat → Int64} {i : Nat} (hi : i < 3) (x : Nat) : ∀ q, q < 39 → wE G (cL' c i x) m o q = if q = 12 + i then .inr (0, [.int (cM c i), .ref (cE c i), .int (nI x)]) else wE G c m o q := by
  rcases (show i = 0 ∨ i = 1 ∨ i = 2 by omega) with rfl | rfl | rfl
  all_goals refine all54 ?_ ?_ ?_ ?_ ?_ ?_ ?_ ?_ ?_ ?_ ?_ ?_ ?_ ?_ ?_ ?_ ?_ ?_ ?_ ?_ ?_ ?_ ?_ ?_ ?_ ?_ ?_ ?_ ?_ ?_ ?_ ?_ ?_ ?_ ?_ ?_ ?_ ?_ ?_
  all_goals first | (rw [if_neg (by decide)]; rfl) | (rw [if_pos rfl]; rfl) | (rw [if_neg (by decide)]; simp [wE, cL', va_up])
theorem sLE {G : wG} {c : cS} {m : mS} {o : Nat → Int64} {i : Nat} (hi : i < 3) (x : Nat) : ∀ q, q < 39 → wE G (cE' c i x) m o q = if q = 12 + i then .inr (0, [.int (cM c i), .ref x, .int (nI (cL c i))]) else wE G c m o q := by
  rcases (show i = 0 ∨ i = 1 ∨ i = 2 by omega) with rfl | rfl | rfl
  all_goals refine all54 ?_ ?_ ?_ ?_ ?_ ?_ ?_ ?_ ?_ ?_ ?_ ?_ ?_ ?_ ?_ ?_ ?_ ?_ ?_ ?_ ?_ ?_ ?_ ?_ ?_ ?_ ?_ ?_ ?_ ?_ ?_ ?_ ?_ ?_ ?_ ?_ ?_ ?_ ?_
  all_goals first | (rw [if_neg (by decide)]; rfl) | (rw [if_pos rfl]; rfl) | (rw [if_neg (by decide)]; simp [wE, cE', va_up])
theorem upd_bi (f : Nat → Bool) (k : Nat) (x : Bool) : upd (fun j => bi (f j)) k (bi x) = fun j => bi (va_up f k x j) := by
  funext j
  unfold upd va_up
  by_cases h : j = k <;> simp [h]
theorem upd_nI (f : Nat → Nat) (k : Nat) (x : Nat) : upd (fun j => nI (f j)) k (nI x) = fun j => nI (va_up f k x j) := by
  funext j
  unfold upd va_up
  by_cases h : j = k <;> simp [h]
theorem sF {G : wG} {c : cS} {m : mS} {o : Nat → Int64} (k : Nat) (x : Bool) : ∀ q, q < 39 → wE G (cF' c k x) m o q = if q = 8 then .inl (gC G 1, 32, .inl (fun j => bi (va_up (cF c) k x j))) else wE G c m o q := by
  refine all54 ?_ ?_ ?_ ?_ ?_ ?_ ?_ ?_ ?_ ?_ ?_ ?_ ?_ ?_ ?_ ?_ ?_ ?_ ?_ ?_ ?_ ?_ ?_ ?_ ?_ ?_ ?_ ?_ ?_ ?_ ?_ ?_ ?_ ?_ ?_ ?_ ?_ ?_ ?_
  all_goals first | (rw [if_neg (by decide)]; rfl) | (rw [if_pos rfl]; rfl)
