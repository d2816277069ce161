/-! the world of a run: fifty-four places with addresses of their own, and moving cells behind them -/
/-- first address of ours, the places' addresses, the tables' numbers, classes of arrays, further addresses -/
abbrev wG : Type := Nat × (Nat → Nat) × va_G × (Nat → ClassId) × (Nat → Nat)
abbrev gN (G : wG) : Nat := G.1
abbrev gA (G : wG) : Nat → Nat := G.2.1
abbrev gD (G : wG) : va_G := G.2.2.1
abbrev gC (G : wG) : Nat → ClassId := G.2.2.2.1
abbrev gX (G : wG) : Nat → Nat := G.2.2.2.2
/-- the class: int arrays by their place; now 4, grace 5, repairs 6; up; differs; of the lists: modCount, size, where their rows lie; moving cells -/
abbrev cS : Type := (Nat → Nat → Int32) × (Nat → Int32) × (Nat → Bool) × (Nat → Bool) × (Nat → Int32) × (Nat → Nat) × (Nat → Nat) × va_W
/-- the model: int arrays by their place; fields 14..18; up; how many ranges; hints; their places -/
abbrev mS : Type := (Nat → Nat → Int32) × (Nat → Int32) × (Nat → Bool) × Nat × (Nat → Nat) × (Nat → Nat)
abbrev cI (c : cS) : Nat → Nat → Int32 := c.1
abbrev cV (c : cS) : Nat → Int32 := c.2.1
abbrev cU (c : cS) : Nat → Bool := c.2.2.1
abbrev cF (c : cS) : Nat → Bool := c.2.2.2.1
abbrev cM (c : cS) : Nat → Int32 := c.2.2.2.2.1
abbrev cL (c : cS) : Nat → Nat := c.2.2.2.2.2.1
abbrev cE (c : cS) : Nat → Nat := c.2.2.2.2.2.2.1
abbrev cW (c : cS) : va_W := c.2.2.2.2.2.2.2
abbrev mI (m : mS) : Nat → Nat → Int32 := m.1
abbrev mV (m : mS) : Nat → Int32 := m.2.1
abbrev mU (m : mS) : Nat → Bool := m.2.2.1
abbrev mR (m : mS) : Nat := m.2.2.2.1
abbrev mH (m : mS) : Nat → Nat := m.2.2.2.2.1
abbrev mA (m : mS) : Nat → Nat := m.2.2.2.2.2
def bi (b : Bool) : Int32 := if b then nI 1 else nI 0
/-- what is written -/
def cI' (c : cS) (k : Nat) (f : Nat → Int32) : cS := (va_up c.1 k f, c.2)
def cV' (c : cS) (k : Nat) (x : Int32) : cS := (c.1, va_up c.2.1 k x, c.2.2)
def cU' (c : cS) (k : Nat) (x : Bool) : cS := (c.1, c.2.1, va_up c.2.2.1 k x, c.2.2.2)
def cF' (c : cS) (k : Nat) (x : Bool) : cS := (c.1, c.2.1, c.2.2.1, va_up c.2.2.2.1 k x, c.2.2.2.2)
def cM' (c : cS) (k : Nat) (x : Int32) : cS := (c.1, c.2.1, c.2.2.1, c.2.2.2.1, va_up c.2.2.2.2.1 k x, c.2.2.2.2.2)
def cL' (c : cS) (k : Nat) (x : Nat) : cS := (c.1, c.2.1, c.2.2.1, c.2.2.2.1, c.2.2.2.2.1, va_up c.2.2.2.2.2.1 k x, c.2.2.2.2.2.2)
def cE' (c : cS) (k : Nat) (x : Nat) : cS := (c.1, c.2.1, c.2.2.1, c.2.2.2.1, c.2.2.2.2.1, c.2.2.2.2.2.1, va_up c.2.2.2.2.2.2.1 k x, c.2.2.2.2.2.2.2)
def cW' (c : cS) (w : va_W) : cS := (c.1, c.2.1, c.2.2.1, c.2.2.2.1, c.2.2.2.2.1, c.2.2.2.2.2.1, c.2.2.2.2.2.2.1, w)
def mI' (m : mS) (k : Nat) (f : Nat → Int32) : mS := (va_up m.1 k f, m.2)
def mV' (m : mS) (k : Nat) (x : Int32) : mS := (m.1, va_up m.2.1 k x, m.2.2)
def mU' (m : mS) (k : Nat) (x : Bool) : mS := (m.1, m.2.1, va_up m.2.2.1 k x, m.2.2.2)
def mR' (m : mS) (x : Nat) : mS := (m.1, m.2.1, m.2.2.1, x, m.2.2.2.2)
def mH' (m : mS) (k : Nat) (x : Nat) : mS := (m.1, m.2.1, m.2.2.1, m.2.2.2.1, va_up m.2.2.2.2.1 k x, m.2.2.2.2.2)
def mA' (m : mS) (k : Nat) (x : Nat) : mS := (m.1, m.2.1, m.2.2.1, m.2.2.2.1, m.2.2.2.2.1, va_up m.2.2.2.2.2 k x)
/-- what lies at the places -/
def wE (G : wG) (c : cS) (m : mS) (o : Nat → Int64) : Nat → va_E := fun k => match k with
  | 0 => .inr (7, [.ref (gA G 1), .ref (gA G 33), .ref (gA G 4), .ref (gA G 5), .int (c.2.1 4), .int (c.2.1 5), .int (c.2.1 6)])
  | 1 => .inr (4, [.ref (gA G 2), .ref (gA G 3)])
  | 2 => .inl (gC G 0, 8, .inl (c.1 2))
  | 3 => .inl (gC G 0, 8, .inl (c.1 3))
  | 4 => .inl (gC G 2, 3, .inr (.inr (.inr (.inr (fun j => some (gA G (9 + j)))))))
  | 5 => .inr (1, [.ref (gA G 6), .ref (gA G 7), .ref (gA G 8)])
  | 6 => .inl (gC G 0, 32, .inl (c.1 6))
  | 7 => .inl (gC G 0, 32, .inl (c.1 7))
  | 8 => .inl (gC G 1, 32, .inl (fun j => bi (c.2.2.2.1 j)))
  | 9 => .inr (3, [.ref (gA G 15), .ref (gA G 12), .int (bi (c.2.2.1 0))])
  | 10 => .inr (3, [.ref (gA G 21), .ref (gA G 13), .int (bi (c.2.2.1 1))])
  | 11 => .inr (3, [.ref (gA G 27), .ref (gA G 14), .int (bi (c.2.2.1 2))])
  | 12 => .inr (0, [.int (c.2.2.2.2.1 0), .ref (c.2.2.2.2.2.2.1 0), .int (nI (c.2.2.2.2.2.1 0))])
  | 13 => .inr (0, [.int (c.2.2.2.2.1 1), .ref (c.2.2.2.2.2.2.1 1), .int (nI (c.2.2.2.2.2.1 1))])
  | 14 => .inr (0, [.int (c.2.2.2.2.1 2), .ref (c.2.2.2.2.2.2.1 2), .int (nI (c.2.2.2.2.2.1 2))])
  | 15 => .inr (5, [.ref (gA G 1), .ref (gA G 16), .ref (gA G 17), .ref (gA G 18), .ref (gA G 19), .ref (gA G 20)])
  | 16 => .inl (gC G 0, 64, .inl (c.1 16))
  | 17 => .inl (gC G 0, 64, .inl (c.1 17))
  | 18 => .inl (gC G 0, 64, .inl (c.1 18))
  | 19 => .inl (gC G 0, 92, .inl (c.1 19))
  | 20 => .inl (gC G 0, 92, .inl (c.1 20))
  | 21 => .inr (5, [.ref (gA G 1), .ref (gA G 22), .ref (gA G 23), .ref (gA G 24), .ref (gA G 25), .ref (gA G 26)])
  | 22 => .inl (gC G 0, 64, .inl (c.1 22))
  | 23 => .inl (gC G 0, 64, .inl (c.1 23))
  | 24 => .inl (gC G 0, 64, .inl (c.1 24))
  | 25 => .inl (gC G 0, 92, .inl (c.1 25))
  | 26 => .inl (gC G 0, 92, .inl (c.1 26))
  | 27 => .inr (5, [.ref (gA G 1), .ref (gA G 28), .ref (gA G 29), .ref (gA G 30), .ref (gA G 31), .ref (gA G 32)])
  | 28 => .inl (gC G 0, 64, .inl (c.1 28))
  | 29 => .inl (gC G 0, 64, .inl (c.1 29))
  | 30 => .inl (gC G 0, 64, .inl (c.1 30))
  | 31 => .inl (gC G 0, 92, .inl (c.1 31))
  | 32 => .inl (gC G 0, 92, .inl (c.1 32))
  | 33 => .inr (5, [.ref (gA G 1), .ref (gA G 34), .ref (gA G 35), .ref (gA G 36), .ref (gA G 37), .ref (gA G 38)])
  | 34 => .inl (gC G 0, 64, .inl (c.1 34))
  | 35 => .inl (gC G 0, 64, .inl (c.1 35))
  | 36 => .inl (gC G 0, 64, .inl (c.1 36))
  | 37 => .inl (gC G 0, 92, .inl (c.1 37))
  | 38 => .inl (gC G 0, 92, .inl (c.1 38))
  | 39 => .inr (8, [.ref (gA G 40), .ref (gA G 41), .ref (gA G 42), .ref (gA G 43), .ref (gA G 44), .int (nI m.2.2.2.1), .ref (gA G 45), .ref (gA G 46), .ref (gA G 47), .ref (gA G 48), .ref (gA G 49), .ref (gA G 50), .ref (gA G 51), .ref (gA G 52), .int (m.2.1 14), .int (m.2.1 15), .int (m.2.1 16), .int (m.2.1 17), .int (m.2.1 18)])
  | 40 => .inl (gC G 0, 256, .inl (m.1 40))
  | 41 => .inl (gC G 0, 256, .inl (m.1 41))
  | 42 => .inl (gC G 0, 256, .inl (m.1 42))
  | 43 => .inl (gC G 0, 368, .inl (m.1 43))
  | 44 => .inl (gC G 0, 368, .inl (m.1 44))
  | 45 => .inl (gC G 0, 8, .inl (m.1 45))
  | 46 => .inl (gC G 0, 8, .inl (m.1 46))
  | 47 => .inl (gC G 1, 4, .inl (fun j => bi (m.2.2.1 j)))
  | 48 => .inl (gC G 0, 3, .inl (fun j => nI (m.2.2.2.2.1 j)))
  | 49 => .inl (gC G 0, 30, .inl (fun j => nI (m.2.2.2.2.2 j)))
  | 50 => .inl (gC G 0, 30, .inl (m.1 50))
  | 51 => .inl (gC G 0, 30, .inl (m.1 51))
  | 52 => .inl (gC G 0, 30, .inl (m.1 52))
  | _ => .inl (gC G 4, 1, .inr (.inl o))
def Wl (G : wG) (c : cS) (m : mS) (o : Nat → Int64) : va_W := (List.range 54).map (fun k => (gA G k, wE G c m o k)) ++ cW c
theorem wl_get {G : wG} {c : cS} {m : mS} {o : Nat → Int64} {k : Nat} (hk : k < 54) : (Wl G c m o)[k]? = some (gA G k, wE G c m o k) := by
  unfold Wl
  rw [List.getElem?_append_left (by simpa using hk), List.getElem?_map, List.getElem?_range hk]
  rfl
theorem wl_at {G : wG} {c : cS} {m : mS} {o : Nat → Int64} {k : Nat} {e : va_E} (hk : k < 54) (he : wE G c m o k = e) : (Wl G c m o)[k]? = some (gA G k, e) := by rw [wl_get hk, he]
theorem wl_mv {G : wG} {c : cS} {m : mS} {o : Nat → Int64} {j : Nat} {q : Nat × va_E} (h : (cW c)[j]? = some q) : (Wl G c m o)[54 + j]? = some q := by
  unfold Wl
  rw [List.getElem?_append_right (by simp)]
  simpa using h
theorem wl_set {G : wG} {c c' : cS} {m m' : mS} {o o' : Nat → Int64} {k : Nat} {e : va_E} (hk : k < 54) (hw : cW c' = cW c) (hs : ∀ q, q < 54 → wE G c' m' o' q = if q = k then e else wE G c m o q) : (Wl G c m o).set k (gA G k, e) = Wl G c' m' o' := by
  unfold Wl
  rw [List.set_append_left _ _ (by simpa using hk), hw]
  congr 1
  apply List.ext_getElem?
  intro i
  rw [List.getElem?_set]
  simp only [List.length_map, List.length_range, List.getElem?_map]
  by_cases hi : i < 54
  · rw [List.getElem?_range hi]
    simp only [Option.map_some]
    rw [hs i hi]
    by_cases h : k = i
    · subst h; simp [hk]
    · simp [h]
      intro z
      exact absurd z.symm h
  · have h1 : (List.range 54)[i]? = none := by simp; omega
    rw [h1]
    by_cases h : k = i
    · omega
    · simp [h]
theorem wE_W {G : wG} {c : cS} {m : mS} {o : Nat → Int64} (w : va_W) : wE G (cW' c w) m o = wE G c m o := by
  funext k
  unfold wE
  rfl
theorem wl_setW {G : wG} {c : cS} {m : mS} {o : Nat → Int64} {j : Nat} {q : Nat × va_E} : (Wl G c m o).set (54 + j) q = Wl G (cW' c ((cW c).set j q)) m o := by
  unfold Wl
  rw [List.set_append_right _ _ (by simp), wE_W]
  simp [cW']
theorem wl_push {G : wG} {c : cS} {m : mS} {o : Nat → Int64} {q : Nat × va_E} : Wl G c m o ++ [q] = Wl G (cW' c (cW c ++ [q])) m o := by
  unfold Wl
  rw [List.append_assoc]
  rfl
def kC : Nat → Bool := fun k => decide (k ∈ [2, 3, 6, 7, 16, 17, 18, 19, 20, 22, 23, 24, 25, 26, 28, 29, 30, 31, 32, 34, 35, 36, 37, 38])
def kM : Nat → Bool := fun k => decide (k ∈ [40, 41, 42, 43, 44, 45, 46, 50, 51, 52])
def lnn : Nat → Nat := fun k => match k with
  | 2 => 8
  | 3 => 8
  | 6 => 32
  | 7 => 32
  | 16 => 64
  | 17 => 64
  | 18 => 64
  | 19 => 92
  | 20 => 92
  | 22 => 64
  | 23 => 64
  | 24 => 64
  | 25 => 92
  | 26 => 92
  | 28 => 64
  | 29 => 64
  | 30 => 64
  | 31 => 92
  | 32 => 92
  | 34 => 64
  | 35 => 64
  | 36 => 64
  | 37 => 92
  | 38 => 92
  | 40 => 256
  | 41 => 256
  | 42 => 256
  | 43 => 368
  | 44 => 368
  | 45 => 8
  | 46 => 8
  | 50 => 30
  | 51 => 30
  | 52 => 30
  | _ => 0
/-- an int array of the class, of the model, with so many elements -/
def pC (k n : Nat) : Prop := kC k = true ∧ lnn k = n
def pM (k n : Nat) : Prop := kM k = true ∧ lnn k = n
theorem pC_mem {k n : Nat} (h : pC k n) : k ∈ [2, 3, 6, 7, 16, 17, 18, 19, 20, 22, 23, 24, 25, 26, 28, 29, 30, 31, 32, 34, 35, 36, 37, 38] := of_decide_eq_true h.1
theorem pM_mem {k n : Nat} (h : pM k n) : k ∈ [40, 41, 42, 43, 44, 45, 46, 50, 51, 52] := of_decide_eq_true h.1
theorem pC_lt {k n : Nat} (h : pC k n) : k < 54 := by
  have := pC_mem h
  simp at this
  omega
theorem pM_lt {k n : Nat} (h : pM k n) : k < 54 := by
  have := pM_mem h
  simp at this
  omega
theorem pC_e {G : wG} {c : cS} {m : mS} {o : Nat → Int64} {k n : Nat} (h : pC k n) : wE G c m o k = .inl (gC G 0, n, .inl (cI c k)) := by
  have h1 := pC_mem h
  obtain ⟨-, rfl⟩ := h
  simp only [List.mem_cons, List.not_mem_nil, or_false] at h1
  rcases h1 with rfl | rfl | rfl | rfl | rfl | rfl | rfl | rfl | rfl | rfl | rfl | rfl | rfl | rfl | rfl | rfl | rfl | rfl | rfl | rfl | rfl | rfl | rfl | rfl <;> rfl
theorem pM_e {G : wG} {c : cS} {m : mS} {o : Nat → Int64} {k n : Nat} (h : pM k n) : wE G c m o k = .inl (gC G 0, n, .inl (mI m k)) := by
  have h1 := pM_mem h
  obtain ⟨-, rfl⟩ := h
  simp only [List.mem_cons, List.not_mem_nil, or_false] at h1
  rcases h1 with rfl | rfl | rfl | rfl | rfl | rfl | rfl | rfl | rfl | rfl <;> rfl
theorem all54 {p : Nat → Prop} (h0 : p 0) (h1 : p 1) (h2 : p 2) (h3 : p 3) (h4 : p 4) (h5 : p 5) (h6 : p 6) (h7 : p 7) (h8 : p 8) (h9 : p 9) (h10 : p 10) (h11 : p 11) (h12 : p 12) (h13 : p 13) (h14 : p 14) (h15 : p 15) (h16 : p 16) (h17 : p 17) (h18 : p 18) (h19 : p 19) (h20 : p 20) (h21 : p 21) (h22 : p 22) (h23 : p 23) (h24 : p 24) (h25 : p 25) (h26 : p 26) (h27 : p 27) (h28 : p 28) (h29 : p 29) (h30 : p 30) (h31 : p 31) (h32 : p 32) (h33 : p 33) (h34 : p 34) (h35 : p 35) (h36 : p 36) (h37 : p 37) (h38 : p 38) (h39 : p 39) (h40 : p 40) (h41 : p 41) (h42 : p 42) (h43 : p 43) (h44 : p 44) (h45 : p 45) (h46 : p 46) (h47 : p 47) (h48 : p 48) (h49 : p 49) (h50 : p 50) (h51 : p 51) (h52 : p 52) (h53 : p 53) : ∀ q, q < 54 → p q := by
  intro q hq
  match q, hq with
  | 0, _ => exact h0
  | 1, _ => exact h1
  | 2, _ => exact h2
  | 3, _ => exact h3
  | 4, _ => exact h4
  | 5, _ => exact h5
  | 6, _ => exact h6
  | 7, _ => exact h7
  | 8, _ => exact h8
  | 9, _ => exact h9
  | 10, _ => exact h10
  | 11, _ => exact h11
  | 12, _ => exact h12
  | 13, _ => exact h13
  | 14, _ => exact h14
  | 15, _ => exact h15
  | 16, _ => exact h16
  | 17, _ => exact h17
  | 18, _ => exact h18
  | 19, _ => exact h19
  | 20, _ => exact h20
  | 21, _ => exact h21
  | 22, _ => exact h22
  | 23, _ => exact h23
  | 24, _ => exact h24
  | 25, _ => exact h25
  | 26, _ => exact h26
  | 27, _ => exact h27
  | 28, _ => exact h28
  | 29, _ => exact h29
  | 30, _ => exact h30
  | 31, _ => exact h31
  | 32, _ => exact h32
  | 33, _ => exact h33
  | 34, _ => exact h34
  | 35, _ => exact h35
  | 36, _ => exact h36
  | 37, _ => exact h37
  | 38, _ => exact h38
  | 39, _ => exact h39
  | 40, _ => exact h40
  | 41, _ => exact h41
  | 42, _ => exact h42
  | 43, _ => exact h43
  | 44, _ => exact h44
  | 45, _ => exact h45
  | 46, _ => exact h46
  | 47, _ => exact h47
  | 48, _ => exact h48
  | 49, _ => exact h49
  | 50, _ => exact h50
  | 51, _ => exact h51
  | 52, _ => exact h52
  | 53, _ => exact h53
  | q + 54, hq => omega
theorem sC {G : wG} {c : cS} {m : mS} {o : Nat → Int64} {k n : Nat} (h : pC k n) (f : Nat → Int32) : ∀ q, q < 54 → wE G (cI' c k f) m o q = if q = k then .inl (gC G 0, n, .inl f) else wE G c m o q := by
  have h1 := pC_mem h
  obtain ⟨-, rfl⟩ := h
  refine all54 ?_ ?_ ?_ ?_ ?_ ?_ ?_ ?_ ?_ ?_ ?_ ?_ ?_ ?_ ?_ ?_ ?_ ?_ ?_ ?_ ?_ ?_ ?_ ?_ ?_ ?_ ?_ ?_ ?_ ?_ ?_ ?_ ?_ ?_ ?_ ?_ ?_ ?_ ?_ ?_ ?_ ?_ ?_ ?_ ?_ ?_ ?_ ?_ ?_ ?_ ?_ ?_ ?_ ?_
  · rw [if_neg (by intro e; subst e; revert h1; decide)]; rfl
  · rw [if_neg (by intro e; subst e; revert h1; decide)]; rfl
  · by_cases e : 2 = k
    · subst e; rw [if_pos rfl]; show (.inl (gC G 0, lnn 2, .inl (va_up c.1 2 f 2)) : va_E) = _; rw [va_up_self]
    · rw [if_neg e]; show (.inl (gC G 0, lnn 2, .inl (va_up c.1 k f 2)) : va_E) = _; rw [va_up_ne _ _ e]; rfl
  · by_cases e : 3 = k
    · subst e; rw [if_pos rfl]; show (.inl (gC G 0, lnn 3, .inl (va_up c.1 3 f 3)) : va_E) = _; rw [va_up_self]
    · rw [if_neg e]; show (.inl (gC G 0, lnn 3, .inl (va_up c.1 k f 3)) : va_E) = _; rw [va_up_ne _ _ e]; rfl
  · rw [if_neg (by intro e; subst e; revert h1; decide)]; rfl
  · rw [if_neg (by intro e; subst e; revert h1; decide)]; rfl
  · by_cases e : 6 = k
    · subst e; rw [if_pos rfl]; show (.inl (gC G 0, lnn 6, .inl (va_up c.1 6 f 6)) : va_E) = _; rw [va_up_self]
    · rw [if_neg e]; show (.inl (gC G 0, lnn 6, .inl (va_up c.1 k f 6)) : va_E) = _; rw [va_up_ne _ _ e]; rfl
  · by_cases e : 7 = k
    · subst e; rw [if_pos rfl]; show (.inl (gC G 0, lnn 7, .inl (va_up c.1 7 f 7)) : va_E) = _; rw [va_up_self]
    · rw [if_neg e]; show (.inl (gC G 0, lnn 7, .inl (va_up c.1 k f 7)) : va_E) = _; rw [va_up_ne _ _ e]; rfl
  · rw [if_neg (by intro e; subst e; revert h1; decide)]; rfl
  · rw [if_neg (by intro e; subst e; revert h1; decide)]; rfl
  · rw [if_neg (by intro e; subst e; revert h1; decide)]; rfl
  · rw [if_neg (by intro e; subst e; revert h1; decide)]; rfl
  · rw [if_neg (by intro e; subst e; revert h1; decide)]; rfl
  · rw [if_neg (by intro e; subst e; revert h1; decide)]; rfl
  · rw [if_neg (by intro e; subst e; revert h1; decide)]; rfl
  · rw [if_neg (by intro e; subst e; revert h1; decide)]; rfl
  · by_cases e : 16 = k
    · subst e; rw [if_pos rfl]; show (.inl (gC G 0, lnn 16, .inl (va_up c.1 16 f 16)) : va_E) = _; rw [va_up_self]
    · rw [if_neg e]; show (.inl (gC G 0, lnn 16, .inl (va_up c.1 k f 16)) : va_E) = _; rw [va_up_ne _ _ e]; rfl
  · by_cases e : 17 = k
    · subst e; rw [if_pos rfl]; show (.inl (gC G 0, lnn 17, .inl (va_up c.1 17 f 17)) : va_E) = _; rw [va_up_self]
    · rw [if_neg e]; show (.inl (gC G 0, lnn 17, .inl (va_up c.1 k f 17)) : va_E) = _; rw [va_up_ne _ _ e]; rfl
  · by_cases e : 18 = k
    · subst e; rw [if_pos rfl]; show (.inl (gC G 0, lnn 18, .inl (va_up c.1 18 f 18)) : va_E) = _; rw [va_up_self]
    · rw [if_neg e]; show (.inl (gC G 0, lnn 18, .inl (va_up c.1 k f 18)) : va_E) = _; rw [va_up_ne _ _ e]; rfl
  · by_cases e : 19 = k
    · subst e; rw [if_pos rfl]; show (.inl (gC G 0, lnn 19, .inl (va_up c.1 19 f 19)) : va_E) = _; rw [va_up_self]
    · rw [if_neg e]; show (.inl (gC G 0, lnn 19, .inl (va_up c.1 k f 19)) : va_E) = _; rw [va_up_ne _ _ e]; rfl
  · by_cases e : 20 = k
    · subst e; rw [if_pos rfl]; show (.inl (gC G 0, lnn 20, .inl (va_up c.1 20 f 20)) : va_E) = _; rw [va_up_self]
    · rw [if_neg e]; show (.inl (gC G 0, lnn 20, .inl (va_up c.1 k f 20)) : va_E) = _; rw [va_up_ne _ _ e]; rfl
  · rw [if_neg (by intro e; subst e; revert h1; decide)]; rfl
  · by_cases e : 22 = k
    · subst e; rw [if_pos rfl]; show (.inl (gC G 0, lnn 22, .inl (va_up c.1 22 f 22)) : va_E) = _; rw [va_up_self]
    · rw [if_neg e]; show (.inl (gC G 0, lnn 22, .inl (va_up c.1 k f 22)) : va_E) = _; rw [va_up_ne _ _ e]; rfl
  · by_cases e : 23 = k
    · subst e; rw [if_pos rfl]; show (.inl (gC G 0, lnn 23, .inl (va_up c.1 23 f 23)) : va_E) = _; rw [va_up_self]
    · rw [if_neg e]; show (.inl (gC G 0, lnn 23, .inl (va_up c.1 k f 23)) : va_E) = _; rw [va_up_ne _ _ e]; rfl
  · by_cases e : 24 = k
    · subst e; rw [if_pos rfl]; show (.inl (gC G 0, lnn 24, .inl (va_up c.1 24 f 24)) : va_E) = _; rw [va_up_self]
    · rw [if_neg e]; show (.inl (gC G 0, lnn 24, .inl (va_up c.1 k f 24)) : va_E) = _; rw [va_up_ne _ _ e]; rfl
  · by_cases e : 25 = k
    · subst e; rw [if_pos rfl]; show (.inl (gC G 0, lnn 25, .inl (va_up c.1 25 f 25)) : va_E) = _; rw [va_up_self]
    · rw [if_neg e]; show (.inl (gC G 0, lnn 25, .inl (va_up c.1 k f 25)) : va_E) = _; rw [va_up_ne _ _ e]; rfl
  · by_cases e : 26 = k
    · subst e; rw [if_pos rfl]; show (.inl (gC G 0, lnn 26, .inl (va_up c.1 26 f 26)) : va_E) = _; rw [va_up_self]
    · rw [if_neg e]; show (.inl (gC G 0, lnn 26, .inl (va_up c.1 k f 26)) : va_E) = _; rw [va_up_ne _ _ e]; rfl
  · rw [if_neg (by intro e; subst e; revert h1; decide)]; rfl
  · by_cases e : 28 = k
    · subst e; rw [if_pos rfl]; show (.inl (gC G 0, lnn 28, .inl (va_up c.1 28 f 28)) : va_E) = _; rw [va_up_self]
    · rw [if_neg e]; show (.inl (gC G 0, lnn 28, .inl (va_up c.1 k f 28)) : va_E) = _; rw [va_up_ne _ _ e]; rfl
  · by_cases e : 29 = k
    · subst e; rw [if_pos rfl]; show (.inl (gC G 0, lnn 29, .inl (va_up c.1 29 f 29)) : va_E) = _; rw [va_up_self]
    · rw [if_neg e]; show (.inl (gC G 0, lnn 29, .inl (va_up c.1 k f 29)) : va_E) = _; rw [va_up_ne _ _ e]; rfl
  · by_cases e : 30 = k
    · subst e; rw [if_pos rfl]; show (.inl (gC G 0, lnn 30, .inl (va_up c.1 30 f 30)) : va_E) = _; rw [va_up_self]
    · rw [if_neg e]; show (.inl (gC G 0, lnn 30, .inl (va_up c.1 k f 30)) : va_E) = _; rw [va_up_ne _ _ e]; rfl
  · by_cases e : 31 = k
    · subst e; rw [if_pos rfl]; show (.inl (gC G 0, lnn 31, .inl (va_up c.1 31 f 31)) : va_E) = _; rw [va_up_self]
    · rw [if_neg e]; show (.inl (gC G 0, lnn 31, .inl (va_up c.1 k f 31)) : va_E) = _; rw [va_up_ne _ _ e]; rfl
  · by_cases e : 32 = k
    · subst e; rw [if_pos rfl]; show (.inl (gC G 0, lnn 32, .inl (va_up c.1 32 f 32)) : va_E) = _; rw [va_up_self]
    · rw [if_neg e]; show (.inl (gC G 0, lnn 32, .inl (va_up c.1 k f 32)) : va_E) = _; rw [va_up_ne _ _ e]; rfl
  · rw [if_neg (by intro e; subst e; revert h1; decide)]; rfl
  · by_cases e : 34 = k
    · subst e; rw [if_pos rfl]; show (.inl (gC G 0, lnn 34, .inl (va_up c.1 34 f 34)) : va_E) = _; rw [va_up_self]
    · rw [if_neg e]; show (.inl (gC G 0, lnn 34, .inl (va_up c.1 k f 34)) : va_E) = _; rw [va_up_ne _ _ e]; rfl
  · by_cases e : 35 = k
    · subst e; rw [if_pos rfl]; show (.inl (gC G 0, lnn 35, .inl (va_up c.1 35 f 35)) : va_E) = _; rw [va_up_self]
    · rw [if_neg e]; show (.inl (gC G 0, lnn 35, .inl (va_up c.1 k f 35)) : va_E) = _; rw [va_up_ne _ _ e]; rfl
  · by_cases e : 36 = k
    · subst e; rw [if_pos rfl]; show (.inl (gC G 0, lnn 36, .inl (va_up c.1 36 f 36)) : va_E) = _; rw [va_up_self]
    · rw [if_neg e]; show (.inl (gC G 0, lnn 36, .inl (va_up c.1 k f 36)) : va_E) = _; rw [va_up_ne _ _ e]; rfl
  · by_cases e : 37 = k
    · subst e; rw [if_pos rfl]; show (.inl (gC G 0, lnn 37, .inl (va_up c.1 37 f 37)) : va_E) = _; rw [va_up_self]
    · rw [if_neg e]; show (.inl (gC G 0, lnn 37, .inl (va_up c.1 k f 37)) : va_E) = _; rw [va_up_ne _ _ e]; rfl
  · by_cases e : 38 = k
    · subst e; rw [if_pos rfl]; show (.inl (gC G 0, lnn 38, .inl (va_up c.1 38 f 38)) : va_E) = _; rw [va_up_self]
    · rw [if_neg e]; show (.inl (gC G 0, lnn 38, .inl (va_up c.1 k f 38)) : va_E) = _; rw [va_up_ne _ _ e]; rfl
  · rw [if_neg (by intro e; subst e; revert h1; decide)]; rfl
  · rw [if_neg (by intro e; subst e; revert h1; decide)]; rfl
  · rw [if_neg (by intro e; subst e; revert h1; decide)]; rfl
  · rw [if_neg (by intro e; subst e; revert h1; decide)]; rfl
  · rw [if_neg (by intro e; subst e; revert h1; decide)]; rfl
  · rw [if_neg (by intro e; subst e; revert h1; decide)]; rfl
  · rw [if_neg (by intro e; subst e; revert h1; decide)]; rfl
  · rw [if_neg (by intro e; subst e; revert h1; decide)]; rfl
  · rw [if_neg (by intro e; subst e; revert h1; decide)]; rfl
  · rw [if_neg (by intro e; subst e; revert h1; decide)]; rfl
  · rw [if_neg (by intro e; subst e; revert h1; decide)]; rfl
  · rw [if_neg (by intro e; subst e; revert h1; decide)]; rfl
  · rw [if_neg (by intro e; subst e; revert h1; decide)]; rfl
  · rw [if_neg (by intro e; subst e; revert h1; decide)]; rfl
  · rw [if_neg (by intro e; subst e; revert h1; decide)]; rfl
theorem sM {G : wG} {c : cS} {m : mS} {o : Nat → Int64} {k n : Nat} (h : pM k n) (f : Nat → Int32) : ∀ q, q < 54 → wE G c (mI' m k f) o q = if q = k then .inl (gC G 0, n, .inl f) else wE G c m o q := by
  have h1 := pM_mem h
  obtain ⟨-, rfl⟩ := h
  refine all54 ?_ ?_ ?_ ?_ ?_ ?_ ?_ ?_ ?_ ?_ ?_ ?_ ?_ ?_ ?_ ?_ ?_ ?_ ?_ ?_ ?_ ?_ ?_ ?_ ?_ ?_ ?_ ?_ ?_ ?_ ?_ ?_ ?_ ?_ ?_ ?_ ?_ ?_ ?_ ?_ ?_ ?_ ?_ ?_ ?_ ?_ ?_ ?_ ?_ ?_ ?_ ?_ ?_ ?_
  · rw [if_neg (by intro e; subst e; revert h1; decide)]; rfl
  · rw [if_neg (by intro e; subst e; revert h1; decide)]; rfl
  · rw [if_neg (by intro e; subst e; revert h1; decide)]; rfl
  · rw [if_neg (by intro e; subst e; revert h1; decide)]; rfl
  · rw [if_neg (by intro e; subst e; revert h1; decide)]; rfl
  · rw [if_neg (by intro e; subst e; revert h1; decide)]; rfl
  · rw [if_neg (by intro e; subst e; revert h1; decide)]; rfl
  · rw [if_neg (by intro e; subst e; revert h1; decide)]; rfl
  · rw [if_neg (by intro e; subst e; revert h1; decide)]; rfl
  · rw [if_neg (by intro e; subst e; revert h1; decide)]; rfl
  · rw [if_neg (by intro e; subst e; revert h1; decide)]; rfl
  · rw [if_neg (by intro e; subst e; revert h1; decide)]; rfl
  · rw [if_neg (by intro e; subst e; revert h1; decide)]; rfl
  · rw [if_neg (by intro e; subst e; revert h1; decide)]; rfl
  · rw [if_neg (by intro e; subst e; revert h1; decide)]; rfl
  · rw [if_neg (by intro e; subst e; revert h1; decide)]; rfl
  · rw [if_neg (by intro e; subst e; revert h1; decide)]; rfl
  · rw [if_neg (by intro e; subst e; revert h1; decide)]; rfl
  · rw [if_neg (by intro e; subst e; revert h1; decide)]; rfl
  · rw [if_neg (by intro e; subst e; revert h1; decide)]; rfl
  · rw [if_neg (by intro e; subst e; revert h1; decide)]; rfl
  · rw [if_neg (by intro e; subst e; revert h1; decide)]; rfl
  · rw [if_neg (by intro e; subst e; revert h1; decide)]; rfl
  · rw [if_neg (by intro e; subst e; revert h1; decide)]; rfl
  · rw [if_neg (by intro e; subst e; revert h1; decide)]; rfl
  · rw [if_neg (by intro e; subst e; revert h1; decide)]; rfl
  · rw [if_neg (by intro e; subst e; revert h1; decide)]; rfl
  · rw [if_neg (by intro e; subst e; revert h1; decide)]; rfl
  · rw [if_neg (by intro e; subst e; revert h1; decide)]; rfl
  · rw [if_neg (by intro e; subst e; revert h1; decide)]; rfl
  · rw [if_neg (by intro e; subst e; revert h1; decide)]; rfl
  · rw [if_neg (by intro e; subst e; revert h1; decide)]; rfl
  · rw [if_neg (by intro e; subst e; revert h1; decide)]; rfl
  · rw [if_neg (by intro e; subst e; revert h1; decide)]; rfl
  · rw [if_neg (by intro e; subst e; revert h1; decide)]; rfl
  · rw [if_neg (by intro e; subst e; revert h1; decide)]; rfl
  · rw [if_neg (by intro e; subst e; revert h1; decide)]; rfl
  · rw [if_neg (by intro e; subst e; revert h1; decide)]; rfl
  · rw [if_neg (by intro e; subst e; revert h1; decide)]; rfl
  · rw [if_neg (by intro e; subst e; revert h1; decide)]; rfl
  · by_cases e : 40 = k
    · subst e; rw [if_pos rfl]; show (.inl (gC G 0, lnn 40, .inl (va_up m.1 40 f 40)) : va_E) = _; rw [va_up_self]
    · rw [if_neg e]; show (.inl (gC G 0, lnn 40, .inl (va_up m.1 k f 40)) : va_E) = _; rw [va_up_ne _ _ e]; rfl
  · by_cases e : 41 = k
    · subst e; rw [if_pos rfl]; show (.inl (gC G 0, lnn 41, .inl (va_up m.1 41 f 41)) : va_E) = _; rw [va_up_self]
    · rw [if_neg e]; show (.inl (gC G 0, lnn 41, .inl (va_up m.1 k f 41)) : va_E) = _; rw [va_up_ne _ _ e]; rfl
  · by_cases e : 42 = k
    · subst e; rw [if_pos rfl]; show (.inl (gC G 0, lnn 42, .inl (va_up m.1 42 f 42)) : va_E) = _; rw [va_up_self]
    · rw [if_neg e]; show (.inl (gC G 0, lnn 42, .inl (va_up m.1 k f 42)) : va_E) = _; rw [va_up_ne _ _ e]; rfl
  · by_cases e : 43 = k
    · subst e; rw [if_pos rfl]; show (.inl (gC G 0, lnn 43, .inl (va_up m.1 43 f 43)) : va_E) = _; rw [va_up_self]
    · rw [if_neg e]; show (.inl (gC G 0, lnn 43, .inl (va_up m.1 k f 43)) : va_E) = _; rw [va_up_ne _ _ e]; rfl
  · by_cases e : 44 = k
    · subst e; rw [if_pos rfl]; show (.inl (gC G 0, lnn 44, .inl (va_up m.1 44 f 44)) : va_E) = _; rw [va_up_self]
    · rw [if_neg e]; show (.inl (gC G 0, lnn 44, .inl (va_up m.1 k f 44)) : va_E) = _; rw [va_up_ne _ _ e]; rfl
  · by_cases e : 45 = k
    · subst e; rw [if_pos rfl]; show (.inl (gC G 0, lnn 45, .inl (va_up m.1 45 f 45)) : va_E) = _; rw [va_up_self]
    · rw [if_neg e]; show (.inl (gC G 0, lnn 45, .inl (va_up m.1 k f 45)) : va_E) = _; rw [va_up_ne _ _ e]; rfl
  · by_cases e : 46 = k
    · subst e; rw [if_pos rfl]; show (.inl (gC G 0, lnn 46, .inl (va_up m.1 46 f 46)) : va_E) = _; rw [va_up_self]
    · rw [if_neg e]; show (.inl (gC G 0, lnn 46, .inl (va_up m.1 k f 46)) : va_E) = _; rw [va_up_ne _ _ e]; rfl
  · rw [if_neg (by intro e; subst e; revert h1; decide)]; rfl
  · rw [if_neg (by intro e; subst e; revert h1; decide)]; rfl
  · rw [if_neg (by intro e; subst e; revert h1; decide)]; rfl
  · by_cases e : 50 = k
    · subst e; rw [if_pos rfl]; show (.inl (gC G 0, lnn 50, .inl (va_up m.1 50 f 50)) : va_E) = _; rw [va_up_self]
    · rw [if_neg e]; show (.inl (gC G 0, lnn 50, .inl (va_up m.1 k f 50)) : va_E) = _; rw [va_up_ne _ _ e]; rfl
  · by_cases e : 51 = k
    · subst e; rw [if_pos rfl]; show (.inl (gC G 0, lnn 51, .inl (va_up m.1 51 f 51)) : va_E) = _; rw [va_up_self]
    · rw [if_neg e]; show (.inl (gC G 0, lnn 51, .inl (va_up m.1 k f 51)) : va_E) = _; rw [va_up_ne _ _ e]; rfl
  · by_cases e : 52 = k
    · subst e; rw [if_pos rfl]; show (.inl (gC G 0, lnn 52, .inl (va_up m.1 52 f 52)) : va_E) = _; rw [va_up_self]
    · rw [if_neg e]; show (.inl (gC G 0, lnn 52, .inl (va_up m.1 k f 52)) : va_E) = _; rw [va_up_ne _ _ e]; rfl
  · rw [if_neg (by intro e; subst e; revert h1; decide)]; rfl
theorem pT {t i : Nat} (ht : t < 4) (h1 : 1 ≤ i) (h3 : i ≤ 3) : pC (15 + 6 * t + i) 64 := by
  rcases (show t = 0 ∨ t = 1 ∨ t = 2 ∨ t = 3 by omega) with rfl | rfl | rfl | rfl <;> rcases (show i = 1 ∨ i = 2 ∨ i = 3 by omega) with rfl | rfl | rfl <;> exact ⟨rfl, rfl⟩
theorem pB {t i : Nat} (ht : t < 4) (h1 : 4 ≤ i) (h3 : i ≤ 5) : pC (15 + 6 * t + i) 92 := by
  rcases (show t = 0 ∨ t = 1 ∨ t = 2 ∨ t = 3 by omega) with rfl | rfl | rfl | rfl <;> rcases (show i = 4 ∨ i = 5 by omega) with rfl | rfl <;> exact ⟨rfl, rfl⟩
theorem eT {G : wG} {c : cS} {m : mS} {o : Nat → Int64} {t : Nat} (ht : t < 4) : wE G c m o (15 + 6 * t) = .inr (5, [.ref (gA G 1), .ref (gA G (15 + 6 * t + 1)), .ref (gA G (15 + 6 * t + 2)), .ref (gA G (15 + 6 * t + 3)), .ref (gA G (15 + 6 * t + 4)), .ref (gA G (15 + 6 * t + 5))]) := by
  rcases (show t = 0 ∨ t = 1 ∨ t = 2 ∨ t = 3 by omega) with rfl | rfl | rfl | rfl <;> rfl
theorem eK {G : wG} {c : cS} {m : mS} {o : Nat → Int64} {i : Nat} (hi : i < 3) : wE G c m o (9 + i) = .inr (3, [.ref (gA G (15 + 6 * i)), .ref (gA G (12 + i)), .int (bi (cU c i))]) := by
  rcases (show i = 0 ∨ i = 1 ∨ i = 2 by omega) with rfl | rfl | rfl <;> rfl
theorem eL {G : wG} {c : cS} {m : mS} {o : Nat → Int64} {i : Nat} (hi : i < 3) : wE G c m o (12 + i) = .inr (0, [.int (cM c i), .ref (cE c i), .int (nI (cL c i))]) := by
  rcases (show i = 0 ∨ i = 1 ∨ i = 2 by omega) with rfl | rfl | rfl <;> rfl
theorem sV4 {G : wG} {c : cS} {m : mS} {o : Nat → Int64}  (x : Int32) : ∀ q, q < 54 → wE G (cV' c 4 x) m o q = if q = 0 then .inr (7, [.ref (gA G 1), .ref (gA G 33), .ref (gA G 4), .ref (gA G 5), .int x, .int (cV c 5), .int (cV c 6)]) else wE G c m o q := by
  refine all54 ?_ ?_ ?_ ?_ ?_ ?_ ?_ ?_ ?_ ?_ ?_ ?_ ?_ ?_ ?_ ?_ ?_ ?_ ?_ ?_ ?_ ?_ ?_ ?_ ?_ ?_ ?_ ?_ ?_ ?_ ?_ ?_ ?_ ?_ ?_ ?_ ?_ ?_ ?_ ?_ ?_ ?_ ?_ ?_ ?_ ?_ ?_ ?_ ?_ ?_ ?_ ?_ ?_ ?_
  all_goals first | (rw [if_neg (by decide)]; rfl) | (rw [if_pos rfl]; rfl) | (rw [if_neg (by decide)]; simp [wE, cV', va_up])
theorem sV5 {G : wG} {c : cS} {m : mS} {o : Nat → Int64}  (x : Int32) : ∀ q, q < 54 → wE G (cV' c 5 x) m o q = if q = 0 then .inr (7, [.ref (gA G 1), .ref (gA G 33), .ref (gA G 4), .ref (gA G 5), .int (cV c 4), .int x, .int (cV c 6)]) else wE G c m o q := by
  refine all54 ?_ ?_ ?_ ?_ ?_ ?_ ?_ ?_ ?_ ?_ ?_ ?_ ?_ ?_ ?_ ?_ ?_ ?_ ?_ ?_ ?_ ?_ ?_ ?_ ?_ ?_ ?_ ?_ ?_ ?_ ?_ ?_ ?_ ?_ ?_ ?_ ?_ ?_ ?_ ?_ ?_ ?_ ?_ ?_ ?_ ?_ ?_ ?_ ?_ ?_ ?_ ?_ ?_ ?_
  all_goals first | (rw [if_neg (by decide)]; rfl) | (rw [if_pos rfl]; rfl) | (rw [if_neg (by decide)]; simp [wE, cV', va_up])
theorem sV6 {G : wG} {c : cS} {m : mS} {o : Nat → Int64}  (x : Int32) : ∀ q, q < 54 → wE G (cV' c 6 x) m o q = if q = 0 then .inr (7, [.ref (gA G 1), .ref (gA G 33), .ref (gA G 4), .ref (gA G 5), .int (cV c 4), .int (cV c 5), .int x]) else wE G c m o q := by
  refine all54 ?_ ?_ ?_ ?_ ?_ ?_ ?_ ?_ ?_ ?_ ?_ ?_ ?_ ?_ ?_ ?_ ?_ ?_ ?_ ?_ ?_ ?_ ?_ ?_ ?_ ?_ ?_ ?_ ?_ ?_ ?_ ?_ ?_ ?_ ?_ ?_ ?_ ?_ ?_ ?_ ?_ ?_ ?_ ?_ ?_ ?_ ?_ ?_ ?_ ?_ ?_ ?_ ?_ ?_
  all_goals first | (rw [if_neg (by decide)]; rfl) | (rw [if_pos rfl]; rfl) | (rw [if_neg (by decide)]; simp [wE, cV', va_up])
theorem sMV14 {G : wG} {c : cS} {m : mS} {o : Nat → Int64}  (x : Int32) : ∀ q, q < 54 → wE G c (mV' m 14 x) o q = if q = 39 then .inr (8, [.ref (gA G 40), .ref (gA G 41), .ref (gA G 42), .ref (gA G 43), .ref (gA G 44), .int (nI (mR m)), .ref (gA G 45), .ref (gA G 46), .ref (gA G 47), .ref (gA G 48), .ref (gA G 49), .ref (gA G 50), .ref (gA G 51), .ref (gA G 52), .int x, .int (mV m 15), .int (mV m 16), .int (mV m 17), .int (mV m 18)]) else wE G c m o q := by
  refine all54 ?_ ?_ ?_ ?_ ?_ ?_ ?_ ?_ ?_ ?_ ?_ ?_ ?_ ?_ ?_ ?_ ?_ ?_ ?_ ?_ ?_ ?_ ?_ ?_ ?_ ?_ ?_ ?_ ?_ ?_ ?_ ?_ ?_ ?_ ?_ ?_ ?_ ?_ ?_ ?_ ?_ ?_ ?_ ?_ ?_ ?_ ?_ ?_ ?_ ?_ ?_ ?_ ?_ ?_
  all_goals first | (rw [if_neg (by decide)]; rfl) | (rw [if_pos rfl]; rfl) | (rw [if_neg (by decide)]; simp [wE, mV', va_up])
theorem sMV15 {G : wG} {c : cS} {m : mS} {o : Nat → Int64}  (x : Int32) : ∀ q, q < 54 → wE G c (mV' m 15 x) o q = if q = 39 then .inr (8, [.ref (gA G 40), .ref (gA G 41), .ref (gA G 42), .ref (gA G 43), .ref (gA G 44), .int (nI (mR m)), .ref (gA G 45), .ref (gA G 46), .ref (gA G 47), .ref (gA G 48), .ref (gA G 49), .ref (gA G 50), .ref (gA G 51), .ref (gA G 52), .int (mV m 14), .int x, .int (mV m 16), .int (mV m 17), .int (mV m 18)]) else wE G c m o q := by
  refine all54 ?_ ?_ ?_ ?_ ?_ ?_ ?_ ?_ ?_ ?_ ?_ ?_ ?_ ?_ ?_ ?_ ?_ ?_ ?_ ?_ ?_ ?_ ?_ ?_ ?_ ?_ ?_ ?_ ?_ ?_ ?_ ?_ ?_ ?_ ?_ ?_ ?_ ?_ ?_ ?_ ?_ ?_ ?_ ?_ ?_ ?_ ?_ ?_ ?_ ?_ ?_ ?_ ?_ ?_
  all_goals first | (rw [if_neg (by decide)]; rfl) | (rw [if_pos rfl]; rfl) | (rw [if_neg (by decide)]; simp [wE, mV', va_up])
theorem sMV16 {G : wG} {c : cS} {m : mS} {o : Nat → Int64}  (x : Int32) : ∀ q, q < 54 → wE G c (mV' m 16 x) o q = if q = 39 then .inr (8, [.ref (gA G 40), .ref (gA G 41), .ref (gA G 42), .ref (gA G 43), .ref (gA G 44), .int (nI (mR m)), .ref (gA G 45), .ref (gA G 46), .ref (gA G 47), .ref (gA G 48), .ref (gA G 49), .ref (gA G 50), .ref (gA G 51), .ref (gA G 52), .int (mV m 14), .int (mV m 15), .int x, .int (mV m 17), .int (mV m 18)]) else wE G c m o q := by
  refine all54 ?_ ?_ ?_ ?_ ?_ ?_ ?_ ?_ ?_ ?_ ?_ ?_ ?_ ?_ ?_ ?_ ?_ ?_ ?_ ?_ ?_ ?_ ?_ ?_ ?_ ?_ ?_ ?_ ?_ ?_ ?_ ?_ ?_ ?_ ?_ ?_ ?_ ?_ ?_ ?_ ?_ ?_ ?_ ?_ ?_ ?_ ?_ ?_ ?_ ?_ ?_ ?_ ?_ ?_
  all_goals first | (rw [if_neg (by decide)]; rfl) | (rw [if_pos rfl]; rfl) | (rw [if_neg (by decide)]; simp [wE, mV', va_up])
theorem sMV17 {G : wG} {c : cS} {m : mS} {o : Nat → Int64}  (x : Int32) : ∀ q, q < 54 → wE G c (mV' m 17 x) o q = if q = 39 then .inr (8, [.ref (gA G 40), .ref (gA G 41), .ref (gA G 42), .ref (gA G 43), .ref (gA G 44), .int (nI (mR m)), .ref (gA G 45), .ref (gA G 46), .ref (gA G 47), .ref (gA G 48), .ref (gA G 49), .ref (gA G 50), .ref (gA G 51), .ref (gA G 52), .int (mV m 14), .int (mV m 15), .int (mV m 16), .int x, .int (mV m 18)]) else wE G c m o q := by
  refine all54 ?_ ?_ ?_ ?_ ?_ ?_ ?_ ?_ ?_ ?_ ?_ ?_ ?_ ?_ ?_ ?_ ?_ ?_ ?_ ?_ ?_ ?_ ?_ ?_ ?_ ?_ ?_ ?_ ?_ ?_ ?_ ?_ ?_ ?_ ?_ ?_ ?_ ?_ ?_ ?_ ?_ ?_ ?_ ?_ ?_ ?_ ?_ ?_ ?_ ?_ ?_ ?_ ?_ ?_
  all_goals first | (rw [if_neg (by decide)]; rfl) | (rw [if_pos rfl]; rfl) | (rw [if_neg (by decide)]; simp [wE, mV', va_up])
theorem sMV18 {G : wG} {c : cS} {m : mS} {o : Nat → Int64}  (x : Int32) : ∀ q, q < 54 → wE G c (mV' m 18 x) o q = if q = 39 then .inr (8, [.ref (gA G 40), .ref (gA G 41), .ref (gA G 42), .ref (gA G 43), .ref (gA G 44), .int (nI (mR m)), .ref (gA G 45), .ref (gA G 46), .ref (gA G 47), .ref (gA G 48), .ref (gA G 49), .ref (gA G 50), .ref (gA G 51), .ref (gA G 52), .int (mV m 14), .int (mV m 15), .int (mV m 16), .int (mV m 17), .int x]) else wE G c m o q := by
  refine all54 ?_ ?_ ?_ ?_ ?_ ?_ ?_ ?_ ?_ ?_ ?_ ?_ ?_ ?_ ?_ ?_ ?_ ?_ ?_ ?_ ?_ ?_ ?_ ?_ ?_ ?_ ?_ ?_ ?_ ?_ ?_ ?_ ?_ ?_ ?_ ?_ ?_ ?_ ?_ ?_ ?_ ?_ ?_ ?_ ?_ ?_ ?_ ?_ ?_ ?_ ?_ ?_ ?_ ?_
  all_goals first | (rw [if_neg (by decide)]; rfl) | (rw [if_pos rfl]; rfl) | (rw [if_neg (by decide)]; simp [wE, mV', va_up])
theorem sMR {G : wG} {c : cS} {m : mS} {o : Nat → Int64}  (x : Nat) : ∀ q, q < 54 → wE G c (mR' m x) o q = if q = 39 then .inr (8, [.ref (gA G 40), .ref (gA G 41), .ref (gA G 42), .ref (gA G 43), .ref (gA G 44), .int (nI x), .ref (gA G 45), .ref (gA G 46), .ref (gA G 47), .ref (gA G 48), .ref (gA G 49), .ref (gA G 50), .ref (gA G 51), .ref (gA G 52), .int (mV m 14), .int (mV m 15), .int (mV m 16), .int (mV m 17), .int (mV m 18)]) else wE G c m o q := by
  refine all54 ?_ ?_ ?_ ?_ ?_ ?_ ?_ ?_ ?_ ?_ ?_ ?_ ?_ ?_ ?_ ?_ ?_ ?_ ?_ ?_ ?_ ?_ ?_ ?_ ?_ ?_ ?_ ?_ ?_ ?_ ?_ ?_ ?_ ?_ ?_ ?_ ?_ ?_ ?_ ?_ ?_ ?_ ?_ ?_ ?_ ?_ ?_ ?_ ?_ ?_ ?_ ?_ ?_ ?_
  all_goals first | (rw [if_neg (by decide)]; rfl) | (rw [if_pos rfl]; rfl) | (rw [if_neg (by decide)]; simp [wE, mR', va_up])
theorem sU {G : wG} {c : cS} {m : mS} {o : Nat → Int64} {i : Nat} (hi : i < 3) (x : Bool) : ∀ q, q < 54 → wE G (cU' c i x) m o q = if q = 9 + i then .inr (3, [.ref (gA G (15 + 6 * i)), .ref (gA G (12 + i)), .int (bi x)]) else wE G c m o q := by
  rcases (show i = 0 ∨ i = 1 ∨ i = 2 by omega) with rfl | rfl | rfl
  all_goals refine all54 ?_ ?_ ?_ ?_ ?_ ?_ ?_ ?_ ?_ ?_ ?_ ?_ ?_ ?_ ?_ ?_ ?_ ?_ ?_ ?_ ?_ ?_ ?_ ?_ ?_ ?_ ?_ ?_ ?_ ?_ ?_ ?_ ?_ ?_ ?_ ?_ ?_ ?_ ?_ ?_ ?_ ?_ ?_ ?_ ?_ ?_ ?_ ?_ ?_ ?_ ?_ ?_ ?_ ?_
  all_goals first | (rw [if_neg (by decide)]; rfl) | (rw [if_pos rfl]; rfl) | (rw [if_neg (by decide)]; simp [wE, cU', va_up])
theorem sLM {G : wG} {c : cS} {m : mS} {o : Nat → Int64} {i : Nat} (hi : i < 3) (x : Int32) : ∀ q, q < 54 → wE G (cM' c i x) m o q = if q = 12 + i then .inr (0, [.int x, .ref (cE c i), .int (nI (cL c i))]) else wE G c m o q := by
  rcases (show i = 0 ∨ i = 1 ∨ i = 2 by omega) with rfl | rfl | rfl
  all_goals refine all54 ?_ ?_ ?_ ?_ ?_ ?_ ?_ ?_ ?_ ?_ ?_ ?_ ?_ ?_ ?_ ?_ ?_ ?_ ?_ ?_ ?_ ?_ ?_ ?_ ?_ ?_ ?_ ?_ ?_ ?_ ?_ ?_ ?_ ?_ ?_ ?_ ?_ ?_ ?_ ?_ ?_ ?_ ?_ ?_ ?_ ?_ ?_ ?_ ?_ ?_ ?_ ?_ ?_ ?_
  all_goals first | (rw [if_neg (by decide)]; rfl) | (rw [if_pos rfl]; rfl) | (rw [if_neg (by decide)]; simp [wE, cM', va_up])
theorem sLL {G : wG} {c : cS} {m : mS} {o : Nat → Int64} {i : Nat} (hi : i < 3) (x : Nat) : ∀ q, q < 54 → wE G (cL' c i x) m o q = if q = 12 + i then .inr (0, [.int (cM c i), .ref (cE c i), .int (nI x)]) else wE G c m o q := by
  rcases (show i = 0 ∨ i = 1 ∨ i = 2 by omega) with rfl | rfl | rfl
  all_goals refine all54 ?_ ?_ ?_ ?_ ?_ ?_ ?_ ?_ ?_ ?_ ?_ ?_ ?_ ?_ ?_ ?_ ?_ ?_ ?_ ?_ ?_ ?_ ?_ ?_ ?_ ?_ ?_ ?_ ?_ ?_ ?_ ?_ ?_ ?_ ?_ ?_ ?_ ?_ ?_ ?_ ?_ ?_ ?_ ?_ ?_ ?_ ?_ ?_ ?_ ?_ ?_ ?_ ?_ ?_
  all_goals first | (rw [if_neg (by decide)]; rfl) | (rw [if_pos rfl]; rfl) | (rw [if_neg (by decide)]; simp [wE, cL', va_up])
theorem sLE {G : wG} {c : cS} {m : mS} {o : Nat → Int64} {i : Nat} (hi : i < 3) (x : Nat) : ∀ q, q < 54 → wE G (cE' c i x) m o q = if q = 12 + i then .inr (0, [.int (cM c i), .ref x, .int (nI (cL c i))]) else wE G c m o q := by
  rcases (show i = 0 ∨ i = 1 ∨ i = 2 by omega) with rfl | rfl | rfl
  all_goals refine all54 ?_ ?_ ?_ ?_ ?_ ?_ ?_ ?_ ?_ ?_ ?_ ?_ ?_ ?_ ?_ ?_ ?_ ?_ ?_ ?_ ?_ ?_ ?_ ?_ ?_ ?_ ?_ ?_ ?_ ?_ ?_ ?_ ?_ ?_ ?_ ?_ ?_ ?_ ?_ ?_ ?_ ?_ ?_ ?_ ?_ ?_ ?_ ?_ ?_ ?_ ?_ ?_ ?_ ?_
  all_goals first | (rw [if_neg (by decide)]; rfl) | (rw [if_pos rfl]; rfl) | (rw [if_neg (by decide)]; simp [wE, cE', va_up])
theorem upd_bi (f : Nat → Bool) (k : Nat) (x : Bool) : upd (fun j => bi (f j)) k (bi x) = fun j => bi (va_up f k x j) := by
  funext j
  unfold upd va_up
  by_cases h : j = k <;> simp [h]
theorem upd_nI (f : Nat → Nat) (k : Nat) (x : Nat) : upd (fun j => nI (f j)) k (nI x) = fun j => nI (va_up f k x j) := by
  funext j
  unfold upd va_up
  by_cases h : j = k <;> simp [h]
theorem sF {G : wG} {c : cS} {m : mS} {o : Nat → Int64} (k : Nat) (x : Bool) : ∀ q, q < 54 → wE G (cF' c k x) m o q = if q = 8 then .inl (gC G 1, 32, .inl (fun j => bi (va_up (cF c) k x j))) else wE G c m o q := by
  refine all54 ?_ ?_ ?_ ?_ ?_ ?_ ?_ ?_ ?_ ?_ ?_ ?_ ?_ ?_ ?_ ?_ ?_ ?_ ?_ ?_ ?_ ?_ ?_ ?_ ?_ ?_ ?_ ?_ ?_ ?_ ?_ ?_ ?_ ?_ ?_ ?_ ?_ ?_ ?_ ?_ ?_ ?_ ?_ ?_ ?_ ?_ ?_ ?_ ?_ ?_ ?_ ?_ ?_ ?_
  all_goals first | (rw [if_neg (by decide)]; rfl) | (rw [if_pos rfl]; rfl)
theorem sMU {G : wG} {c : cS} {m : mS} {o : Nat → Int64} (k : Nat) (x : Bool) : ∀ q, q < 54 → wE G c (mU' m k x) o q = if q = 47 then .inl (gC G 1, 4, .inl (fun j => bi (va_up (mU m) k x j))) else wE G c m o q := by
  refine all54 ?_ ?_ ?_ ?_ ?_ ?_ ?_ ?_ ?_ ?_ ?_ ?_ ?_ ?_ ?_ ?_ ?_ ?_ ?_ ?_ ?_ ?_ ?_ ?_ ?_ ?_ ?_ ?_ ?_ ?_ ?_ ?_ ?_ ?_ ?_ ?_ ?_ ?_ ?_ ?_ ?_ ?_ ?_ ?_ ?_ ?_ ?_ ?_ ?_ ?_ ?_ ?_ ?_ ?_
  all_goals first | (rw [if_neg (by decide)]; rfl) | (rw [if_pos rfl]; rfl)
theorem sMH {G : wG} {c : cS} {m : mS} {o : Nat → Int64} (k : Nat) (x : Nat) : ∀ q, q < 54 → wE G c (mH' m k x) o q = if q = 48 then .inl (gC G 0, 3, .inl (fun j => nI (va_up (mH m) k x j))) else wE G c m o q := by
  refine all54 ?_ ?_ ?_ ?_ ?_ ?_ ?_ ?_ ?_ ?_ ?_ ?_ ?_ ?_ ?_ ?_ ?_ ?_ ?_ ?_ ?_ ?_ ?_ ?_ ?_ ?_ ?_ ?_ ?_ ?_ ?_ ?_ ?_ ?_ ?_ ?_ ?_ ?_ ?_ ?_ ?_ ?_ ?_ ?_ ?_ ?_ ?_ ?_ ?_ ?_ ?_ ?_ ?_ ?_
  all_goals first | (rw [if_neg (by decide)]; rfl) | (rw [if_pos rfl]; rfl)
theorem sMA {G : wG} {c : cS} {m : mS} {o : Nat → Int64} (k : Nat) (x : Nat) : ∀ q, q < 54 → wE G c (mA' m k x) o q = if q = 49 then .inl (gC G 0, 30, .inl (fun j => nI (va_up (mA m) k x j))) else wE G c m o q := by
  refine all54 ?_ ?_ ?_ ?_ ?_ ?_ ?_ ?_ ?_ ?_ ?_ ?_ ?_ ?_ ?_ ?_ ?_ ?_ ?_ ?_ ?_ ?_ ?_ ?_ ?_ ?_ ?_ ?_ ?_ ?_ ?_ ?_ ?_ ?_ ?_ ?_ ?_ ?_ ?_ ?_ ?_ ?_ ?_ ?_ ?_ ?_ ?_ ?_ ?_ ?_ ?_ ?_ ?_ ?_
  all_goals first | (rw [if_neg (by decide)]; rfl) | (rw [if_pos rfl]; rfl)
theorem sO {G : wG} {c : cS} {m : mS} {o : Nat → Int64} (o1 : Nat → Int64) : ∀ q, q < 54 → wE G c m o1 q = if q = 53 then .inl (gC G 4, 1, .inr (.inl o1)) else wE G c m o q := by
  refine all54 ?_ ?_ ?_ ?_ ?_ ?_ ?_ ?_ ?_ ?_ ?_ ?_ ?_ ?_ ?_ ?_ ?_ ?_ ?_ ?_ ?_ ?_ ?_ ?_ ?_ ?_ ?_ ?_ ?_ ?_ ?_ ?_ ?_ ?_ ?_ ?_ ?_ ?_ ?_ ?_ ?_ ?_ ?_ ?_ ?_ ?_ ?_ ?_ ?_ ?_ ?_ ?_ ?_ ?_
  all_goals first | (rw [if_neg (by decide)]; rfl) | (rw [if_pos rfl]; rfl)
