/-! where a table begins -/
def cI0 : Nat → Nat → Int32 := fun k => match k with
  | 2 => fil (fun _ => nI 0) (-1) 8
  | 3 => fil (fun _ => nI 0) (-1) 8
  | 16 => fil (fun _ => nI 0) (-1) 64
  | 22 => fil (fun _ => nI 0) (-1) 64
  | 28 => fil (fun _ => nI 0) (-1) 64
  | 34 => fil (fun _ => nI 0) (-1) 64
  | 19 => fil (fun _ => nI 0) (-1) 92
  | 25 => fil (fun _ => nI 0) (-1) 92
  | 31 => fil (fun _ => nI 0) (-1) 92
  | 37 => fil (fun _ => nI 0) (-1) 92
  | _ => fun _ => nI 0
def c0 (G : wG) : cS := (cI0, (fun k => if k = 5 then nI 10 else nI 0), (fun _ => true), (fun _ => false), (fun _ => nI 0), (fun _ => 0), (fun _ => gX G 0), [])
abbrev l39 (G : wG) : va_W := [(gA G 0, .inr (7, [.ref (gA G 1), .ref (gA G 33), .ref (gA G 4), .ref (gA G 5), .int (nI 0), .int (nI 10), .int (nI 0)])), (gA G 1, .inr (4, [.ref (gA G 2), .ref (gA G 3)])), (gA G 2, .inl (gC G 0, 8, .inl (fil (fun _ => nI 0) (-1) 8))), (gA G 3, .inl (gC G 0, 8, .inl (fil (fun _ => nI 0) (-1) 8))), (gA G 33, .inr (5, [.ref (gA G 1), .ref (gA G 34), .ref (gA G 35), .ref (gA G 36), .ref (gA G 37), .ref (gA G 38)])), (gA G 34, .inl (gC G 0, 64, .inl (fil (fun _ => nI 0) (-1) 64))), (gA G 35, .inl (gC G 0, 64, .inl (fun _ => nI 0))), (gA G 36, .inl (gC G 0, 64, .inl (fun _ => nI 0))), (gA G 37, .inl (gC G 0, 92, .inl (fil (fun _ => nI 0) (-1) 92))), (gA G 38, .inl (gC G 0, 92, .inl (fun _ => nI 0))), (gA G 4, .inl (gC G 2, 3, .inr (.inr (.inr (.inr (va_up (va_up (va_up (fun _ => none) 0 (some (gA G 9))) 1 (some (gA G 10))) 2 (some (gA G 11)))))))), (gA G 9, .inr (3, [.ref (gA G 15), .ref (gA G 12), .int (nI 1)])), (gA G 15, .inr (5, [.ref (gA G 1), .ref (gA G 16), .ref (gA G 17), .ref (gA G 18), .ref (gA G 19), .ref (gA G 20)])), (gA G 16, .inl (gC G 0, 64, .inl (fil (fun _ => nI 0) (-1) 64))), (gA G 17, .inl (gC G 0, 64, .inl (fun _ => nI 0))), (gA G 18, .inl (gC G 0, 64, .inl (fun _ => nI 0))), (gA G 19, .inl (gC G 0, 92, .inl (fil (fun _ => nI 0) (-1) 92))), (gA G 20, .inl (gC G 0, 92, .inl (fun _ => nI 0))), (gA G 12, .inr (0, [.int (nI 0), .ref (gX G 0), .int (nI 0)])), (gA G 10, .inr (3, [.ref (gA G 21), .ref (gA G 13), .int (nI 1)])), (gA G 21, .inr (5, [.ref (gA G 1), .ref (gA G 22), .ref (gA G 23), .ref (gA G 24), .ref (gA G 25), .ref (gA G 26)])), (gA G 22, .inl (gC G 0, 64, .inl (fil (fun _ => nI 0) (-1) 64))), (gA G 23, .inl (gC G 0, 64, .inl (fun _ => nI 0))), (gA G 24, .inl (gC G 0, 64, .inl (fun _ => nI 0))), (gA G 25, .inl (gC G 0, 92, .inl (fil (fun _ => nI 0) (-1) 92))), (gA G 26, .inl (gC G 0, 92, .inl (fun _ => nI 0))), (gA G 13, .inr (0, [.int (nI 0), .ref (gX G 0), .int (nI 0)])), (gA G 11, .inr (3, [.ref (gA G 27), .ref (gA G 14), .int (nI 1)])), (gA G 27, .inr (5, [.ref (gA G 1), .ref (gA G 28), .ref (gA G 29), .ref (gA G 30), .ref (gA G 31), .ref (gA G 32)])), (gA G 28, .inl (gC G 0, 64, .inl (fil (fun _ => nI 0) (-1) 64))), (gA G 29, .inl (gC G 0, 64, .inl (fun _ => nI 0))), (gA G 30, .inl (gC G 0, 64, .inl (fun _ => nI 0))), (gA G 31, .inl (gC G 0, 92, .inl (fil (fun _ => nI 0) (-1) 92))), (gA G 32, .inl (gC G 0, 92, .inl (fun _ => nI 0))), (gA G 14, .inr (0, [.int (nI 0), .ref (gX G 0), .int (nI 0)])), (gA G 5, .inr (1, [.ref (gA G 6), .ref (gA G 7), .ref (gA G 8)])), (gA G 6, .inl (gC G 0, 32, .inl (fun _ => nI 0))), (gA G 7, .inl (gC G 0, 32, .inl (fun _ => nI 0))), (gA G 8, .inl (gC G 1, 32, .inl (fun _ => nI 0)))]
abbrev p39 (G : wG) : va_W := [(gA G 0, .inr (7, [.ref (gA G 1), .ref (gA G 33), .ref (gA G 4), .ref (gA G 5), .int (nI 0), .int (nI 10), .int (nI 0)])), (gA G 1, .inr (4, [.ref (gA G 2), .ref (gA G 3)])), (gA G 2, .inl (gC G 0, 8, .inl (fil (fun _ => nI 0) (-1) 8))), (gA G 3, .inl (gC G 0, 8, .inl (fil (fun _ => nI 0) (-1) 8))), (gA G 4, .inl (gC G 2, 3, .inr (.inr (.inr (.inr (va_up (va_up (va_up (fun _ => none) 0 (some (gA G 9))) 1 (some (gA G 10))) 2 (some (gA G 11)))))))), (gA G 5, .inr (1, [.ref (gA G 6), .ref (gA G 7), .ref (gA G 8)])), (gA G 6, .inl (gC G 0, 32, .inl (fun _ => nI 0))), (gA G 7, .inl (gC G 0, 32, .inl (fun _ => nI 0))), (gA G 8, .inl (gC G 1, 32, .inl (fun _ => nI 0))), (gA G 9, .inr (3, [.ref (gA G 15), .ref (gA G 12), .int (nI 1)])), (gA G 10, .inr (3, [.ref (gA G 21), .ref (gA G 13), .int (nI 1)])), (gA G 11, .inr (3, [.ref (gA G 27), .ref (gA G 14), .int (nI 1)])), (gA G 12, .inr (0, [.int (nI 0), .ref (gX G 0), .int (nI 0)])), (gA G 13, .inr (0, [.int (nI 0), .ref (gX G 0), .int (nI 0)])), (gA G 14, .inr (0, [.int (nI 0), .ref (gX G 0), .int (nI 0)])), (gA G 15, .inr (5, [.ref (gA G 1), .ref (gA G 16), .ref (gA G 17), .ref (gA G 18), .ref (gA G 19), .ref (gA G 20)])), (gA G 16, .inl (gC G 0, 64, .inl (fil (fun _ => nI 0) (-1) 64))), (gA G 17, .inl (gC G 0, 64, .inl (fun _ => nI 0))), (gA G 18, .inl (gC G 0, 64, .inl (fun _ => nI 0))), (gA G 19, .inl (gC G 0, 92, .inl (fil (fun _ => nI 0) (-1) 92))), (gA G 20, .inl (gC G 0, 92, .inl (fun _ => nI 0))), (gA G 21, .inr (5, [.ref (gA G 1), .ref (gA G 22), .ref (gA G 23), .ref (gA G 24), .ref (gA G 25), .ref (gA G 26)])), (gA G 22, .inl (gC G 0, 64, .inl (fil (fun _ => nI 0) (-1) 64))), (gA G 23, .inl (gC G 0, 64, .inl (fun _ => nI 0))), (gA G 24, .inl (gC G 0, 64, .inl (fun _ => nI 0))), (gA G 25, .inl (gC G 0, 92, .inl (fil (fun _ => nI 0) (-1) 92))), (gA G 26, .inl (gC G 0, 92, .inl (fun _ => nI 0))), (gA G 27, .inr (5, [.ref (gA G 1), .ref (gA G 28), .ref (gA G 29), .ref (gA G 30), .ref (gA G 31), .ref (gA G 32)])), (gA G 28, .inl (gC G 0, 64, .inl (fil (fun _ => nI 0) (-1) 64))), (gA G 29, .inl (gC G 0, 64, .inl (fun _ => nI 0))), (gA G 30, .inl (gC G 0, 64, .inl (fun _ => nI 0))), (gA G 31, .inl (gC G 0, 92, .inl (fil (fun _ => nI 0) (-1) 92))), (gA G 32, .inl (gC G 0, 92, .inl (fun _ => nI 0))), (gA G 33, .inr (5, [.ref (gA G 1), .ref (gA G 34), .ref (gA G 35), .ref (gA G 36), .ref (gA G 37), .ref (gA G 38)])), (gA G 34, .inl (gC G 0, 64, .inl (fil (fun _ => nI 0) (-1) 64))), (gA G 35, .inl (gC G 0, 64, .inl (fun _ => nI 0))), (gA G 36, .inl (gC G 0, 64, .inl (fun _ => nI 0))), (gA G 37, .inl (gC G 0, 92, .inl (fil (fun _ => nI 0) (-1) 92))), (gA G 38, .inl (gC G 0, 92, .inl (fun _ => nI 0)))]
theorem arr_K {s : State} {A : Array Value} {ty : FieldType} (h : (Cond.arrayClass ty).before A s = true) (hn : ∀ C, ty ≠ .object C) : ∃ cA, ArrOfT s cA ty ∧ va_RA s cA ty := by
  obtain ⟨cA, kA, comp, h1, h2, h3⟩ := Cond.arrayClass_spec h
  refine ⟨cA, fun n z => ⟨fun k h => (by cases h), kA, h2, comp, h3⟩, ?_⟩
  cases ty with
  | object C => exact absurd rfl (hn C)
  | _ => exact h1
theorem arr_O {s : State} {A : Array Value} {C : String} (h : (Cond.arrayOver (.object C)).before A s = true) : ∃ cA, ArrOfT s cA (.object C) ∧ va_RA s cA (.object C) := by
  obtain ⟨comp, cA, kA, hcomp, hidx, hkA, hkindA, hnameA⟩ := Cond.arrayOver_spec h
  exact ⟨cA, fun N z => ⟨(fun k h => by cases h), kA, hkA, comp, hkindA⟩, kA, comp, hkA, hkindA, hcomp, hnameA⟩
set_option maxRecDepth 20000 in
theorem wN_in : ∀ w ∈ wN, w ∈ lw_tbl := by decide +kernel
theorem wN_on9 : ∀ w ∈ wN, w.onTables = true := by decide +kernel
theorem txt_R {s : State} {A : Array Value} {k : Nat} {tx : String} (h1 : (Cond.stringRef "WideCell" k tx).before A s = true) (h2 : (Cond.exactly (.string "WideCell" k) "java/lang/String").before A s = true) : ∃ a, vk_R "WideCell" k tx a s := by
  obtain ⟨a, c, cA, kA, q1, q2, q3, q4, q5, q6, -⟩ := Cond.exactly_spec (args := A) (first := s) (o := none) (s := s) (idx := []) (t := .string "WideCell" k) (cls := "java/lang/String") h2
  exact ⟨a, vk_R.of h1 q1⟩
set_option maxHeartbeats 4000000 in
set_option maxRecDepth 100000 in
theorem start_G {s : State} {A : Array Value} (hts : ∀ w ∈ lw_tbl, w.before A s = true) (hgv : (Jvm.Cond.and given_1 narrow_1).before A s = true) : ∃ (D : va_G) (C : Nat → ClassId) (X : Nat → Nat), ∀ B : Nat → Nat, wB (s.heap.size, B, D, C, X) s ∧ va_AO "WideCell$Keeper" s := by
  have hq := flat_of_before _ hgv
  obtain ⟨c0, iS0, hKn0⟩ := u_known (C := RJx4a65c) (T := TJx4a65c) (N := 3) (n := 3) hts inJx4a65c (hts (.instantiable RJx4a65c 3) (by decide +kernel))
  obtain ⟨c1, iS1, hKn1⟩ := u_known (C := RX1) (T := TX1) (N := 3) (n := 3) hts inX1 (hts (.instantiable RX1 3) (by decide +kernel))
  obtain ⟨c2, iS2, hKn2⟩ := u_known (C := RX2) (T := TX2) (N := 4) (n := 4) hts inX2 (hts (.instantiable RX2 4) (by decide +kernel))
  obtain ⟨c3, iS3, hKn3⟩ := u_known (C := RX3) (T := TX3) (N := 3) (n := 3) hts inX3 (hts (.instantiable RX3 3) (by decide +kernel))
  obtain ⟨c4, iS4, hKn4⟩ := u_known (C := RX4) (T := TX4) (N := 2) (n := 2) hts inX4 (hts (.instantiable RX4 2) (by decide +kernel))
  obtain ⟨c5, iS5, hKn5⟩ := u_known (C := RX5) (T := TX5) (N := 6) (n := 6) hts inX5 (hts (.instantiable RX5 6) (by decide +kernel))
  obtain ⟨c6, iS6, hKn6⟩ := u_known (C := RX6) (T := TX6) (N := 3) (n := 3) hts inX6 (hts (.instantiable RX6 3) (by decide +kernel))
  obtain ⟨c7, iS7, hKn7⟩ := u_known (C := RX7) (T := TX7) (N := 7) (n := 7) hts inX7 (hts (.instantiable RX7 7) (by decide +kernel))
  obtain ⟨a0, b0, d0⟩ := arr_K (hts (.arrayClass .int) (by decide +kernel)) (fun C h => by cases h)
  obtain ⟨a1, b1, d1⟩ := arr_K (hts (.arrayClass .boolean) (by decide +kernel)) (fun C h => by cases h)
  obtain ⟨a2, b2, d2⟩ := arr_O (hts (.arrayOver (.object "WideCell$Keeper")) (by decide +kernel))
  obtain ⟨a3, b3, d3⟩ := arr_O (hts (.arrayOver (.object "java/lang/Object")) (by decide +kernel))
  obtain ⟨x1, t1⟩ := txt_R (k := 198) (tx := tA) (hts _ (by decide +kernel)) (hq _ (by decide +kernel))
  obtain ⟨x2, t2⟩ := txt_R (k := 205) (tx := tB) (hts _ (by decide +kernel)) (hq _ (by decide +kernel))
  obtain ⟨x3, t3⟩ := txt_R (k := 210) (tx := tC) (hts _ (by decide +kernel)) (hq _ (by decide +kernel))
  have hA : ∀ a : Nat, a < s.heap.size → ¬ s.heap.size ≤ a := fun a h => Nat.not_le.mpr h
  obtain ⟨x0, t0, hT⟩ := va_Tof (s := s) (args := A) (tm := .static "java/util/ArrayList" "DEFAULTCAPACITY_EMPTY_ELEMENTDATA" "[Ljava/lang/Object;") (ty := .object "java/lang/Object") (N := 0) (f := fun _ => .null) (A := fun q => s.heap.size ≤ q) (by decide) (hq _ (by decide +kernel)) (va_eqt (hq _ (by decide +kernel))) (fun j hj => absurd hj (Nat.not_lt_zero _)) hA
  have hx0 : x0 < s.heap.size := by
    obtain ⟨cA, z1, z2, z3, z4⟩ := hT
    exact (Array.getElem?_eq_some_iff.mp z1).1
  refine ⟨(fun k => ([c0, c1, c2, c3, c4, c5, c6, c7] : List ClassId).getD k c0, fun k => ([iS0, iS1, iS2, iS3, iS4, iS5, iS6, iS7] : List (Nat → Nat)).getD k iS0), (fun k => ([a0, a1, a2, a3] : List ClassId).getD k a0), (fun k => ([x0, x1, x2, x3] : List Nat).getD k x0), fun B => ⟨⟨⟨?_, ?_⟩, ?_, ?_⟩, va_AO.of (hts (.arrayOver (.object "WideCell$Keeper")) (by decide +kernel))⟩⟩
  · intro k q hk
    match k, hk with
    | 0, hk => cases hk; exact hKn0
    | 1, hk => cases hk; exact hKn1
    | 2, hk => cases hk; exact hKn2
    | 3, hk => cases hk; exact hKn3
    | 4, hk => cases hk; exact hKn4
    | 5, hk => cases hk; exact hKn5
    | 6, hk => cases hk; exact hKn6
    | 7, hk => cases hk; exact hKn7
    | k + 8, hk => simp [vwCl] at hk
  · intro k q hk
    match k, hk with
    | 0, hk => cases hk; exact ⟨b0, d0⟩
    | 1, hk => cases hk; exact ⟨b1, d1⟩
    | 2, hk => cases hk; exact ⟨b2, d2⟩
    | 3, hk => cases hk; exact ⟨b3, d3⟩
    | k + 4, hk => simp [wT] at hk
  · intro w hw
    exact va_Nw.of (wN_on9 w hw) (hts w (wN_in w hw))
  · exact ⟨vx_Zqof (hts _ (by decide +kernel)) (hts _ (by decide +kernel)) (hq _ (by decide +kernel)) hA, vx_Zqof (hts _ (by decide +kernel)) (hts _ (by decide +kernel)) (hq _ (by decide +kernel)) hA, t1, t2, t3, va_Zof (hts _ (by decide +kernel)) (hts _ (by decide +kernel)) t0 hA, hT, hx0, va_AO.of (hts _ (by decide +kernel)), trivial⟩
set_option maxHeartbeats 4000000 in
set_option maxRecDepth 100000 in
theorem p39_eq {G : wG} {μ : mS} : (List.range 39).map (fun k => (gA G k, wE G (c0 G) μ (fun _ => 0) k)) = [(gA G 0, .inr (7, [.ref (gA G 1), .ref (gA G 33), .ref (gA G 4), .ref (gA G 5), .int (nI 0), .int (nI 10), .int (nI 0)])), (gA G 1, .inr (4, [.ref (gA G 2), .ref (gA G 3)])), (gA G 2, .inl (gC G 0, 8, .inl (fil (fun _ => nI 0) (-1) 8))), (gA G 3, .inl (gC G 0, 8, .inl (fil (fun _ => nI 0) (-1) 8))), (gA G 4, .inl (gC G 2, 3, .inr (.inr (.inr (.inr (fun j => some (gA G (9 + j)))))))), (gA G 5, .inr (1, [.ref (gA G 6), .ref (gA G 7), .ref (gA G 8)])), (gA G 6, .inl (gC G 0, 32, .inl (fun _ => nI 0))), (gA G 7, .inl (gC G 0, 32, .inl (fun _ => nI 0))), (gA G 8, .inl (gC G 1, 32, .inl (fun _ => nI 0))), (gA G 9, .inr (3, [.ref (gA G 15), .ref (gA G 12), .int (nI 1)])), (gA G 10, .inr (3, [.ref (gA G 21), .ref (gA G 13), .int (nI 1)])), (gA G 11, .inr (3, [.ref (gA G 27), .ref (gA G 14), .int (nI 1)])), (gA G 12, .inr (0, [.int (nI 0), .ref (gX G 0), .int (nI 0)])), (gA G 13, .inr (0, [.int (nI 0), .ref (gX G 0), .int (nI 0)])), (gA G 14, .inr (0, [.int (nI 0), .ref (gX G 0), .int (nI 0)])), (gA G 15, .inr (5, [.ref (gA G 1), .ref (gA G 16), .ref (gA G 17), .ref (gA G 18), .ref (gA G 19), .ref (gA G 20)])), (gA G 16, .inl (gC G 0, 64, .inl (fil (fun _ => nI 0) (-1) 64))), (gA G 17, .inl (gC G 0, 64, .inl (fun _ => nI 0))), (gA G 18, .inl (gC G 0, 64, .inl (fun _ => nI 0))), (gA G 19, .inl (gC G 0, 92, .inl (fil (fun _ => nI 0) (-1) 92))), (gA G 20, .inl (gC G 0, 92, .inl (fun _ => nI 0))), (gA G 21, .inr (5, [.ref (gA G 1), .ref (gA G 22), .ref (gA G 23), .ref (gA G 24), .ref (gA G 25), .ref (gA G 26)])), (gA G 22, .inl (gC G 0, 64, .inl (fil (fun _ => nI 0) (-1) 64))), (gA G 23, .inl (gC G 0, 64, .inl (fun _ => nI 0))), (gA G 24, .inl (gC G 0, 64, .inl (fun _ => nI 0))), (gA G 25, .inl (gC G 0, 92, .inl (fil (fun _ => nI 0) (-1) 92))), (gA G 26, .inl (gC G 0, 92, .inl (fun _ => nI 0))), (gA G 27, .inr (5, [.ref (gA G 1), .ref (gA G 28), .ref (gA G 29), .ref (gA G 30), .ref (gA G 31), .ref (gA G 32)])), (gA G 28, .inl (gC G 0, 64, .inl (fil (fun _ => nI 0) (-1) 64))), (gA G 29, .inl (gC G 0, 64, .inl (fun _ => nI 0))), (gA G 30, .inl (gC G 0, 64, .inl (fun _ => nI 0))), (gA G 31, .inl (gC G 0, 92, .inl (fil (fun _ => nI 0) (-1) 92))), (gA G 32, .inl (gC G 0, 92, .inl (fun _ => nI 0))), (gA G 33, .inr (5, [.ref (gA G 1), .ref (gA G 34), .ref (gA G 35), .ref (gA G 36), .ref (gA G 37), .ref (gA G 38)])), (gA G 34, .inl (gC G 0, 64, .inl (fil (fun _ => nI 0) (-1) 64))), (gA G 35, .inl (gC G 0, 64, .inl (fun _ => nI 0))), (gA G 36, .inl (gC G 0, 64, .inl (fun _ => nI 0))), (gA G 37, .inl (gC G 0, 92, .inl (fil (fun _ => nI 0) (-1) 92))), (gA G 38, .inl (gC G 0, 92, .inl (fun _ => nI 0)))] := by
  rw [show List.range 39 = [0, 1, 2, 3, 4, 5, 6, 7, 8, 9, 10, 11, 12, 13, 14, 15, 16, 17, 18, 19, 20, 21, 22, 23, 24, 25, 26, 27, 28, 29, 30, 31, 32, 33, 34, 35, 36, 37, 38] from by decide]
  rfl
theorem kc_eq {cA : ClassId} {n : Nat} {f g : Nat → Option Nat} (h : ∀ j, j < n → f j = g j) : vp_cell cA (n, .inr (.inr (.inr (.inr f)))) = vp_cell cA (n, .inr (.inr (.inr (.inr g)))) := by
  show arrV cA n (fun j => va_rf (f j)) = arrV cA n (fun j => va_rf (g j))
  unfold arrV
  have e : (Array.ofFn (n := n) fun j => va_rf (f j.val)) = Array.ofFn (n := n) fun j => va_rf (g j.val) := by
    congr 1
    funext j
    rw [h j.val j.isLt]
  rw [e]
theorem P_swap {D : va_G} {cl : List vw_C} {ws : va_W} {H : Heap} {a k : Nat} {cA : ClassId} {x y : vp_A} (hP : va_P D cl ws H) (hk : ws[k]? = some (a, .inl (cA, x))) (e : vp_cell cA x = vp_cell cA y) : va_P D cl (ws.set k (a, .inl (cA, y))) H := by
  intro j q hj
  by_cases h : k = j
  · subst h
    rw [List.getElem?_set_self (List.getElem?_eq_some_iff.mp hk).1] at hj
    cases hj
    have h1 := hP k _ hk
    show H[a]? = some (vp_cell cA y)
    rw [← e]
    exact h1
  · rw [List.getElem?_set_ne h] at hj
    exact hP j q hj
theorem D_swap {A : Nat → Prop} {ws : va_W} {a k : Nat} {x y : va_E} (hD : va_D A ws) (hk : ws[k]? = some (a, x)) : va_D A (ws.set k (a, y)) := by
  have key : ∀ (j : Nat) (q : Nat × va_E), (ws.set k (a, y))[j]? = some q → ∃ q' : Nat × va_E, ws[j]? = some q' ∧ q'.1 = q.1 := by
    intro j q hj
    by_cases h : k = j
    · subst h
      rw [List.getElem?_set_self (List.getElem?_eq_some_iff.mp hk).1] at hj
      cases hj
      exact ⟨_, hk, rfl⟩
    · rw [List.getElem?_set_ne h] at hj
      exact ⟨q, hj, rfl⟩
  refine ⟨fun i j p q hi hj e => ?_, fun i q hi => ?_⟩
  · obtain ⟨p', h1, e1⟩ := key i p hi
    obtain ⟨q', h2, e2⟩ := key j q hj
    exact hD.1 i j p' q' h1 h2 (by rw [e1, e2]; exact e)
  · obtain ⟨q', h1, e1⟩ := key i q hi
    rw [← e1]
    exact hD.2 i q' h1
set_option maxHeartbeats 4000000 in
set_option maxRecDepth 100000 in
theorem st_Z {G : wG} {s : State} {H : Heap} {locs : List Loc} {q : Nat × va_E} (Z : yZ G (l39 G ++ [q]) s H locs) : wZ G (c0 G) [q] (fun _ => 0) s H locs := by
  obtain ⟨h1, h2, hP, hD, hS⟩ := Z
  have hP := hP.sub (ws' := p39 G ++ [q]) [0, 1, 2, 3, 10, 35, 36, 37, 38, 11, 19, 27, 18, 26, 34, 12, 13, 14, 15, 16, 17, 20, 21, 22, 23, 24, 25, 28, 29, 30, 31, 32, 33, 4, 5, 6, 7, 8, 9, 39] rfl
  have hD := hD.sub (ws' := p39 G ++ [q]) [0, 1, 2, 3, 10, 35, 36, 37, 38, 11, 19, 27, 18, 26, 34, 12, 13, 14, 15, 16, 17, 20, 21, 22, 23, 24, 25, 28, 29, 30, 31, 32, 33, 4, 5, 6, 7, 8, 9, 39] (by decide) rfl
  have e4 : (p39 G ++ [q])[4]? = some (gA G 4, .inl (gC G 2, 3, .inr (.inr (.inr (.inr (va_up (va_up (va_up (fun _ => none) 0 (some (gA G 9))) 1 (some (gA G 10))) 2 (some (gA G 11)))))))) := rfl
  have hP := P_swap hP e4 (kc_eq (g := fun j => some (gA G (9 + j))) (fun j hj => by rcases (show j = 0 ∨ j = 1 ∨ j = 2 by omega) with rfl | rfl | rfl <;> rfl))
  have hD := D_swap (y := .inl (gC G 2, 3, .inr (.inr (.inr (.inr (fun j => some (gA G (9 + j)))))))) hD e4
  have e := p39_eq (G := G) (μ := [q])
  refine ⟨h1, h2.1, ?_, ?_, hS⟩
  · unfold Wl
    rw [e]
    exact hP
  · unfold Wl
    rw [e]
    exact hD
/-- nothing sent yet -/
theorem KP_0 {G : wG} : KP G (c0 G) (fun _ => []) 0 := by
  have hE : ∀ t k, t < 4 → k < 64 → sE (c0 G) t k = (-1, nI 0, nI 0) := fun t k ht hk => by
    rcases (show t = 0 ∨ t = 1 ∨ t = 2 ∨ t = 3 by omega) with rfl | rfl | rfl | rfl
    all_goals
      show (fil (fun _ => nI 0) (-1) 64 k, nI 0, nI 0) = _
      rw [fil_in hk]
  have hT : ∀ t p, t < 4 → p < 92 → sT (c0 G) t p = (-1, nI 0) := fun t p ht hp => by
    rcases (show t = 0 ∨ t = 1 ∨ t = 2 ∨ t = 3 by omega) with rfl | rfl | rfl | rfl
    all_goals
      show (fil (fun _ => nI 0) (-1) 92 p, nI 0) = _
      rw [fil_in hp]
  have h8 : ∀ r, r < 8 → cI (c0 G) 2 r = -1 ∧ cI (c0 G) 3 r = -1 := fun r hr => by
    have h9 : fil (fun _ => nI 0) (-1) 8 r = -1 := fil_in hr
    exact ⟨h9, h9⟩
  refine ⟨⟨fun i hi => ⟨Nat.zero_le _, rfl, Or.inl ⟨rfl, rfl⟩⟩, fun i j _ _ _ => Or.inl rfl⟩, fun t k ht hk => Or.inl (hE t k ht hk), fun t p ht hp => ⟨Or.inl (hT t p ht hp), fun _ => hT t p ht hp⟩, ⟨Nat.zero_le _, fun r hr => absurd hr (Nat.not_lt_zero _), fun r _ hr => h8 r hr⟩, fun i _ c hc => absurd hc List.not_mem_nil⟩
theorem Jp_0 {G : wG} : Jp (c0 G) (fun _ => []) := fun i hi => ⟨fun k hk => by
    show sE (c0 G) i k = sE (c0 G) 3 k
    rcases (show i = 0 ∨ i = 1 ∨ i = 2 by omega) with rfl | rfl | rfl <;> rfl, fun p hp => by
    show sT (c0 G) i p = sT (c0 G) 3 p
    rcases (show i = 0 ∨ i = 1 ∨ i = 2 by omega) with rfl | rfl | rfl <;> rfl⟩
theorem LI_0 {G : wG} {v : Nat} (hv : v ≤ 1) : LI G (c0 G) (va_up (va_up (va_up (fun _ => 0) 1 10) 5 7) 7 v) := by
  refine ⟨fun _ => [], 0, KP_0, rfl, rfl, (by decide : 10 ≤ 1000), fun i hi => ?_, (by decide : 7 < 8), fun i hi => ?_, hv, fun _ => ⟨rfl, Jp_0⟩, Nat.zero_le _, (by decide : 0 ≤ 8)⟩
  · rcases (show i = 0 ∨ i = 1 ∨ i = 2 by omega) with rfl | rfl | rfl <;> rfl
  · show (7 : Nat).testBit i = true
    rcases (show i = 0 ∨ i = 1 ∨ i = 2 by omega) with rfl | rfl | rfl <;> decide
