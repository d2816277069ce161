section RGN
variable {σ : cS} {a b i : Nat}
theorem rg_hit (hi : i < 8) (h : rgh σ a b i = true) : rg σ a b (8 - i) i = i := by
  obtain ⟨n, hn⟩ : ∃ n, 8 - i = n + 1 := ⟨7 - i, by omega⟩
  rw [hn]; simp [rg, h]
theorem rg_step (hi : i < 8) (h : rgh σ a b i = false) : rg σ a b (8 - (i + 1)) (i + 1) = rg σ a b (8 - i) i := by
  have hn : 8 - i = (8 - (i + 1)) + 1 := by omega
  rw [hn]; simp [rg, h]
theorem rgA (hi : i < 8) (hg : rg σ a b (8 - i) i = rgi σ a b) (h : cI σ 2 i = -1) : rgR σ a b = nI i ∧ rgS σ a b = w1 (w1 σ 2 i (nI a)) 3 i (nI b) := by
  have e : rgi σ a b = i := by rw [← hg]; exact rg_hit hi (by simp [rgh, h])
  unfold rgR rgS
  rw [e]; exact ⟨if_pos hi, if_pos ⟨hi, h⟩⟩
theorem rgB (hi : i < 8) (hg : rg σ a b (8 - i) i = rgi σ a b) (h0 : ¬ cI σ 2 i = -1) (h1 : cI σ 2 i = nI a) (h2 : cI σ 3 i = nI b) : rgR σ a b = nI i ∧ rgS σ a b = σ := by
  have e : rgi σ a b = i := by rw [← hg]; exact rg_hit hi (by simp [rgh, h1, h2])
  unfold rgR rgS
  rw [e]; exact ⟨if_pos hi, if_neg (fun z => h0 z.2)⟩
theorem rgC (hi : ¬ i < 8) (hi2 : i ≤ 8) (hg : rg σ a b (8 - i) i = rgi σ a b) : rgR σ a b = -1 ∧ rgS σ a b = σ := by
  have e : rgi σ a b = 8 := by
    rw [← hg, show i = 8 from by omega]; rfl
  unfold rgR rgS
  rw [e]; exact ⟨if_neg (by decide), if_neg (fun z => absurd z.1 (by decide))⟩
theorem rgN (hi : i < 8) (hg : rg σ a b (8 - i) i = rgi σ a b) (h0 : ¬ cI σ 2 i = -1) (h1 : ¬ (cI σ 2 i = nI a ∧ cI σ 3 i = nI b)) : rg σ a b (8 - (i + 1)) (i + 1) = rgi σ a b := by
  rw [rg_step hi (by simp [rgh, h0]; exact fun q r => h1 ⟨q, r⟩), hg]
end RGN
