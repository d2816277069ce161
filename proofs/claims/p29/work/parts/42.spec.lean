/-- what a read leaves: two tables made alike for a cell, one repair more -/
def rdK (σ : cS) (i j row col : Nat) : cS := if sFn σ i j row col 11 = true then σ else cV' (tkC (tkC σ i j row col) j i row col) 6 (cV (tkC (tkC σ i j row col) j i row col) 6 + nI 1)
