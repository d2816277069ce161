def ushr (x y : Int32) : Int32 := (x.toUInt32 >>> (y.toUInt32 &&& Int32.toUInt32 31)).toInt32
def bc1 (x : Int32) : Int32 := x - (ushr x (nI 1) &&& 1431655765)
def bc2 (x : Int32) : Int32 := (x &&& 858993459) + (ushr x (nI 2) &&& 858993459)
def bc3 (x : Int32) : Int32 := (x + ushr x (nI 4)) &&& 252645135
def bc4 (x : Int32) : Int32 := x + ushr x (nI 8)
def bc5 (x : Int32) : Int32 := x + ushr x (nI 16)
def bitc (x : Int32) : Int32 := bc5 (bc4 (bc3 (bc2 (bc1 x)))) &&& nI 63
/-- the rows in the set u are made alike in both tables, in their order -/
def makR (σ : cS) (i j : Nat) (u : Int32) : Nat → cS
  | 0 => σ
  | r + 1 => if decide ((u >>> (nI r &&& 31)) &&& nI 1 = nI 1) = true then tkR (tkR (makR σ i j u r) i j r) j i r else makR σ i j u r
