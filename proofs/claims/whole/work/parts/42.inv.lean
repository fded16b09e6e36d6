section
def lI (z : Int) : Int64 := Int64.ofInt z
theorem lI_N (n : Nat) : lN n = lI (n : Int) := Int64.toBitVec_inj.mp (by
  show BitVec.ofNat 64 n = BitVec.ofInt 64 (n : Int)
  exact (BitVec.ofInt_natCast 64 n).symm)
theorem lI_sub (a b : Int) : lI a - lI b = lI (a - b) := (Int64.ofInt_sub a b).symm
theorem lI_add (a b : Int) : lI a + lI b = lI (a + b) := (Int64.ofInt_add a b).symm
theorem lI_mul (a b : Int) : lI a * lI b = lI (a * b) := (Int64.ofInt_mul a b).symm
theorem eu_r1 (A B M r q : Nat) : B * r + (A + q * B) * M = A * M + B * (M * q + r) := by grind
theorem eu_r2 (a b q x M r : Int) : (a - q * b) * x - r = (a * x - (M * q + r)) - q * (b * x - M) := by grind
theorem eu_r3 (P u q v : Int) : P * u - q * (P * v) = P * (u - q * v) := by grind
theorem eu_r4 (a b q : Int) : b * (a - q * b) = a * b - q * (b * b) := by grind
theorem eu_r5 {P v x u : Int} (h : P * v * x - 1 = P * u) : P * (v * x - u) = 1 := by grind
end
