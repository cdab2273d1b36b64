/-! ===== the model's bits ===== -/
theorem bits_sum2 {k : Int} {d T : Nat} (h : (d : Int) + k * 4503599627370496 = 4607182418800017408 + T) : Int64.ofInt ((1023 - k) * 4503599627370496) + Int64.ofNat (4503599627370496 + T) - 4503599627370496 = Int64.ofNat d := by
  rw [show (4503599627370496 : Int64) = Int64.ofInt 4503599627370496 by decide, show Int64.ofNat (4503599627370496 + T) = Int64.ofInt ((4503599627370496 + T : Nat) : Int) from (Int64.ofInt_eq_ofNat).symm, show Int64.ofNat d = Int64.ofInt (d : Int) from (Int64.ofInt_eq_ofNat).symm, ← Int64.ofInt_add, ← Int64.ofInt_sub]
  congr 1
  omega
