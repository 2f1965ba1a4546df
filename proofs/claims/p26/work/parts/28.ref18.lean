theorem nI_nn {k : Nat} (h : k < 2 ^ 31) : 0 ≤ nI k := by
  rw [Int32.le_iff_toInt_le, nI_toInt h]
  show (0 : Int) ≤ ((k : Nat) : Int)
  omega
