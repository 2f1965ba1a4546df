/-- the count of bits as the library reckons it, on numbers -/
def bc1 (m : Nat) : Nat := m - (m >>> 1 &&& 1431655765)
def bc2 (m : Nat) : Nat := (m &&& 858993459) + (m >>> 2 &&& 858993459)
def bc3 (m : Nat) : Nat := (m + m >>> 4) &&& 252645135
def bc4 (m : Nat) : Nat := m + m >>> 8
def bc5 (m : Nat) : Nat := m + m >>> 16
def bcN (m : Nat) : Nat := bc5 (bc4 (bc3 (bc2 (bc1 m)))) &&& 63
def pcN (m : Nat) : Nat → Nat
  | 0 => 0
  | k + 1 => pcN m k + (m >>> k &&& 1)
theorem bc_0 : ∀ a, a < 16 → ∀ b, b < 256 → bcN (256 * (16 * 0 + a) + b) = pcN (256 * (16 * 0 + a) + b) 16 := by decide +kernel
theorem bc_1 : ∀ a, a < 16 → ∀ b, b < 256 → bcN (256 * (16 * 1 + a) + b) = pcN (256 * (16 * 1 + a) + b) 16 := by decide +kernel
theorem bc_2 : ∀ a, a < 16 → ∀ b, b < 256 → bcN (256 * (16 * 2 + a) + b) = pcN (256 * (16 * 2 + a) + b) 16 := by decide +kernel
theorem bc_3 : ∀ a, a < 16 → ∀ b, b < 256 → bcN (256 * (16 * 3 + a) + b) = pcN (256 * (16 * 3 + a) + b) 16 := by decide +kernel
theorem bc_4 : ∀ a, a < 16 → ∀ b, b < 256 → bcN (256 * (16 * 4 + a) + b) = pcN (256 * (16 * 4 + a) + b) 16 := by decide +kernel
theorem bc_5 : ∀ a, a < 16 → ∀ b, b < 256 → bcN (256 * (16 * 5 + a) + b) = pcN (256 * (16 * 5 + a) + b) 16 := by decide +kernel
theorem bc_6 : ∀ a, a < 16 → ∀ b, b < 256 → bcN (256 * (16 * 6 + a) + b) = pcN (256 * (16 * 6 + a) + b) 16 := by decide +kernel
theorem bc_7 : ∀ a, a < 16 → ∀ b, b < 256 → bcN (256 * (16 * 7 + a) + b) = pcN (256 * (16 * 7 + a) + b) 16 := by decide +kernel
theorem bc_8 : ∀ a, a < 16 → ∀ b, b < 256 → bcN (256 * (16 * 8 + a) + b) = pcN (256 * (16 * 8 + a) + b) 16 := by decide +kernel
theorem bc_9 : ∀ a, a < 16 → ∀ b, b < 256 → bcN (256 * (16 * 9 + a) + b) = pcN (256 * (16 * 9 + a) + b) 16 := by decide +kernel
theorem bc_10 : ∀ a, a < 16 → ∀ b, b < 256 → bcN (256 * (16 * 10 + a) + b) = pcN (256 * (16 * 10 + a) + b) 16 := by decide +kernel
theorem bc_11 : ∀ a, a < 16 → ∀ b, b < 256 → bcN (256 * (16 * 11 + a) + b) = pcN (256 * (16 * 11 + a) + b) 16 := by decide +kernel
theorem bc_12 : ∀ a, a < 16 → ∀ b, b < 256 → bcN (256 * (16 * 12 + a) + b) = pcN (256 * (16 * 12 + a) + b) 16 := by decide +kernel
theorem bc_13 : ∀ a, a < 16 → ∀ b, b < 256 → bcN (256 * (16 * 13 + a) + b) = pcN (256 * (16 * 13 + a) + b) 16 := by decide +kernel
theorem bc_14 : ∀ a, a < 16 → ∀ b, b < 256 → bcN (256 * (16 * 14 + a) + b) = pcN (256 * (16 * 14 + a) + b) 16 := by decide +kernel
theorem bc_15 : ∀ a, a < 16 → ∀ b, b < 256 → bcN (256 * (16 * 15 + a) + b) = pcN (256 * (16 * 15 + a) + b) 16 := by decide +kernel

