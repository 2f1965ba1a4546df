theorem pq_0 : ∀ a, a < 16 → ∀ b, b < 256 → 0 < 256 * (16 * 0 + a) + b → pcN ((256 * (16 * 0 + a) + b) &&& (256 * (16 * 0 + a) + b - 1)) 16 + 1 = pcN (256 * (16 * 0 + a) + b) 16 := by decide +kernel
theorem pq_1 : ∀ a, a < 16 → ∀ b, b < 256 → 0 < 256 * (16 * 1 + a) + b → pcN ((256 * (16 * 1 + a) + b) &&& (256 * (16 * 1 + a) + b - 1)) 16 + 1 = pcN (256 * (16 * 1 + a) + b) 16 := by decide +kernel
theorem pq_2 : ∀ a, a < 16 → ∀ b, b < 256 → 0 < 256 * (16 * 2 + a) + b → pcN ((256 * (16 * 2 + a) + b) &&& (256 * (16 * 2 + a) + b - 1)) 16 + 1 = pcN (256 * (16 * 2 + a) + b) 16 := by decide +kernel
theorem pq_3 : ∀ a, a < 16 → ∀ b, b < 256 → 0 < 256 * (16 * 3 + a) + b → pcN ((256 * (16 * 3 + a) + b) &&& (256 * (16 * 3 + a) + b - 1)) 16 + 1 = pcN (256 * (16 * 3 + a) + b) 16 := by decide +kernel
theorem pq_4 : ∀ a, a < 16 → ∀ b, b < 256 → 0 < 256 * (16 * 4 + a) + b → pcN ((256 * (16 * 4 + a) + b) &&& (256 * (16 * 4 + a) + b - 1)) 16 + 1 = pcN (256 * (16 * 4 + a) + b) 16 := by decide +kernel
theorem pq_5 : ∀ a, a < 16 → ∀ b, b < 256 → 0 < 256 * (16 * 5 + a) + b → pcN ((256 * (16 * 5 + a) + b) &&& (256 * (16 * 5 + a) + b - 1)) 16 + 1 = pcN (256 * (16 * 5 + a) + b) 16 := by decide +kernel
theorem pq_6 : ∀ a, a < 16 → ∀ b, b < 256 → 0 < 256 * (16 * 6 + a) + b → pcN ((256 * (16 * 6 + a) + b) &&& (256 * (16 * 6 + a) + b - 1)) 16 + 1 = pcN (256 * (16 * 6 + a) + b) 16 := by decide +kernel
theorem pq_7 : ∀ a, a < 16 → ∀ b, b < 256 → 0 < 256 * (16 * 7 + a) + b → pcN ((256 * (16 * 7 + a) + b) &&& (256 * (16 * 7 + a) + b - 1)) 16 + 1 = pcN (256 * (16 * 7 + a) + b) 16 := by decide +kernel
theorem pq_8 : ∀ a, a < 16 → ∀ b, b < 256 → 0 < 256 * (16 * 8 + a) + b → pcN ((256 * (16 * 8 + a) + b) &&& (256 * (16 * 8 + a) + b - 1)) 16 + 1 = pcN (256 * (16 * 8 + a) + b) 16 := by decide +kernel
theorem pq_9 : ∀ a, a < 16 → ∀ b, b < 256 → 0 < 256 * (16 * 9 + a) + b → pcN ((256 * (16 * 9 + a) + b) &&& (256 * (16 * 9 + a) + b - 1)) 16 + 1 = pcN (256 * (16 * 9 + a) + b) 16 := by decide +kernel
theorem pq_10 : ∀ a, a < 16 → ∀ b, b < 256 → 0 < 256 * (16 * 10 + a) + b → pcN ((256 * (16 * 10 + a) + b) &&& (256 * (16 * 10 + a) + b - 1)) 16 + 1 = pcN (256 * (16 * 10 + a) + b) 16 := by decide +kernel
theorem pq_11 : ∀ a, a < 16 → ∀ b, b < 256 → 0 < 256 * (16 * 11 + a) + b → pcN ((256 * (16 * 11 + a) + b) &&& (256 * (16 * 11 + a) + b - 1)) 16 + 1 = pcN (256 * (16 * 11 + a) + b) 16 := by decide +kernel
theorem pq_12 : ∀ a, a < 16 → ∀ b, b < 256 → 0 < 256 * (16 * 12 + a) + b → pcN ((256 * (16 * 12 + a) + b) &&& (256 * (16 * 12 + a) + b - 1)) 16 + 1 = pcN (256 * (16 * 12 + a) + b) 16 := by decide +kernel
theorem pq_13 : ∀ a, a < 16 → ∀ b, b < 256 → 0 < 256 * (16 * 13 + a) + b → pcN ((256 * (16 * 13 + a) + b) &&& (256 * (16 * 13 + a) + b - 1)) 16 + 1 = pcN (256 * (16 * 13 + a) + b) 16 := by decide +kernel
theorem pq_14 : ∀ a, a < 16 → ∀ b, b < 256 → 0 < 256 * (16 * 14 + a) + b → pcN ((256 * (16 * 14 + a) + b) &&& (256 * (16 * 14 + a) + b - 1)) 16 + 1 = pcN (256 * (16 * 14 + a) + b) 16 := by decide +kernel
theorem pq_15 : ∀ a, a < 16 → ∀ b, b < 256 → 0 < 256 * (16 * 15 + a) + b → pcN ((256 * (16 * 15 + a) + b) &&& (256 * (16 * 15 + a) + b - 1)) 16 + 1 = pcN (256 * (16 * 15 + a) + b) 16 := by decide +kernel
theorem pq_eq {m : Nat} (hm : m < 65536) (h0 : 0 < m) : pcN (m &&& (m - 1)) 16 + 1 = pcN m 16 := by
  have e : 256 * (m / 256) + m % 256 = m := by omega
  have hb : m % 256 < 256 := Nat.mod_lt _ (by decide)
  rcases (by omega : m / 4096 = 0 ∨ m / 4096 = 1 ∨ m / 4096 = 2 ∨ m / 4096 = 3 ∨ m / 4096 = 4 ∨ m / 4096 = 5 ∨ m / 4096 = 6 ∨ m / 4096 = 7 ∨ m / 4096 = 8 ∨ m / 4096 = 9 ∨ m / 4096 = 10 ∨ m / 4096 = 11 ∨ m / 4096 = 12 ∨ m / 4096 = 13 ∨ m / 4096 = 14 ∨ m / 4096 = 15) with h | h | h | h | h | h | h | h | h | h | h | h | h | h | h | h
  · have q := pq_0 (m / 256 - 16 * 0) (by omega) (m % 256) hb
    rw [show 256 * (16 * 0 + (m / 256 - 16 * 0)) + m % 256 = m from by omega] at q
    exact q h0
  · have q := pq_1 (m / 256 - 16 * 1) (by omega) (m % 256) hb
    rw [show 256 * (16 * 1 + (m / 256 - 16 * 1)) + m % 256 = m from by omega] at q
    exact q h0
  · have q := pq_2 (m / 256 - 16 * 2) (by omega) (m % 256) hb
    rw [show 256 * (16 * 2 + (m / 256 - 16 * 2)) + m % 256 = m from by omega] at q
    exact q h0
  · have q := pq_3 (m / 256 - 16 * 3) (by omega) (m % 256) hb
    rw [show 256 * (16 * 3 + (m / 256 - 16 * 3)) + m % 256 = m from by omega] at q
    exact q h0
  · have q := pq_4 (m / 256 - 16 * 4) (by omega) (m % 256) hb
    rw [show 256 * (16 * 4 + (m / 256 - 16 * 4)) + m % 256 = m from by omega] at q
    exact q h0
  · have q := pq_5 (m / 256 - 16 * 5) (by omega) (m % 256) hb
    rw [show 256 * (16 * 5 + (m / 256 - 16 * 5)) + m % 256 = m from by omega] at q
    exact q h0
  · have q := pq_6 (m / 256 - 16 * 6) (by omega) (m % 256) hb
    rw [show 256 * (16 * 6 + (m / 256 - 16 * 6)) + m % 256 = m from by omega] at q
    exact q h0
  · have q := pq_7 (m / 256 - 16 * 7) (by omega) (m % 256) hb
    rw [show 256 * (16 * 7 + (m / 256 - 16 * 7)) + m % 256 = m from by omega] at q
    exact q h0
  · have q := pq_8 (m / 256 - 16 * 8) (by omega) (m % 256) hb
    rw [show 256 * (16 * 8 + (m / 256 - 16 * 8)) + m % 256 = m from by omega] at q
    exact q h0
  · have q := pq_9 (m / 256 - 16 * 9) (by omega) (m % 256) hb
    rw [show 256 * (16 * 9 + (m / 256 - 16 * 9)) + m % 256 = m from by omega] at q
    exact q h0
  · have q := pq_10 (m / 256 - 16 * 10) (by omega) (m % 256) hb
    rw [show 256 * (16 * 10 + (m / 256 - 16 * 10)) + m % 256 = m from by omega] at q
    exact q h0
  · have q := pq_11 (m / 256 - 16 * 11) (by omega) (m % 256) hb
    rw [show 256 * (16 * 11 + (m / 256 - 16 * 11)) + m % 256 = m from by omega] at q
    exact q h0
  · have q := pq_12 (m / 256 - 16 * 12) (by omega) (m % 256) hb
    rw [show 256 * (16 * 12 + (m / 256 - 16 * 12)) + m % 256 = m from by omega] at q
    exact q h0
  · have q := pq_13 (m / 256 - 16 * 13) (by omega) (m % 256) hb
    rw [show 256 * (16 * 13 + (m / 256 - 16 * 13)) + m % 256 = m from by omega] at q
    exact q h0
  · have q := pq_14 (m / 256 - 16 * 14) (by omega) (m % 256) hb
    rw [show 256 * (16 * 14 + (m / 256 - 16 * 14)) + m % 256 = m from by omega] at q
    exact q h0
  · have q := pq_15 (m / 256 - 16 * 15) (by omega) (m % 256) hb
    rw [show 256 * (16 * 15 + (m / 256 - 16 * 15)) + m % 256 = m from by omega] at q
    exact q h0
