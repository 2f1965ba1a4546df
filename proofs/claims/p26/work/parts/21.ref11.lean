theorem zsw (x : Int32) (h : Nat) (hh : h < 2 ^ 31) : (x.toInt < 0 ∨ (h : Int) < x.toInt) ∨ ∃ k, k ≤ h ∧ x = nI k := by
  by_cases h0 : x < 0
  · exact Or.inl (Or.inl (by have := Int32.lt_iff_toInt_lt.mp h0; simpa using this))
  · obtain ⟨j, hj, rfl⟩ := nI_of h0
    by_cases h1 : j ≤ h
    · exact Or.inr ⟨j, h1, rfl⟩
    · exact Or.inl (Or.inr (by rw [nI_toInt hj]; omega))
