/-- only consignment i differs -/
theorem hRel.setC {κ κ' : hK} {s s' : Nat → Int32} {n nv no i : Nat} (h : hRel κ s n nv no) (hi : i < n) (hκ : ∀ a j, ¬ (a = 0 ∧ j = i) → κ' a j = κ a j) (hs : ∀ q, (q < 13 + 12 * i ∨ 13 + 12 * i + 12 ≤ q) → s' q = s q) (hc : kC (κ' 0 i) (gd s' i)) : hRel κ' s' n nv no := by
  obtain ⟨h1, h2, h3, h4, h5, h6⟩ := h
  have hn := h1.2.1
  refine ⟨zN_cong h1 (hs _ (by omega)) (hs _ (by omega)) (hs _ (by omega)), ?_, fun j hj => ?_, fun j hj => ?_, fun j hj => ?_, fun j hj k hk => ?_⟩
  · rw [hκ 4 0 (by omega), hs 3 (by omega), hs 4 (by omega), hs 6 (by omega), hs 5 (by omega), hs 9 (by omega), hs 10 (by omega), hs 11 (by omega), hs 12 (by omega)]
    exact h2
  · rw [hκ 3 0 (by omega), hs j (by omega)]
    exact h3 j hj
  · by_cases hji : j = i
    · rw [hji]
      exact hc
    · rw [hκ 0 j (by omega)]
      have hg : ∀ k, k < 12 → gd s' j k = gd s j k := fun k hk => hs _ (by omega)
      have h9 := h4 j hj
      unfold kC at h9 ⊢
      rw [hg 0 (by decide), hg 1 (by decide), hg 2 (by decide), hg 3 (by decide), hg 4 (by decide), hg 5 (by decide), hg 6 (by decide), hg 7 (by decide), hg 8 (by decide), hg 9 (by decide), hg 10 (by decide), hg 11 (by decide)]
      exact h9
  · rw [hκ 1 j (by omega)]
    have hg : ∀ k, k < 8 → vd s' j k = vd s j k := fun k hk => hs _ (by omega)
    have h9 := h5 j hj
    unfold kV at h9 ⊢
    rw [hg 0 (by decide), hg 1 (by decide), hg 2 (by decide), hg 3 (by decide), hg 4 (by decide), hg 5 (by decide), hg 6 (by decide), hg 7 (by decide)]
    exact h9
  · rw [hκ 2 j (by omega)]
    exact (h6 j hj k hk).trans (hs _ (by omega)).symm
/-- only vehicle i differs -/
theorem hRel.setV {κ κ' : hK} {s s' : Nat → Int32} {n nv no i : Nat} (h : hRel κ s n nv no) (hi : i < nv) (hκ : ∀ a j, ¬ (a = 1 ∧ j = i) → κ' a j = κ a j) (hs : ∀ q, (q < 205 + 8 * i ∨ 205 + 8 * i + 8 ≤ q) → s' q = s q) (hc : kV (κ' 1 i) (vd s' i)) : hRel κ' s' n nv no := by
  obtain ⟨h1, h2, h3, h4, h5, h6⟩ := h
  have hn := h1.2.1
  have hn4 := h1.2.2.2.1
  refine ⟨zN_cong h1 (hs _ (by omega)) (hs _ (by omega)) (hs _ (by omega)), ?_, fun j hj => ?_, fun j hj => ?_, fun j hj => ?_, fun j hj k hk => ?_⟩
  · rw [hκ 4 0 (by omega), hs 3 (by omega), hs 4 (by omega), hs 6 (by omega), hs 5 (by omega), hs 9 (by omega), hs 10 (by omega), hs 11 (by omega), hs 12 (by omega)]
    exact h2
  · rw [hκ 3 0 (by omega), hs j (by omega)]
    exact h3 j hj
  · rw [hκ 0 j (by omega)]
    have hg : ∀ k, k < 12 → gd s' j k = gd s j k := fun k hk => hs _ (by omega)
    have h9 := h4 j hj
    unfold kC at h9 ⊢
    rw [hg 0 (by decide), hg 1 (by decide), hg 2 (by decide), hg 3 (by decide), hg 4 (by decide), hg 5 (by decide), hg 6 (by decide), hg 7 (by decide), hg 8 (by decide), hg 9 (by decide), hg 10 (by decide), hg 11 (by decide)]
    exact h9
  · by_cases hji : j = i
    · rw [hji]
      exact hc
    · rw [hκ 1 j (by omega)]
      have hg : ∀ k, k < 8 → vd s' j k = vd s j k := fun k hk => hs _ (by omega)
      have h9 := h5 j hj
      unfold kV at h9 ⊢
      rw [hg 0 (by decide), hg 1 (by decide), hg 2 (by decide), hg 3 (by decide), hg 4 (by decide), hg 5 (by decide), hg 6 (by decide), hg 7 (by decide)]
      exact h9
  · rw [hκ 2 j (by omega)]
    exact (h6 j hj k hk).trans (hs _ (by omega)).symm
/-- a vehicle more -/
theorem hRel.addV {κ κ' : hK} {s s' : Nat → Int32} {n nv no : Nat} (h : hRel κ s n nv no) (hi : nv < 4) (hκ : ∀ a j, ¬ (a = 1 ∧ j = nv) → a ≠ 4 → κ' a j = κ a j) (hκ4 : κ' 4 0 = upd (κ 4 0) 5 (nI (nv + 1))) (hs : ∀ q, q ≠ 4 → (q < 205 + 8 * nv ∨ 205 + 8 * nv + 8 ≤ q) → s' q = s q) (hs4 : s' 4 = nI (nv + 1)) (hc : kV (κ' 1 nv) (vd s' nv)) : hRel κ' s' n (nv + 1) no := by
  obtain ⟨h1, h2, h3, h4, h5, h6⟩ := h
  have hn := h1.2.1
  refine ⟨⟨(hs _ (by omega) (by omega)).trans h1.1, hn, hs4, by omega, (hs _ (by omega) (by omega)).trans h1.2.2.2.2.1, h1.2.2.2.2.2⟩, ?_, fun j hj => ?_, fun j hj => ?_, fun j hj => ?_, fun j hj k hk => ?_⟩
  · rw [hκ4, hs4, hs 3 (by omega) (by omega), hs 6 (by omega) (by omega), hs 5 (by omega) (by omega), hs 9 (by omega) (by omega), hs 10 (by omega) (by omega), hs 11 (by omega) (by omega), hs 12 (by omega) (by omega)]
    exact ⟨h2.1, rfl, h2.2.2⟩
  · rw [hκ 3 0 (by omega) (by omega), hs j (by omega) (by omega)]
    exact h3 j hj
  · rw [hκ 0 j (by omega) (by omega)]
    have hg : ∀ k, k < 12 → gd s' j k = gd s j k := fun k hk => hs _ (by omega) (by omega)
    have h9 := h4 j hj
    unfold kC at h9 ⊢
    rw [hg 0 (by decide), hg 1 (by decide), hg 2 (by decide), hg 3 (by decide), hg 4 (by decide), hg 5 (by decide), hg 6 (by decide), hg 7 (by decide), hg 8 (by decide), hg 9 (by decide), hg 10 (by decide), hg 11 (by decide)]
    exact h9
  · by_cases hji : j = nv
    · rw [hji]
      exact hc
    · rw [hκ 1 j (by omega) (by omega)]
      have hg : ∀ k, k < 8 → vd s' j k = vd s j k := fun k hk => hs _ (by omega) (by omega)
      have h9 := h5 j (by omega)
      unfold kV at h9 ⊢
      rw [hg 0 (by decide), hg 1 (by decide), hg 2 (by decide), hg 3 (by decide), hg 4 (by decide), hg 5 (by decide), hg 6 (by decide), hg 7 (by decide)]
      exact h9
  · rw [hκ 2 j (by omega) (by omega)]
    exact (h6 j hj k hk).trans (hs _ (by omega) (by omega)).symm
/-- an offer more -/
theorem hRel.addO {κ κ' : hK} {s s' : Nat → Int32} {n nv no : Nat} (h : hRel κ s n nv no) (hi : no < 10) (hκ : ∀ a j, ¬ (a = 2 ∧ j = no) → a ≠ 4 → κ' a j = κ a j) (hκ4 : κ' 4 0 = upd (κ 4 0) 6 (nI (no + 1))) (hs : ∀ q, q ≠ 6 → (q < 237 + 5 * no ∨ 237 + 5 * no + 5 ≤ q) → s' q = s q) (hs4 : s' 6 = nI (no + 1)) (hc : ∀ k, k < 5 → κ' 2 no k = od s' no k) : hRel κ' s' n nv (no + 1) := by
  obtain ⟨h1, h2, h3, h4, h5, h6⟩ := h
  have hn := h1.2.1
  have hn4 := h1.2.2.2.1
  refine ⟨⟨(hs _ (by omega) (by omega)).trans h1.1, hn, (hs _ (by omega) (by omega)).trans h1.2.2.1, hn4, hs4, by omega⟩, ?_, fun j hj => ?_, fun j hj => ?_, fun j hj => ?_, fun j hj k hk => ?_⟩
  · rw [hκ4, hs4, hs 3 (by omega) (by omega), hs 4 (by omega) (by omega), hs 5 (by omega) (by omega), hs 9 (by omega) (by omega), hs 10 (by omega) (by omega), hs 11 (by omega) (by omega), hs 12 (by omega) (by omega)]
    exact ⟨h2.1, h2.2.1, rfl, h2.2.2.2⟩
  · rw [hκ 3 0 (by omega) (by omega), hs j (by omega) (by omega)]
    exact h3 j hj
  · rw [hκ 0 j (by omega) (by omega)]
    have hg : ∀ k, k < 12 → gd s' j k = gd s j k := fun k hk => hs _ (by omega) (by omega)
    have h9 := h4 j hj
    unfold kC at h9 ⊢
    rw [hg 0 (by decide), hg 1 (by decide), hg 2 (by decide), hg 3 (by decide), hg 4 (by decide), hg 5 (by decide), hg 6 (by decide), hg 7 (by decide), hg 8 (by decide), hg 9 (by decide), hg 10 (by decide), hg 11 (by decide)]
    exact h9
  · rw [hκ 1 j (by omega) (by omega)]
    have hg : ∀ k, k < 8 → vd s' j k = vd s j k := fun k hk => hs _ (by omega) (by omega)
    have h9 := h5 j (by omega)
    unfold kV at h9 ⊢
    rw [hg 0 (by decide), hg 1 (by decide), hg 2 (by decide), hg 3 (by decide), hg 4 (by decide), hg 5 (by decide), hg 6 (by decide), hg 7 (by decide)]
    exact h9
  · by_cases hji : j = no
    · rw [hji]
      exact hc k hk
    · rw [hκ 2 j (by omega) (by omega)]
      exact (h6 j (by omega) k hk).trans (hs _ (by omega) (by omega)).symm

