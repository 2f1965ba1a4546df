def zPfx (tx : Nat → Int32) (ty i w : Nat) : Prop := i + zLen.getD w 0 ≤ ty ∧ ∀ j, j < zLen.getD w 0 → tx (i + j) = zLtr w j
def zAcc (tx : Nat → Int32) : Nat → Nat → Int64 → Int64
  | 0, _, a => a
  | k + 1, i, a => zAcc tx k (i + 1) (a * 256 + (tx i).toInt64)
def zAcI (tx : Nat → Int32) : Nat → Nat → Int → Int
  | 0, _, a => a
  | k + 1, i, a => zAcI tx k (i + 1) (a * 256 + (tx i).toInt)
theorem zWl_run (tx : Nat → Int32) (ty : Nat) : ∀ f i a, ∃ k, k ≤ f ∧ (zWl tx ty f i a).2 = i + k ∧ (∀ j, j < k → zAt tx ty (i + j) 97 122) ∧ (k < f → ¬ zAt tx ty (i + k) 97 122) ∧ (zWl tx ty f i a).1 = zAcc tx k i a
  | 0, iω, aω => ⟨0, Nat.le_refl _, rfl, fun jω hjω => absurd hjω (Nat.not_lt_zero _), fun hω => absurd hω (Nat.lt_irrefl 0), rfl⟩
  | fω + 1, iω, aω => by
    rw [zWl]
    by_cases hω : zAt tx ty iω 97 122
    · rw [if_pos hω]
      obtain ⟨kω, h1ω, h2ω, h3ω, h4ω, h5ω⟩ := zWl_run tx ty fω (iω + 1) (aω * 256 + (tx iω).toInt64)
      refine ⟨kω + 1, by omega, by omega, fun jω hjω => ?_, fun hkω => ?_, h5ω⟩
      · match jω, hjω with
        | 0, _ => exact hω
        | jω + 1, hjω =>
          rw [show iω + (jω + 1) = iω + 1 + jω from by omega]
          exact h3ω jω (by omega)
      · rw [show iω + (kω + 1) = iω + 1 + kω from by omega]
        exact h4ω (by omega)
    · rw [if_neg hω]
      exact ⟨0, Nat.zero_le _, rfl, fun jω hjω => absurd hjω (Nat.not_lt_zero _), fun _ => hω, rfl⟩
theorem zAt_b {tx : Nat → Int32} {ty i : Nat} (h : zAt tx ty i 97 122) : i < ty ∧ 97 ≤ (tx i).toInt ∧ (tx i).toInt ≤ 122 := ⟨h.1, Int32.le_iff_toInt_le.mp h.2.1, Int32.le_iff_toInt_le.mp h.2.2⟩
theorem l64 {a : Int64} {c : Int32} (h0 : 0 ≤ a.toInt) (h1 : a.toInt < 281474976710656) (c0 : 0 ≤ c.toInt) (c1 : c.toInt ≤ 127) : (a * 256 + c.toInt64).toInt = a.toInt * 256 + c.toInt := by
  have eω : (256 : Int64).toInt = 256 := rfl
  have ecω : c.toInt64.toInt = c.toInt := Int32.toInt_toInt64 c
  rw [Int64.toInt_add, Int64.toInt_mul, eω, ecω, Int.bmod_eq_of_le (n := a.toInt * 256) (by omega) (by omega), Int.bmod_eq_of_le (by omega) (by omega)]
theorem zAcc_I (tx : Nat → Int32) : ∀ k m i a, m + k ≤ 6 → 0 ≤ Int64.toInt a → Int64.toInt a < ((256 ^ m : Nat) : Int) → (∀ j, j < k → 97 ≤ (tx (i + j)).toInt ∧ (tx (i + j)).toInt ≤ 122) → (zAcc tx k i a).toInt = zAcI tx k i a.toInt
  | 0, _, _, _, _, _, _, _ => rfl
  | kω + 1, m, iω, aω, hmkω, h0ω, h1ω, hcω => by
    have hc0ω := hcω 0 (by omega)
    rw [Nat.add_zero] at hc0ω
    have hpω : (256 ^ m : Nat) ≤ 256 ^ 5 := Nat.pow_le_pow_right (by decide) (by omega)
    have hp2ω : (256 ^ (m + 1) : Nat) = 256 ^ m * 256 := Nat.pow_succ 256 m
    have e5ω : (256 ^ 5 : Nat) = 1099511627776 := by decide
    have eω := l64 (a := aω) (c := tx iω) h0ω (by omega) (by omega) (by omega)
    rw [zAcc, zAcI, ← eω]
    refine zAcc_I tx kω (m + 1) (iω + 1) _ (by omega) (by omega) (by rw [eω, hp2ω]; omega) (fun jω hjω => ?_)
    rw [show iω + 1 + jω = iω + (jω + 1) from by omega]
    exact hcω (jω + 1) (by omega)
theorem zFind_w {a : Int64} {w : Nat} (hw : w < 7) (h : zFind a = nI w) : zWd w = a := by
  rcases zLast_c (fun kω => zWd kω = a) (fun kω => nI kω) (-1000004) 7 with h1ω | ⟨kω, hkω, h1ω, h2ω⟩
  · have h3ω : (nI w).toInt = (-1000004 : Int32).toInt := congrArg Int32.toInt (h.symm.trans h1ω)
    rw [nI_toInt (by omega)] at h3ω
    have eω : (-1000004 : Int32).toInt = -1000004 := rfl
    omega
  · have eω := (nI_eq (a := w) (b := kω) (by omega) (by omega)).mp (h.symm.trans h1ω)
    rw [eω]
    exact h2ω
theorem zFind_d : ∀ w, w < 7 → zFind (zWd w) = nI w := by decide +kernel
theorem zWd_I : ∀ w, w < 7 → (zWd w).toInt = [1819238756, 1718185068, 26479, 495807392116, 1785686382, 478459356530, 1885434739].getD w 0 := by decide +kernel
theorem zLtr_I : ∀ w, w < 7 → ∀ j, j < 5 → (zLtr w j).toInt = ([[108, 111, 97, 100], [102, 105, 108, 108], [103, 111], [115, 112, 108, 105, 116], [106, 111, 105, 110], [111, 102, 102, 101, 114], [112, 97, 115, 115]].getD w []).getD j 0 := by decide +kernel
theorem zPfx_of {tx : Nat → Int32} {ty i w : Nat} (hw : w < 7) (h1 : i + zLen.getD w 0 ≤ ty) (h : ∀ j, j < zLen.getD w 0 → (tx (i + j)).toInt = ([[108, 111, 97, 100], [102, 105, 108, 108], [103, 111], [115, 112, 108, 105, 116], [106, 111, 105, 110], [111, 102, 102, 101, 114], [112, 97, 115, 115]].getD w []).getD j (0 : Int)) : zPfx tx ty i w := ⟨h1, fun jω hjω => Int32.toInt_inj.mp ((h jω hjω).trans (zLtr_I w hw jω (by have := zLen_5 w (by omega); omega)).symm)⟩
theorem zWl_A {tx : Nat → Int32} {ty i w : Nat} (hw : w < 7) (h : zFind (zWl tx ty 6 i 0).1 = nI w) : zPfx tx ty i w ∧ (zWl tx ty 6 i 0).2 = i + zLen.getD w 0 := by
  have hzω := zFind_w hw h
  obtain ⟨kω, h1ω, h2ω, h3ω, h4ω, h5ω⟩ := zWl_run tx ty 6 i 0
  have hbω : ∀ jω, jω < kω → i + jω < ty ∧ 97 ≤ (tx (i + jω)).toInt ∧ (tx (i + jω)).toInt ≤ 122 := fun jω hjω => zAt_b (h3ω jω hjω)
  have hIω := zAcc_I tx kω 0 i 0 (by omega) (by decide) (by decide) (fun jω hjω => (hbω jω hjω).2)
  rw [← h5ω, ← hzω, zWd_I w hw, show (0 : Int64).toInt = 0 from rfl] at hIω
  rw [h2ω]
  rcases (by omega : kω = 0 ∨ kω = 1 ∨ kω = 2 ∨ kω = 3 ∨ kω = 4 ∨ kω = 5 ∨ kω = 6) with eω | eω | eω | eω | eω | eω | eω
  · rw [eω] at hIω hbω
    simp only [zAcI, Nat.add_assoc, Nat.reduceAdd] at hIω
    rcases (by omega : w = 0 ∨ w = 1 ∨ w = 2 ∨ w = 3 ∨ w = 4 ∨ w = 5 ∨ w = 6) with ewω | ewω | ewω | ewω | ewω | ewω | ewω
    · rw [ewω] at hIω
      simp only [List.getD_cons_zero, List.getD_cons_succ] at hIω
      exfalso
      omega
    · rw [ewω] at hIω
      simp only [List.getD_cons_zero, List.getD_cons_succ] at hIω
      exfalso
      omega
    · rw [ewω] at hIω
      simp only [List.getD_cons_zero, List.getD_cons_succ] at hIω
      exfalso
      omega
    · rw [ewω] at hIω
      simp only [List.getD_cons_zero, List.getD_cons_succ] at hIω
      exfalso
      omega
    · rw [ewω] at hIω
      simp only [List.getD_cons_zero, List.getD_cons_succ] at hIω
      exfalso
      omega
    · rw [ewω] at hIω
      simp only [List.getD_cons_zero, List.getD_cons_succ] at hIω
      exfalso
      omega
    · rw [ewω] at hIω
      simp only [List.getD_cons_zero, List.getD_cons_succ] at hIω
      exfalso
      omega
  · rw [eω] at hIω hbω
    have b0ω := hbω 0 (by decide)
    simp only [zAcI, Nat.add_assoc, Nat.reduceAdd] at hIω
    try simp only [Nat.add_zero] at b0ω
    rcases (by omega : w = 0 ∨ w = 1 ∨ w = 2 ∨ w = 3 ∨ w = 4 ∨ w = 5 ∨ w = 6) with ewω | ewω | ewω | ewω | ewω | ewω | ewω
    · rw [ewω] at hIω
      simp only [List.getD_cons_zero, List.getD_cons_succ] at hIω
      exfalso
      omega
    · rw [ewω] at hIω
      simp only [List.getD_cons_zero, List.getD_cons_succ] at hIω
      exfalso
      omega
    · rw [ewω] at hIω
      simp only [List.getD_cons_zero, List.getD_cons_succ] at hIω
      exfalso
      omega
    · rw [ewω] at hIω
      simp only [List.getD_cons_zero, List.getD_cons_succ] at hIω
      exfalso
      omega
    · rw [ewω] at hIω
      simp only [List.getD_cons_zero, List.getD_cons_succ] at hIω
      exfalso
      omega
    · rw [ewω] at hIω
      simp only [List.getD_cons_zero, List.getD_cons_succ] at hIω
      exfalso
      omega
    · rw [ewω] at hIω
      simp only [List.getD_cons_zero, List.getD_cons_succ] at hIω
      exfalso
      omega
  · rw [eω] at hIω hbω
    have b0ω := hbω 0 (by decide)
    have b1ω := hbω 1 (by decide)
    simp only [zAcI, Nat.add_assoc, Nat.reduceAdd] at hIω
    try simp only [Nat.add_zero] at b0ω
    rcases (by omega : w = 0 ∨ w = 1 ∨ w = 2 ∨ w = 3 ∨ w = 4 ∨ w = 5 ∨ w = 6) with ewω | ewω | ewω | ewω | ewω | ewω | ewω
    · rw [ewω] at hIω
      simp only [List.getD_cons_zero, List.getD_cons_succ] at hIω
      exfalso
      omega
    · rw [ewω] at hIω
      simp only [List.getD_cons_zero, List.getD_cons_succ] at hIω
      exfalso
      omega
    · rw [ewω] at hIω ⊢
      simp only [List.getD_cons_zero, List.getD_cons_succ] at hIω
      refine ⟨zPfx_of (by decide) (by show i + 2 ≤ ty; omega) (fun jω hjω => ?_), by rw [eω]; rfl⟩
      have hj2ω : jω < 2 := hjω
      rcases (by omega : jω = 0 ∨ jω = 1) with hj9ω | hj9ω
      · rw [hj9ω]
        show (tx (i + 0)).toInt = 103
        simp only [Nat.add_zero]
        omega
      · rw [hj9ω]
        show (tx (i + 1)).toInt = 111
        omega
    · rw [ewω] at hIω
      simp only [List.getD_cons_zero, List.getD_cons_succ] at hIω
      exfalso
      omega
    · rw [ewω] at hIω
      simp only [List.getD_cons_zero, List.getD_cons_succ] at hIω
      exfalso
      omega
    · rw [ewω] at hIω
      simp only [List.getD_cons_zero, List.getD_cons_succ] at hIω
      exfalso
      omega
    · rw [ewω] at hIω
      simp only [List.getD_cons_zero, List.getD_cons_succ] at hIω
      exfalso
      omega
  · rw [eω] at hIω hbω
    have b0ω := hbω 0 (by decide)
    have b1ω := hbω 1 (by decide)
    have b2ω := hbω 2 (by decide)
    simp only [zAcI, Nat.add_assoc, Nat.reduceAdd] at hIω
    try simp only [Nat.add_zero] at b0ω
    rcases (by omega : w = 0 ∨ w = 1 ∨ w = 2 ∨ w = 3 ∨ w = 4 ∨ w = 5 ∨ w = 6) with ewω | ewω | ewω | ewω | ewω | ewω | ewω
    · rw [ewω] at hIω
      simp only [List.getD_cons_zero, List.getD_cons_succ] at hIω
      exfalso
      omega
    · rw [ewω] at hIω
      simp only [List.getD_cons_zero, List.getD_cons_succ] at hIω
      exfalso
      omega
    · rw [ewω] at hIω
      simp only [List.getD_cons_zero, List.getD_cons_succ] at hIω
      exfalso
      omega
    · rw [ewω] at hIω
      simp only [List.getD_cons_zero, List.getD_cons_succ] at hIω
      exfalso
      omega
    · rw [ewω] at hIω
      simp only [List.getD_cons_zero, List.getD_cons_succ] at hIω
      exfalso
      omega
    · rw [ewω] at hIω
      simp only [List.getD_cons_zero, List.getD_cons_succ] at hIω
      exfalso
      omega
    · rw [ewω] at hIω
      simp only [List.getD_cons_zero, List.getD_cons_succ] at hIω
      exfalso
      omega
  · rw [eω] at hIω hbω
    have b0ω := hbω 0 (by decide)
    have b1ω := hbω 1 (by decide)
    have b2ω := hbω 2 (by decide)
    have b3ω := hbω 3 (by decide)
    simp only [zAcI, Nat.add_assoc, Nat.reduceAdd] at hIω
    try simp only [Nat.add_zero] at b0ω
    rcases (by omega : w = 0 ∨ w = 1 ∨ w = 2 ∨ w = 3 ∨ w = 4 ∨ w = 5 ∨ w = 6) with ewω | ewω | ewω | ewω | ewω | ewω | ewω
    · rw [ewω] at hIω ⊢
      simp only [List.getD_cons_zero, List.getD_cons_succ] at hIω
      refine ⟨zPfx_of (by decide) (by show i + 4 ≤ ty; omega) (fun jω hjω => ?_), by rw [eω]; rfl⟩
      have hj2ω : jω < 4 := hjω
      rcases (by omega : jω = 0 ∨ jω = 1 ∨ jω = 2 ∨ jω = 3) with hj9ω | hj9ω | hj9ω | hj9ω
      · rw [hj9ω]
        show (tx (i + 0)).toInt = 108
        simp only [Nat.add_zero]
        omega
      · rw [hj9ω]
        show (tx (i + 1)).toInt = 111
        omega
      · rw [hj9ω]
        show (tx (i + 2)).toInt = 97
        omega
      · rw [hj9ω]
        show (tx (i + 3)).toInt = 100
        omega
    · rw [ewω] at hIω ⊢
      simp only [List.getD_cons_zero, List.getD_cons_succ] at hIω
      refine ⟨zPfx_of (by decide) (by show i + 4 ≤ ty; omega) (fun jω hjω => ?_), by rw [eω]; rfl⟩
      have hj2ω : jω < 4 := hjω
      rcases (by omega : jω = 0 ∨ jω = 1 ∨ jω = 2 ∨ jω = 3) with hj9ω | hj9ω | hj9ω | hj9ω
      · rw [hj9ω]
        show (tx (i + 0)).toInt = 102
        simp only [Nat.add_zero]
        omega
      · rw [hj9ω]
        show (tx (i + 1)).toInt = 105
        omega
      · rw [hj9ω]
        show (tx (i + 2)).toInt = 108
        omega
      · rw [hj9ω]
        show (tx (i + 3)).toInt = 108
        omega
    · rw [ewω] at hIω
      simp only [List.getD_cons_zero, List.getD_cons_succ] at hIω
      exfalso
      omega
    · rw [ewω] at hIω
      simp only [List.getD_cons_zero, List.getD_cons_succ] at hIω
      exfalso
      omega
    · rw [ewω] at hIω ⊢
      simp only [List.getD_cons_zero, List.getD_cons_succ] at hIω
      refine ⟨zPfx_of (by decide) (by show i + 4 ≤ ty; omega) (fun jω hjω => ?_), by rw [eω]; rfl⟩
      have hj2ω : jω < 4 := hjω
      rcases (by omega : jω = 0 ∨ jω = 1 ∨ jω = 2 ∨ jω = 3) with hj9ω | hj9ω | hj9ω | hj9ω
      · rw [hj9ω]
        show (tx (i + 0)).toInt = 106
        simp only [Nat.add_zero]
        omega
      · rw [hj9ω]
        show (tx (i + 1)).toInt = 111
        omega
      · rw [hj9ω]
        show (tx (i + 2)).toInt = 105
        omega
      · rw [hj9ω]
        show (tx (i + 3)).toInt = 110
        omega
    · rw [ewω] at hIω
      simp only [List.getD_cons_zero, List.getD_cons_succ] at hIω
      exfalso
      omega
    · rw [ewω] at hIω ⊢
      simp only [List.getD_cons_zero, List.getD_cons_succ] at hIω
      refine ⟨zPfx_of (by decide) (by show i + 4 ≤ ty; omega) (fun jω hjω => ?_), by rw [eω]; rfl⟩
      have hj2ω : jω < 4 := hjω
      rcases (by omega : jω = 0 ∨ jω = 1 ∨ jω = 2 ∨ jω = 3) with hj9ω | hj9ω | hj9ω | hj9ω
      · rw [hj9ω]
        show (tx (i + 0)).toInt = 112
        simp only [Nat.add_zero]
        omega
      · rw [hj9ω]
        show (tx (i + 1)).toInt = 97
        omega
      · rw [hj9ω]
        show (tx (i + 2)).toInt = 115
        omega
      · rw [hj9ω]
        show (tx (i + 3)).toInt = 115
        omega
  · rw [eω] at hIω hbω
    have b0ω := hbω 0 (by decide)
    have b1ω := hbω 1 (by decide)
    have b2ω := hbω 2 (by decide)
    have b3ω := hbω 3 (by decide)
    have b4ω := hbω 4 (by decide)
    simp only [zAcI, Nat.add_assoc, Nat.reduceAdd] at hIω
    try simp only [Nat.add_zero] at b0ω
    rcases (by omega : w = 0 ∨ w = 1 ∨ w = 2 ∨ w = 3 ∨ w = 4 ∨ w = 5 ∨ w = 6) with ewω | ewω | ewω | ewω | ewω | ewω | ewω
    · rw [ewω] at hIω
      simp only [List.getD_cons_zero, List.getD_cons_succ] at hIω
      exfalso
      omega
    · rw [ewω] at hIω
      simp only [List.getD_cons_zero, List.getD_cons_succ] at hIω
      exfalso
      omega
    · rw [ewω] at hIω
      simp only [List.getD_cons_zero, List.getD_cons_succ] at hIω
      exfalso
      omega
    · rw [ewω] at hIω ⊢
      simp only [List.getD_cons_zero, List.getD_cons_succ] at hIω
      refine ⟨zPfx_of (by decide) (by show i + 5 ≤ ty; omega) (fun jω hjω => ?_), by rw [eω]; rfl⟩
      have hj2ω : jω < 5 := hjω
      rcases (by omega : jω = 0 ∨ jω = 1 ∨ jω = 2 ∨ jω = 3 ∨ jω = 4) with hj9ω | hj9ω | hj9ω | hj9ω | hj9ω
      · rw [hj9ω]
        show (tx (i + 0)).toInt = 115
        simp only [Nat.add_zero]
        omega
      · rw [hj9ω]
        show (tx (i + 1)).toInt = 112
        omega
      · rw [hj9ω]
        show (tx (i + 2)).toInt = 108
        omega
      · rw [hj9ω]
        show (tx (i + 3)).toInt = 105
        omega
      · rw [hj9ω]
        show (tx (i + 4)).toInt = 116
        omega
    · rw [ewω] at hIω
      simp only [List.getD_cons_zero, List.getD_cons_succ] at hIω
      exfalso
      omega
    · rw [ewω] at hIω ⊢
      simp only [List.getD_cons_zero, List.getD_cons_succ] at hIω
      refine ⟨zPfx_of (by decide) (by show i + 5 ≤ ty; omega) (fun jω hjω => ?_), by rw [eω]; rfl⟩
      have hj2ω : jω < 5 := hjω
      rcases (by omega : jω = 0 ∨ jω = 1 ∨ jω = 2 ∨ jω = 3 ∨ jω = 4) with hj9ω | hj9ω | hj9ω | hj9ω | hj9ω
      · rw [hj9ω]
        show (tx (i + 0)).toInt = 111
        simp only [Nat.add_zero]
        omega
      · rw [hj9ω]
        show (tx (i + 1)).toInt = 102
        omega
      · rw [hj9ω]
        show (tx (i + 2)).toInt = 102
        omega
      · rw [hj9ω]
        show (tx (i + 3)).toInt = 101
        omega
      · rw [hj9ω]
        show (tx (i + 4)).toInt = 114
        omega
    · rw [ewω] at hIω
      simp only [List.getD_cons_zero, List.getD_cons_succ] at hIω
      exfalso
      omega
  · rw [eω] at hIω hbω
    have b0ω := hbω 0 (by decide)
    have b1ω := hbω 1 (by decide)
    have b2ω := hbω 2 (by decide)
    have b3ω := hbω 3 (by decide)
    have b4ω := hbω 4 (by decide)
    have b5ω := hbω 5 (by decide)
    simp only [zAcI, Nat.add_assoc, Nat.reduceAdd] at hIω
    try simp only [Nat.add_zero] at b0ω
    rcases (by omega : w = 0 ∨ w = 1 ∨ w = 2 ∨ w = 3 ∨ w = 4 ∨ w = 5 ∨ w = 6) with ewω | ewω | ewω | ewω | ewω | ewω | ewω
    · rw [ewω] at hIω
      simp only [List.getD_cons_zero, List.getD_cons_succ] at hIω
      exfalso
      omega
    · rw [ewω] at hIω
      simp only [List.getD_cons_zero, List.getD_cons_succ] at hIω
      exfalso
      omega
    · rw [ewω] at hIω
      simp only [List.getD_cons_zero, List.getD_cons_succ] at hIω
      exfalso
      omega
    · rw [ewω] at hIω
      simp only [List.getD_cons_zero, List.getD_cons_succ] at hIω
      exfalso
      omega
    · rw [ewω] at hIω
      simp only [List.getD_cons_zero, List.getD_cons_succ] at hIω
      exfalso
      omega
    · rw [ewω] at hIω
      simp only [List.getD_cons_zero, List.getD_cons_succ] at hIω
      exfalso
      omega
    · rw [ewω] at hIω
      simp only [List.getD_cons_zero, List.getD_cons_succ] at hIω
      exfalso
      omega

theorem zLtr_b : ∀ w, w < 7 → ∀ j, j < zLen.getD w 0 → 97 ≤ zLtr w j ∧ zLtr w j ≤ 122 := by decide +kernel
theorem zWl_B {tx : Nat → Int32} {ty i w : Nat} (hw : w < 7) (h : zPfx tx ty i w) (hn : ¬ zAt tx ty (i + zLen.getD w 0) 97 122) : (zWl tx ty 6 i 0).1 = zWd w ∧ (zWl tx ty 6 i 0).2 = i + zLen.getD w 0 := by
  obtain ⟨kω, h1ω, h2ω, h3ω, h4ω, h5ω⟩ := zWl_run tx ty 6 i 0
  have h6ω := zLen_5 w (by omega)
  have hltω : ∀ jω, jω < zLen.getD w 0 → zAt tx ty (i + jω) 97 122 := fun jω hjω => by
    have eω := h.2 jω hjω
    refine ⟨by have := h.1; omega, ?_, ?_⟩
    · rw [eω]
      exact (zLtr_b w hw jω hjω).1
    · rw [eω]
      exact (zLtr_b w hw jω hjω).2
  have hkω : kω = zLen.getD w 0 := by
    rcases Nat.lt_trichotomy kω (zLen.getD w 0) with hlω | heω | hgω
    · exact absurd (hltω kω hlω) (h4ω (by omega))
    · exact heω
    · exact absurd (h3ω _ hgω) hn
  refine ⟨?_, by rw [h2ω, hkω]⟩
  rw [h5ω, hkω]
  have hpω := h.2
  clear h1ω h2ω h3ω h4ω h5ω hn hltω h6ω hkω
  rcases (by omega : w = 0 ∨ w = 1 ∨ w = 2 ∨ w = 3 ∨ w = 4 ∨ w = 5 ∨ w = 6) with ewω | ewω | ewω | ewω | ewω | ewω | ewω
  · rw [ewω] at hpω ⊢
    have p0ω : tx (i) = 108 := hpω 0 (by decide)
    have p1ω : tx (i + 1) = 111 := hpω 1 (by decide)
    have p2ω : tx (i + 1 + 1) = 97 := hpω 2 (by decide)
    have p3ω : tx (i + 1 + 1 + 1) = 100 := hpω 3 (by decide)
    show zAcc tx 4 i 0 = _
    simp only [zAcc]
    rw [p0ω, p1ω, p2ω, p3ω]
    decide +kernel
  · rw [ewω] at hpω ⊢
    have p0ω : tx (i) = 102 := hpω 0 (by decide)
    have p1ω : tx (i + 1) = 105 := hpω 1 (by decide)
    have p2ω : tx (i + 1 + 1) = 108 := hpω 2 (by decide)
    have p3ω : tx (i + 1 + 1 + 1) = 108 := hpω 3 (by decide)
    show zAcc tx 4 i 0 = _
    simp only [zAcc]
    rw [p0ω, p1ω, p2ω, p3ω]
    decide +kernel
  · rw [ewω] at hpω ⊢
    have p0ω : tx (i) = 103 := hpω 0 (by decide)
    have p1ω : tx (i + 1) = 111 := hpω 1 (by decide)
    show zAcc tx 2 i 0 = _
    simp only [zAcc]
    rw [p0ω, p1ω]
    decide +kernel
  · rw [ewω] at hpω ⊢
    have p0ω : tx (i) = 115 := hpω 0 (by decide)
    have p1ω : tx (i + 1) = 112 := hpω 1 (by decide)
    have p2ω : tx (i + 1 + 1) = 108 := hpω 2 (by decide)
    have p3ω : tx (i + 1 + 1 + 1) = 105 := hpω 3 (by decide)
    have p4ω : tx (i + 1 + 1 + 1 + 1) = 116 := hpω 4 (by decide)
    show zAcc tx 5 i 0 = _
    simp only [zAcc]
    rw [p0ω, p1ω, p2ω, p3ω, p4ω]
    decide +kernel
  · rw [ewω] at hpω ⊢
    have p0ω : tx (i) = 106 := hpω 0 (by decide)
    have p1ω : tx (i + 1) = 111 := hpω 1 (by decide)
    have p2ω : tx (i + 1 + 1) = 105 := hpω 2 (by decide)
    have p3ω : tx (i + 1 + 1 + 1) = 110 := hpω 3 (by decide)
    show zAcc tx 4 i 0 = _
    simp only [zAcc]
    rw [p0ω, p1ω, p2ω, p3ω]
    decide +kernel
  · rw [ewω] at hpω ⊢
    have p0ω : tx (i) = 111 := hpω 0 (by decide)
    have p1ω : tx (i + 1) = 102 := hpω 1 (by decide)
    have p2ω : tx (i + 1 + 1) = 102 := hpω 2 (by decide)
    have p3ω : tx (i + 1 + 1 + 1) = 101 := hpω 3 (by decide)
    have p4ω : tx (i + 1 + 1 + 1 + 1) = 114 := hpω 4 (by decide)
    show zAcc tx 5 i 0 = _
    simp only [zAcc]
    rw [p0ω, p1ω, p2ω, p3ω, p4ω]
    decide +kernel
  · rw [ewω] at hpω ⊢
    have p0ω : tx (i) = 112 := hpω 0 (by decide)
    have p1ω : tx (i + 1) = 97 := hpω 1 (by decide)
    have p2ω : tx (i + 1 + 1) = 115 := hpω 2 (by decide)
    have p3ω : tx (i + 1 + 1 + 1) = 115 := hpω 3 (by decide)
    show zAcc tx 4 i 0 = _
    simp only [zAcc]
    rw [p0ω, p1ω, p2ω, p3ω]
    decide +kernel

theorem zPfx_1 : ∀ w, w < 7 → ∀ w', w' < 7 → w ≠ w' → ∃ j, j < 5 ∧ j < zLen.getD w 0 ∧ j < zLen.getD w' 0 ∧ zLtr w j ≠ zLtr w' j := by decide +kernel
theorem zPfx_u {tx : Nat → Int32} {ty i w w' : Nat} (hw : w < 7) (hw' : w' < 7) (h : zPfx tx ty i w) (h' : zPfx tx ty i w') : w = w' := by
  by_cases he : w = w'
  · exact he
  · obtain ⟨jω, _, h1ω, h2ω, h3ω⟩ := zPfx_1 w hw w' hw' he
    exact absurd ((h.2 jω h1ω).symm.trans (h'.2 jω h2ω)) h3ω
theorem zCnt_p (w : Nat) : ∃ f, zCnt w = f + 1 := by
  unfold zCnt
  split <;> exact ⟨_, rfl⟩
theorem zArgs_no {tx : Nat → Int32} {ty k i f : Nat} {t : Nat → Int32} (h : ¬ zAt tx ty i 32 32) : zArgs tx ty (f + 1) k i t = none := if_neg (fun zω => h zω.1)
/-- the parse, from the word that stands there -/
def zRd2 (tx : Nat → Int32) (ty i w : Nat) : Option (Nat × Nat × (Nat → Int32)) := match zArgs tx ty (zCnt w) 0 (i + zLen.getD w 0) (fun _ => 0) with
  | none => none
  | some q => if zAt tx ty q.1 59 59 then some (w, q.1 + 1, q.2) else none
theorem zRd_C {tx : Nat → Int32} {ty i w : Nat} (hw : w < 7) (h : zPfx tx ty i w) : zRd tx ty i = zRd2 tx ty i w := by
  obtain ⟨fω, hfω⟩ := zCnt_p w
  by_cases hsp : zAt tx ty (i + zLen.getD w 0) 32 32
  · have hnω : ¬ zAt tx ty (i + zLen.getD w 0) 97 122 := fun zω => by
      have aω := Int32.le_iff_toInt_le.mp hsp.2.2
      have bω := Int32.le_iff_toInt_le.mp zω.2.1
      have e1ω : (32 : Int32).toInt = 32 := rfl
      have e2ω : (97 : Int32).toInt = 97 := rfl
      omega
    obtain ⟨h1ω, h2ω⟩ := zWl_B hw h hnω
    have hFω : zFind (zWl tx ty 6 i 0).1 = nI w := by rw [h1ω]; exact zFind_d w hw
    unfold zRd2
    cases ha : zArgs tx ty (zCnt w) 0 (i + zLen.getD w 0) (fun _ => 0) with
    | none => exact zRd_n hw hFω (by rw [h2ω]; exact ha)
    | some qω => exact zRd_q hw hFω (by rw [h2ω]; exact ha)
  · have hrω : zRd2 tx ty i w = none := by
      unfold zRd2
      rw [hfω, zArgs_no hsp]
    rw [hrω]
    rcases zFind_c (zWl tx ty 6 i 0).1 with h1ω | ⟨w'ω, hw'ω, h1ω⟩
    · exact zRd_e h1ω
    · obtain ⟨h2ω, h3ω⟩ := zWl_A hw'ω h1ω
      have eω := zPfx_u hw hw'ω h h2ω
      rw [← eω] at h1ω h3ω
      exact zRd_n hw h1ω (by rw [h3ω, hfω]; exact zArgs_no hsp)
theorem zRd_D {tx : Nat → Int32} {ty i : Nat} (h : ∀ w, w < 7 → ¬ zPfx tx ty i w) : zRd tx ty i = none := by
  rcases zFind_c (zWl tx ty 6 i 0).1 with h1ω | ⟨w'ω, hw'ω, h1ω⟩
  · exact zRd_e h1ω
  · exact absurd (zWl_A hw'ω h1ω).1 (h w'ω hw'ω)
