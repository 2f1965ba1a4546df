/-! what the reference's row of numbers says: goods by twelve from 13 on, vehicles by eight from 205 on, offers by five from 237 on -/
def gd (s : Nat → Int32) (c k : Nat) : Int32 := s (13 + 12 * c + k)
def vd (s : Nat → Int32) (v k : Nat) : Int32 := s (205 + 8 * v + k)
def od (s : Nat → Int32) (o k : Nat) : Int32 := s (237 + 5 * o + k)
def pg (s : Nat → Int32) (c k : Nat) (x : Int32) : Nat → Int32 := upd s (13 + 12 * c + k) x
def pv (s : Nat → Int32) (v k : Nat) (x : Int32) : Nat → Int32 := upd s (205 + 8 * v + k) x
def b2 (p : Prop) [Decidable p] : Int32 := if p then 1 else 0
theorem b2_t {p : Prop} [Decidable p] (h : p) : (1 : Int32) = b2 p := (if_pos h).symm
theorem b2_f {p : Prop} [Decidable p] (h : ¬ p) : (0 : Int32) = b2 p := (if_neg h).symm
theorem b2_0 {p : Prop} [Decidable p] : b2 p = 0 ↔ ¬ p := by
  unfold b2
  split <;> simp_all
theorem b2_01 {p : Prop} [Decidable p] : b2 p = 0 ∨ b2 p = 1 := by
  unfold b2
  split
  · exact Or.inr rfl
  · exact Or.inl rfl
theorem b2_nar {p : Prop} [Decidable p] : narrow .boolean (.int (b2 p)) = .int (b2 p) := by
  unfold b2
  split <;> rfl
/-- how many goods, vehicles, offers there are -/
def zN (s : Nat → Int32) (n nv no : Nat) : Prop := s 3 = nI n ∧ n ≤ 16 ∧ s 4 = nI nv ∧ nv ≤ 4 ∧ s 6 = nI no ∧ no ≤ 10
def zWin (v a b : Int32) : Prop := a ≤ v ∧ v ≤ b
theorem i_nle {a b : Int32} (h : ¬ a ≤ b) : b < a := Int32.not_le.mp h
theorem i_nlt {a b : Int32} (h : ¬ a < b) : b ≤ a := Int32.not_lt.mp h
theorem i_lt_n {a b : Int32} (h : a < b) : ¬ b ≤ a := Int32.not_le.mpr h
/-- a number below nI n that isn't negative -/
theorem i_nat {x : Int32} {n : Nat} (hn : n < 2 ^ 31) (h0 : ¬ x < 0) (h1 : ¬ nI n ≤ x) : ∃ j, j < n ∧ x = nI j := by
  rcases pk_ix x hn with h | h | h
  · exact absurd h h0
  · exact absurd h h1
  · exact h

abbrev zGoods (s : Nat → Int32) (c : Int32) : Prop := ¬ c < 0 ∧ ¬ s 3 ≤ c ∧ ¬ gd s c.toNatClampNeg 6 = 5
abbrev zVeh (s : Nat → Int32) (v : Int32) : Prop := ¬ v < 0 ∧ ¬ s 4 ≤ v
theorem zGoods_nat {s : Nat → Int32} {c : Int32} {n nv no : Nat} (hN : zN s n nv no) (h0 : ¬ c < 0) (h1 : ¬ s 3 ≤ c) : ∃ jz, jz < n ∧ c = nI jz := i_nat (by have := hN.2.1; omega) h0 (by rw [← hN.1]; exact h1)
theorem zVeh_nat {s : Nat → Int32} {c : Int32} {n nv no : Nat} (hN : zN s n nv no) (h0 : ¬ c < 0) (h1 : ¬ s 4 ≤ c) : ∃ jz, jz < nv ∧ c = nI jz := i_nat (by have := hN.2.2.2.1; omega) h0 (by rw [← hN.2.2.1]; exact h1)
theorem zGoods_in {s : Nat → Int32} {c : Int32} {n nv no : Nat} (hN : zN s n nv no) (h : zGoods s c) : ∃ jz, jz < n ∧ c = nI jz ∧ ¬ gd s jz 6 = 5 := by
  obtain ⟨jz, h1, rfl⟩ := zGoods_nat hN h.1 h.2.1
  have := hN.2.1
  have h3 := h.2.2
  rw [nI_clamp (by omega)] at h3
  exact ⟨jz, h1, rfl, h3⟩
theorem zGoods_of {s : Nat → Int32} {j n nv no : Nat} (hN : zN s n nv no) (hj : j < n) : zGoods s (nI j) ↔ ¬ gd s j 6 = 5 := by
  have := hN.2.1
  rw [zGoods, nI_clamp (by omega), hN.1, nI_leI (by omega) (by omega)]
  constructor
  · exact fun h => h.2.2
  · exact fun h => ⟨nI_pos (by omega), by omega, h⟩
abbrev zHere (s : Nat → Int32) (j : Nat) : Prop := ¬ gd s j 6 = 5 ∧ gd s j 6 < 2
abbrev zInV (s : Nat → Int32) (j : Nat) (v : Int32) : Prop := ¬ gd s j 6 = 5 ∧ (1 ≤ gd s j 6 ∧ gd s j 6 ≤ 2) ∧ gd s j 7 = v
