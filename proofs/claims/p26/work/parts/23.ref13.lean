theorem zW_nat {x : Int32} {a b : Nat} (ha : a < 2 ^ 31) (hb : b < 2 ^ 31) (h : nI a ≤ x ∧ x ≤ nI b) : ∃ k, a ≤ k ∧ k ≤ b ∧ x = nI k := by
  have h0 : ¬ x < 0 := fun z => by
    have h9 := Int32.lt_of_le_of_lt h.1 z
    exact nI_pos ha h9
  obtain ⟨j, hj, rfl⟩ := nI_of h0
  exact ⟨j, (nI_leI ha hj).mp h.1, (nI_leI hj hb).mp h.2, rfl⟩
theorem zsw_out {x : Int32} {h : Nat} (hh : h < 2 ^ 31) (hs : x.toInt < 0 ∨ (h : Int) < x.toInt) : ¬ ∃ k, k ≤ h ∧ x = nI k := by
  rintro ⟨k, hk, rfl⟩
  rw [nI_toInt (by omega)] at hs
  omega
def zRe (s p : Nat → Int32) (q i : Nat) : Nat → Int32 := fun j => if j < i then p (287 * q + j) else s j
theorem zRe_step (s p : Nat → Int32) (q i : Nat) : upd (zRe s p q i) i (p (287 * q + i)) = zRe s p q (i + 1) := by
  funext j
  unfold upd zRe
  by_cases h : j = i
  · subst h; simp
  · rw [if_neg h]
    have e1 : j < i + 1 ↔ j < i := by omega
    simp only [e1]
def zUndo (μ : zMS) (p : Nat) : zMS := mS (mA μ 1 (fun j => μ.1 2 (287 * (p - 1) + j))) 4 (nI (p - 1))
def spCof (s : Nat → Int32) (n : Nat) (c w : Int32) : Int32 := if zGoods s c ∧ zW 0 10 w then (if w < 9 then gd s (tN c) (tN w) else if w = 9 then zPt s n (gd s (tN c) 9) else (if zHere s (tN c) then s 5 else gd s (tN c) 11) - gd s (tN c) 10) else -1000001
def zVo (s : Nat → Int32) (n iv k : Nat) : Int32 := match k with
  | 0 => vd s iv 0
  | 1 => vd s iv 1
  | 2 => vd s iv 2
  | 3 => zLd s n (nI iv) 1
  | 4 => zLd s n (nI iv) 2
  | 5 => zLs s n (nI iv)
  | 6 => zGoal s n iv
  | 7 => if vd s iv 2 = 0 then -1000004 else vd s iv 4
  | 8 => vd s iv 6
  | _ => vd s iv 7
def spVof (s : Nat → Int32) (n : Nat) (v w : Int32) : Int32 := if zVeh s v ∧ 0 ≤ w.toInt ∧ w.toInt ≤ 9 then zVo s n (tN v) (tN w) else -1000001
def spOof (s : Nat → Int32) (i w : Int32) : Int32 := if ¬ i < 0 ∧ zW 0 4 w then (if i < s 6 then od s (tN i) (tN w) else -1000004) else -1000001
def zCo (s : Nat → Int32) (n : Nat) (ps ty : Int32) (k : Nat) : Int32 := match k with
  | 0 => s 3
  | 1 => s 4
  | 2 => s 5
  | 3 => zHr s n
  | 4 => s 7
  | 5 => s 8
  | 6 => s 9
  | 7 => s 10
  | 8 => s 11
  | 9 => s 12
  | 10 => s 6
  | 11 => ps
  | _ => ty
def spCount (s : Nat → Int32) (n : Nat) (ps ty : Int32) (w : Int32) : Int32 := if 0 ≤ w.toInt ∧ w.toInt ≤ 12 then zCo s n ps ty (tN w) else if zW 20 22 w then s (tN w - 20) else -1000001
