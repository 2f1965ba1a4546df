theorem pg_lo {s : Nat → Int32} {c k j : Nat} {x : Int32} (h : j < 13) : pg s c k x j = s j := by
  unfold pg upd
  rw [if_neg (by omega)]
theorem pv_lo {s : Nat → Int32} {c k j : Nat} {x : Int32} (h : j < 13) : pv s c k x j = s j := by
  unfold pv upd
  rw [if_neg (by omega)]
def zCp (f g : Nat → Int32) (n : Nat) : Nat → Int32 := fun j => if j < n then f j else g j
theorem zCp_step (f g : Nat → Int32) (i : Nat) : upd (zCp f g i) i (f i) = zCp f g (i + 1) := by
  funext j
  unfold upd zCp
  by_cases h : j = i
  · subst h; simp
  · rw [if_neg h]
    by_cases h2 : j < i
    · rw [if_pos h2, if_pos (by omega)]
    · rw [if_neg h2, if_neg (by omega)]
def zBits (x : Int32) (n : Nat) : Int32 := zSum (fun k => (x >>> (nI k &&& 31)) &&& 1) n
def zBy (s : Nat → Int32) (c o : Nat) (rule : Int32) : Int32 := if rule = 0 then gd s c 4 - gd s o 4 else if rule = 1 then gd s o 5 - gd s c 5 else gd s o 5 * gd s c 1 - gd s c 5 * gd s o 1
abbrev zAhead (s : Nat → Int32) (c o : Nat) (rule : Int32) : Prop := zBy s c o rule < 0 ∨ (zBy s c o rule = 0 ∧ nI c < nI o)
