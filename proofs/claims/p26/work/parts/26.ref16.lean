theorem upd_s (f : Nat → Int32) (j : Nat) (x : Int32) : upd f j x j = x := if_pos rfl
theorem upd_n (f : Nat → Int32) {j k : Nat} (x : Int32) (h : k ≠ j) : upd f j x k = f k := if_neg h
