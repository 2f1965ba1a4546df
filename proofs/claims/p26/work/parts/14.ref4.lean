def zMk (s : Nat → Int32) (n : Nat) (p b w f t wo : Int32) : Nat → Int32 := upd (pg (pg (pg (pg (pg (pg (pg (pg (pg (pg (pg (pg s n 0 p) n 1 b) n 2 w) n 3 f) n 4 t) n 5 wo) n 6 0) n 7 (-1000004)) n 8 (-1000004)) n 9 (s 3)) n 10 (s 5)) n 11 0) 3 (s 3 + 1)
theorem pg_5 {s : Nat → Int32} {c k : Nat} {x : Int32} : pg s c k x 5 = s 5 := pg_lo (by omega)
def zSh (p : Nat → Int32) (i : Nat) : Nat → Int32 := fun j => if j < i then p (j + 287) else p j
def zPu (s p : Nat → Int32) (q i : Nat) : Nat → Int32 := fun j => if 287 * q ≤ j ∧ j < 287 * q + i then s (j - 287 * q) else p j
/-- the history with one state more: s behind p states, of which the eldest goes if they are four -/
def zPast (s past : Nat → Int32) (p : Nat) : Nat → Int32 := if p = 4 then zPu s (zSh past 861) 3 287 else zPu s past p 287
