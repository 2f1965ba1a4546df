def zMk (s : Nat → Int32) (n : Nat) (p b w f t wo : Int32) : Nat → Int32 := upd (pg (pg (pg (pg (pg (pg (pg (pg (pg (pg (pg (pg s n 0 p) n 1 b) n 2 w) n 3 f) n 4 t) n 5 wo) n 6 0) n 7 (-1000004)) n 8 (-1000004)) n 9 (s 3)) n 10 (s 5)) n 11 0) 3 (s 3 + 1)
theorem pg_3 {s : Nat → Int32} {c k : Nat} {x : Int32} : pg s c k x 3 = s 3 := pg_lo (by omega)
theorem pg_5 {s : Nat → Int32} {c k : Nat} {x : Int32} : pg s c k x 5 = s 5 := pg_lo (by omega)
def zSh (p : Nat → Int32) (i : Nat) : Nat → Int32 := fun j => if j < i then p (j + 287) else p j
theorem zSh_step (p : Nat → Int32) (i : Nat) : upd (zSh p i) i (zSh p i (i + 287)) = zSh p (i + 1) := by
  funext j
  unfold upd zSh
  by_cases h : j = i
  · subst h
    rw [if_pos rfl, if_neg (by omega), if_pos (by omega)]
  · rw [if_neg h]
    by_cases h2 : j < i
    · rw [if_pos h2, if_pos (by omega)]
    · rw [if_neg h2, if_neg (by omega)]
def zPu (s p : Nat → Int32) (q i : Nat) : Nat → Int32 := fun j => if 287 * q ≤ j ∧ j < 287 * q + i then s (j - 287 * q) else p j
theorem zPu_step (s p : Nat → Int32) (q i : Nat) : upd (zPu s p q i) (287 * q + i) (s i) = zPu s p q (i + 1) := by
  funext j
  unfold upd zPu
  by_cases h : j = 287 * q + i
  · subst h
    rw [if_pos rfl, if_pos (by omega)]
    congr 1
    omega
  · rw [if_neg h]
    by_cases h2 : 287 * q ≤ j ∧ j < 287 * q + i
    · rw [if_pos h2, if_pos (by omega)]
    · rw [if_neg h2, if_neg (by omega)]
/-- the history with one state more: s behind p states, of which the eldest goes if they are four -/
def zPast (s past : Nat → Int32) (p : Nat) : Nat → Int32 := if p = 4 then zPu s (zSh past 861) 3 287 else zPu s past p 287
def zCh (μ : zMS) (p : Nat) : zMS := mS (mA μ 2 (zPast (μ.1 1) (μ.1 2) p)) 4 (nI (if p = 4 then 4 else p + 1))
theorem mA_mS (μ : zMS) (k j : Nat) (x : Int32) (f : Nat → Int32) : mA (mS μ k x) j f = mS (mA μ j f) k x := rfl
theorem mA_self (μ : zMS) (k : Nat) : mA μ k (μ.1 k) = μ := by
  unfold mA
  obtain ⟨a, b⟩ := μ
  congr 1
  funext j
  by_cases h : j = k
  · simp [h]
  · simp [h]
theorem mPic.self2 {M : mM} {m : Nat} {μ : zMS} (h : mPic M m μ) : mPic M m (mA μ 2 (μ.1 2)) := by rw [mA_self]; exact h
theorem mPic.self1 {M : mM} {m : Nat} {μ : zMS} (h : mPic M m μ) : mPic M m (mA μ 1 (μ.1 1)) := by rw [mA_self]; exact h
