/-- what a change answers: an error, or the new numbers and an answer -/
abbrev zRes : Type := Int32 ⊕ ((Nat → Int32) × Int32)
def tN (x : Int32) : Nat := x.toNatClampNeg
theorem tN_nI {n : Nat} (h : n < 2 ^ 31) : tN (nI n) = n := nI_clamp h
def zRuns (μ : zMS) (p : Nat) : Prop := (μ.2 5 = 0 ∧ μ.2 4 = nI p ∧ p ≤ 4) ∨ μ.2 5 = 1
def zCC (μ : zMS) (p : Nat) : zMS := if μ.2 5 = 0 then zCh μ p else μ
theorem zCC_a {μ : zMS} {p k : Nat} (h : k ≠ 2) : (zCC μ p).1 k = μ.1 k := by
  unfold zCC zCh
  split
  · rw [mS_1, mA_n _ _ h]
  · rfl
theorem zCC_1 {μ : zMS} {p : Nat} : (zCC μ p).1 1 = μ.1 1 := zCC_a (by decide)
theorem zCC_s {μ : zMS} {p k : Nat} (h : k ≠ 4) : (zCC μ p).2 k = μ.2 k := by
  unfold zCC zCh
  split
  · rw [mS_n _ _ h, mA_2]
  · rfl
def zPost (M : mM) (m : Nat) (μ : zMS) (p : Nat) (r : zRes) (x : Int32) (M' : mM) : Prop := match r with
  | .inl e => x = e ∧ M' = M
  | .inr q => x = q.2 ∧ mPic M' m (mA (zCC μ p) 1 q.1) ∧ zFr M M' m 9
theorem zPost_e {M : mM} {m : Nat} {μ : zMS} {p : Nat} {r : zRes} {e : Int32} (h : r = .inl e) : zPost M m μ p r e M := by
  rw [h]
  exact ⟨rfl, rfl⟩
theorem zPost_ok {M M' : mM} {m : Nat} {μ : zMS} {p : Nat} {r : zRes} {s : Nat → Int32} {x : Int32} (hm : mPic M' m (mA (zCC μ p) 1 s)) (hf : zFr M M' m 9) (h : r = .inr (s, x)) : zPost M m μ p r x M' := by
  rw [h]
  exact ⟨rfl, hm, hf⟩
theorem zN_CC {μ : zMS} {p n nv no : Nat} (h : zN (μ.1 1) n nv no) : zN ((zCC μ p).1 1) n nv no := by
  rw [zCC_1]
  exact h
abbrev zW (a b x : Int32) : Prop := a ≤ x ∧ x ≤ b
def spConsign (s : Nat → Int32) (n : Nat) (p b w f t wo : Int32) : zRes := if zW 1 4 p ∧ zW 1 99 b ∧ zW 1 99 w ∧ zW 0 9999 f ∧ zW f 9999 t ∧ zW 0 999 wo then (if n = 16 then .inl (-1000003) else .inr (zMk s n p b w f t wo, nI n)) else .inl (-1000001)
def zSp (s : Nat → Int32) (n ic : Nat) (b w : Int32) : Nat → Int32 :=
  let wo := gd s ic 5 * b / gd s ic 1
  let s1 := zMk s n (gd s ic 0) b w (gd s ic 3) (gd s ic 4) wo
  let s2 := pg s1 n 9 (gd s1 ic 9)
  let s3 := pg s2 n 10 (gd s2 ic 10)
  let s4 := pg s3 ic 1 (gd s3 ic 1 - b)
  let s5 := pg s4 ic 2 (gd s4 ic 2 - w)
  pg s5 ic 5 (gd s5 ic 5 - wo)
def spSplit (s : Nat → Int32) (n : Nat) (c b w : Int32) : zRes := if zGoods s c ∧ zW 1 (gd s (tN c) 1 - 1) b ∧ zW 1 (gd s (tN c) 2 - 1) w then (if gd s (tN c) 6 = 0 then (if n = 16 then .inl (-1000003) else .inr (zSp s n (tN c) b w, nI n)) else .inl (-1000002)) else .inl (-1000001)
def zJn (s : Nat → Int32) (l h : Nat) : Nat → Int32 :=
  let s1 := pg s l 1 (gd s l 1 + gd s h 1)
  let s2 := pg s1 l 2 (gd s1 l 2 + gd s1 h 2)
  let s3 := pg s2 l 5 (gd s2 l 5 + gd s2 h 5)
  let s4 := pg s3 l 10 (if gd s3 h 10 < gd s3 l 10 then gd s3 h 10 else gd s3 l 10)
  pg s4 h 6 5
def spJoin (s : Nat → Int32) (a b : Int32) : zRes := if zGoods s a ∧ zGoods s b ∧ ¬ a = b then (if gd s (tN a) 9 = gd s (tN b) 9 ∧ gd s (tN a) 6 = 0 ∧ gd s (tN b) 6 = 0 then (if a < b then .inr (zJn s (tN a) (tN b), a) else .inr (zJn s (tN b) (tN a), b)) else .inl (-1000002)) else .inl (-1000001)
def spLoad (s : Nat → Int32) (n : Nat) (c v : Int32) : zRes := if zGoods s c ∧ zVeh s v then (if zCan s n (tN c) (tN v) then .inr (zLoads s (tN c) (tN v), vd (zLoads s (tN c) (tN v)) (tN v) 0 - zLd (zLoads s (tN c) (tN v)) n v 1) else .inl (-1000002)) else .inl (-1000001)
def spUnload (s : Nat → Int32) (c : Int32) : zRes := if zGoods s c then (if gd s (tN c) 6 = 1 then .inr (pg s (tN c) 6 0, gd (pg s (tN c) 6 0) (tN c) 7) else .inl (-1000002)) else .inl (-1000001)
def spFill (s : Nat → Int32) (n : Nat) (v place rule : Int32) : zRes := if zVeh s v ∧ zW 1 4 place ∧ zW 0 2 rule then (if 0 < vd s (tN v) 2 then .inl (-1000002) else .inr ((zFill n (tN v) place rule n s 0 0).1, zBits (zFill n (tN v) place rule n s 0 0).2 16)) else .inl (-1000001)
def spSet (s : Nat → Int32) (w x : Int32) : zRes := if zW 0 2 w ∧ zW (if w = 0 then 1 else 0) (if w = 0 then 24 else if w = 1 then 99 else 20) x then .inr (upd s (tN w) x, s (tN w)) else .inl (-1000001)
def spPass (s : Nat → Int32) (n nv : Nat) (h : Int32) : zRes := if zW 1 99 h then (if 9000 < s 5 + h then .inl (-1000003) else .inr ((zPass n nv s (tN h)).1, (zPass n nv s (tN h)).2)) else .inl (-1000001)
