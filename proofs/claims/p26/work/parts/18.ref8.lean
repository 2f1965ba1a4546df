def zHv (n : Nat) (s : Nat → Int32) : Nat → (Nat → Int32) × Int32
  | 0 => (s, 0)
  | v + 1 => if 0 < vd (zHv n s v).1 v 2 ∧ vd (zHv n s v).1 v 4 = (zHv n s v).1 5 then (if vd (zHv n s v).1 v 2 = 1 then ((zArr1 (zHv n s v).1 n v).1, (zHv n s v).2 + (zArr1 (zHv n s v).1 n v).2) else (zRet (zHv n s v).1 v, (zHv n s v).2)) else zHv n s v
theorem zHv_no {n v : Nat} {s : Nat → Int32} (h : ¬ (0 < vd (zHv n s v).1 v 2 ∧ vd (zHv n s v).1 v 4 = (zHv n s v).1 5)) : zHv n s (v + 1) = zHv n s v := if_neg h
theorem zHv_arr {n v : Nat} {s : Nat → Int32} (h : 0 < vd (zHv n s v).1 v 2 ∧ vd (zHv n s v).1 v 4 = (zHv n s v).1 5) (h1 : vd (zHv n s v).1 v 2 = 1) : zHv n s (v + 1) = ((zArr1 (zHv n s v).1 n v).1, (zHv n s v).2 + (zArr1 (zHv n s v).1 n v).2) := (if_pos h).trans (if_pos h1)
theorem zHv_ret {n v : Nat} {s : Nat → Int32} (h : 0 < vd (zHv n s v).1 v 2 ∧ vd (zHv n s v).1 v 4 = (zHv n s v).1 5) (h1 : ¬ vd (zHv n s v).1 v 2 = 1) : zHv n s (v + 1) = (zRet (zHv n s v).1 v, (zHv n s v).2) := (if_pos h).trans (if_neg h1)
def zOld : Nat → (Nat → Int32) → (Nat → Int32)
  | 0, s => s
  | k + 1, s => zOld k (if od s k 4 < s 5 then zDrop s (cO s) k else s)
def zFee (s : Nat → Int32) : Nat → (Nat → Int32)
  | 0 => s
  | c + 1 => upd (zFee s c) 11 (zFee s c 11 + if zHere (zFee s c) c ∧ zFee s c 1 < zFee s c 5 - gd (zFee s c) c 10 then (gd (zFee s c) c 1 + 9) / 10 else 0)
theorem zFee_N {s : Nat → Int32} {n nv no : Nat} (h : zN s n nv no) : ∀ c, zN (zFee s c) n nv no
  | 0 => h
  | c + 1 => zN_upd (zFee_N h c) (by decide) (by decide) (by decide)
theorem zFee_t {s : Nat → Int32} {c : Nat} (h : zHere (zFee s c) c ∧ zFee s c 1 < zFee s c 5 - gd (zFee s c) c 10) : zFee s (c + 1) = upd (zFee s c) 11 (zFee s c 11 + (gd (zFee s c) c 1 + 9) / 10) := by rw [zFee, if_pos h]
theorem zFee_f {s : Nat → Int32} {c : Nat} (h : ¬ (zHere (zFee s c) c ∧ zFee s c 1 < zFee s c 5 - gd (zFee s c) c 10)) : zFee s (c + 1) = upd (zFee s c) 11 (zFee s c 11 + 0) := by rw [zFee, if_neg h]
def zTick (s : Nat → Int32) : Nat → Int32 := upd s 5 (s 5 + 1)
def zHour (s : Nat → Int32) (n nv : Nat) : (Nat → Int32) × Int32 := (zFee (zOld (cO (zHv n (zTick s) nv).1) (zHv n (zTick s) nv).1) n, (zHv n (zTick s) nv).2)
theorem zTick_N {s : Nat → Int32} {n nv no : Nat} (h : zN s n nv no) : zN (zTick s) n nv no := zN_upd h (by decide) (by decide) (by decide)
def zPass (n nv : Nat) (s : Nat → Int32) : Nat → (Nat → Int32) × Int32
  | 0 => (s, 0)
  | h + 1 => ((zHour (zPass n nv s h).1 n nv).1, (zPass n nv s h).2 + (zHour (zPass n nv s h).1 n nv).2)
theorem zdec (x : Int32) : x + Int32.ofInt (-1) = x - 1 := by
  rw [Int32.sub_eq_add_neg]
  rfl
