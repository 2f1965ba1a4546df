def zV0 (s : Nat → Int32) (iv : Nat) : Nat → (Nat → Int32)
  | 0 => s
  | k + 1 => pv (zV0 s iv k) iv k 0
def zVe (s : Nat → Int32) (iv : Nat) (r b : Int32) : Nat → Int32 :=
  let s2 := pv (pv (zV0 s iv 8) iv 0 r) iv 1 b
  upd s2 4 (s2 4 + 1)
def spVehicle (s : Nat → Int32) (nv : Nat) (r b : Int32) : zRes := if zW 1 200 r ∧ zW 1 200 b then (if nv = 4 then .inl (-1000003) else .inr (zVe s nv r b, nI nv)) else .inl (-1000001)
def zDe1 (s : Nat → Int32) (n iv : Nat) : Nat → Int32 :=
  let s1 := pv s iv 2 1
  let s2 := pv s1 iv 3 (zGoal s n iv)
  let s3 := pv s2 iv 5 (zGoal s n iv * s2 0)
  pv s3 iv 4 (s3 5 + zGoal s n iv * s3 0)
def zDe (s : Nat → Int32) (n iv : Nat) : Nat → (Nat → Int32)
  | 0 => zDe1 s n iv
  | c + 1 => if zInV (zDe s n iv c) c (nI iv) then pg (pg (zDe s n iv c) c 6 2) c 11 (pg (zDe s n iv c) c 6 2 5) else zDe s n iv c
theorem zDe_t {s : Nat → Int32} {n iv c : Nat} (h : zInV (zDe s n iv c) c (nI iv)) : zDe s n iv (c + 1) = pg (pg (zDe s n iv c) c 6 2) c 11 (pg (zDe s n iv c) c 6 2 5) := if_pos h
theorem zDe_f {s : Nat → Int32} {n iv c : Nat} (h : ¬ zInV (zDe s n iv c) c (nI iv)) : zDe s n iv (c + 1) = zDe s n iv c := if_neg h
theorem zDe_N {s : Nat → Int32} {n nv no iv : Nat} (h : zN s n nv no) : ∀ c, zN (zDe s n iv c) n nv no
  | 0 => zN_pv (zN_pv (zN_pv (zN_pv h)))
  | c + 1 => by
    by_cases hc : zInV (zDe s n iv c) c (nI iv)
    · rw [zDe_t hc]; exact zN_pg (zN_pg (zDe_N h c))
    · rw [zDe_f hc]; exact zDe_N h c
def spDepart (s : Nat → Int32) (n : Nat) (v : Int32) : zRes := if zVeh s v then (if 0 < vd s (tN v) 2 ∨ zLs s n v = 0 then .inl (-1000002) else .inr (zDe s n (tN v) n, vd (zDe s n (tN v) n) (tN v) 4)) else .inl (-1000001)
def zOf (s : Nat → Int32) (no : Nat) (p b w pr h : Int32) : Nat → Int32 :=
  let s1 := upd s (237 + 5 * no) p
  let s2 := upd s1 (237 + 5 * no + 1) b
  let s3 := upd s2 (237 + 5 * no + 2) w
  let s4 := upd s3 (237 + 5 * no + 3) pr
  let s5 := upd s4 (237 + 5 * no + 4) (s4 5 + h)
  upd s5 6 (s5 6 + 1)
def spOffer (s : Nat → Int32) (no : Nat) (p b w pr h : Int32) : zRes := if zW 1 4 p ∧ zW 1 99 b ∧ zW 1 99 w ∧ zW 0 999 pr ∧ zW 0 99 h then (if no = 10 then .inl (-1000003) else .inr (zOf s no p b w pr h, zOf s no p b w pr h 6)) else .inl (-1000001)
