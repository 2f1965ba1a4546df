/-- one load is delivered -/
def zDel1 (s : Nat → Int32) (c : Nat) : Nat → Int32 :=
  let s1 := pg s c 6 (if gd s c 4 < s 5 then 4 else 3)
  let s2 := pg s1 c 8 (s1 5)
  let s3 := if gd s c 4 < s 5 then upd s2 8 (s2 8 + 1) else upd s2 7 (s2 7 + 1)
  let s4 := upd s3 9 (s3 9 + if gd s c 4 < s 5 then 0 else gd s3 c 5)
  upd s4 12 (s4 12 + (if s 5 < gd s c 3 then gd s c 3 - s 5 else 0) * s4 2)
def zDel (iv : Nat) (s : Nat → Int32) : Nat → (Nat → Int32) × Int32
  | 0 => (s, 0)
  | c + 1 => if zInV (zDel iv s c).1 c (nI iv) then (zDel1 (zDel iv s c).1 c, (zDel iv s c).2 + 1) else zDel iv s c
theorem zDel_t {iv : Nat} {s : Nat → Int32} {c : Nat} (h : zInV (zDel iv s c).1 c (nI iv)) : zDel iv s (c + 1) = (zDel1 (zDel iv s c).1 c, (zDel iv s c).2 + 1) := if_pos h
theorem zDel_f {iv : Nat} {s : Nat → Int32} {c : Nat} (h : ¬ zInV (zDel iv s c).1 c (nI iv)) : zDel iv s (c + 1) = zDel iv s c := if_neg h
theorem zN_upd {s : Nat → Int32} {n nv no j : Nat} {x : Int32} (h : zN s n nv no) (h3 : j ≠ 3) (h4 : j ≠ 4) (h6 : j ≠ 6) : zN (upd s j x) n nv no := zN_cong h (if_neg (Ne.symm h3)) (if_neg (Ne.symm h4)) (if_neg (Ne.symm h6))
theorem zDel1_N {s : Nat → Int32} {n nv no c : Nat} (h : zN s n nv no) : zN (zDel1 s c) n nv no := by
  unfold zDel1
  refine zN_upd (zN_upd ?_ (by decide) (by decide) (by decide)) (by decide) (by decide) (by decide)
  split
  · exact zN_upd (zN_pg (zN_pg h)) (by decide) (by decide) (by decide)
  · exact zN_upd (zN_pg (zN_pg h)) (by decide) (by decide) (by decide)
theorem zDel_N {s : Nat → Int32} {n nv no iv : Nat} (h : zN s n nv no) : ∀ c, zN (zDel iv s c).1 n nv no
  | 0 => h
  | c + 1 => by
    by_cases hc : zInV (zDel iv s c).1 c (nI iv)
    · rw [zDel_t hc]; exact zDel1_N (zDel_N h c)
    · rw [zDel_f hc]; exact zDel_N h c
/-- how many goods, vehicles, offers: read off -/
def cO (s : Nat → Int32) : Nat := (s 6).toNatClampNeg
theorem cO_N {s : Nat → Int32} {n nv no : Nat} (h : zN s n nv no) : cO s = no := by
  unfold cO
  rw [h.2.2.2.2.1]
  exact nI_clamp (by have := h.2.2.2.2.2; omega)
def zArr1 (s : Nat → Int32) (n iv : Nat) : (Nat → Int32) × Int32 :=
  let a := zDel iv s n
  let b := zTake (vd a.1 iv 3) (a.1 5) (cO a.1) a.1 (vd a.1 iv 0) (vd a.1 iv 1) 0
  let s1 := pv b.1 iv 6 b.2
  let s2 := pv s1 iv 2 2
  (pv s2 iv 4 (s2 5 + vd s2 iv 5), a.2)
theorem zArr1_N {s : Nat → Int32} {n nv no iv : Nat} (h : zN s n nv no) : ∃ no', no' ≤ no ∧ zN (zArr1 s n iv).1 n nv no' := by
  have h1 := zDel_N (iv := iv) h n
  obtain ⟨no', h2, h3⟩ := zTake_N (place := vd (zDel iv s n).1 iv 3) (hour := (zDel iv s n).1 5) (room := vd (zDel iv s n).1 iv 0) (bound := vd (zDel iv s n).1 iv 1) (t := 0) h1
  refine ⟨no', h2, ?_⟩
  simp only [zArr1, cO_N h1]
  exact zN_pv (zN_pv (zN_pv h3))
