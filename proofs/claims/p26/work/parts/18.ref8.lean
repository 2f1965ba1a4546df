theorem zRet_N {s : Nat → Int32} {n nv no iv : Nat} (h : zN s n nv no) : zN (zRet s iv) n nv no := by
  unfold zRet
  exact zN_pv (zN_pv (zN_pv (zN_upd h (by decide) (by decide) (by decide))))
def zHv (n : Nat) (s : Nat → Int32) : Nat → (Nat → Int32) × Int32
  | 0 => (s, 0)
  | v + 1 => if 0 < vd (zHv n s v).1 v 2 ∧ vd (zHv n s v).1 v 4 = (zHv n s v).1 5 then (if vd (zHv n s v).1 v 2 = 1 then ((zArr1 (zHv n s v).1 n v).1, (zHv n s v).2 + (zArr1 (zHv n s v).1 n v).2) else (zRet (zHv n s v).1 v, (zHv n s v).2)) else zHv n s v
theorem zHv_no {n v : Nat} {s : Nat → Int32} (h : ¬ (0 < vd (zHv n s v).1 v 2 ∧ vd (zHv n s v).1 v 4 = (zHv n s v).1 5)) : zHv n s (v + 1) = zHv n s v := if_neg h
theorem zHv_arr {n v : Nat} {s : Nat → Int32} (h : 0 < vd (zHv n s v).1 v 2 ∧ vd (zHv n s v).1 v 4 = (zHv n s v).1 5) (h1 : vd (zHv n s v).1 v 2 = 1) : zHv n s (v + 1) = ((zArr1 (zHv n s v).1 n v).1, (zHv n s v).2 + (zArr1 (zHv n s v).1 n v).2) := (if_pos h).trans (if_pos h1)
theorem zHv_ret {n v : Nat} {s : Nat → Int32} (h : 0 < vd (zHv n s v).1 v 2 ∧ vd (zHv n s v).1 v 4 = (zHv n s v).1 5) (h1 : ¬ vd (zHv n s v).1 v 2 = 1) : zHv n s (v + 1) = (zRet (zHv n s v).1 v, (zHv n s v).2) := (if_pos h).trans (if_neg h1)
theorem zHv_N {s : Nat → Int32} {n nv no : Nat} (h : zN s n nv no) : ∀ v, ∃ no', no' ≤ no ∧ zN (zHv n s v).1 n nv no'
  | 0 => ⟨no, Nat.le_refl _, h⟩
  | v + 1 => by
    obtain ⟨o1, h1, h2⟩ := zHv_N h v
    by_cases hc : 0 < vd (zHv n s v).1 v 2 ∧ vd (zHv n s v).1 v 4 = (zHv n s v).1 5
    · by_cases h3 : vd (zHv n s v).1 v 2 = 1
      · rw [zHv_arr hc h3]
        obtain ⟨o2, g1, g2⟩ := zArr1_N (iv := v) h2
        exact ⟨o2, by omega, g2⟩
      · rw [zHv_ret hc h3]
        exact ⟨o1, h1, zRet_N h2⟩
    · rw [zHv_no hc]
      exact ⟨o1, h1, h2⟩
def zOld : Nat → (Nat → Int32) → (Nat → Int32)
  | 0, s => s
  | k + 1, s => zOld k (if od s k 4 < s 5 then zDrop s (cO s) k else s)
theorem zOld_N {n nv : Nat} : ∀ {k no : Nat} {s : Nat → Int32}, zN s n nv no → ∃ no', no' ≤ no ∧ zN (zOld k s) n nv no'
  | 0, no, _, h => ⟨no, Nat.le_refl _, h⟩
  | k + 1, no, s, h => by
    rw [zOld]
    split
    · rw [cO_N h]
      obtain ⟨o2, g1, g2⟩ := zOld_N (k := k) (zDrop_N (k := k) h)
      exact ⟨o2, by omega, g2⟩
    · exact zOld_N h
def zFee (s : Nat → Int32) : Nat → (Nat → Int32)
  | 0 => s
  | c + 1 => upd (zFee s c) 11 (zFee s c 11 + if zHere (zFee s c) c ∧ zFee s c 1 < zFee s c 5 - gd (zFee s c) c 10 then (gd (zFee s c) c 1 + 9) / 10 else 0)
theorem zFee_N {s : Nat → Int32} {n nv no : Nat} (h : zN s n nv no) : ∀ c, zN (zFee s c) n nv no
  | 0 => h
  | c + 1 => zN_upd (zFee_N h c) (by decide) (by decide) (by decide)
theorem zFee_t {s : Nat → Int32} {c : Nat} (h : zHere (zFee s c) c ∧ zFee s c 1 < zFee s c 5 - gd (zFee s c) c 10) : zFee s (c + 1) = upd (zFee s c) 11 (zFee s c 11 + (gd (zFee s c) c 1 + 9) / 10) := by rw [zFee, if_pos h]
theorem zFee_f {s : Nat → Int32} {c : Nat} (h : ¬ (zHere (zFee s c) c ∧ zFee s c 1 < zFee s c 5 - gd (zFee s c) c 10)) : zFee s (c + 1) = upd (zFee s c) 11 (zFee s c 11 + 0) := by rw [zFee, if_neg h]
def zTick (s : Nat → Int32) : Nat → Int32 := upd s 5 (s 5 + 1)
def zHour (s : Nat → Int32) (n nv : Nat) : (Nat → Int32) × Int32 := (zFee (zOld (cO (zHv n (zTick s) nv).1) (zHv n (zTick s) nv).1) n, (zHv n (zTick s) nv).2)
theorem zTick_N {s : Nat → Int32} {n nv no : Nat} (h : zN s n nv no) : zN (zTick s) n nv no := zN_upd h (by decide) (by decide) (by decide)
theorem zHour_N {s : Nat → Int32} {n nv no : Nat} (h : zN s n nv no) : ∃ no', no' ≤ no ∧ zN (zHour s n nv).1 n nv no' := by
  obtain ⟨o1, h1, h2⟩ := zHv_N (zTick_N h) nv
  obtain ⟨o2, h3, h4⟩ := zOld_N (k := cO (zHv n (zTick s) nv).1) h2
  exact ⟨o2, by omega, zFee_N h4 n⟩
def zPass (n nv : Nat) (s : Nat → Int32) : Nat → (Nat → Int32) × Int32
  | 0 => (s, 0)
  | h + 1 => ((zHour (zPass n nv s h).1 n nv).1, (zPass n nv s h).2 + (zHour (zPass n nv s h).1 n nv).2)
theorem zPass_N {s : Nat → Int32} {n nv no : Nat} (h : zN s n nv no) : ∀ k, ∃ no', no' ≤ no ∧ zN (zPass n nv s k).1 n nv no'
  | 0 => ⟨no, Nat.le_refl _, h⟩
  | k + 1 => by
    obtain ⟨o1, h1, h2⟩ := zPass_N h k
    obtain ⟨o2, h3, h4⟩ := zHour_N h2
    exact ⟨o2, by omega, h4⟩
theorem zdec (x : Int32) : x + Int32.ofInt (-1) = x - 1 := by
  rw [Int32.sub_eq_add_neg]
  rfl
