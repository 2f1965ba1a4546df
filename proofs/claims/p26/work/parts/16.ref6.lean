/-- the offer k of no goes -/
def zDrI (s : Nat → Int32) (no k i : Nat) : Nat → Int32 := fun j => if 237 + 5 * k ≤ j ∧ j < i then s (j + 5) else if j = 6 then nI (no - 1) else s j
def zDrop (s : Nat → Int32) (no k : Nat) : Nat → Int32 := zDrI s no k (237 + 5 * (no - 1))
theorem zDrI_step (s : Nat → Int32) (no k : Nat) {i : Nat} (h : 237 + 5 * k ≤ i) : upd (zDrI s no k i) i (zDrI s no k i (i + 5)) = zDrI s no k (i + 1) := by
  funext j
  unfold upd zDrI
  by_cases hj : j = i
  · subst hj
    rw [if_pos rfl, if_neg (by omega), if_neg (by omega), if_pos (by omega)]
  · rw [if_neg hj]
    have e1 : (237 + 5 * k ≤ j ∧ j < i + 1) ↔ (237 + 5 * k ≤ j ∧ j < i) := by omega
    simp only [e1]
theorem zDrI_0 (s : Nat → Int32) (no k : Nat) : zDrI s no k (237 + 5 * k) = upd s 6 (nI (no - 1)) := by
  funext j
  unfold upd zDrI
  rw [if_neg (by omega)]
theorem zDrop_N {s : Nat → Int32} {n nv no k : Nat} (h : zN s n nv no) : zN (zDrop s no k) n nv (no - 1) := by
  obtain ⟨h3, hn, h4, hv, h6, ho⟩ := h
  refine ⟨?_, hn, ?_, hv, ?_, by omega⟩
  · unfold zDrop zDrI; rw [if_neg (by omega), if_neg (by omega)]; exact h3
  · unfold zDrop zDrI; rw [if_neg (by omega), if_neg (by omega)]; exact h4
  · unfold zDrop zDrI; rw [if_neg (by omega), if_pos rfl]
abbrev zOk1 (s : Nat → Int32) (place hour room bound : Int32) (k : Nat) : Prop := od s k 0 = place ∧ hour ≤ od s k 4 ∧ od s k 1 ≤ room ∧ od s k 2 ≤ bound
def zBest (s : Nat → Int32) (place hour room bound : Int32) : Nat → Option Nat
  | 0 => none
  | k + 1 => match zBest s place hour room bound k with
    | none => if zOk1 s place hour room bound k then some k else none
    | some b => if zOk1 s place hour room bound k ∧ od s b 3 < od s k 3 then some k else some b
def zTake (place hour : Int32) : Nat → (Nat → Int32) → Int32 → Int32 → Int32 → (Nat → Int32) × Int32
  | 0, s, _, _, t => (s, t)
  | no + 1, s, room, bound, t => match zBest s place hour room bound (no + 1) with
    | none => (s, t)
    | some b => zTake place hour no (zDrop s (no + 1) b) (room - od s b 1) (bound - od s b 2) (t + od s b 3)
theorem zBest_lt {s : Nat → Int32} {place hour room bound : Int32} : ∀ {n k : Nat}, zBest s place hour room bound n = some k → k < n ∧ zOk1 s place hour room bound k
  | 0, k, h => by simp [zBest] at h
  | c + 1, k, h => by
    rw [zBest] at h
    cases hp : zBest s place hour room bound c with
    | none =>
      rw [hp] at h
      simp only at h
      split at h
      · next hm => cases h; exact ⟨Nat.lt_succ_self _, hm⟩
      · cases h
    | some j =>
      rw [hp] at h
      simp only at h
      split at h
      · next hm => cases h; exact ⟨Nat.lt_succ_self _, hm.1⟩
      · cases h
        have ih := zBest_lt hp
        exact ⟨Nat.lt_succ_of_lt ih.1, ih.2⟩
theorem zBest_keep {s : Nat → Int32} {place hour room bound : Int32} {i : Nat} (h : ¬ zOk1 s place hour room bound i) : zBest s place hour room bound i = zBest s place hour room bound (i + 1) := by
  rw [zBest]
  cases zBest s place hour room bound i with
  | none => simp only; rw [if_neg h]
  | some k => simp only; rw [if_neg (fun z => h z.1)]
theorem zBest_first {s : Nat → Int32} {place hour room bound : Int32} {i : Nat} (h : zOk1 s place hour room bound i) (hp : zBest s place hour room bound i = none) : zBest s place hour room bound (i + 1) = some i := by
  rw [zBest, hp]
  exact if_pos h
theorem zBest_new {s : Nat → Int32} {place hour room bound : Int32} {i k : Nat} (h : zOk1 s place hour room bound i) (hp : zBest s place hour room bound i = some k) (ha : od s k 3 < od s i 3) : zBest s place hour room bound (i + 1) = some i := by
  rw [zBest, hp]
  exact if_pos ⟨h, ha⟩
theorem zBest_old {s : Nat → Int32} {place hour room bound : Int32} {i k : Nat} (hp : zBest s place hour room bound i = some k) (ha : ¬ od s k 3 < od s i 3) : zBest s place hour room bound i = zBest s place hour room bound (i + 1) := by
  rw [zBest, hp]
  exact (if_neg (fun z => ha z.2)).symm
theorem zTake_none {place hour : Int32} {no : Nat} {s : Nat → Int32} {room bound t : Int32} (h : zBest s place hour room bound no = none) : zTake place hour no s room bound t = (s, t) := by
  cases no with
  | zero => rfl
  | succ f => rw [zTake, h]
theorem zTake_some {place hour : Int32} {no b : Nat} {s : Nat → Int32} {room bound t : Int32} (h : zBest s place hour room bound no = some b) : zTake place hour no s room bound t = zTake place hour (no - 1) (zDrop s no b) (room - od s b 1) (bound - od s b 2) (t + od s b 3) := by
  cases no with
  | zero => simp [zBest] at h
  | succ f => rw [zTake, h]; rfl
theorem zTake_N {place hour : Int32} {n nv : Nat} : ∀ {no : Nat} {s : Nat → Int32} {room bound t : Int32}, zN s n nv no → ∃ no', no' ≤ no ∧ zN (zTake place hour no s room bound t).1 n nv no'
  | 0, s, _, _, _, h => ⟨0, Nat.le_refl _, h⟩
  | no + 1, s, room, bound, t, h => by
    cases hb : zBest s place hour room bound (no + 1) with
    | none => rw [zTake_none hb]; exact ⟨_, Nat.le_refl _, h⟩
    | some b =>
      rw [zTake_some hb]
      obtain ⟨no', h1, h2⟩ := zTake_N (place := place) (hour := hour) (room := room - od s b 1) (bound := bound - od s b 2) (t := t + od s b 3) (zDrop_N (k := b) h)
      exact ⟨no', by omega, h2⟩
def zRet (s : Nat → Int32) (iv : Nat) : Nat → Int32 :=
  let s1 := upd s 10 (s 10 + vd s iv 6)
  let s2 := pv s1 iv 6 0
  let s3 := pv s2 iv 7 (vd s2 iv 7 + 1)
  pv s3 iv 2 0
