/-! ===== Int32 by its bits: bt x i ===== -/
def bt (x : Int32) (i : Nat) : Bool := x.toBitVec.getLsbD i
theorem b_ext {x y : Int32} (h : ∀ i, i < 32 → bt x i = bt y i) : x = y := Int32.toBitVec_inj.mp (BitVec.eq_of_getLsbD_eq (fun i hi => h i hi))
theorem b_or (x y : Int32) (i : Nat) : bt (x ||| y) i = (bt x i || bt y i) := by unfold bt; rw [Int32.toBitVec_or, BitVec.getLsbD_or]
theorem b_and (x y : Int32) (i : Nat) : bt (x &&& y) i = (bt x i && bt y i) := by unfold bt; rw [Int32.toBitVec_and, BitVec.getLsbD_and]
theorem b_big {x : Int32} {i : Nat} (h : 32 ≤ i) : bt x i = false := BitVec.getLsbD_of_ge _ _ h
theorem b_0 (i : Nat) : bt 0 i = false := BitVec.getLsbD_zero
theorem s_l : ∀ n, n < 32 → ((nI n &&& 31).toBitVec.smod 32).toNat = n := by decide +kernel
theorem s_u : ∀ n, n < 32 → (((nI n).toUInt32 &&& Int32.toUInt32 31).toBitVec % 32).toNat = n := by decide +kernel
theorem b_shl (n : Nat) (hn : n < 32) (x : Int32) {i : Nat} (hi : i < 32) : bt (x <<< (nI n &&& 31)) i = (decide (n ≤ i) && bt x (i - n)) := by
  unfold bt
  rw [Int32.toBitVec_shiftLeft]
  show (x.toBitVec <<< ((nI n &&& 31).toBitVec.smod 32).toNat).getLsbD i = _
  rw [s_l n hn, BitVec.getLsbD_shiftLeft]
  rcases Nat.lt_or_ge i n with h | h
  · simp [h, Nat.not_le.mpr h]
  · simp [hi, h, Nat.not_lt.mpr h]
theorem b_ushr (n : Nat) (hn : n < 32) (x : Int32) (i : Nat) : bt ((x.toUInt32 >>> ((nI n).toUInt32 &&& Int32.toUInt32 31)).toInt32) i = bt x (n + i) := by
  show (x.toUInt32 >>> ((nI n).toUInt32 &&& Int32.toUInt32 31)).toBitVec.getLsbD i = x.toUInt32.toBitVec.getLsbD (n + i)
  rw [UInt32.toBitVec_shiftRight]
  show (x.toUInt32.toBitVec >>> (((nI n).toUInt32 &&& Int32.toUInt32 31).toBitVec % 32).toNat).getLsbD i = _
  rw [s_u n hn, BitVec.getLsbD_ushiftRight]
theorem b_sshr (n : Nat) (hn : n < 32) (x : Int32) {i : Nat} (hi : i < 32) : bt (x >>> (nI n &&& 31)) i = if n + i < 32 then bt x (n + i) else bt x 31 := by
  unfold bt
  rw [Int32.toBitVec_shiftRight]
  show (x.toBitVec.sshiftRight ((nI n &&& 31).toBitVec.smod 32).toNat).getLsbD i = _
  rw [s_l n hn, BitVec.getLsbD_sshiftRight, BitVec.msb_eq_getLsbD_last]
  simp [hi]
/-- bit c of L isn't set -/
abbrev zb (L : Int32) (c : Nat) : Prop := (L >>> (nI c &&& 31)) &&& 1 = 0
theorem b_1 : ∀ i, i < 32 → bt 1 i = decide (i = 0) := by decide +kernel
theorem zbit_bt {c i : Nat} (hc : c < 32) (hi : i < 32) : bt (zbit c) i = decide (i = c) := by
  unfold zbit
  rw [b_shl c hc 1 hi, b_1 (i - c) (by omega)]
  by_cases h : i = c
  · subst h; simp
  · by_cases h2 : c ≤ i
    · have : ¬ i - c = 0 := by omega
      simp [h, h2, this]
    · simp [h, h2]
/-! looking for the next one by a rule, and filling -/
abbrev zMay (s : Nat → Int32) (L place : Int32) (c : Nat) : Prop := ¬ gd s c 6 = 5 ∧ gd s c 6 = 0 ∧ gd s c 0 = place ∧ zb L c
def zPick (s : Nat → Int32) (L place rule : Int32) : Nat → Option Nat
  | 0 => none
  | c + 1 => match zPick s L place rule c with
    | none => if zMay s L place c then some c else none
    | some k => if zMay s L place c ∧ zAhead s c k rule then some c else some k
theorem zPick_some {s : Nat → Int32} {L place rule : Int32} : ∀ {n k : Nat}, zPick s L place rule n = some k → k < n ∧ zMay s L place k
  | 0, k, h => by simp [zPick] at h
  | c + 1, k, h => by
    rw [zPick] at h
    cases hp : zPick s L place rule c with
    | none =>
      rw [hp] at h
      simp only at h
      split at h
      · next hm => cases h; exact ⟨Nat.lt_succ_self _, hm⟩
      · cases h
    | some j =>
      rw [hp] at h
      simp only at h
      split at h
      · next hm => cases h; exact ⟨Nat.lt_succ_self _, hm.1⟩
      · cases h
        have ih := zPick_some hp
        exact ⟨Nat.lt_succ_of_lt ih.1, ih.2⟩
def zLoads (s : Nat → Int32) (c iv : Nat) : Nat → Int32 := pg (pg s c 6 1) c 7 (nI iv)
def zFill (n iv : Nat) (place rule : Int32) : Nat → (Nat → Int32) → Int32 → Int32 → (Nat → Int32) × Int32
  | 0, s, _, t => (s, t)
  | f + 1, s, L, t => match zPick s L place rule n with
    | none => (s, t)
    | some c => if zCan s n c iv then zFill n iv place rule f (zLoads s c iv) (L ||| zbit c) (t ||| zbit c) else zFill n iv place rule f s (L ||| zbit c) t
theorem zPick_keep {s : Nat → Int32} {L place rule : Int32} {i : Nat} (h : ¬ zMay s L place i) : zPick s L place rule i = zPick s L place rule (i + 1) := by
  rw [zPick]
  cases zPick s L place rule i with
  | none => simp only; rw [if_neg h]
  | some k => simp only; rw [if_neg (fun z => h z.1)]
theorem zPick_first {s : Nat → Int32} {L place rule : Int32} {i : Nat} (h : zMay s L place i) (hp : zPick s L place rule i = none) : zPick s L place rule (i + 1) = some i := by
  rw [zPick, hp]
  exact if_pos h
theorem zPick_new {s : Nat → Int32} {L place rule : Int32} {i k : Nat} (h : zMay s L place i) (hp : zPick s L place rule i = some k) (ha : zAhead s i k rule) : zPick s L place rule (i + 1) = some i := by
  rw [zPick, hp]
  exact if_pos ⟨h, ha⟩
theorem zPick_old {s : Nat → Int32} {L place rule : Int32} {i k : Nat} (hp : zPick s L place rule i = some k) (ha : ¬ zAhead s i k rule) : zPick s L place rule i = zPick s L place rule (i + 1) := by
  rw [zPick, hp]
  exact (if_neg (fun z => ha z.2)).symm
theorem zFill_none {n iv : Nat} {place rule : Int32} {s : Nat → Int32} {L t : Int32} {f : Nat} (h : zPick s L place rule n = none) : zFill n iv place rule f s L t = (s, t) := by
  cases f with
  | zero => rfl
  | succ f => rw [zFill, h]
theorem zFill_can {n iv : Nat} {place rule : Int32} {s : Nat → Int32} {L t : Int32} {f c : Nat} (h : zPick s L place rule n = some c) (hc : zCan s n c iv) : zFill n iv place rule (f + 1) s L t = zFill n iv place rule f (zLoads s c iv) (L ||| zbit c) (t ||| zbit c) := by
  rw [zFill, h]
  exact if_pos hc
theorem zFill_not {n iv : Nat} {place rule : Int32} {s : Nat → Int32} {L t : Int32} {f c : Nat} (h : zPick s L place rule n = some c) (hc : ¬ zCan s n c iv) : zFill n iv place rule (f + 1) s L t = zFill n iv place rule f s (L ||| zbit c) t := by
  rw [zFill, h]
  exact if_neg hc
theorem zN_cong {s s' : Nat → Int32} {n nv no : Nat} (h : zN s n nv no) (h3 : s' 3 = s 3) (h4 : s' 4 = s 4) (h6 : s' 6 = s 6) : zN s' n nv no := ⟨h3.trans h.1, h.2.1, h4.trans h.2.2.1, h.2.2.2.1, h6.trans h.2.2.2.2.1, h.2.2.2.2.2⟩
theorem zN_pg {s : Nat → Int32} {n nv no c k : Nat} {x : Int32} (h : zN s n nv no) : zN (pg s c k x) n nv no := zN_cong h (pg_lo (by omega)) (pg_lo (by omega)) (pg_lo (by omega))
