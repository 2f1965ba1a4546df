/-! ===== Int32 by its bits: bt x i ===== -/
def bt (x : Int32) (i : Nat) : Bool := x.toBitVec.getLsbD i
theorem b_ext {x y : Int32} (h : ∀ i, i < 32 → bt x i = bt y i) : x = y := Int32.toBitVec_inj.mp (BitVec.eq_of_getLsbD_eq (fun i hi => h i hi))
theorem b_or (x y : Int32) (i : Nat) : bt (x ||| y) i = (bt x i || bt y i) := by unfold bt; rw [Int32.toBitVec_or, BitVec.getLsbD_or]
theorem b_and (x y : Int32) (i : Nat) : bt (x &&& y) i = (bt x i && bt y i) := by unfold bt; rw [Int32.toBitVec_and, BitVec.getLsbD_and]
theorem b_xor (x y : Int32) (i : Nat) : bt (x ^^^ y) i = (bt x i ^^ bt y i) := by unfold bt; rw [Int32.toBitVec_xor, BitVec.getLsbD_xor]
theorem b_big {x : Int32} {i : Nat} (h : 32 ≤ i) : bt x i = false := BitVec.getLsbD_of_ge _ _ h
theorem b_255 (i : Nat) : bt 255 i = decide (i < 8) := by
  rcases Nat.lt_or_ge i 32 with h | h
  · exact (by decide +kernel : ∀ i, i < 32 → bt 255 i = decide (i < 8)) i h
  · rw [b_big h, decide_eq_false (by omega)]
theorem b_65535 (i : Nat) : bt 65535 i = decide (i < 16) := by
  rcases Nat.lt_or_ge i 32 with h | h
  · exact (by decide +kernel : ∀ i, i < 32 → bt 65535 i = decide (i < 16)) i h
  · rw [b_big h, decide_eq_false (by omega)]
theorem b_m1 : ∀ i, i < 32 → bt (-1) i = true := by decide +kernel
theorem b_0 (i : Nat) : bt 0 i = false := BitVec.getLsbD_zero
theorem s_l : ∀ n, n < 32 → ((nI n &&& 31).toBitVec.smod 32).toNat = n := by decide +kernel
theorem s_u : ∀ n, n < 32 → (((nI n).toUInt32 &&& Int32.toUInt32 31).toBitVec % 32).toNat = n := by decide +kernel
theorem b_shl (n : Nat) (hn : n < 32) (x : Int32) {i : Nat} (hi : i < 32) : bt (x <<< (nI n &&& 31)) i = (decide (n ≤ i) && bt x (i - n)) := by
  unfold bt
  rw [Int32.toBitVec_shiftLeft]
  show (x.toBitVec <<< ((nI n &&& 31).toBitVec.smod 32).toNat).getLsbD i = _
  rw [s_l n hn, BitVec.getLsbD_shiftLeft]
  rcases Nat.lt_or_ge i n with h | h
  · simp [h, Nat.not_le.mpr h]
  · simp [hi, h, Nat.not_lt.mpr h]
theorem b_ushr (n : Nat) (hn : n < 32) (x : Int32) (i : Nat) : bt ((x.toUInt32 >>> ((nI n).toUInt32 &&& Int32.toUInt32 31)).toInt32) i = bt x (n + i) := by
  show (x.toUInt32 >>> ((nI n).toUInt32 &&& Int32.toUInt32 31)).toBitVec.getLsbD i = x.toUInt32.toBitVec.getLsbD (n + i)
  rw [UInt32.toBitVec_shiftRight]
  show (x.toUInt32.toBitVec >>> (((nI n).toUInt32 &&& Int32.toUInt32 31).toBitVec % 32).toNat).getLsbD i = _
  rw [s_u n hn, BitVec.getLsbD_ushiftRight]
theorem b_sshr (n : Nat) (hn : n < 32) (x : Int32) {i : Nat} (hi : i < 32) : bt (x >>> (nI n &&& 31)) i = if n + i < 32 then bt x (n + i) else bt x 31 := by
  unfold bt
  rw [Int32.toBitVec_shiftRight]
  show (x.toBitVec.sshiftRight ((nI n &&& 31).toBitVec.smod 32).toNat).getLsbD i = _
  rw [s_l n hn, BitVec.getLsbD_sshiftRight, BitVec.msb_eq_getLsbD_last]
  simp [hi]
theorem b_shl8 (x : Int32) {i : Nat} (hi : i < 32) : bt (x <<< ((8 : Int32) &&& 31)) i = (decide (8 ≤ i) && bt x (i - 8)) := b_shl 8 (by omega) x hi
theorem b_shl16 (x : Int32) {i : Nat} (hi : i < 32) : bt (x <<< ((16 : Int32) &&& 31)) i = (decide (16 ≤ i) && bt x (i - 16)) := b_shl 16 (by omega) x hi
theorem b_shl24 (x : Int32) {i : Nat} (hi : i < 32) : bt (x <<< ((24 : Int32) &&& 31)) i = (decide (24 ≤ i) && bt x (i - 24)) := b_shl 24 (by omega) x hi
theorem b_sshr8 (x : Int32) {i : Nat} (hi : i < 32) : bt (x >>> ((8 : Int32) &&& 31)) i = if 8 + i < 32 then bt x (8 + i) else bt x 31 := b_sshr 8 (by omega) x hi
/-- bit c of L isn't set -/
abbrev zb (L : Int32) (c : Nat) : Prop := (L >>> (nI c &&& 31)) &&& 1 = 0
theorem b_1 : ∀ i, i < 32 → bt 1 i = decide (i = 0) := by decide +kernel
theorem zb_bt {L : Int32} {c : Nat} (hc : c < 32) : zb L c ↔ bt L c = false := by
  constructor
  · intro h
    have h2 := congrArg (fun x => bt x 0) h
    simp only [b_and, b_0, b_sshr c hc L (i := 0) (by omega), b_1 0 (by omega)] at h2
    simpa [hc] using h2
  · intro h
    refine b_ext (fun i hi => ?_)
    rw [b_and, b_0, b_sshr c hc L hi, b_1 i hi]
    by_cases h0 : i = 0
    · subst h0
      simp [hc, h]
    · simp [h0]
theorem zbit_bt {c i : Nat} (hc : c < 32) (hi : i < 32) : bt (zbit c) i = decide (i = c) := by
  unfold zbit
  rw [b_shl c hc 1 hi, b_1 (i - c) (by omega)]
  by_cases h : i = c
  · subst h; simp
  · by_cases h2 : c ≤ i
    · have : ¬ i - c = 0 := by omega
      simp [h, h2, this]
    · simp [h, h2]
theorem zb_set {L : Int32} {c i : Nat} (hc : c < 32) (hi : i < 32) : zb (L ||| zbit c) i ↔ zb L i ∧ i ≠ c := by
  rw [zb_bt hi, zb_bt hi, b_or, zbit_bt hc hi]
  simp
theorem zb_0 {i : Nat} (hi : i < 32) : zb 0 i := (zb_bt hi).mpr (b_0 i)
/-- how many of the first n bits aren't set -/
def zUn (L : Int32) : Nat → Nat
  | 0 => 0
  | n + 1 => zUn L n + (if zb L n then 1 else 0)
theorem zUn_0 : ∀ n, n ≤ 32 → zUn 0 n = n
  | 0, _ => rfl
  | n + 1, h => by rw [zUn, zUn_0 n (by omega), if_pos (zb_0 (by omega))]
theorem zUn_out {L : Int32} {c : Nat} (hc : c < 32) : ∀ n, n ≤ c → zUn (L ||| zbit c) n = zUn L n
  | 0, _ => rfl
  | n + 1, h => by
    rw [zUn, zUn, zUn_out hc n (by omega)]
    have : zb (L ||| zbit c) n ↔ zb L n := by rw [zb_set hc (by omega)]; exact and_iff_left (by omega)
    simp only [this]
theorem zUn_set {L : Int32} {c : Nat} (hc : c < 32) (hb : zb L c) : ∀ n, c < n → n ≤ 32 → zUn (L ||| zbit c) n + 1 = zUn L n
  | 0, h, _ => absurd h (Nat.not_lt_zero c)
  | n + 1, h, h2 => by
    rw [zUn, zUn]
    by_cases hn : n = c
    · subst hn
      rw [zUn_out hc n (Nat.le_refl n), if_pos hb, if_neg (fun z => ((zb_set hc hc).mp z).2 rfl)]
    · have ih := zUn_set hc hb n (by omega) (by omega)
      have : zb (L ||| zbit c) n ↔ zb L n := by rw [zb_set hc (by omega)]; exact and_iff_left hn
      simp only [this]
      omega
/-! looking for the next one by a rule, and filling -/
abbrev zMay (s : Nat → Int32) (L place : Int32) (c : Nat) : Prop := ¬ gd s c 6 = 5 ∧ gd s c 6 = 0 ∧ gd s c 0 = place ∧ zb L c
def zPick (s : Nat → Int32) (L place rule : Int32) : Nat → Option Nat
  | 0 => none
  | c + 1 => match zPick s L place rule c with
    | none => if zMay s L place c then some c else none
    | some k => if zMay s L place c ∧ zAhead s c k rule then some c else some k
def o2i (o : Option Nat) : Int32 := match o with
  | none => -1000004
  | some k => nI k
theorem zPick_some {s : Nat → Int32} {L place rule : Int32} : ∀ {n k : Nat}, zPick s L place rule n = some k → k < n ∧ zMay s L place k
  | 0, k, h => by simp [zPick] at h
  | c + 1, k, h => by
    rw [zPick] at h
    cases hp : zPick s L place rule c with
    | none =>
      rw [hp] at h
      simp only at h
      split at h
      · next hm => cases h; exact ⟨Nat.lt_succ_self _, hm⟩
      · cases h
    | some j =>
      rw [hp] at h
      simp only at h
      split at h
      · next hm => cases h; exact ⟨Nat.lt_succ_self _, hm.1⟩
      · cases h
        have ih := zPick_some hp
        exact ⟨Nat.lt_succ_of_lt ih.1, ih.2⟩
theorem zPick_free {s : Nat → Int32} {L place rule : Int32} : ∀ {n : Nat}, zUn L n = 0 → zPick s L place rule n = none
  | 0, _ => rfl
  | c + 1, h => by
    rw [zUn] at h
    have h1 : zUn L c = 0 := by omega
    have h2 : ¬ zb L c := fun z => by rw [if_pos z] at h; omega
    rw [zPick, zPick_free h1]
    simp only
    rw [if_neg (fun z => h2 z.2.2.2)]
def zLoads (s : Nat → Int32) (c iv : Nat) : Nat → Int32 := pg (pg s c 6 1) c 7 (nI iv)
def zFill (n iv : Nat) (place rule : Int32) : Nat → (Nat → Int32) → Int32 → Int32 → (Nat → Int32) × Int32
  | 0, s, _, t => (s, t)
  | f + 1, s, L, t => match zPick s L place rule n with
    | none => (s, t)
    | some c => if zCan s n c iv then zFill n iv place rule f (zLoads s c iv) (L ||| zbit c) (t ||| zbit c) else zFill n iv place rule f s (L ||| zbit c) t
theorem o2i_some {o : Option Nat} (h : ¬ o2i o < 0) : ∃ k, o = some k := by
  cases o with
  | none => exact absurd (by decide) h
  | some k => exact ⟨k, rfl⟩
theorem o2i_none {o : Option Nat} (hb : ∀ k, o = some k → k < 2 ^ 31) (h : o2i o < 0) : o = none := by
  cases o with
  | none => rfl
  | some k => exact absurd h (nI_pos (hb k rfl))
theorem zPick_keep {s : Nat → Int32} {L place rule : Int32} {i : Nat} (h : ¬ zMay s L place i) : zPick s L place rule i = zPick s L place rule (i + 1) := by
  rw [zPick]
  cases zPick s L place rule i with
  | none => simp only; rw [if_neg h]
  | some k => simp only; rw [if_neg (fun z => h z.1)]
theorem zPick_first {s : Nat → Int32} {L place rule : Int32} {i : Nat} (h : zMay s L place i) (hp : zPick s L place rule i = none) : zPick s L place rule (i + 1) = some i := by
  rw [zPick, hp]
  exact if_pos h
theorem zPick_new {s : Nat → Int32} {L place rule : Int32} {i k : Nat} (h : zMay s L place i) (hp : zPick s L place rule i = some k) (ha : zAhead s i k rule) : zPick s L place rule (i + 1) = some i := by
  rw [zPick, hp]
  exact if_pos ⟨h, ha⟩
theorem zPick_old {s : Nat → Int32} {L place rule : Int32} {i k : Nat} (hp : zPick s L place rule i = some k) (ha : ¬ zAhead s i k rule) : zPick s L place rule i = zPick s L place rule (i + 1) := by
  rw [zPick, hp]
  exact (if_neg (fun z => ha z.2)).symm
theorem zFill_none {n iv : Nat} {place rule : Int32} {s : Nat → Int32} {L t : Int32} {f : Nat} (h : zPick s L place rule n = none) : zFill n iv place rule f s L t = (s, t) := by
  cases f with
  | zero => rfl
  | succ f => rw [zFill, h]
theorem zFill_can {n iv : Nat} {place rule : Int32} {s : Nat → Int32} {L t : Int32} {f c : Nat} (h : zPick s L place rule n = some c) (hc : zCan s n c iv) : zFill n iv place rule (f + 1) s L t = zFill n iv place rule f (zLoads s c iv) (L ||| zbit c) (t ||| zbit c) := by
  rw [zFill, h]
  exact if_pos hc
theorem zFill_not {n iv : Nat} {place rule : Int32} {s : Nat → Int32} {L t : Int32} {f c : Nat} (h : zPick s L place rule n = some c) (hc : ¬ zCan s n c iv) : zFill n iv place rule (f + 1) s L t = zFill n iv place rule f s (L ||| zbit c) t := by
  rw [zFill, h]
  exact if_neg hc
theorem zN_cong {s s' : Nat → Int32} {n nv no : Nat} (h : zN s n nv no) (h3 : s' 3 = s 3) (h4 : s' 4 = s 4) (h6 : s' 6 = s 6) : zN s' n nv no := ⟨h3.trans h.1, h.2.1, h4.trans h.2.2.1, h.2.2.2.1, h6.trans h.2.2.2.2.1, h.2.2.2.2.2⟩
theorem zN_pg {s : Nat → Int32} {n nv no c k : Nat} {x : Int32} (h : zN s n nv no) : zN (pg s c k x) n nv no := zN_cong h (pg_lo (by omega)) (pg_lo (by omega)) (pg_lo (by omega))
theorem zN_pv {s : Nat → Int32} {n nv no c k : Nat} {x : Int32} (h : zN s n nv no) : zN (pv s c k x) n nv no := zN_cong h (pv_lo (by omega)) (pv_lo (by omega)) (pv_lo (by omega))

