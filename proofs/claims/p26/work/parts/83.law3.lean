def dI : Nat → Int32
  | 0 => -1
  | j + 1 => nI j
theorem dI_neg {x : Nat} (hx : x ≤ 1000) : dI x < 0 ↔ x = 0 := by
  cases x with
  | zero => exact ⟨fun _ => rfl, fun _ => by decide⟩
  | succ jω => exact ⟨fun hω => absurd hω (nI_pos (by omega)), fun hω => by omega⟩
theorem dI_ex {x : Nat} (h : ¬ dI x < 0) : ∃ j, x = j + 1 := by
  cases x with
  | zero => exact absurd (by decide) h
  | succ jω => exact ⟨jω, rfl⟩
theorem dI_dec (j : Nat) : nI j + Int32.ofInt (-1) = dI j := by
  cases j with
  | zero => rfl
  | succ j => 
    show nI (j + 1) + (-1) = nI j
    rw [← nI_1, Int32.add_assoc, show (1 : Int32) + -1 = 0 from by decide, Int32.add_zero]
theorem dI_sub (j : Nat) : nI j - 1 = dI j := by
  rw [Int32.sub_eq_add_neg]
  exact dI_dec j
theorem oI_some {o : Option Nat} (h : 0 ≤ oI o) : ∃ k, o = some k := by
  cases o with
  | none => exact absurd h (by decide)
  | some kω => exact ⟨kω, rfl⟩
theorem oI_none {o : Option Nat} (hk : ∀ k, o = some k → k < 16) (h : oI o < 0) : o = none := by
  cases o with
  | none => rfl
  | some kω => exact absurd h (nI_pos (by have := hk kω rfl; omega))
def zKey (s : Nat → Int32) (a b : Nat) (r : Int32) : Int := if r = 0 then (gd s a 4).toInt - (gd s b 4).toInt else if r = 1 then (gd s b 5).toInt - (gd s a 5).toInt else (gd s b 5).toInt * (gd s a 1).toInt - (gd s a 5).toInt * (gd s b 1).toInt
theorem zBy_key {s : Nat → Int32} {a b : Nat} {r : Int32} (ha : zBd (gd s a)) (hb : zBd (gd s b)) : zBy s a b r < 0 ↔ zKey s a b r < 0 := by
  obtain ⟨⟨a1ω, a2ω⟩, ⟨a3ω, a4ω⟩, a5ω, a6ω⟩ := ha
  obtain ⟨⟨b1ω, b2ω⟩, ⟨b3ω, b4ω⟩, b5ω, b6ω⟩ := hb
  unfold zBy zKey
  by_cases h0 : r = 0
  · rw [if_pos h0, if_pos h0, zdl ⟨a1ω, by omega⟩ ⟨b1ω, by omega⟩, Int32.lt_iff_toInt_lt]
    omega
  · rw [if_neg h0, if_neg h0]
    by_cases h1 : r = 1
    · rw [if_pos h1, if_pos h1, zdl ⟨b3ω, by omega⟩ ⟨a3ω, by omega⟩, Int32.lt_iff_toInt_lt]
      omega
    · rw [if_neg h1, if_neg h1]
      have m1ω := zml (x := gd s b 5) (y := gd s a 1) ⟨b3ω, b4ω⟩ ⟨a5ω, a6ω⟩
      have m2ω := zml (x := gd s a 5) (y := gd s b 1) ⟨a3ω, a4ω⟩ ⟨b5ω, b6ω⟩
      have p1ω : 0 ≤ (gd s b 5).toInt * (gd s a 1).toInt := Int.mul_nonneg b3ω a5ω
      have p2ω : (gd s b 5).toInt * (gd s a 1).toInt ≤ 15984 * 1584 := Int.mul_le_mul b4ω a6ω a5ω (by decide)
      have p3ω : 0 ≤ (gd s a 5).toInt * (gd s b 1).toInt := Int.mul_nonneg a3ω b5ω
      have p4ω : (gd s a 5).toInt * (gd s b 1).toInt ≤ 15984 * 1584 := Int.mul_le_mul a4ω b6ω b5ω (by decide)
      have e1ω : (gd s b 5 * gd s a 1).toInt = (gd s b 5).toInt * (gd s a 1).toInt := by rw [Int32.toInt_mul, Int.bmod_eq_of_le (by omega) (by omega)]
      have e2ω : (gd s a 5 * gd s b 1).toInt = (gd s a 5).toInt * (gd s b 1).toInt := by rw [Int32.toInt_mul, Int.bmod_eq_of_le (by omega) (by omega)]
      rw [zdl m1ω m2ω, Int32.lt_iff_toInt_lt, e1ω, e2ω]
      generalize (gd s b 5).toInt * (gd s a 1).toInt = y1ω
      generalize (gd s a 5).toInt * (gd s b 1).toInt = y2ω
      omega
theorem zKey_an {s : Nat → Int32} {a b : Nat} {r : Int32} : zKey s a b r = - zKey s b a r := by
  unfold zKey
  split
  · omega
  · split
    · omega
    · generalize (gd s b 5).toInt * (gd s a 1).toInt = y1ω
      generalize (gd s a 5).toInt * (gd s b 1).toInt = y2ω
      omega
theorem zKey_tr {s : Nat → Int32} {a k c : Nat} {r : Int32} (ha : zBd (gd s a)) (hc : zBd (gd s c)) (hk : 1 ≤ (gd s k 1).toInt) (h1 : 0 ≤ zKey s a k r) (h2 : 0 ≤ zKey s k c r) : 0 ≤ zKey s a c r := by
  unfold zKey at *
  split at h1
  · next h0ω => rw [if_pos h0ω] at h2 ⊢; omega
  · next h0ω =>
    rw [if_neg h0ω] at h2 ⊢
    split at h1
    · next h3ω => rw [if_pos h3ω] at h2 ⊢; omega
    · next h3ω =>
      rw [if_neg h3ω] at h2 ⊢
      have q1ω : (gd s a 5).toInt * (gd s k 1).toInt ≤ (gd s k 5).toInt * (gd s a 1).toInt := Int.sub_nonneg.mp h1
      have q2ω : (gd s k 5).toInt * (gd s c 1).toInt ≤ (gd s c 5).toInt * (gd s k 1).toInt := Int.sub_nonneg.mp h2
      have r1ω := Int.mul_le_mul_of_nonneg_right q1ω hc.2.2.1
      have r2ω := Int.mul_le_mul_of_nonneg_right q2ω ha.2.2.1
      have eω : (gd s a 5).toInt * (gd s c 1).toInt * (gd s k 1).toInt ≤ (gd s c 5).toInt * (gd s a 1).toInt * (gd s k 1).toInt := by
        rw [Int.mul_right_comm, Int.mul_right_comm ((gd s c 5).toInt)]
        refine Int.le_trans r1ω ?_
        rw [Int.mul_right_comm]
        exact r2ω
      exact Int.sub_nonneg.mpr (Int.le_of_mul_le_mul_right eω (by omega))
/-- o is the one to be looked at first among those from j on -/
def zWn (s : Nat → Int32) (L place rule : Int32) (n j : Nat) (o : Option Nat) : Prop := match o with
  | none => ∀ c, j ≤ c → c < n → ¬ zMay s L place c
  | some k => j ≤ k ∧ k < n ∧ zMay s L place k ∧ ∀ c, j ≤ c → c < n → zMay s L place c → (k < c → ¬ zBy s c k rule < 0) ∧ (c < k → zBy s k c rule < 0)
theorem zWn_end {s : Nat → Int32} {L place rule : Int32} {n : Nat} : zWn s L place rule n n none := fun cω h1ω h2ω => absurd h1ω (by omega)
theorem zWn_no {s : Nat → Int32} {L place rule : Int32} {n j : Nat} {o : Option Nat} (h : zWn s L place rule n (j + 1) o) (hm : ¬ zMay s L place j) : zWn s L place rule n j o := by
  have hxω : ∀ cω, j ≤ cω → zMay s L place cω → j + 1 ≤ cω := fun cω h1ω h2ω => by
    rcases Nat.lt_or_ge j cω with h3ω | h3ω
    · exact h3ω
    · exact absurd (show zMay s L place j from by rw [show j = cω from by omega]; exact h2ω) hm
  cases o with
  | none => exact fun cω h1ω h2ω h3ω => h cω (hxω cω h1ω h3ω) h2ω h3ω
  | some kω => exact ⟨by have := h.1; omega, h.2.1, h.2.2.1, fun cω h1ω h2ω h3ω => h.2.2.2 cω (hxω cω h1ω h3ω) h2ω h3ω⟩
theorem zWn_first {s : Nat → Int32} {L place rule : Int32} {n j : Nat} (hj : j < n) (h : zWn s L place rule n (j + 1) none) (hm : zMay s L place j) : zWn s L place rule n j (some j) := ⟨Nat.le_refl _, hj, hm, fun cω h1ω h2ω h3ω => ⟨fun h4ω => absurd h3ω (h cω (by omega) h2ω), fun h4ω => absurd h1ω (by omega)⟩⟩
theorem zWn_old {s : Nat → Int32} {L place rule : Int32} {n j k : Nat} (h : zWn s L place rule n (j + 1) (some k)) (hb : zBy s k j rule < 0) : zWn s L place rule n j (some k) := by
  obtain ⟨h1ω, h2ω, h3ω, h4ω⟩ := h
  refine ⟨by omega, h2ω, h3ω, fun cω c1ω c2ω c3ω => ?_⟩
  rcases Nat.lt_or_ge j cω with h5ω | h5ω
  · exact h4ω cω h5ω c2ω c3ω
  · rw [show cω = j from by omega]
    exact ⟨fun h6ω => by omega, fun _ => hb⟩
theorem zWn_new {s : Nat → Int32} {L place rule : Int32} {n nv no j k : Nat} (hw : zWF s n nv no) (hj : j < n) (h : zWn s L place rule n (j + 1) (some k)) (hm : zMay s L place j) (hb : ¬ zBy s k j rule < 0) : zWn s L place rule n j (some j) := by
  obtain ⟨h1ω, h2ω, h3ω, h4ω⟩ := h
  refine ⟨Nat.le_refl _, hj, hm, fun cω c1ω c2ω c3ω => ⟨fun h5ω => ?_, fun h5ω => absurd c1ω (by omega)⟩⟩
  by_cases hk : cω = k
  · rw [hk]; exact hb
  · have bkω := hw.bd h2ω h3ω.1
    have bcω := hw.bd c2ω c3ω.1
    have bjω := hw.bd hj hm.1
    have gω := h4ω cω (by omega) c2ω c3ω
    rw [zBy_key bkω bjω] at hb
    rw [zBy_key bcω bjω]
    have hckω : 0 ≤ zKey s cω k rule := by
      rcases Nat.lt_or_ge k cω with h6ω | h6ω
      · have := gω.1 h6ω
        rw [zBy_key bcω bkω] at this
        omega
      · have := gω.2 (by omega)
        rw [zBy_key bkω bcω, zKey_an] at this
        omega
    have hszω := Int32.le_iff_toInt_le.mp (hw.g k h2ω).2.1
    have := zKey_tr bcω bjω hszω hckω (by omega)
    omega
theorem zWn_pick {s : Nat → Int32} {L place rule : Int32} {n : Nat} {o : Option Nat} (hn : n ≤ 16) (h : zWn s L place rule n 0 o) : zPick s L place rule n = o := by
  cases o with
  | none =>
    have : ∀ mω, mω ≤ n → zPick s L place rule mω = none := by
      intro mω
      induction mω with
      | zero => intro _; rfl
      | succ mω ihω =>
        intro hmω
        rw [← zPick_keep (h mω (by omega) (by omega))]
        exact ihω (by omega)
    exact this n (Nat.le_refl n)
  | some kω =>
    obtain ⟨h1ω, h2ω, h3ω, h4ω⟩ := h
    have : ∀ mω, mω ≤ n → kω < mω → zPick s L place rule mω = some kω := by
      intro mω
      induction mω with
      | zero => intro _ h; omega
      | succ mω ihω =>
        intro hmω hkω
        by_cases hkm : kω = mω
        · rw [← hkm]
          cases hpω : zPick s L place rule kω with
          | none => exact zPick_first h3ω hpω
          | some k'ω =>
            have gω := zPick_some hpω
            exact zPick_new h3ω hpω ((zAhead_by gω.1 (by omega)).mpr ((h4ω k'ω (by omega) (by omega) gω.2).2 gω.1))
        · have hpω := ihω (by omega) (by omega)
          by_cases hmm : zMay s L place mω
          · rw [← zPick_old hpω (fun zω => ((h4ω mω (by omega) (by omega) hmm).1 (by omega)) ((zAhead_by (by omega) (by omega)).mp zω))]
            exact hpω
          · rw [← zPick_keep hmm]
            exact hpω
    exact this n (Nat.le_refl n) h2ω
def zSub (t L : Int32) : Prop := ∀ i, i < 32 → bt t i = true → bt L i = true
theorem zSub_0 : zSub 0 0 := fun iω hiω hω => by rw [b_0] at hω; cases hω
theorem zSub_L {t L : Int32} {c : Nat} (h : zSub t L) : zSub t (L ||| zbit c) := fun iω hiω h2ω => by rw [b_or, h iω hiω h2ω]; rfl
theorem zSub_B {t L : Int32} {c : Nat} (h : zSub t L) : zSub (t ||| zbit c) (L ||| zbit c) := fun iω hiω h2ω => by
  rw [b_or] at h2ω ⊢
  cases h3 : bt t iω with
  | true => rw [h iω hiω h3]; rfl
  | false =>
    rw [h3] at h2ω
    rw [show bt (zbit c) iω = true from by simpa using h2ω]
    simp
theorem zSub_f {t L : Int32} {c : Nat} (hc : c < 32) (h : zSub t L) (hb : zb L c) : bt t c = false := by
  cases h3 : bt t c with
  | false => rfl
  | true => exact absurd (h c hc h3) (by rw [(zb_bt hc).mp hb]; decide)
/-- how filling stands after i of the 16 rounds -/
def zFi (n v : Nat) (p r : Int32) (s : Nat → Int32) (i : Nat) (s1 : Nat → Int32) (L t : Int32) : Prop := zFill n v p r (n - i) s1 L t = zFill n v p r n s 0 0 ∧ (zUn L n ≤ n - i ∨ zPick s1 L p r n = none) ∧ zSub t L
theorem zFi_0 {n v : Nat} {p r : Int32} {s : Nat → Int32} (hn : n ≤ 16) : zFi n v p r s 0 s 0 0 := ⟨rfl, Or.inl (by rw [zUn_0 n (by omega)]; exact Nat.le_refl _), zSub_0⟩
theorem zFi_none {n v i : Nat} {p r : Int32} {s s1 : Nat → Int32} {L t : Int32} (h : zFi n v p r s i s1 L t) (hp : zPick s1 L p r n = none) : zFi n v p r s (i + 1) s1 L t := by
  obtain ⟨h1ω, h2ω, h3ω⟩ := h
  refine ⟨?_, Or.inr hp, h3ω⟩
  rw [zFill_none hp] at h1ω ⊢
  exact h1ω
theorem zFi_one {n v i k : Nat} {p r : Int32} {s s1 : Nat → Int32} {L t : Int32} (hn : n ≤ 16) (h : zFi n v p r s i s1 L t) (hp : zPick s1 L p r n = some k) : n - i = (n - (i + 1)) + 1 ∧ zUn (L ||| zbit k) n ≤ n - (i + 1) := by
  obtain ⟨h1ω, h2ω, h3ω⟩ := h
  have gω := zPick_some hp
  have h4ω : zUn L n ≤ n - i := h2ω.elim id (fun zω => by rw [zω] at hp; cases hp)
  have h5ω := zUn_set (L := L) (c := k) (by omega) gω.2.2.2.2 n gω.1 (by omega)
  omega
theorem zFi_can {n v i k : Nat} {p r : Int32} {s s1 : Nat → Int32} {L t : Int32} (hn : n ≤ 16) (h : zFi n v p r s i s1 L t) (hp : zPick s1 L p r n = some k) (hc : zCan s1 n k v) : zFi n v p r s (i + 1) (zLoads s1 k v) (L ||| zbit k) (t ||| zbit k) := by
  have gω := zFi_one hn h hp
  obtain ⟨h1ω, h2ω, h3ω⟩ := h
  refine ⟨?_, Or.inl gω.2, zSub_B h3ω⟩
  rw [gω.1, zFill_can hp hc] at h1ω
  exact h1ω
theorem zFi_not {n v i k : Nat} {p r : Int32} {s s1 : Nat → Int32} {L t : Int32} (hn : n ≤ 16) (h : zFi n v p r s i s1 L t) (hp : zPick s1 L p r n = some k) (hc : ¬ zCan s1 n k v) : zFi n v p r s (i + 1) s1 (L ||| zbit k) t := by
  have gω := zFi_one hn h hp
  obtain ⟨h1ω, h2ω, h3ω⟩ := h
  refine ⟨?_, Or.inl gω.2, zSub_L h3ω⟩
  rw [gω.1, zFill_not hp hc] at h1ω
  exact h1ω
theorem zFi_end {n v : Nat} {p r : Int32} {s s1 : Nat → Int32} {L t : Int32} (hn : n ≤ 16) (h : zFi n v p r s 16 s1 L t) : zFill n v p r n s 0 0 = (s1, t) := by
  have h1ω := h.1
  rw [show n - 16 = 0 from by omega] at h1ω
  exact h1ω.symm
set_option maxRecDepth 20000 in
set_option maxHeartbeats 4000000 in
theorem ct_L_fill {K : zK} {M : mM} {nx : Nat} {m : Nat} {s : Nat → Int32} {n nv no : Nat} (hm : lP M m s n nv no) (hw : zWF s n nv no) {v : Nat} (hvv : v < nv) {place rule : Int32} : zCt K yL_fill cL_fill 14 zr_L_fill 3 [.ref m, .ref (m + 1), .ref (m + 2), .ref (m + 4), .int (nI v), .int place, .int rule] M nx 0 0 (zI (fun x M' => x = (zFill n v place rule n s 0 0).2 ∧ lP M' m (zFill n v place rule n s 0 0).1 n nv no ∧ zFr M M' m 6)) := by
  refine z_enter [some (.ref m), some (.ref (m + 1)), some (.ref (m + 2)), some (.ref (m + 4)), some (.int (nI v)), some (.int place), some (.int rule), none, none, none, none, none, none, none] (by decide +kernel) (Nat.le_of_ble_eq_true rfl) rfl (fun Bω okω hzω => ?_)
  have hNω := hw.N
  have hn16ω := hNω.2.1
  have hnv4ω := hNω.2.2.2.1
  have hno10ω := hNω.2.2.2.2.2
  refine z_iconst (v := 0) okω dL_fill_0 (by decide) ?_
  refine z_istore okω dL_fill_1 (by decide) rfl ?_
  refine z_iconst (v := 0) okω dL_fill_3 (by decide) ?_
  refine z_istore okω dL_fill_4 (by decide) rfl ?_
  refine z_iconst (v := 0) okω dL_fill_6 (by decide) ?_
  refine z_istore okω dL_fill_7 (by decide) rfl ?_
  have loop9ω : ∀ (t9ω i9ω : Nat) (s1ω : Nat → Int32) (Lω yω : Int32) (M1ω : mM) (vzq1ω vzq2ω vzq3ω vzq4ω : Option Value), 16 < i9ω + t9ω → i9ω ≤ 16 → zFi n v place rule s i9ω s1ω Lω yω → zWF s1ω n nv no → lP M1ω m s1ω n nv no → zFr M M1ω m 6 → zV 14 Bω (zE Bω (zI (fun xω M'ω => xω = (zFill n v place rule n s 0 0).2 ∧ lP M'ω m (zFill n v place rule n s 0 0).1 n nv no ∧ zFr M M'ω m 6)) 0 0) 9 [some (.ref m), some (.ref (m + 1)), some (.ref (m + 2)), some (.ref (m + 4)), some (.int (nI v)), some (.int place), some (.int rule), some (.int yω), some (.int Lω), some (.int (nI i9ω)), vzq1ω, vzq2ω, vzq3ω, vzq4ω] [] M1ω 0 0 := by
    intro t9ω
    induction t9ω with
    | zero => intro i9ω s1ω Lω yω M1ω vzq1ω vzq2ω vzq3ω vzq4ω h19ω h29ω; exact absurd h19ω (by omega)
    | succ t9ω ih9ω =>
      intro i9ω s1ω Lω yω M1ω vzq1ω vzq2ω vzq3ω vzq4ω h19ω h29ω hfiω hw1ω hm1ω hf1ω
      have hN1ω := hw1ω.N
      refine z_iload okω dL_fill_9 rfl ?_
      refine z_bipush (v := 16) okω dL_fill_11 (by decide) ?_
      refine z_icmp_ge (tgt := 243) okω dL_fill_13 (by decide) (fun cz13ω => ?_) (fun cz13ω => ?_)
      · have hi16ω : i9ω = 16 := by have := (nI_leI (a := 16) (by omega) (by omega)).mp cz13ω; omega
        rw [hi16ω] at hfiω
        have hendω := zFi_end hn16ω hfiω
        refine z_iload okω dL_fill_243 rfl ?_
        exact z_iret okω dL_fill_245 rfl rfl rfl (Nat.zero_le _) ⟨by rw [hendω], by rw [hendω]; exact hm1ω, hf1ω⟩
      · have hi16ω : i9ω < 16 := by have := mt (nI_leI (a := 16) (b := i9ω) (by omega) (by omega)).mpr cz13ω; omega
        refine z_iconst (v := -1) okω dL_fill_16 (by decide) ?_
        refine z_istore okω dL_fill_17 (by decide) rfl ?_
        refine z_aload_n okω dL_fill_19 rfl ?_
        refine z_iconst (v := 3) okω dL_fill_20 (by decide) ?_
        refine l_ldG (t := 3) okω dL_fill_21 hm1ω rfl (by decide) ?_
        refine z_iconst (v := 1) okω dL_fill_22 (by decide) ?_
        refine z_isub okω dL_fill_23 ?_
        rw [hN1ω.1, dI_sub]
        refine z_istore okω dL_fill_24 (by decide) rfl ?_
        have loop26ω : ∀ (t6ω i6ω : Nat) (oω : Option Nat) (vzq5ω vzq6ω : Option Value), n < i6ω + t6ω → i6ω ≤ n → zWn s1ω Lω place rule n (n - i6ω) oω → zV 14 Bω (zE Bω (zI (fun xω M'ω => xω = (zFill n v place rule n s 0 0).2 ∧ lP M'ω m (zFill n v place rule n s 0 0).1 n nv no ∧ zFr M M'ω m 6)) 0 0) 26 [some (.ref m), some (.ref (m + 1)), some (.ref (m + 2)), some (.ref (m + 4)), some (.int (nI v)), some (.int place), some (.int rule), some (.int yω), some (.int Lω), some (.int (nI i9ω)), some (.int (oI oω)), some (.int (dI (n - i6ω))), vzq5ω, vzq6ω] [] M1ω 0 0 := by
          intro t6ω
          induction t6ω with
          | zero => intro i6ω oω vzq5ω vzq6ω h16ω h26ω; exact absurd h16ω (by omega)
          | succ t6ω ih6ω =>
            intro i6ω oω vzq5ω vzq6ω h16ω h26ω hwnω
            refine z_iload okω dL_fill_26 rfl ?_
            refine z_if_lt (tgt := 192) okω dL_fill_28 (by decide) (fun cz28ω => ?_) (fun cz28ω => ?_)
            · have hz6ω := (dI_neg (by omega)).mp cz28ω
              rw [hz6ω] at hwnω
              have hpk9ω := zWn_pick hn16ω hwnω
              refine z_iload okω dL_fill_192 rfl ?_
              refine z_if_lt (tgt := 237) okω dL_fill_194 (by decide) (fun cz194ω => ?_) (fun cz194ω => ?_)
              · have hpnω : zPick s1ω Lω place rule n = none := hpk9ω.trans (oI_none (fun kω hkω => by rw [hkω] at hwnω; have := hwnω.2.1; omega) cz194ω)
                refine z_iinc okω dL_fill_237 rfl (zinc2 _) (by decide) rfl ?_
                refine z_goto (tgt := 9) okω dL_fill_240 (by decide) ?_
                first | exact ih9ω (i9ω + 1) _ _ _ _ _ _ _ _ (by omega) (by omega) (zFi_none hfiω hpnω) hw1ω hm1ω hf1ω | exact ih9ω (i9ω + 1) _ _ _ _ _ _ _ _ (by omega) (by omega) (zFi_not hn16ω hfiω hpkω hcaω) hw1ω hm1ω hf1ω | exact ih9ω (i9ω + 1) _ _ _ _ _ _ _ _ (by omega) (by omega) (zFi_can hn16ω hfiω hpkω hcaω) (hw1ω.load hk9ω hvv hcaω) hm1ω (hf1ω.tr hf2ω)
              · obtain ⟨kbω, hkbω⟩ := oI_some (Int32.not_lt.mp cz194ω)
                subst hkbω
                have hk9ω : kbω < n := hwnω.2.1
                have hpkω : zPick s1ω Lω place rule n = some kbω := hpk9ω
                have hzbω := (zPick_some hpkω).2.2.2.2
                refine z_iload okω dL_fill_197 rfl ?_
                refine z_iconst (v := 1) okω dL_fill_199 (by decide) ?_
                refine z_iload okω dL_fill_200 rfl ?_
                refine z_ishl okω dL_fill_202 ?_
                refine z_iadd okω dL_fill_203 ?_
                rw [show Lω + (1 : Int32) <<< (oI (some kbω) &&& 31) = Lω ||| zbit kbω from add_bit (by omega) ((zb_bt (by omega)).mp hzbω)]
                refine z_istore okω dL_fill_204 (by decide) rfl ?_
                refine z_aload_n okω dL_fill_206 rfl ?_
                refine z_aload_n okω dL_fill_207 rfl ?_
                refine z_aload_n okω dL_fill_208 rfl ?_
                refine z_aload_n okω dL_fill_209 rfl ?_
                refine z_iload okω dL_fill_210 rfl ?_
                refine z_iload okω dL_fill_212 rfl ?_
                refine z_callSi okω dL_fill_214 zm_L_fits zw_465 zw_466 (ct_L_fits hm1ω hw1ω (c := kbω) hk9ω hvv) rfl rfl (by decide) (by decide) (by decide) (Nat.le_of_ble_eq_true rfl) (fun xz1ω Mz2ω qz3ω => ?_)
                obtain ⟨rfl, hMeω⟩ := qz3ω
                obtain rfl := hMeω.symm
                refine z_if_eq (tgt := 237) okω dL_fill_217 (by decide) (fun cz217ω => ?_) (fun cz217ω => ?_)
                · have hcaω := b2_0.mp cz217ω
                  refine z_iinc okω dL_fill_237 rfl (zinc2 _) (by decide) rfl ?_
                  refine z_goto (tgt := 9) okω dL_fill_240 (by decide) ?_
                  first | exact ih9ω (i9ω + 1) _ _ _ _ _ _ _ _ (by omega) (by omega) (zFi_none hfiω hpnω) hw1ω hm1ω hf1ω | exact ih9ω (i9ω + 1) _ _ _ _ _ _ _ _ (by omega) (by omega) (zFi_not hn16ω hfiω hpkω hcaω) hw1ω hm1ω hf1ω | exact ih9ω (i9ω + 1) _ _ _ _ _ _ _ _ (by omega) (by omega) (zFi_can hn16ω hfiω hpkω hcaω) (hw1ω.load hk9ω hvv hcaω) hm1ω (hf1ω.tr hf2ω)
                · have hcaω := Decidable.not_not.mp (mt b2_0.mpr cz217ω)
                  refine z_aload_n okω dL_fill_220 rfl ?_
                  refine z_iload okω dL_fill_221 rfl ?_
                  refine z_iload okω dL_fill_223 rfl ?_
                  refine z_callSv okω dL_fill_225 zm_L_put zw_474 zw_475 (ct_L_put hm1ω (c := kbω) hk9ω (v := v) (by omega)) rfl rfl (by decide) (by decide) (by decide) (Nat.le_of_ble_eq_true rfl) (fun Mz5ω qz6ω => ?_)
                  obtain ⟨hm7ω, hf2ω⟩ := qz6ω
                  refine z_iload okω dL_fill_228 rfl ?_
                  refine z_iconst (v := 1) okω dL_fill_230 (by decide) ?_
                  refine z_iload okω dL_fill_231 rfl ?_
                  refine z_ishl okω dL_fill_233 ?_
                  refine z_iadd okω dL_fill_234 ?_
                  rw [show yω + (1 : Int32) <<< (oI (some kbω) &&& 31) = yω ||| zbit kbω from add_bit (by omega) (zSub_f (by omega) hfiω.2.2 hzbω)]
                  refine z_istore okω dL_fill_235 (by decide) rfl ?_
                  refine z_iinc okω dL_fill_237 rfl (zinc2 _) (by decide) rfl ?_
                  refine z_goto (tgt := 9) okω dL_fill_240 (by decide) ?_
                  first | exact ih9ω (i9ω + 1) _ _ _ _ _ _ _ _ (by omega) (by omega) (zFi_none hfiω hpnω) hw1ω hm1ω hf1ω | exact ih9ω (i9ω + 1) _ _ _ _ _ _ _ _ (by omega) (by omega) (zFi_not hn16ω hfiω hpkω hcaω) hw1ω hm1ω hf1ω | exact ih9ω (i9ω + 1) _ _ _ _ _ _ _ _ (by omega) (by omega) (zFi_can hn16ω hfiω hpkω hcaω) (hw1ω.load hk9ω hvv hcaω) hm7ω (hf1ω.tr hf2ω)
            · obtain ⟨jω, hjω⟩ := dI_ex cz28ω
              have hj2ω : n - (i6ω + 1) = jω := by omega
              have hjnω : jω < n := by omega
              rw [hjω] at hwnω
              rw [hjω]
              show zV _ Bω _ 31 [_, _, _, _, _, _, _, _, _, _, _, some (.int (nI jω)), _, _] _ M1ω 0 0
              refine z_aload_n okω dL_fill_31 rfl ?_
              refine z_iconst (v := 4) okω dL_fill_32 (by decide) ?_
              refine z_iload okω dL_fill_33 rfl ?_
              refine z_imul okω dL_fill_35 ?_
              refine z_iconst (v := 2) okω dL_fill_36 (by decide) ?_
              refine z_iadd okω dL_fill_37 ?_
              refine l_ld6 jω okω dL_fill_38 hm1ω (lx4_2 jω) hjnω ?_
              refine z_if_ne (tgt := 67) okω dL_fill_39 (by decide) (fun cz39ω => ?_) (fun cz39ω => ?_)
              · have hbω : ¬ zMay s1ω Lω place jω := fun zω => cz39ω zω.2.1
                refine z_iconst (v := 0) okω dL_fill_67 (by decide) ?_
                refine z_istore okω dL_fill_68 (by decide) rfl ?_
                refine z_iload okω dL_fill_70 rfl ?_
                refine z_if_ge (tgt := 79) okω dL_fill_72 (by decide) (fun cz72ω => ?_) (fun cz72ω => ?_)
                · obtain ⟨kbω, hkbω⟩ := oI_some cz72ω
                  subst hkbω
                  have hknω : kbω < n := hwnω.2.1
                  refine z_iload okω dL_fill_79 rfl ?_
                  refine z_if_ne (tgt := 104) okω dL_fill_81 (by decide) (fun cz81ω => ?_) (fun cz81ω => ?_)
                  · refine z_iload okω dL_fill_104 rfl ?_
                    refine z_iconst (v := 1) okω dL_fill_106 (by decide) ?_
                    refine z_icmp_ne (tgt := 130) okω dL_fill_107 (by decide) (fun cz107ω => ?_) (fun cz107ω => ?_)
                    · refine z_aload_n okω dL_fill_130 rfl ?_
                      refine z_iconst (v := 4) okω dL_fill_131 (by decide) ?_
                      refine z_iload okω dL_fill_132 rfl ?_
                      refine z_imul okω dL_fill_134 ?_
                      refine z_iconst (v := 3) okω dL_fill_135 (by decide) ?_
                      refine z_iadd okω dL_fill_136 ?_
                      refine l_ld5 jω okω dL_fill_137 hm1ω (lx4_3 jω) hjnω ?_
                      refine z_aload_n okω dL_fill_138 rfl ?_
                      refine z_iconst (v := 4) okω dL_fill_139 (by decide) ?_
                      refine z_iload okω dL_fill_140 rfl ?_
                      refine z_imul okω dL_fill_142 ?_
                      refine z_iconst (v := 1) okω dL_fill_143 (by decide) ?_
                      refine z_iadd okω dL_fill_144 ?_
                      refine l_ld1 kbω okω dL_fill_145 hm1ω (lx4_1 kbω) hknω ?_
                      refine z_imul okω dL_fill_146 ?_
                      refine z_aload_n okω dL_fill_147 rfl ?_
                      refine z_iconst (v := 4) okω dL_fill_148 (by decide) ?_
                      refine z_iload okω dL_fill_149 rfl ?_
                      refine z_imul okω dL_fill_151 ?_
                      refine z_iconst (v := 3) okω dL_fill_152 (by decide) ?_
                      refine z_iadd okω dL_fill_153 ?_
                      refine l_ld5 kbω okω dL_fill_154 hm1ω (lx4_3 kbω) hknω ?_
                      refine z_aload_n okω dL_fill_155 rfl ?_
                      refine z_iconst (v := 4) okω dL_fill_156 (by decide) ?_
                      refine z_iload okω dL_fill_157 rfl ?_
                      refine z_imul okω dL_fill_159 ?_
                      refine z_iconst (v := 1) okω dL_fill_160 (by decide) ?_
                      refine z_iadd okω dL_fill_161 ?_
                      refine l_ld1 jω okω dL_fill_162 hm1ω (lx4_1 jω) hjnω ?_
                      refine z_imul okω dL_fill_163 ?_
                      refine z_isub okω dL_fill_164 ?_
                      refine z_istore okω dL_fill_165 (by decide) rfl ?_
                      refine z_iload okω dL_fill_167 rfl ?_
                      refine z_if_eq (tgt := 182) okω dL_fill_169 (by decide) (fun _ => ?_) (fun q9ω => absurd (by decide) q9ω)
                      refine z_iload okω dL_fill_182 rfl ?_
                      refine z_istore okω dL_fill_184 (by decide) rfl ?_
                      refine z_iinc okω dL_fill_186 rfl (show nI jω + Int32.ofInt (-1) = dI (n - (i6ω + 1)) from by rw [hj2ω]; exact dI_dec jω) (by decide) rfl ?_
                      refine z_goto (tgt := 26) okω dL_fill_189 (by decide) ?_
                      first | exact ih6ω (i6ω + 1) oω _ _ (by omega) (by omega) (by rw [hj2ω]; exact zWn_no hwoω hbω) | exact ih6ω (i6ω + 1) (some jω) _ _ (by omega) (by omega) (by rw [hj2ω]; exact zWn_first (by omega) hwnω hmayω) | exact ih6ω (i6ω + 1) (some jω) _ _ (by omega) (by omega) (by rw [hj2ω]; exact zWn_new hw1ω (by omega) hwnω hmayω (by unfold zBy; first | (rw [if_pos cz81ω]; exact cz174ω) | (rw [if_neg cz81ω, if_pos cz107ω]; exact cz174ω) | (rw [if_neg cz81ω, if_neg cz107ω]; exact cz174ω))) | exact ih6ω (i6ω + 1) (some kbω) _ _ (by omega) (by omega) (by rw [hj2ω]; exact zWn_old hwnω (by unfold zBy; first | (rw [if_pos cz81ω]; exact cz174ω) | (rw [if_neg cz81ω, if_pos cz107ω]; exact cz174ω) | (rw [if_neg cz81ω, if_neg cz107ω]; exact cz174ω))) | exact ih6ω (i6ω + 1) (some kbω) _ _ (by omega) (by omega) (by rw [hj2ω]; exact zWn_no hwnω hbω)
                    · refine z_aload_n okω dL_fill_110 rfl ?_
                      refine z_iconst (v := 4) okω dL_fill_111 (by decide) ?_
                      refine z_iload okω dL_fill_112 rfl ?_
                      refine z_imul okω dL_fill_114 ?_
                      refine z_iconst (v := 3) okω dL_fill_115 (by decide) ?_
                      refine z_iadd okω dL_fill_116 ?_
                      refine l_ld5 jω okω dL_fill_117 hm1ω (lx4_3 jω) hjnω ?_
                      refine z_aload_n okω dL_fill_118 rfl ?_
                      refine z_iconst (v := 4) okω dL_fill_119 (by decide) ?_
                      refine z_iload okω dL_fill_120 rfl ?_
                      refine z_imul okω dL_fill_122 ?_
                      refine z_iconst (v := 3) okω dL_fill_123 (by decide) ?_
                      refine z_iadd okω dL_fill_124 ?_
                      refine l_ld5 kbω okω dL_fill_125 hm1ω (lx4_3 kbω) hknω ?_
                      refine z_isub okω dL_fill_126 ?_
                      refine z_goto (tgt := 165) okω dL_fill_127 (by decide) ?_
                      refine z_istore okω dL_fill_165 (by decide) rfl ?_
                      refine z_iload okω dL_fill_167 rfl ?_
                      refine z_if_eq (tgt := 182) okω dL_fill_169 (by decide) (fun _ => ?_) (fun q9ω => absurd (by decide) q9ω)
                      refine z_iload okω dL_fill_182 rfl ?_
                      refine z_istore okω dL_fill_184 (by decide) rfl ?_
                      refine z_iinc okω dL_fill_186 rfl (show nI jω + Int32.ofInt (-1) = dI (n - (i6ω + 1)) from by rw [hj2ω]; exact dI_dec jω) (by decide) rfl ?_
                      refine z_goto (tgt := 26) okω dL_fill_189 (by decide) ?_
                      first | exact ih6ω (i6ω + 1) oω _ _ (by omega) (by omega) (by rw [hj2ω]; exact zWn_no hwoω hbω) | exact ih6ω (i6ω + 1) (some jω) _ _ (by omega) (by omega) (by rw [hj2ω]; exact zWn_first (by omega) hwnω hmayω) | exact ih6ω (i6ω + 1) (some jω) _ _ (by omega) (by omega) (by rw [hj2ω]; exact zWn_new hw1ω (by omega) hwnω hmayω (by unfold zBy; first | (rw [if_pos cz81ω]; exact cz174ω) | (rw [if_neg cz81ω, if_pos cz107ω]; exact cz174ω) | (rw [if_neg cz81ω, if_neg cz107ω]; exact cz174ω))) | exact ih6ω (i6ω + 1) (some kbω) _ _ (by omega) (by omega) (by rw [hj2ω]; exact zWn_old hwnω (by unfold zBy; first | (rw [if_pos cz81ω]; exact cz174ω) | (rw [if_neg cz81ω, if_pos cz107ω]; exact cz174ω) | (rw [if_neg cz81ω, if_neg cz107ω]; exact cz174ω))) | exact ih6ω (i6ω + 1) (some kbω) _ _ (by omega) (by omega) (by rw [hj2ω]; exact zWn_no hwnω hbω)
                  · refine z_aload_n okω dL_fill_84 rfl ?_
                    refine z_iconst (v := 4) okω dL_fill_85 (by decide) ?_
                    refine z_iload okω dL_fill_86 rfl ?_
                    refine z_imul okω dL_fill_88 ?_
                    refine z_iconst (v := 1) okω dL_fill_89 (by decide) ?_
                    refine z_iadd okω dL_fill_90 ?_
                    refine l_ld4 kbω okω dL_fill_91 hm1ω (lx4_1 kbω) hknω ?_
                    refine z_aload_n okω dL_fill_92 rfl ?_
                    refine z_iconst (v := 4) okω dL_fill_93 (by decide) ?_
                    refine z_iload okω dL_fill_94 rfl ?_
                    refine z_imul okω dL_fill_96 ?_
                    refine z_iconst (v := 1) okω dL_fill_97 (by decide) ?_
                    refine z_iadd okω dL_fill_98 ?_
                    refine l_ld4 jω okω dL_fill_99 hm1ω (lx4_1 jω) hjnω ?_
                    refine z_isub okω dL_fill_100 ?_
                    refine z_goto (tgt := 165) okω dL_fill_101 (by decide) ?_
                    refine z_istore okω dL_fill_165 (by decide) rfl ?_
                    refine z_iload okω dL_fill_167 rfl ?_
                    refine z_if_eq (tgt := 182) okω dL_fill_169 (by decide) (fun _ => ?_) (fun q9ω => absurd (by decide) q9ω)
                    refine z_iload okω dL_fill_182 rfl ?_
                    refine z_istore okω dL_fill_184 (by decide) rfl ?_
                    refine z_iinc okω dL_fill_186 rfl (show nI jω + Int32.ofInt (-1) = dI (n - (i6ω + 1)) from by rw [hj2ω]; exact dI_dec jω) (by decide) rfl ?_
                    refine z_goto (tgt := 26) okω dL_fill_189 (by decide) ?_
                    first | exact ih6ω (i6ω + 1) oω _ _ (by omega) (by omega) (by rw [hj2ω]; exact zWn_no hwoω hbω) | exact ih6ω (i6ω + 1) (some jω) _ _ (by omega) (by omega) (by rw [hj2ω]; exact zWn_first (by omega) hwnω hmayω) | exact ih6ω (i6ω + 1) (some jω) _ _ (by omega) (by omega) (by rw [hj2ω]; exact zWn_new hw1ω (by omega) hwnω hmayω (by unfold zBy; first | (rw [if_pos cz81ω]; exact cz174ω) | (rw [if_neg cz81ω, if_pos cz107ω]; exact cz174ω) | (rw [if_neg cz81ω, if_neg cz107ω]; exact cz174ω))) | exact ih6ω (i6ω + 1) (some kbω) _ _ (by omega) (by omega) (by rw [hj2ω]; exact zWn_old hwnω (by unfold zBy; first | (rw [if_pos cz81ω]; exact cz174ω) | (rw [if_neg cz81ω, if_pos cz107ω]; exact cz174ω) | (rw [if_neg cz81ω, if_neg cz107ω]; exact cz174ω))) | exact ih6ω (i6ω + 1) (some kbω) _ _ (by omega) (by omega) (by rw [hj2ω]; exact zWn_no hwnω hbω)
                · have hoω := oI_none (fun kω hkω => by rw [hkω] at hwnω; have := hwnω.2.1; omega) (Int32.not_le.mp cz72ω)
                  have hwoω := hwnω
                  rw [hoω] at hwnω
                  refine z_iconst (v := 1) okω dL_fill_75 (by decide) ?_
                  refine z_goto (tgt := 165) okω dL_fill_76 (by decide) ?_
                  refine z_istore okω dL_fill_165 (by decide) rfl ?_
                  refine z_iload okω dL_fill_167 rfl ?_
                  refine z_if_eq (tgt := 182) okω dL_fill_169 (by decide) (fun _ => ?_) (fun q9ω => absurd (by decide) q9ω)
                  refine z_iload okω dL_fill_182 rfl ?_
                  refine z_istore okω dL_fill_184 (by decide) rfl ?_
                  refine z_iinc okω dL_fill_186 rfl (show nI jω + Int32.ofInt (-1) = dI (n - (i6ω + 1)) from by rw [hj2ω]; exact dI_dec jω) (by decide) rfl ?_
                  refine z_goto (tgt := 26) okω dL_fill_189 (by decide) ?_
                  first | exact ih6ω (i6ω + 1) oω _ _ (by omega) (by omega) (by rw [hj2ω]; exact zWn_no hwoω hbω) | exact ih6ω (i6ω + 1) (some jω) _ _ (by omega) (by omega) (by rw [hj2ω]; exact zWn_first (by omega) hwnω hmayω) | exact ih6ω (i6ω + 1) (some jω) _ _ (by omega) (by omega) (by rw [hj2ω]; exact zWn_new hw1ω (by omega) hwnω hmayω (by unfold zBy; first | (rw [if_pos cz81ω]; exact cz174ω) | (rw [if_neg cz81ω, if_pos cz107ω]; exact cz174ω) | (rw [if_neg cz81ω, if_neg cz107ω]; exact cz174ω))) | exact ih6ω (i6ω + 1) (some kbω) _ _ (by omega) (by omega) (by rw [hj2ω]; exact zWn_old hwnω (by unfold zBy; first | (rw [if_pos cz81ω]; exact cz174ω) | (rw [if_neg cz81ω, if_pos cz107ω]; exact cz174ω) | (rw [if_neg cz81ω, if_neg cz107ω]; exact cz174ω))) | exact ih6ω (i6ω + 1) (some kbω) _ _ (by omega) (by omega) (by rw [hj2ω]; exact zWn_no hwnω hbω)
              · refine z_aload_n okω dL_fill_42 rfl ?_
                refine z_iconst (v := 4) okω dL_fill_43 (by decide) ?_
                refine z_iload okω dL_fill_44 rfl ?_
                refine z_imul okω dL_fill_46 ?_
                refine l_ld0 jω okω dL_fill_47 hm1ω (lx4_0 jω) hjnω ?_
                refine z_iload okω dL_fill_48 rfl ?_
                refine z_icmp_ne (tgt := 67) okω dL_fill_50 (by decide) (fun cz50ω => ?_) (fun cz50ω => ?_)
                · have hbω : ¬ zMay s1ω Lω place jω := fun zω => cz50ω zω.2.2.1
                  refine z_iconst (v := 0) okω dL_fill_67 (by decide) ?_
                  refine z_istore okω dL_fill_68 (by decide) rfl ?_
                  refine z_iload okω dL_fill_70 rfl ?_
                  refine z_if_ge (tgt := 79) okω dL_fill_72 (by decide) (fun cz72ω => ?_) (fun cz72ω => ?_)
                  · obtain ⟨kbω, hkbω⟩ := oI_some cz72ω
                    subst hkbω
                    have hknω : kbω < n := hwnω.2.1
                    refine z_iload okω dL_fill_79 rfl ?_
                    refine z_if_ne (tgt := 104) okω dL_fill_81 (by decide) (fun cz81ω => ?_) (fun cz81ω => ?_)
                    · refine z_iload okω dL_fill_104 rfl ?_
                      refine z_iconst (v := 1) okω dL_fill_106 (by decide) ?_
                      refine z_icmp_ne (tgt := 130) okω dL_fill_107 (by decide) (fun cz107ω => ?_) (fun cz107ω => ?_)
                      · refine z_aload_n okω dL_fill_130 rfl ?_
                        refine z_iconst (v := 4) okω dL_fill_131 (by decide) ?_
                        refine z_iload okω dL_fill_132 rfl ?_
                        refine z_imul okω dL_fill_134 ?_
                        refine z_iconst (v := 3) okω dL_fill_135 (by decide) ?_
                        refine z_iadd okω dL_fill_136 ?_
                        refine l_ld5 jω okω dL_fill_137 hm1ω (lx4_3 jω) hjnω ?_
                        refine z_aload_n okω dL_fill_138 rfl ?_
                        refine z_iconst (v := 4) okω dL_fill_139 (by decide) ?_
                        refine z_iload okω dL_fill_140 rfl ?_
                        refine z_imul okω dL_fill_142 ?_
                        refine z_iconst (v := 1) okω dL_fill_143 (by decide) ?_
                        refine z_iadd okω dL_fill_144 ?_
                        refine l_ld1 kbω okω dL_fill_145 hm1ω (lx4_1 kbω) hknω ?_
                        refine z_imul okω dL_fill_146 ?_
                        refine z_aload_n okω dL_fill_147 rfl ?_
                        refine z_iconst (v := 4) okω dL_fill_148 (by decide) ?_
                        refine z_iload okω dL_fill_149 rfl ?_
                        refine z_imul okω dL_fill_151 ?_
                        refine z_iconst (v := 3) okω dL_fill_152 (by decide) ?_
                        refine z_iadd okω dL_fill_153 ?_
                        refine l_ld5 kbω okω dL_fill_154 hm1ω (lx4_3 kbω) hknω ?_
                        refine z_aload_n okω dL_fill_155 rfl ?_
                        refine z_iconst (v := 4) okω dL_fill_156 (by decide) ?_
                        refine z_iload okω dL_fill_157 rfl ?_
                        refine z_imul okω dL_fill_159 ?_
                        refine z_iconst (v := 1) okω dL_fill_160 (by decide) ?_
                        refine z_iadd okω dL_fill_161 ?_
                        refine l_ld1 jω okω dL_fill_162 hm1ω (lx4_1 jω) hjnω ?_
                        refine z_imul okω dL_fill_163 ?_
                        refine z_isub okω dL_fill_164 ?_
                        refine z_istore okω dL_fill_165 (by decide) rfl ?_
                        refine z_iload okω dL_fill_167 rfl ?_
                        refine z_if_eq (tgt := 182) okω dL_fill_169 (by decide) (fun _ => ?_) (fun q9ω => absurd (by decide) q9ω)
                        refine z_iload okω dL_fill_182 rfl ?_
                        refine z_istore okω dL_fill_184 (by decide) rfl ?_
                        refine z_iinc okω dL_fill_186 rfl (show nI jω + Int32.ofInt (-1) = dI (n - (i6ω + 1)) from by rw [hj2ω]; exact dI_dec jω) (by decide) rfl ?_
                        refine z_goto (tgt := 26) okω dL_fill_189 (by decide) ?_
                        first | exact ih6ω (i6ω + 1) oω _ _ (by omega) (by omega) (by rw [hj2ω]; exact zWn_no hwoω hbω) | exact ih6ω (i6ω + 1) (some jω) _ _ (by omega) (by omega) (by rw [hj2ω]; exact zWn_first (by omega) hwnω hmayω) | exact ih6ω (i6ω + 1) (some jω) _ _ (by omega) (by omega) (by rw [hj2ω]; exact zWn_new hw1ω (by omega) hwnω hmayω (by unfold zBy; first | (rw [if_pos cz81ω]; exact cz174ω) | (rw [if_neg cz81ω, if_pos cz107ω]; exact cz174ω) | (rw [if_neg cz81ω, if_neg cz107ω]; exact cz174ω))) | exact ih6ω (i6ω + 1) (some kbω) _ _ (by omega) (by omega) (by rw [hj2ω]; exact zWn_old hwnω (by unfold zBy; first | (rw [if_pos cz81ω]; exact cz174ω) | (rw [if_neg cz81ω, if_pos cz107ω]; exact cz174ω) | (rw [if_neg cz81ω, if_neg cz107ω]; exact cz174ω))) | exact ih6ω (i6ω + 1) (some kbω) _ _ (by omega) (by omega) (by rw [hj2ω]; exact zWn_no hwnω hbω)
                      · refine z_aload_n okω dL_fill_110 rfl ?_
                        refine z_iconst (v := 4) okω dL_fill_111 (by decide) ?_
                        refine z_iload okω dL_fill_112 rfl ?_
                        refine z_imul okω dL_fill_114 ?_
                        refine z_iconst (v := 3) okω dL_fill_115 (by decide) ?_
                        refine z_iadd okω dL_fill_116 ?_
                        refine l_ld5 jω okω dL_fill_117 hm1ω (lx4_3 jω) hjnω ?_
                        refine z_aload_n okω dL_fill_118 rfl ?_
                        refine z_iconst (v := 4) okω dL_fill_119 (by decide) ?_
                        refine z_iload okω dL_fill_120 rfl ?_
                        refine z_imul okω dL_fill_122 ?_
                        refine z_iconst (v := 3) okω dL_fill_123 (by decide) ?_
                        refine z_iadd okω dL_fill_124 ?_
                        refine l_ld5 kbω okω dL_fill_125 hm1ω (lx4_3 kbω) hknω ?_
                        refine z_isub okω dL_fill_126 ?_
                        refine z_goto (tgt := 165) okω dL_fill_127 (by decide) ?_
                        refine z_istore okω dL_fill_165 (by decide) rfl ?_
                        refine z_iload okω dL_fill_167 rfl ?_
                        refine z_if_eq (tgt := 182) okω dL_fill_169 (by decide) (fun _ => ?_) (fun q9ω => absurd (by decide) q9ω)
                        refine z_iload okω dL_fill_182 rfl ?_
                        refine z_istore okω dL_fill_184 (by decide) rfl ?_
                        refine z_iinc okω dL_fill_186 rfl (show nI jω + Int32.ofInt (-1) = dI (n - (i6ω + 1)) from by rw [hj2ω]; exact dI_dec jω) (by decide) rfl ?_
                        refine z_goto (tgt := 26) okω dL_fill_189 (by decide) ?_
                        first | exact ih6ω (i6ω + 1) oω _ _ (by omega) (by omega) (by rw [hj2ω]; exact zWn_no hwoω hbω) | exact ih6ω (i6ω + 1) (some jω) _ _ (by omega) (by omega) (by rw [hj2ω]; exact zWn_first (by omega) hwnω hmayω) | exact ih6ω (i6ω + 1) (some jω) _ _ (by omega) (by omega) (by rw [hj2ω]; exact zWn_new hw1ω (by omega) hwnω hmayω (by unfold zBy; first | (rw [if_pos cz81ω]; exact cz174ω) | (rw [if_neg cz81ω, if_pos cz107ω]; exact cz174ω) | (rw [if_neg cz81ω, if_neg cz107ω]; exact cz174ω))) | exact ih6ω (i6ω + 1) (some kbω) _ _ (by omega) (by omega) (by rw [hj2ω]; exact zWn_old hwnω (by unfold zBy; first | (rw [if_pos cz81ω]; exact cz174ω) | (rw [if_neg cz81ω, if_pos cz107ω]; exact cz174ω) | (rw [if_neg cz81ω, if_neg cz107ω]; exact cz174ω))) | exact ih6ω (i6ω + 1) (some kbω) _ _ (by omega) (by omega) (by rw [hj2ω]; exact zWn_no hwnω hbω)
                    · refine z_aload_n okω dL_fill_84 rfl ?_
                      refine z_iconst (v := 4) okω dL_fill_85 (by decide) ?_
                      refine z_iload okω dL_fill_86 rfl ?_
                      refine z_imul okω dL_fill_88 ?_
                      refine z_iconst (v := 1) okω dL_fill_89 (by decide) ?_
                      refine z_iadd okω dL_fill_90 ?_
                      refine l_ld4 kbω okω dL_fill_91 hm1ω (lx4_1 kbω) hknω ?_
                      refine z_aload_n okω dL_fill_92 rfl ?_
                      refine z_iconst (v := 4) okω dL_fill_93 (by decide) ?_
                      refine z_iload okω dL_fill_94 rfl ?_
                      refine z_imul okω dL_fill_96 ?_
                      refine z_iconst (v := 1) okω dL_fill_97 (by decide) ?_
                      refine z_iadd okω dL_fill_98 ?_
                      refine l_ld4 jω okω dL_fill_99 hm1ω (lx4_1 jω) hjnω ?_
                      refine z_isub okω dL_fill_100 ?_
                      refine z_goto (tgt := 165) okω dL_fill_101 (by decide) ?_
                      refine z_istore okω dL_fill_165 (by decide) rfl ?_
                      refine z_iload okω dL_fill_167 rfl ?_
                      refine z_if_eq (tgt := 182) okω dL_fill_169 (by decide) (fun _ => ?_) (fun q9ω => absurd (by decide) q9ω)
                      refine z_iload okω dL_fill_182 rfl ?_
                      refine z_istore okω dL_fill_184 (by decide) rfl ?_
                      refine z_iinc okω dL_fill_186 rfl (show nI jω + Int32.ofInt (-1) = dI (n - (i6ω + 1)) from by rw [hj2ω]; exact dI_dec jω) (by decide) rfl ?_
                      refine z_goto (tgt := 26) okω dL_fill_189 (by decide) ?_
                      first | exact ih6ω (i6ω + 1) oω _ _ (by omega) (by omega) (by rw [hj2ω]; exact zWn_no hwoω hbω) | exact ih6ω (i6ω + 1) (some jω) _ _ (by omega) (by omega) (by rw [hj2ω]; exact zWn_first (by omega) hwnω hmayω) | exact ih6ω (i6ω + 1) (some jω) _ _ (by omega) (by omega) (by rw [hj2ω]; exact zWn_new hw1ω (by omega) hwnω hmayω (by unfold zBy; first | (rw [if_pos cz81ω]; exact cz174ω) | (rw [if_neg cz81ω, if_pos cz107ω]; exact cz174ω) | (rw [if_neg cz81ω, if_neg cz107ω]; exact cz174ω))) | exact ih6ω (i6ω + 1) (some kbω) _ _ (by omega) (by omega) (by rw [hj2ω]; exact zWn_old hwnω (by unfold zBy; first | (rw [if_pos cz81ω]; exact cz174ω) | (rw [if_neg cz81ω, if_pos cz107ω]; exact cz174ω) | (rw [if_neg cz81ω, if_neg cz107ω]; exact cz174ω))) | exact ih6ω (i6ω + 1) (some kbω) _ _ (by omega) (by omega) (by rw [hj2ω]; exact zWn_no hwnω hbω)
                  · have hoω := oI_none (fun kω hkω => by rw [hkω] at hwnω; have := hwnω.2.1; omega) (Int32.not_le.mp cz72ω)
                    have hwoω := hwnω
                    rw [hoω] at hwnω
                    refine z_iconst (v := 1) okω dL_fill_75 (by decide) ?_
                    refine z_goto (tgt := 165) okω dL_fill_76 (by decide) ?_
                    refine z_istore okω dL_fill_165 (by decide) rfl ?_
                    refine z_iload okω dL_fill_167 rfl ?_
                    refine z_if_eq (tgt := 182) okω dL_fill_169 (by decide) (fun _ => ?_) (fun q9ω => absurd (by decide) q9ω)
                    refine z_iload okω dL_fill_182 rfl ?_
                    refine z_istore okω dL_fill_184 (by decide) rfl ?_
                    refine z_iinc okω dL_fill_186 rfl (show nI jω + Int32.ofInt (-1) = dI (n - (i6ω + 1)) from by rw [hj2ω]; exact dI_dec jω) (by decide) rfl ?_
                    refine z_goto (tgt := 26) okω dL_fill_189 (by decide) ?_
                    first | exact ih6ω (i6ω + 1) oω _ _ (by omega) (by omega) (by rw [hj2ω]; exact zWn_no hwoω hbω) | exact ih6ω (i6ω + 1) (some jω) _ _ (by omega) (by omega) (by rw [hj2ω]; exact zWn_first (by omega) hwnω hmayω) | exact ih6ω (i6ω + 1) (some jω) _ _ (by omega) (by omega) (by rw [hj2ω]; exact zWn_new hw1ω (by omega) hwnω hmayω (by unfold zBy; first | (rw [if_pos cz81ω]; exact cz174ω) | (rw [if_neg cz81ω, if_pos cz107ω]; exact cz174ω) | (rw [if_neg cz81ω, if_neg cz107ω]; exact cz174ω))) | exact ih6ω (i6ω + 1) (some kbω) _ _ (by omega) (by omega) (by rw [hj2ω]; exact zWn_old hwnω (by unfold zBy; first | (rw [if_pos cz81ω]; exact cz174ω) | (rw [if_neg cz81ω, if_pos cz107ω]; exact cz174ω) | (rw [if_neg cz81ω, if_neg cz107ω]; exact cz174ω))) | exact ih6ω (i6ω + 1) (some kbω) _ _ (by omega) (by omega) (by rw [hj2ω]; exact zWn_no hwnω hbω)
                · refine z_iload okω dL_fill_53 rfl ?_
                  refine z_iload okω dL_fill_55 rfl ?_
                  refine z_ishr okω dL_fill_57 ?_
                  refine z_iconst (v := 1) okω dL_fill_58 (by decide) ?_
                  refine z_iand okω dL_fill_59 ?_
                  refine z_if_ne (tgt := 67) okω dL_fill_60 (by decide) (fun cz60ω => ?_) (fun cz60ω => ?_)
                  · have hbω : ¬ zMay s1ω Lω place jω := fun zω => cz60ω zω.2.2.2
                    refine z_iconst (v := 0) okω dL_fill_67 (by decide) ?_
                    refine z_istore okω dL_fill_68 (by decide) rfl ?_
                    refine z_iload okω dL_fill_70 rfl ?_
                    refine z_if_ge (tgt := 79) okω dL_fill_72 (by decide) (fun cz72ω => ?_) (fun cz72ω => ?_)
                    · obtain ⟨kbω, hkbω⟩ := oI_some cz72ω
                      subst hkbω
                      have hknω : kbω < n := hwnω.2.1
                      refine z_iload okω dL_fill_79 rfl ?_
                      refine z_if_ne (tgt := 104) okω dL_fill_81 (by decide) (fun cz81ω => ?_) (fun cz81ω => ?_)
                      · refine z_iload okω dL_fill_104 rfl ?_
                        refine z_iconst (v := 1) okω dL_fill_106 (by decide) ?_
                        refine z_icmp_ne (tgt := 130) okω dL_fill_107 (by decide) (fun cz107ω => ?_) (fun cz107ω => ?_)
                        · refine z_aload_n okω dL_fill_130 rfl ?_
                          refine z_iconst (v := 4) okω dL_fill_131 (by decide) ?_
                          refine z_iload okω dL_fill_132 rfl ?_
                          refine z_imul okω dL_fill_134 ?_
                          refine z_iconst (v := 3) okω dL_fill_135 (by decide) ?_
                          refine z_iadd okω dL_fill_136 ?_
                          refine l_ld5 jω okω dL_fill_137 hm1ω (lx4_3 jω) hjnω ?_
                          refine z_aload_n okω dL_fill_138 rfl ?_
                          refine z_iconst (v := 4) okω dL_fill_139 (by decide) ?_
                          refine z_iload okω dL_fill_140 rfl ?_
                          refine z_imul okω dL_fill_142 ?_
                          refine z_iconst (v := 1) okω dL_fill_143 (by decide) ?_
                          refine z_iadd okω dL_fill_144 ?_
                          refine l_ld1 kbω okω dL_fill_145 hm1ω (lx4_1 kbω) hknω ?_
                          refine z_imul okω dL_fill_146 ?_
                          refine z_aload_n okω dL_fill_147 rfl ?_
                          refine z_iconst (v := 4) okω dL_fill_148 (by decide) ?_
                          refine z_iload okω dL_fill_149 rfl ?_
                          refine z_imul okω dL_fill_151 ?_
                          refine z_iconst (v := 3) okω dL_fill_152 (by decide) ?_
                          refine z_iadd okω dL_fill_153 ?_
                          refine l_ld5 kbω okω dL_fill_154 hm1ω (lx4_3 kbω) hknω ?_
                          refine z_aload_n okω dL_fill_155 rfl ?_
                          refine z_iconst (v := 4) okω dL_fill_156 (by decide) ?_
                          refine z_iload okω dL_fill_157 rfl ?_
                          refine z_imul okω dL_fill_159 ?_
                          refine z_iconst (v := 1) okω dL_fill_160 (by decide) ?_
                          refine z_iadd okω dL_fill_161 ?_
                          refine l_ld1 jω okω dL_fill_162 hm1ω (lx4_1 jω) hjnω ?_
                          refine z_imul okω dL_fill_163 ?_
                          refine z_isub okω dL_fill_164 ?_
                          refine z_istore okω dL_fill_165 (by decide) rfl ?_
                          refine z_iload okω dL_fill_167 rfl ?_
                          refine z_if_eq (tgt := 182) okω dL_fill_169 (by decide) (fun _ => ?_) (fun q9ω => absurd (by decide) q9ω)
                          refine z_iload okω dL_fill_182 rfl ?_
                          refine z_istore okω dL_fill_184 (by decide) rfl ?_
                          refine z_iinc okω dL_fill_186 rfl (show nI jω + Int32.ofInt (-1) = dI (n - (i6ω + 1)) from by rw [hj2ω]; exact dI_dec jω) (by decide) rfl ?_
                          refine z_goto (tgt := 26) okω dL_fill_189 (by decide) ?_
                          first | exact ih6ω (i6ω + 1) oω _ _ (by omega) (by omega) (by rw [hj2ω]; exact zWn_no hwoω hbω) | exact ih6ω (i6ω + 1) (some jω) _ _ (by omega) (by omega) (by rw [hj2ω]; exact zWn_first (by omega) hwnω hmayω) | exact ih6ω (i6ω + 1) (some jω) _ _ (by omega) (by omega) (by rw [hj2ω]; exact zWn_new hw1ω (by omega) hwnω hmayω (by unfold zBy; first | (rw [if_pos cz81ω]; exact cz174ω) | (rw [if_neg cz81ω, if_pos cz107ω]; exact cz174ω) | (rw [if_neg cz81ω, if_neg cz107ω]; exact cz174ω))) | exact ih6ω (i6ω + 1) (some kbω) _ _ (by omega) (by omega) (by rw [hj2ω]; exact zWn_old hwnω (by unfold zBy; first | (rw [if_pos cz81ω]; exact cz174ω) | (rw [if_neg cz81ω, if_pos cz107ω]; exact cz174ω) | (rw [if_neg cz81ω, if_neg cz107ω]; exact cz174ω))) | exact ih6ω (i6ω + 1) (some kbω) _ _ (by omega) (by omega) (by rw [hj2ω]; exact zWn_no hwnω hbω)
                        · refine z_aload_n okω dL_fill_110 rfl ?_
                          refine z_iconst (v := 4) okω dL_fill_111 (by decide) ?_
                          refine z_iload okω dL_fill_112 rfl ?_
                          refine z_imul okω dL_fill_114 ?_
                          refine z_iconst (v := 3) okω dL_fill_115 (by decide) ?_
                          refine z_iadd okω dL_fill_116 ?_
                          refine l_ld5 jω okω dL_fill_117 hm1ω (lx4_3 jω) hjnω ?_
                          refine z_aload_n okω dL_fill_118 rfl ?_
                          refine z_iconst (v := 4) okω dL_fill_119 (by decide) ?_
                          refine z_iload okω dL_fill_120 rfl ?_
                          refine z_imul okω dL_fill_122 ?_
                          refine z_iconst (v := 3) okω dL_fill_123 (by decide) ?_
                          refine z_iadd okω dL_fill_124 ?_
                          refine l_ld5 kbω okω dL_fill_125 hm1ω (lx4_3 kbω) hknω ?_
                          refine z_isub okω dL_fill_126 ?_
                          refine z_goto (tgt := 165) okω dL_fill_127 (by decide) ?_
                          refine z_istore okω dL_fill_165 (by decide) rfl ?_
                          refine z_iload okω dL_fill_167 rfl ?_
                          refine z_if_eq (tgt := 182) okω dL_fill_169 (by decide) (fun _ => ?_) (fun q9ω => absurd (by decide) q9ω)
                          refine z_iload okω dL_fill_182 rfl ?_
                          refine z_istore okω dL_fill_184 (by decide) rfl ?_
                          refine z_iinc okω dL_fill_186 rfl (show nI jω + Int32.ofInt (-1) = dI (n - (i6ω + 1)) from by rw [hj2ω]; exact dI_dec jω) (by decide) rfl ?_
                          refine z_goto (tgt := 26) okω dL_fill_189 (by decide) ?_
                          first | exact ih6ω (i6ω + 1) oω _ _ (by omega) (by omega) (by rw [hj2ω]; exact zWn_no hwoω hbω) | exact ih6ω (i6ω + 1) (some jω) _ _ (by omega) (by omega) (by rw [hj2ω]; exact zWn_first (by omega) hwnω hmayω) | exact ih6ω (i6ω + 1) (some jω) _ _ (by omega) (by omega) (by rw [hj2ω]; exact zWn_new hw1ω (by omega) hwnω hmayω (by unfold zBy; first | (rw [if_pos cz81ω]; exact cz174ω) | (rw [if_neg cz81ω, if_pos cz107ω]; exact cz174ω) | (rw [if_neg cz81ω, if_neg cz107ω]; exact cz174ω))) | exact ih6ω (i6ω + 1) (some kbω) _ _ (by omega) (by omega) (by rw [hj2ω]; exact zWn_old hwnω (by unfold zBy; first | (rw [if_pos cz81ω]; exact cz174ω) | (rw [if_neg cz81ω, if_pos cz107ω]; exact cz174ω) | (rw [if_neg cz81ω, if_neg cz107ω]; exact cz174ω))) | exact ih6ω (i6ω + 1) (some kbω) _ _ (by omega) (by omega) (by rw [hj2ω]; exact zWn_no hwnω hbω)
                      · refine z_aload_n okω dL_fill_84 rfl ?_
                        refine z_iconst (v := 4) okω dL_fill_85 (by decide) ?_
                        refine z_iload okω dL_fill_86 rfl ?_
                        refine z_imul okω dL_fill_88 ?_
                        refine z_iconst (v := 1) okω dL_fill_89 (by decide) ?_
                        refine z_iadd okω dL_fill_90 ?_
                        refine l_ld4 kbω okω dL_fill_91 hm1ω (lx4_1 kbω) hknω ?_
                        refine z_aload_n okω dL_fill_92 rfl ?_
                        refine z_iconst (v := 4) okω dL_fill_93 (by decide) ?_
                        refine z_iload okω dL_fill_94 rfl ?_
                        refine z_imul okω dL_fill_96 ?_
                        refine z_iconst (v := 1) okω dL_fill_97 (by decide) ?_
                        refine z_iadd okω dL_fill_98 ?_
                        refine l_ld4 jω okω dL_fill_99 hm1ω (lx4_1 jω) hjnω ?_
                        refine z_isub okω dL_fill_100 ?_
                        refine z_goto (tgt := 165) okω dL_fill_101 (by decide) ?_
                        refine z_istore okω dL_fill_165 (by decide) rfl ?_
                        refine z_iload okω dL_fill_167 rfl ?_
                        refine z_if_eq (tgt := 182) okω dL_fill_169 (by decide) (fun _ => ?_) (fun q9ω => absurd (by decide) q9ω)
                        refine z_iload okω dL_fill_182 rfl ?_
                        refine z_istore okω dL_fill_184 (by decide) rfl ?_
                        refine z_iinc okω dL_fill_186 rfl (show nI jω + Int32.ofInt (-1) = dI (n - (i6ω + 1)) from by rw [hj2ω]; exact dI_dec jω) (by decide) rfl ?_
                        refine z_goto (tgt := 26) okω dL_fill_189 (by decide) ?_
                        first | exact ih6ω (i6ω + 1) oω _ _ (by omega) (by omega) (by rw [hj2ω]; exact zWn_no hwoω hbω) | exact ih6ω (i6ω + 1) (some jω) _ _ (by omega) (by omega) (by rw [hj2ω]; exact zWn_first (by omega) hwnω hmayω) | exact ih6ω (i6ω + 1) (some jω) _ _ (by omega) (by omega) (by rw [hj2ω]; exact zWn_new hw1ω (by omega) hwnω hmayω (by unfold zBy; first | (rw [if_pos cz81ω]; exact cz174ω) | (rw [if_neg cz81ω, if_pos cz107ω]; exact cz174ω) | (rw [if_neg cz81ω, if_neg cz107ω]; exact cz174ω))) | exact ih6ω (i6ω + 1) (some kbω) _ _ (by omega) (by omega) (by rw [hj2ω]; exact zWn_old hwnω (by unfold zBy; first | (rw [if_pos cz81ω]; exact cz174ω) | (rw [if_neg cz81ω, if_pos cz107ω]; exact cz174ω) | (rw [if_neg cz81ω, if_neg cz107ω]; exact cz174ω))) | exact ih6ω (i6ω + 1) (some kbω) _ _ (by omega) (by omega) (by rw [hj2ω]; exact zWn_no hwnω hbω)
                    · have hoω := oI_none (fun kω hkω => by rw [hkω] at hwnω; have := hwnω.2.1; omega) (Int32.not_le.mp cz72ω)
                      have hwoω := hwnω
                      rw [hoω] at hwnω
                      refine z_iconst (v := 1) okω dL_fill_75 (by decide) ?_
                      refine z_goto (tgt := 165) okω dL_fill_76 (by decide) ?_
                      refine z_istore okω dL_fill_165 (by decide) rfl ?_
                      refine z_iload okω dL_fill_167 rfl ?_
                      refine z_if_eq (tgt := 182) okω dL_fill_169 (by decide) (fun _ => ?_) (fun q9ω => absurd (by decide) q9ω)
                      refine z_iload okω dL_fill_182 rfl ?_
                      refine z_istore okω dL_fill_184 (by decide) rfl ?_
                      refine z_iinc okω dL_fill_186 rfl (show nI jω + Int32.ofInt (-1) = dI (n - (i6ω + 1)) from by rw [hj2ω]; exact dI_dec jω) (by decide) rfl ?_
                      refine z_goto (tgt := 26) okω dL_fill_189 (by decide) ?_
                      first | exact ih6ω (i6ω + 1) oω _ _ (by omega) (by omega) (by rw [hj2ω]; exact zWn_no hwoω hbω) | exact ih6ω (i6ω + 1) (some jω) _ _ (by omega) (by omega) (by rw [hj2ω]; exact zWn_first (by omega) hwnω hmayω) | exact ih6ω (i6ω + 1) (some jω) _ _ (by omega) (by omega) (by rw [hj2ω]; exact zWn_new hw1ω (by omega) hwnω hmayω (by unfold zBy; first | (rw [if_pos cz81ω]; exact cz174ω) | (rw [if_neg cz81ω, if_pos cz107ω]; exact cz174ω) | (rw [if_neg cz81ω, if_neg cz107ω]; exact cz174ω))) | exact ih6ω (i6ω + 1) (some kbω) _ _ (by omega) (by omega) (by rw [hj2ω]; exact zWn_old hwnω (by unfold zBy; first | (rw [if_pos cz81ω]; exact cz174ω) | (rw [if_neg cz81ω, if_pos cz107ω]; exact cz174ω) | (rw [if_neg cz81ω, if_neg cz107ω]; exact cz174ω))) | exact ih6ω (i6ω + 1) (some kbω) _ _ (by omega) (by omega) (by rw [hj2ω]; exact zWn_no hwnω hbω)
                  · have hmayω : zMay s1ω Lω place jω := ⟨fun zω => by rw [cz39ω] at zω; exact absurd zω (by decide), cz39ω, cz50ω, cz60ω⟩
                    refine z_iconst (v := 1) okω dL_fill_63 (by decide) ?_
                    refine z_goto (tgt := 68) okω dL_fill_64 (by decide) ?_
                    refine z_istore okω dL_fill_68 (by decide) rfl ?_
                    refine z_iload okω dL_fill_70 rfl ?_
                    refine z_if_ge (tgt := 79) okω dL_fill_72 (by decide) (fun cz72ω => ?_) (fun cz72ω => ?_)
                    · obtain ⟨kbω, hkbω⟩ := oI_some cz72ω
                      subst hkbω
                      have hknω : kbω < n := hwnω.2.1
                      refine z_iload okω dL_fill_79 rfl ?_
                      refine z_if_ne (tgt := 104) okω dL_fill_81 (by decide) (fun cz81ω => ?_) (fun cz81ω => ?_)
                      · refine z_iload okω dL_fill_104 rfl ?_
                        refine z_iconst (v := 1) okω dL_fill_106 (by decide) ?_
                        refine z_icmp_ne (tgt := 130) okω dL_fill_107 (by decide) (fun cz107ω => ?_) (fun cz107ω => ?_)
                        · refine z_aload_n okω dL_fill_130 rfl ?_
                          refine z_iconst (v := 4) okω dL_fill_131 (by decide) ?_
                          refine z_iload okω dL_fill_132 rfl ?_
                          refine z_imul okω dL_fill_134 ?_
                          refine z_iconst (v := 3) okω dL_fill_135 (by decide) ?_
                          refine z_iadd okω dL_fill_136 ?_
                          refine l_ld5 jω okω dL_fill_137 hm1ω (lx4_3 jω) hjnω ?_
                          refine z_aload_n okω dL_fill_138 rfl ?_
                          refine z_iconst (v := 4) okω dL_fill_139 (by decide) ?_
                          refine z_iload okω dL_fill_140 rfl ?_
                          refine z_imul okω dL_fill_142 ?_
                          refine z_iconst (v := 1) okω dL_fill_143 (by decide) ?_
                          refine z_iadd okω dL_fill_144 ?_
                          refine l_ld1 kbω okω dL_fill_145 hm1ω (lx4_1 kbω) hknω ?_
                          refine z_imul okω dL_fill_146 ?_
                          refine z_aload_n okω dL_fill_147 rfl ?_
                          refine z_iconst (v := 4) okω dL_fill_148 (by decide) ?_
                          refine z_iload okω dL_fill_149 rfl ?_
                          refine z_imul okω dL_fill_151 ?_
                          refine z_iconst (v := 3) okω dL_fill_152 (by decide) ?_
                          refine z_iadd okω dL_fill_153 ?_
                          refine l_ld5 kbω okω dL_fill_154 hm1ω (lx4_3 kbω) hknω ?_
                          refine z_aload_n okω dL_fill_155 rfl ?_
                          refine z_iconst (v := 4) okω dL_fill_156 (by decide) ?_
                          refine z_iload okω dL_fill_157 rfl ?_
                          refine z_imul okω dL_fill_159 ?_
                          refine z_iconst (v := 1) okω dL_fill_160 (by decide) ?_
                          refine z_iadd okω dL_fill_161 ?_
                          refine l_ld1 jω okω dL_fill_162 hm1ω (lx4_1 jω) hjnω ?_
                          refine z_imul okω dL_fill_163 ?_
                          refine z_isub okω dL_fill_164 ?_
                          refine z_istore okω dL_fill_165 (by decide) rfl ?_
                          refine z_iload okω dL_fill_167 rfl ?_
                          refine z_if_eq (tgt := 182) okω dL_fill_169 (by decide) (fun q9ω => absurd q9ω (by decide)) (fun _ => ?_)
                          refine z_iload okω dL_fill_172 rfl ?_
                          refine z_if_lt (tgt := 182) okω dL_fill_174 (by decide) (fun cz174ω => ?_) (fun cz174ω => ?_)
                          · refine z_iload okω dL_fill_182 rfl ?_
                            refine z_istore okω dL_fill_184 (by decide) rfl ?_
                            refine z_iinc okω dL_fill_186 rfl (show nI jω + Int32.ofInt (-1) = dI (n - (i6ω + 1)) from by rw [hj2ω]; exact dI_dec jω) (by decide) rfl ?_
                            refine z_goto (tgt := 26) okω dL_fill_189 (by decide) ?_
                            first | exact ih6ω (i6ω + 1) oω _ _ (by omega) (by omega) (by rw [hj2ω]; exact zWn_no hwoω hbω) | exact ih6ω (i6ω + 1) (some jω) _ _ (by omega) (by omega) (by rw [hj2ω]; exact zWn_first (by omega) hwnω hmayω) | exact ih6ω (i6ω + 1) (some jω) _ _ (by omega) (by omega) (by rw [hj2ω]; exact zWn_new hw1ω (by omega) hwnω hmayω (by unfold zBy; first | (rw [if_pos cz81ω]; exact cz174ω) | (rw [if_neg cz81ω, if_pos cz107ω]; exact cz174ω) | (rw [if_neg cz81ω, if_neg cz107ω]; exact cz174ω))) | exact ih6ω (i6ω + 1) (some kbω) _ _ (by omega) (by omega) (by rw [hj2ω]; exact zWn_old hwnω (by unfold zBy; first | (rw [if_pos cz81ω]; exact cz174ω) | (rw [if_neg cz81ω, if_pos cz107ω]; exact cz174ω) | (rw [if_neg cz81ω, if_neg cz107ω]; exact cz174ω))) | exact ih6ω (i6ω + 1) (some kbω) _ _ (by omega) (by omega) (by rw [hj2ω]; exact zWn_no hwnω hbω)
                          · refine z_iload okω dL_fill_177 rfl ?_
                            refine z_goto (tgt := 184) okω dL_fill_179 (by decide) ?_
                            refine z_istore okω dL_fill_184 (by decide) rfl ?_
                            refine z_iinc okω dL_fill_186 rfl (show nI jω + Int32.ofInt (-1) = dI (n - (i6ω + 1)) from by rw [hj2ω]; exact dI_dec jω) (by decide) rfl ?_
                            refine z_goto (tgt := 26) okω dL_fill_189 (by decide) ?_
                            first | exact ih6ω (i6ω + 1) oω _ _ (by omega) (by omega) (by rw [hj2ω]; exact zWn_no hwoω hbω) | exact ih6ω (i6ω + 1) (some jω) _ _ (by omega) (by omega) (by rw [hj2ω]; exact zWn_first (by omega) hwnω hmayω) | exact ih6ω (i6ω + 1) (some jω) _ _ (by omega) (by omega) (by rw [hj2ω]; exact zWn_new hw1ω (by omega) hwnω hmayω (by unfold zBy; first | (rw [if_pos cz81ω]; exact cz174ω) | (rw [if_neg cz81ω, if_pos cz107ω]; exact cz174ω) | (rw [if_neg cz81ω, if_neg cz107ω]; exact cz174ω))) | exact ih6ω (i6ω + 1) (some kbω) _ _ (by omega) (by omega) (by rw [hj2ω]; exact zWn_old hwnω (by unfold zBy; first | (rw [if_pos cz81ω]; exact cz174ω) | (rw [if_neg cz81ω, if_pos cz107ω]; exact cz174ω) | (rw [if_neg cz81ω, if_neg cz107ω]; exact cz174ω))) | exact ih6ω (i6ω + 1) (some kbω) _ _ (by omega) (by omega) (by rw [hj2ω]; exact zWn_no hwnω hbω)
                        · refine z_aload_n okω dL_fill_110 rfl ?_
                          refine z_iconst (v := 4) okω dL_fill_111 (by decide) ?_
                          refine z_iload okω dL_fill_112 rfl ?_
                          refine z_imul okω dL_fill_114 ?_
                          refine z_iconst (v := 3) okω dL_fill_115 (by decide) ?_
                          refine z_iadd okω dL_fill_116 ?_
                          refine l_ld5 jω okω dL_fill_117 hm1ω (lx4_3 jω) hjnω ?_
                          refine z_aload_n okω dL_fill_118 rfl ?_
                          refine z_iconst (v := 4) okω dL_fill_119 (by decide) ?_
                          refine z_iload okω dL_fill_120 rfl ?_
                          refine z_imul okω dL_fill_122 ?_
                          refine z_iconst (v := 3) okω dL_fill_123 (by decide) ?_
                          refine z_iadd okω dL_fill_124 ?_
                          refine l_ld5 kbω okω dL_fill_125 hm1ω (lx4_3 kbω) hknω ?_
                          refine z_isub okω dL_fill_126 ?_
                          refine z_goto (tgt := 165) okω dL_fill_127 (by decide) ?_
                          refine z_istore okω dL_fill_165 (by decide) rfl ?_
                          refine z_iload okω dL_fill_167 rfl ?_
                          refine z_if_eq (tgt := 182) okω dL_fill_169 (by decide) (fun q9ω => absurd q9ω (by decide)) (fun _ => ?_)
                          refine z_iload okω dL_fill_172 rfl ?_
                          refine z_if_lt (tgt := 182) okω dL_fill_174 (by decide) (fun cz174ω => ?_) (fun cz174ω => ?_)
                          · refine z_iload okω dL_fill_182 rfl ?_
                            refine z_istore okω dL_fill_184 (by decide) rfl ?_
                            refine z_iinc okω dL_fill_186 rfl (show nI jω + Int32.ofInt (-1) = dI (n - (i6ω + 1)) from by rw [hj2ω]; exact dI_dec jω) (by decide) rfl ?_
                            refine z_goto (tgt := 26) okω dL_fill_189 (by decide) ?_
                            first | exact ih6ω (i6ω + 1) oω _ _ (by omega) (by omega) (by rw [hj2ω]; exact zWn_no hwoω hbω) | exact ih6ω (i6ω + 1) (some jω) _ _ (by omega) (by omega) (by rw [hj2ω]; exact zWn_first (by omega) hwnω hmayω) | exact ih6ω (i6ω + 1) (some jω) _ _ (by omega) (by omega) (by rw [hj2ω]; exact zWn_new hw1ω (by omega) hwnω hmayω (by unfold zBy; first | (rw [if_pos cz81ω]; exact cz174ω) | (rw [if_neg cz81ω, if_pos cz107ω]; exact cz174ω) | (rw [if_neg cz81ω, if_neg cz107ω]; exact cz174ω))) | exact ih6ω (i6ω + 1) (some kbω) _ _ (by omega) (by omega) (by rw [hj2ω]; exact zWn_old hwnω (by unfold zBy; first | (rw [if_pos cz81ω]; exact cz174ω) | (rw [if_neg cz81ω, if_pos cz107ω]; exact cz174ω) | (rw [if_neg cz81ω, if_neg cz107ω]; exact cz174ω))) | exact ih6ω (i6ω + 1) (some kbω) _ _ (by omega) (by omega) (by rw [hj2ω]; exact zWn_no hwnω hbω)
                          · refine z_iload okω dL_fill_177 rfl ?_
                            refine z_goto (tgt := 184) okω dL_fill_179 (by decide) ?_
                            refine z_istore okω dL_fill_184 (by decide) rfl ?_
                            refine z_iinc okω dL_fill_186 rfl (show nI jω + Int32.ofInt (-1) = dI (n - (i6ω + 1)) from by rw [hj2ω]; exact dI_dec jω) (by decide) rfl ?_
                            refine z_goto (tgt := 26) okω dL_fill_189 (by decide) ?_
                            first | exact ih6ω (i6ω + 1) oω _ _ (by omega) (by omega) (by rw [hj2ω]; exact zWn_no hwoω hbω) | exact ih6ω (i6ω + 1) (some jω) _ _ (by omega) (by omega) (by rw [hj2ω]; exact zWn_first (by omega) hwnω hmayω) | exact ih6ω (i6ω + 1) (some jω) _ _ (by omega) (by omega) (by rw [hj2ω]; exact zWn_new hw1ω (by omega) hwnω hmayω (by unfold zBy; first | (rw [if_pos cz81ω]; exact cz174ω) | (rw [if_neg cz81ω, if_pos cz107ω]; exact cz174ω) | (rw [if_neg cz81ω, if_neg cz107ω]; exact cz174ω))) | exact ih6ω (i6ω + 1) (some kbω) _ _ (by omega) (by omega) (by rw [hj2ω]; exact zWn_old hwnω (by unfold zBy; first | (rw [if_pos cz81ω]; exact cz174ω) | (rw [if_neg cz81ω, if_pos cz107ω]; exact cz174ω) | (rw [if_neg cz81ω, if_neg cz107ω]; exact cz174ω))) | exact ih6ω (i6ω + 1) (some kbω) _ _ (by omega) (by omega) (by rw [hj2ω]; exact zWn_no hwnω hbω)
                      · refine z_aload_n okω dL_fill_84 rfl ?_
                        refine z_iconst (v := 4) okω dL_fill_85 (by decide) ?_
                        refine z_iload okω dL_fill_86 rfl ?_
                        refine z_imul okω dL_fill_88 ?_
                        refine z_iconst (v := 1) okω dL_fill_89 (by decide) ?_
                        refine z_iadd okω dL_fill_90 ?_
                        refine l_ld4 kbω okω dL_fill_91 hm1ω (lx4_1 kbω) hknω ?_
                        refine z_aload_n okω dL_fill_92 rfl ?_
                        refine z_iconst (v := 4) okω dL_fill_93 (by decide) ?_
                        refine z_iload okω dL_fill_94 rfl ?_
                        refine z_imul okω dL_fill_96 ?_
                        refine z_iconst (v := 1) okω dL_fill_97 (by decide) ?_
                        refine z_iadd okω dL_fill_98 ?_
                        refine l_ld4 jω okω dL_fill_99 hm1ω (lx4_1 jω) hjnω ?_
                        refine z_isub okω dL_fill_100 ?_
                        refine z_goto (tgt := 165) okω dL_fill_101 (by decide) ?_
                        refine z_istore okω dL_fill_165 (by decide) rfl ?_
                        refine z_iload okω dL_fill_167 rfl ?_
                        refine z_if_eq (tgt := 182) okω dL_fill_169 (by decide) (fun q9ω => absurd q9ω (by decide)) (fun _ => ?_)
                        refine z_iload okω dL_fill_172 rfl ?_
                        refine z_if_lt (tgt := 182) okω dL_fill_174 (by decide) (fun cz174ω => ?_) (fun cz174ω => ?_)
                        · refine z_iload okω dL_fill_182 rfl ?_
                          refine z_istore okω dL_fill_184 (by decide) rfl ?_
                          refine z_iinc okω dL_fill_186 rfl (show nI jω + Int32.ofInt (-1) = dI (n - (i6ω + 1)) from by rw [hj2ω]; exact dI_dec jω) (by decide) rfl ?_
                          refine z_goto (tgt := 26) okω dL_fill_189 (by decide) ?_
                          first | exact ih6ω (i6ω + 1) oω _ _ (by omega) (by omega) (by rw [hj2ω]; exact zWn_no hwoω hbω) | exact ih6ω (i6ω + 1) (some jω) _ _ (by omega) (by omega) (by rw [hj2ω]; exact zWn_first (by omega) hwnω hmayω) | exact ih6ω (i6ω + 1) (some jω) _ _ (by omega) (by omega) (by rw [hj2ω]; exact zWn_new hw1ω (by omega) hwnω hmayω (by unfold zBy; first | (rw [if_pos cz81ω]; exact cz174ω) | (rw [if_neg cz81ω, if_pos cz107ω]; exact cz174ω) | (rw [if_neg cz81ω, if_neg cz107ω]; exact cz174ω))) | exact ih6ω (i6ω + 1) (some kbω) _ _ (by omega) (by omega) (by rw [hj2ω]; exact zWn_old hwnω (by unfold zBy; first | (rw [if_pos cz81ω]; exact cz174ω) | (rw [if_neg cz81ω, if_pos cz107ω]; exact cz174ω) | (rw [if_neg cz81ω, if_neg cz107ω]; exact cz174ω))) | exact ih6ω (i6ω + 1) (some kbω) _ _ (by omega) (by omega) (by rw [hj2ω]; exact zWn_no hwnω hbω)
                        · refine z_iload okω dL_fill_177 rfl ?_
                          refine z_goto (tgt := 184) okω dL_fill_179 (by decide) ?_
                          refine z_istore okω dL_fill_184 (by decide) rfl ?_
                          refine z_iinc okω dL_fill_186 rfl (show nI jω + Int32.ofInt (-1) = dI (n - (i6ω + 1)) from by rw [hj2ω]; exact dI_dec jω) (by decide) rfl ?_
                          refine z_goto (tgt := 26) okω dL_fill_189 (by decide) ?_
                          first | exact ih6ω (i6ω + 1) oω _ _ (by omega) (by omega) (by rw [hj2ω]; exact zWn_no hwoω hbω) | exact ih6ω (i6ω + 1) (some jω) _ _ (by omega) (by omega) (by rw [hj2ω]; exact zWn_first (by omega) hwnω hmayω) | exact ih6ω (i6ω + 1) (some jω) _ _ (by omega) (by omega) (by rw [hj2ω]; exact zWn_new hw1ω (by omega) hwnω hmayω (by unfold zBy; first | (rw [if_pos cz81ω]; exact cz174ω) | (rw [if_neg cz81ω, if_pos cz107ω]; exact cz174ω) | (rw [if_neg cz81ω, if_neg cz107ω]; exact cz174ω))) | exact ih6ω (i6ω + 1) (some kbω) _ _ (by omega) (by omega) (by rw [hj2ω]; exact zWn_old hwnω (by unfold zBy; first | (rw [if_pos cz81ω]; exact cz174ω) | (rw [if_neg cz81ω, if_pos cz107ω]; exact cz174ω) | (rw [if_neg cz81ω, if_neg cz107ω]; exact cz174ω))) | exact ih6ω (i6ω + 1) (some kbω) _ _ (by omega) (by omega) (by rw [hj2ω]; exact zWn_no hwnω hbω)
                    · have hoω := oI_none (fun kω hkω => by rw [hkω] at hwnω; have := hwnω.2.1; omega) (Int32.not_le.mp cz72ω)
                      have hwoω := hwnω
                      rw [hoω] at hwnω
                      refine z_iconst (v := 1) okω dL_fill_75 (by decide) ?_
                      refine z_goto (tgt := 165) okω dL_fill_76 (by decide) ?_
                      refine z_istore okω dL_fill_165 (by decide) rfl ?_
                      refine z_iload okω dL_fill_167 rfl ?_
                      refine z_if_eq (tgt := 182) okω dL_fill_169 (by decide) (fun q9ω => absurd q9ω (by decide)) (fun _ => ?_)
                      refine z_iload okω dL_fill_172 rfl ?_
                      refine z_if_lt (tgt := 182) okω dL_fill_174 (by decide) (fun q9ω => absurd q9ω (by decide)) (fun _ => ?_)
                      refine z_iload okω dL_fill_177 rfl ?_
                      refine z_goto (tgt := 184) okω dL_fill_179 (by decide) ?_
                      refine z_istore okω dL_fill_184 (by decide) rfl ?_
                      refine z_iinc okω dL_fill_186 rfl (show nI jω + Int32.ofInt (-1) = dI (n - (i6ω + 1)) from by rw [hj2ω]; exact dI_dec jω) (by decide) rfl ?_
                      refine z_goto (tgt := 26) okω dL_fill_189 (by decide) ?_
                      first | exact ih6ω (i6ω + 1) oω _ _ (by omega) (by omega) (by rw [hj2ω]; exact zWn_no hwoω hbω) | exact ih6ω (i6ω + 1) (some jω) _ _ (by omega) (by omega) (by rw [hj2ω]; exact zWn_first (by omega) hwnω hmayω) | exact ih6ω (i6ω + 1) (some jω) _ _ (by omega) (by omega) (by rw [hj2ω]; exact zWn_new hw1ω (by omega) hwnω hmayω (by unfold zBy; first | (rw [if_pos cz81ω]; exact cz174ω) | (rw [if_neg cz81ω, if_pos cz107ω]; exact cz174ω) | (rw [if_neg cz81ω, if_neg cz107ω]; exact cz174ω))) | exact ih6ω (i6ω + 1) (some kbω) _ _ (by omega) (by omega) (by rw [hj2ω]; exact zWn_old hwnω (by unfold zBy; first | (rw [if_pos cz81ω]; exact cz174ω) | (rw [if_neg cz81ω, if_pos cz107ω]; exact cz174ω) | (rw [if_neg cz81ω, if_neg cz107ω]; exact cz174ω))) | exact ih6ω (i6ω + 1) (some kbω) _ _ (by omega) (by omega) (by rw [hj2ω]; exact zWn_no hwnω hbω)
        exact loop26ω (n + 1) 0 none _ _ (by omega) (by omega) (by rw [Nat.sub_zero]; exact zWn_end)
  exact loop9ω 17 0 s 0 0 M _ _ _ _ (by omega) (by omega) (zFi_0 hn16ω) hw hm zFr.rf

