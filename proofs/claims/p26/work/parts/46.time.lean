theorem zInV_12 {s : Nat → Int32} {i : Nat} {x : Int32} (z : zInV s i x) : gd s i 6 = 1 ∨ gd s i 6 = 2 := by
  have h8ω := z.2.1
  have h4ω := Int32.le_iff_toInt_le.mp h8ω.1
  have h5ω := Int32.le_iff_toInt_le.mp h8ω.2
  have e1ω : (1 : Int32).toInt = 1 := rfl
  have e2ω : (2 : Int32).toInt = 2 := rfl
  rw [e1ω] at h4ω
  rw [e2ω] at h5ω
  rcases (by omega : (gd s i 6).toInt = 1 ∨ (gd s i 6).toInt = 2) with h6ω | h6ω
  · exact Or.inl (Int32.toInt_inj.mp (h6ω.trans e1ω.symm))
  · exact Or.inr (Int32.toInt_inj.mp (h6ω.trans e2ω.symm))
theorem zWF.no1 {s : Nat → Int32} {n nv no v : Nat} (h : zWF s n nv no) (hv : v < nv) (h2 : ¬ vd s v 2 = 0) : ∀ c, c < n → gd s c 6 = 1 → ¬ gd s c 7 = nI v := fun cω hcω h1ω h7ω => by
  obtain ⟨uω, huω, h8ω, h9ω⟩ := h.ld cω hcω (Or.inl h1ω)
  have hn4ω := h.N.2.2.2.1
  have eω := (nI_eq (a := v) (b := uω) (by omega) (by omega)).mp (h7ω.symm.trans h8ω)
  rw [← eω] at h9ω
  exact h2 (h9ω h1ω)
theorem zWF.in2 {s : Nat → Int32} {n nv no v : Nat} (h : zWF s n nv no) (hv : v < nv) (h2 : ¬ vd s v 2 = 0) : ∀ c, c < n → zInV s c (nI v) → gd s c 6 = 2 := fun cω hcω hinω => by
  rcases zInV_12 hinω with h1ω | h1ω
  · exact absurd hinω.2.2 (h.no1 hv h2 cω hcω h1ω)
  · exact h1ω
theorem zWF.fee {s : Nat → Int32} {n nv no : Nat} (h : zWF s n nv no) (k : Nat) : zWF (zFee s k) n nv no :=
  h.scal (zFee_N h.N k) (by rw [zFee_o (by decide)]; exact h.s0) (by rw [zFee_o (by decide)]; exact h.s1) (by rw [zFee_o (by decide)]; exact h.s2) (by rw [zFee_o (by decide)]; exact h.tm) (zFee_o (by decide) k) (zFee_o (by decide) k) (fun iω hiω jω hjω => zFee_o (by omega) k) (fun iω hiω jω hjω => zFee_o (by omega) k) (fun oω hoω => by rw [show od (zFee s k) oω 3 = od s oω 3 from zFee_o (by omega) k]; exact h.of oω hoω)
theorem zWF.tick {s : Nat → Int32} {n nv no : Nat} (h : zWF s n nv no) (ht : s 5 < 9000) : zWF (zTick s) n nv no := by
  have htmω := h.tm
  have eω : ∀ qω, qω ≠ 5 → zTick s qω = s qω := fun qω hqω => upd_n _ _ hqω
  have e5ω : zTick s 5 = s 5 + 1 := upd_s _ _ _
  exact h.scal (zTick_N h.N) (by rw [eω _ (by decide)]; exact h.s0) (by rw [eω _ (by decide)]; exact h.s1) (by rw [eω _ (by decide)]; exact h.s2) (by rw [e5ω]; constructor <;> grind) (eω _ (by decide)) (eω _ (by decide)) (fun iω hiω jω hjω => eω _ (by omega)) (fun iω hiω jω hjω => eω _ (by omega)) (fun oω hoω => by rw [show od (zTick s) oω 3 = od s oω 3 from eω _ (by omega)]; exact h.of oω hoω)
theorem zWF.drop {s : Nat → Int32} {n nv no k : Nat} (h : zWF s n nv no) (hk : k < no) : zWF (zDrop s no k) n nv (no - 1) := by
  have hnω := h.N.2.1
  have hnvω := h.N.2.2.2.1
  exact h.scal (zDrop_N h.N) (by rw [zDrop_lo (by decide) (by decide)]; exact h.s0) (by rw [zDrop_lo (by decide) (by decide)]; exact h.s1) (by rw [zDrop_lo (by decide) (by decide)]; exact h.s2) (by rw [zDrop_lo (by decide) (by decide)]; exact h.tm) (zDrop_lo (by decide) (by decide)) (zDrop_lo (by decide) (by decide)) (fun iω hiω jω hjω => zDrop_lo (by omega) (by omega)) (fun iω hiω jω hjω => zDrop_lo (by omega) (by omega)) (zDrop_pr h.of hk)
theorem zDel1_7 {s : Nat → Int32} {c : Nat} : zDel1 s c 7 = if gd s c 4 < s 5 then s 7 else s 7 + 1 := by
  simp only [zDel1]
  rw [upd_n _ _ (by decide), upd_n _ _ (by decide)]
  split
  · rw [upd_n _ _ (by decide), pg_lo (by decide), pg_lo (by decide)]
  · rw [upd_s, pg_lo (by decide), pg_lo (by decide)]
theorem zDel1_8 {s : Nat → Int32} {c : Nat} : zDel1 s c 8 = if gd s c 4 < s 5 then s 8 + 1 else s 8 := by
  simp only [zDel1]
  rw [upd_n _ _ (by decide), upd_n _ _ (by decide)]
  split
  · rw [upd_s, pg_lo (by decide), pg_lo (by decide)]
  · rw [upd_n _ _ (by decide), pg_lo (by decide), pg_lo (by decide)]
theorem zWF.del1 {s : Nat → Int32} {n nv no c : Nat} (h : zWF s n nv no) (hc : c < n) (h2 : gd s c 6 = 2) : zWF (zDel1 s c) n nv no := by
  have h6ω : gd (zDel1 s c) c 6 = if gd s c 4 < s 5 then 4 else 3 := by rw [zDel1_g, if_neg (by decide), if_pos rfl]
  have hkω : ∀ kω, kω ≠ 6 → kω ≠ 8 → gd (zDel1 s c) c kω = gd s c kω := fun kω h1ω h2 => by rw [zDel1_g, if_neg h2, if_neg h1ω]
  have h8ω : gd (zDel1 s c) c 8 = s 5 := by rw [zDel1_g, if_pos rfl]
  have hoω : ∀ jω, jω < n → jω ≠ c → ∀ kω, kω < 12 → gd (zDel1 s c) jω kω = gd s jω kω := fun jω hjω hjcω kω hkω => zDel1_o (by omega) (by omega)
  have hctω : ∀ kω, kω ≠ 6 → kω ≠ 8 → kω < 12 → ∀ jω, jω < n → zCt1 (zDel1 s c) kω jω = zCt1 s kω jω := fun kω k6ω k8ω k12ω jω hjω => by
    by_cases hjcω : jω = c
    · rw [hjcω]
      unfold zCt1
      rw [h6ω, h2, hkω kω k6ω k8ω]
      split <;> rfl
    · exact zCt1_cong (hoω jω hjω hjcω 6 (by decide)) (hoω jω hjω hjcω kω k12ω)
  have hgω := h.g c hc
  have hgoω : ∀ xω jω, jω < n → jω ≠ c → (gd (zDel1 s c) jω 6 = xω ↔ gd s jω 6 = xω) := fun xω jω hjω hjcω => by rw [hoω jω hjω hjcω 6 (by decide)]
  refine h.good hc (fun qω h1ω h2 => zDel1_o (by omega) h2) ?_ (by rw [zTot_cong n (hctω 1 (by decide) (by decide) (by decide))]; exact h.sz) (by rw [zTot_cong n (hctω 5 (by decide) (by decide) (by decide))]; exact h.wo) (fun zω => ?_) (fun uω huω zω => ?_) ?_ ?_
  · unfold zG at hgω ⊢
    rw [hkω 0 (by decide) (by decide), hkω 1 (by decide) (by decide), hkω 3 (by decide) (by decide), hkω 4 (by decide) (by decide), hkω 5 (by decide) (by decide), hkω 7 (by decide) (by decide), h6ω, h8ω]
    exact ⟨hgω.1, hgω.2.1, hgω.2.2.1, hgω.2.2.2.1, by split <;> decide, hgω.2.2.2.2.2.1, Or.inr h.tm.1⟩
  · rw [h6ω] at zω
    split at zω <;> exact absurd zω (by decide)
  · have z9ω := zInV_12 zω
    rw [h6ω] at z9ω
    split at z9ω <;> exact absurd z9ω (by decide)
  · rw [zDel1_7, h.c3]
    by_cases hl : gd s c 4 < s 5
    · have e3ω : zK3 (zDel1 s c) 3 n = zK3 s 3 n := zK3_cong n (fun jzω hjzω => by
        by_cases hjcω : jzω = c
        · rw [hjcω, h6ω, if_pos hl, h2]
          decide
        · exact hgoω 3 jzω hjzω hjcω)
      rw [if_pos hl, e3ω]
    · rw [if_neg hl, zK3_add (s := s) n hc (hgoω 3) (by rw [h6ω, if_neg hl]) (by rw [h2]; decide)]
  · rw [zDel1_8, h.c4]
    by_cases hl : gd s c 4 < s 5
    · rw [if_pos hl, zK3_add (s := s) n hc (hgoω 4) (by rw [h6ω, if_pos hl]) (by rw [h2]; decide)]
    · have e3ω : zK3 (zDel1 s c) 4 n = zK3 s 4 n := zK3_cong n (fun jzω hjzω => by
        by_cases hjcω : jzω = c
        · rw [hjcω, h6ω, if_neg hl, h2]
          decide
        · exact hgoω 4 jzω hjzω hjcω)
      rw [if_neg hl, e3ω]
theorem zDel_WF {s : Nat → Int32} {n nv no v : Nat} (h : zWF s n nv no) (hu : ∀ c, c < n → zInV s c (nI v) → gd s c 6 = 2) : ∀ k, k ≤ n → zWF (zDel v s k).1 n nv no
  | 0, _ => h
  | kω + 1, hkω => by
    have ihω := zDel_WF h hu kω (by omega)
    by_cases hc : zInV (zDel v s kω).1 kω (nI v)
    · rw [zDel_t hc]
      have eω : ∀ jω, gd (zDel v s kω).1 kω jω = gd s kω jω := fun jω => zDel_o kω (by omega)
      exact ihω.del1 (by omega) ((eω 6).trans (hu kω (by omega) ((zInV_cong (eω 6) (eω 7)).mp hc)))
    · rw [zDel_f hc]
      exact ihω
theorem zTake_o {place hour : Int32} {q : Nat} (hq : q ≠ 6) (hq2 : q < 237) : ∀ (no : Nat) (s : Nat → Int32) (room bound t : Int32), (zTake place hour no s room bound t).1 q = s q
  | 0, s, _, _, _ => rfl
  | no + 1, s, room, bound, t => by
    cases hb : zBest s place hour room bound (no + 1) with
    | none => rw [zTake_none hb]
    | some bω =>
      rw [zTake_some hb]
      exact (zTake_o hq hq2 no _ _ _ _).trans (zDrop_lo hq hq2)
theorem zTake_WF {place hour : Int32} {n nv : Nat} : ∀ (no : Nat) (s : Nat → Int32) (room bound t : Int32), zWF s n nv no → ∃ no', no' ≤ no ∧ zWF (zTake place hour no s room bound t).1 n nv no'
  | 0, s, _, _, _, hω => ⟨0, Nat.le_refl _, hω⟩
  | no + 1, s, room, bound, t, hω => by
    cases hb : zBest s place hour room bound (no + 1) with
    | none => rw [zTake_none hb]; exact ⟨_, Nat.le_refl _, hω⟩
    | some bω =>
      rw [zTake_some hb]
      obtain ⟨no'ω, h1ω, h2ω⟩ := zTake_WF (place := place) (hour := hour) no _ (room - od s bω 1) (bound - od s bω 2) (t + od s bω 3) (hω.drop (zBest_lt hb).1)
      exact ⟨no'ω, by omega, h2ω⟩
/-- what an arrival leaves as it was -/
theorem zArr1_o {s : Nat → Int32} {n v q : Nat} (h : q < 6 ∨ q = 10 ∨ q = 11 ∨ (13 + 12 * n ≤ q ∧ q < 237)) (h2 : q < 205 + 8 * v ∨ 205 + 8 * v + 8 ≤ q) : (zArr1 s n v).1 q = s q := by
  simp only [zArr1]
  rw [pv_o (by decide) h2, pv_o (by decide) h2, pv_o (by decide) h2, zTake_o (by omega) (by omega)]
  exact zDel_o n (by omega)
theorem zArr1_v {s : Nat → Int32} {n v k : Nat} (hv : v < 4) (hk : k < 8) (hn : n ≤ 16) : vd (zArr1 s n v).1 v k = if k = 4 then s 5 + vd s v 5 else if k = 2 then 2 else if k = 6 then (zTake (vd s v 3) (s 5) (cO (zDel v s n).1) (zDel v s n).1 (vd s v 0) (vd s v 1) 0).2 else vd s v k := by
  have eω : ∀ jω, jω < 8 → vd (zDel v s n).1 v jω = vd s v jω := fun jω hjω => zDel_o n (by omega)
  have e5ω : (zDel v s n).1 5 = s 5 := zDel_o n (by omega)
  have e2ω : ∀ (oω : Nat) (xω yω zω wω : Int32) (tω : Int32) (jω : Nat), jω < 8 → vd (zTake xω yω oω (zDel v s n).1 zω wω tω).1 v jω = vd s v jω := fun oω xω yω zω wω tω jω hjω => (zTake_o (by omega) (by omega) oω _ _ _ _).trans (eω jω hjω)
  simp only [zArr1]
  rw [vd_pv, vd_pv, vd_pv, vd_pv, vd_pv, e2ω _ _ _ _ _ _ k hk, e2ω _ _ _ _ _ _ 5 (by decide), eω 0 (by decide), eω 1 (by decide), eω 3 (by decide), e5ω, pv_lo (by decide), pv_lo (by decide), zTake_o (by decide) (by decide), e5ω]
  simp
theorem zWF.arr1 {s : Nat → Int32} {n nv no v : Nat} (h : zWF s n nv no) (hv : v < nv) (h1 : vd s v 2 = 1) : ∃ no', no' ≤ no ∧ zWF (zArr1 s n v).1 n nv no' := by
  have hnω := h.N.2.1
  have hnvω := h.N.2.2.2.1
  have h2ω : ¬ vd s v 2 = 0 := by rw [h1]; decide
  have hdω := zDel_WF h (h.in2 hv h2ω) n (Nat.le_refl _)
  have eω : ∀ jω, jω < 8 → vd (zDel v s n).1 v jω = vd s v jω := fun jω hjω => zDel_o n (by omega)
  obtain ⟨no'ω, hoω, htω⟩ := zTake_WF (place := vd (zDel v s n).1 v 3) (hour := (zDel v s n).1 5) no (zDel v s n).1 (vd (zDel v s n).1 v 0) (vd (zDel v s n).1 v 1) 0 hdω
  refine ⟨no'ω, hoω, ?_⟩
  have hcoω : cO (zDel v s n).1 = no := cO_N hdω.N
  have hvvω := fun (kzω : Nat) (hkzω : kzω < 8) => zArr1_v (s := s) (v := v) (n := n) (k := kzω) (by omega) hkzω hnω
  have etω : ∀ jω, jω < 8 → vd (zTake (vd (zDel v s n).1 v 3) ((zDel v s n).1 5) no (zDel v s n).1 (vd (zDel v s n).1 v 0) (vd (zDel v s n).1 v 1) 0).1 v jω = vd s v jω := fun jω hjω => (zTake_o (by omega) (by omega) no _ _ _ _).trans (eω jω hjω)
  have h2tω : ¬ vd (zTake (vd (zDel v s n).1 v 3) ((zDel v s n).1 5) no (zDel v s n).1 (vd (zDel v s n).1 v 0) (vd (zDel v s n).1 v 1) 0).1 v 2 = 0 := by rw [etω 2 (by decide)]; exact h2ω
  refine htω.veh hv (fun qω _ h9ω => ?_) ?_ (fun iω hiω h6ω h7ω => absurd h7ω (htω.no1 hv h2tω iω hiω h6ω)) (fun _ iω hiω hinω => ?_)
  · simp only [zArr1]
    rw [pv_o (by decide) h9ω, pv_o (by decide) h9ω, pv_o (by decide) h9ω, hcoω]
  · have h9ω := h.v v hv
    unfold zVv at h9ω ⊢
    rw [hvvω 0 (by decide), hvvω 1 (by decide), hvvω 2 (by decide), hvvω 3 (by decide), hvvω 6 (by decide)]
    simp only [show ¬ (0 : Nat) = 4 by decide, show ¬ (0 : Nat) = 2 by decide, show ¬ (0 : Nat) = 6 by decide, show ¬ (1 : Nat) = 4 by decide, show ¬ (1 : Nat) = 2 by decide, show ¬ (1 : Nat) = 6 by decide, show ¬ (2 : Nat) = 4 by decide, show ¬ (3 : Nat) = 4 by decide, show ¬ (3 : Nat) = 2 by decide, show ¬ (3 : Nat) = 6 by decide, if_false, if_true]
    exact ⟨h9ω.1, h9ω.2.1, by decide, fun _ => h9ω.2.2.2.1 h2ω, fun zω => absurd trivial zω⟩
  · rw [hvvω 3 (by decide), if_neg (by decide), if_neg (by decide), if_neg (by decide), ← etω 3 (by decide)]
    exact htω.aw v hv h2tω iω hiω hinω
theorem zWF.ret {s : Nat → Int32} {n nv no v : Nat} (h : zWF s n nv no) (hv : v < nv) : zWF (zRet s v) n nv no := by
  have hnvω := h.N.2.2.2.1
  have hvvω := zRet_v (s := s) (v := v) (k := 0)
  have e0ω : vd (zRet s v) v 2 = 0 := by rw [zRet_v (by decide) (by omega), if_pos rfl]
  refine h.veh hv (fun qω h8ω h9ω => zRet_o (by omega) h9ω) ?_ (fun iω hiω h6ω h7ω => e0ω) (fun zω => absurd e0ω zω)
  have h9ω := h.v v hv
  unfold zVv at h9ω ⊢
  rw [e0ω, zRet_v (by decide) (by omega), zRet_v (by decide) (by omega), zRet_v (k := 6) (by decide) (by omega), if_neg (by decide), if_neg (by decide), if_neg (by decide), if_neg (by decide), if_neg (by decide), if_neg (by decide), if_neg (by decide), if_neg (by decide), if_pos rfl]
  exact ⟨h9ω.1, h9ω.2.1, by decide, fun zω => absurd rfl zω, fun _ => rfl⟩
theorem zHv_WF {s : Nat → Int32} {n nv no : Nat} (h : zWF s n nv no) : ∀ v, v ≤ nv → ∃ no', no' ≤ no ∧ zWF (zHv n s v).1 n nv no'
  | 0, _ => ⟨no, Nat.le_refl _, h⟩
  | vω + 1, hvω => by
    obtain ⟨o1ω, h1ω, h2ω⟩ := zHv_WF h vω (by omega)
    by_cases hc : 0 < vd (zHv n s vω).1 vω 2 ∧ vd (zHv n s vω).1 vω 4 = (zHv n s vω).1 5
    · by_cases h3 : vd (zHv n s vω).1 vω 2 = 1
      · rw [zHv_arr hc h3]
        obtain ⟨o2ω, g1ω, g2ω⟩ := h2ω.arr1 (v := vω) (by omega) h3
        exact ⟨o2ω, by omega, g2ω⟩
      · rw [zHv_ret hc h3]
        exact ⟨o1ω, h1ω, h2ω.ret (by omega)⟩
    · rw [zHv_no hc]
      exact ⟨o1ω, h1ω, h2ω⟩
theorem zHv_o {s : Nat → Int32} {n q : Nat} (h : q < 6 ∨ q = 11) : ∀ v, (zHv n s v).1 q = s q
  | 0 => rfl
  | vω + 1 => by
    by_cases hc : 0 < vd (zHv n s vω).1 vω 2 ∧ vd (zHv n s vω).1 vω 4 = (zHv n s vω).1 5
    · by_cases h3 : vd (zHv n s vω).1 vω 2 = 1
      · rw [zHv_arr hc h3]
        exact (zArr1_o (by omega) (by omega)).trans (zHv_o h vω)
      · rw [zHv_ret hc h3]
        exact (zRet_o (by omega) (by omega)).trans (zHv_o h vω)
    · rw [zHv_no hc]
      exact zHv_o h vω
theorem zOld_WF {n nv : Nat} : ∀ (k no : Nat) (s : Nat → Int32), k ≤ no → zWF s n nv no → ∃ no', no' ≤ no ∧ zWF (zOld k s) n nv no'
  | 0, no, _, _, hω => ⟨no, Nat.le_refl _, hω⟩
  | k + 1, no, s, hkω, hω => by
    rw [zOld]
    split
    · rw [cO_N hω.N]
      obtain ⟨o2ω, g1ω, g2ω⟩ := zOld_WF k (no - 1) _ (by omega) (hω.drop (k := k) (by omega))
      exact ⟨o2ω, by omega, g2ω⟩
    · exact zOld_WF k no s (by omega) hω
theorem zOld_o {q : Nat} (hq : q ≠ 6) (hq2 : q < 237) : ∀ (k : Nat) (s : Nat → Int32), zOld k s q = s q
  | 0, _ => rfl
  | k + 1, s => by
    rw [zOld, zOld_o hq hq2 k]
    split
    · exact zDrop_lo hq hq2
    · rfl
theorem zHour_5 {s : Nat → Int32} {n nv : Nat} : (zHour s n nv).1 5 = s 5 + 1 := by
  show zFee (zOld (cO (zHv n (zTick s) nv).1) (zHv n (zTick s) nv).1) n 5 = s 5 + 1
  rw [zFee_o (by decide), zOld_o (by decide) (by decide), zHv_o (by decide)]
  exact upd_s _ _ _
theorem zHour_WF {s : Nat → Int32} {n nv no : Nat} (h : zWF s n nv no) (ht : s 5 < 9000) : ∃ no', no' ≤ no ∧ zWF (zHour s n nv).1 n nv no' := by
  obtain ⟨o1ω, h1ω, h2ω⟩ := zHv_WF (h.tick ht) nv (Nat.le_refl _)
  obtain ⟨o2ω, h3ω, h4ω⟩ := zOld_WF (cO (zHv n (zTick s) nv).1) o1ω _ (by rw [cO_N h2ω.N]; exact Nat.le_refl _) h2ω
  exact ⟨o2ω, by omega, h4ω.fee n⟩
theorem zPass_5 {s : Nat → Int32} {n nv : Nat} : ∀ k, (zPass n nv s k).1 5 = s 5 + nI k
  | 0 => (Int32.add_zero _).symm
  | kω + 1 => by
    rw [zPass, zHour_5, zPass_5 kω, Int32.add_assoc]
    exact congrArg _ (nI_1 kω)
theorem i_lt9 {x : Int32} {k m : Nat} (h0 : 0 ≤ x) (h : x + nI m ≤ 9000) (hk : k < m) (hm : m < 100) (hx : x ≤ 9000) : x + nI k < 9000 := by
  have a0ω := Int32.le_iff_toInt_le.mp h0
  have a1ω := Int32.le_iff_toInt_le.mp h
  have a2ω := Int32.le_iff_toInt_le.mp hx
  have e9ω : (9000 : Int32).toInt = 9000 := rfl
  have e0ω : (0 : Int32).toInt = 0 := rfl
  have b1ω : (x + nI m).toInt = x.toInt + m := by rw [Int32.toInt_add, nI_toInt (by omega), Int.bmod_eq_of_le (by omega) (by omega)]
  have b2ω : (x + nI k).toInt = x.toInt + k := by rw [Int32.toInt_add, nI_toInt (by omega), Int.bmod_eq_of_le (by omega) (by omega)]
  rw [Int32.lt_iff_toInt_lt, b2ω, e9ω]
  omega
theorem zPass_WF {s : Nat → Int32} {n nv no m : Nat} (h : zWF s n nv no) (hm : m < 100) (ht : s 5 + nI m ≤ 9000) : ∀ k, k ≤ m → ∃ no', no' ≤ no ∧ zWF (zPass n nv s k).1 n nv no'
  | 0, _ => ⟨no, Nat.le_refl _, h⟩
  | kω + 1, hkω => by
    obtain ⟨o1ω, h1ω, h2ω⟩ := zPass_WF h hm ht kω (by omega)
    obtain ⟨o2ω, h3ω, h4ω⟩ := zHour_WF h2ω (by rw [zPass_5]; exact i_lt9 h.tm.1 ht (by omega) hm h.tm.2)
    exact ⟨o2ω, by omega, h4ω⟩
theorem zDel_2 {v : Nat} {s : Nat → Int32} : ∀ k, ∃ m, m ≤ k ∧ (zDel v s k).2 = nI m
  | 0 => ⟨0, Nat.le_refl _, rfl⟩
  | kω + 1 => by
    obtain ⟨mω, hmω, heω⟩ := zDel_2 (v := v) (s := s) kω
    by_cases hc : zInV (zDel v s kω).1 kω (nI v)
    · rw [zDel_t hc]
      exact ⟨mω + 1, by omega, by rw [heω]; exact nI_1 mω⟩
    · rw [zDel_f hc]
      exact ⟨mω, by omega, heω⟩
theorem zHv_2 {n : Nat} {s : Nat → Int32} : ∀ v, ∃ m, m ≤ n * v ∧ (zHv n s v).2 = nI m
  | 0 => ⟨0, Nat.le_refl _, rfl⟩
  | vω + 1 => by
    obtain ⟨mω, hmω, heω⟩ := zHv_2 (n := n) (s := s) vω
    have eω : n * (vω + 1) = n * vω + n := Nat.mul_succ n vω
    by_cases hc : 0 < vd (zHv n s vω).1 vω 2 ∧ vd (zHv n s vω).1 vω 4 = (zHv n s vω).1 5
    · by_cases h3 : vd (zHv n s vω).1 vω 2 = 1
      · rw [zHv_arr hc h3]
        obtain ⟨m2ω, hm2ω, he2ω⟩ := zDel_2 (v := vω) (s := (zHv n s vω).1) n
        exact ⟨mω + m2ω, by omega, by show _ + (zDel vω (zHv n s vω).1 n).2 = _; rw [heω, he2ω]; exact nI_add mω m2ω⟩
      · rw [zHv_ret hc h3]
        exact ⟨mω, by omega, heω⟩
    · rw [zHv_no hc]
      exact ⟨mω, by omega, heω⟩
theorem zPass_2 {n nv : Nat} {s : Nat → Int32} (hn : n ≤ 16) (hv : nv ≤ 4) : ∀ k, ∃ m, m ≤ 64 * k ∧ (zPass n nv s k).2 = nI m
  | 0 => ⟨0, Nat.le_refl _, rfl⟩
  | kω + 1 => by
    obtain ⟨mω, hmω, heω⟩ := zPass_2 (s := s) hn hv kω
    obtain ⟨m2ω, hm2ω, he2ω⟩ := zHv_2 (n := n) (s := zTick (zPass n nv s kω).1) nv
    have h64ω : n * nv ≤ 16 * 4 := Nat.mul_le_mul hn hv
    exact ⟨mω + m2ω, by omega, by rw [zPass]; show (zPass n nv s kω).2 + (zHv n (zTick (zPass n nv s kω).1) nv).2 = _; rw [heω, he2ω]; exact nI_add mω m2ω⟩

