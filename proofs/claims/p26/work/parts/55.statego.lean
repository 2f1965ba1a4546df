theorem zLd_bd {s : Nat → Int32} {n nv no : Nat} {x : Int32} (h : zWF s n nv no) : ∀ m, m ≤ n → 0 ≤ (zLd s m x 1).toInt ∧ (zLd s m x 1).toInt ≤ zTot s 1 m ∧ zTot s 1 m ≤ zTot s 1 n
  | 0, _ => ⟨by show (0 : Int) ≤ 0; omega, by show (0 : Int) ≤ 0; omega, (zTot_ge n h.ct1).1⟩
  | mω + 1, hmω => by
    have ihω := zLd_bd h (x := x) mω (by omega)
    have hmonoω : ∀ kω, mω + 1 ≤ kω → kω ≤ n → zTot s 1 (mω + 1) ≤ zTot s 1 kω := by
      intro kω
      induction kω with
      | zero => intro h1ω; omega
      | succ kω ihkω =>
        intro h1ω h2ω
        by_cases he : mω + 1 = kω + 1
        · rw [he]
          exact Int.le_refl _
        · have h3ω := ihkω (by omega) (by omega)
          have h4ω := h.ct1 kω (by omega)
          show zTot s 1 (mω + 1) ≤ zTot s 1 kω + zCt1 s 1 kω
          omega
    have h5ω := hmonoω n hmω (Nat.le_refl _)
    have h6ω := h.sz
    have hnω := h.N.2.1
    have h7ω := h.ct1 mω (by omega)
    rw [zTot] at h5ω ⊢
    unfold zLd at ihω ⊢
    rw [zSum]
    by_cases hin : zInV s mω x
    · have h8ω : zCt1 s 1 mω = (gd s mω 1).toInt := if_neg hin.1
      rw [if_pos hin]
      have eω : ((zSum (fun cω => if zInV s cω x then gd s cω 1 else 0) mω) + gd s mω 1).toInt = (zSum (fun cω => if zInV s cω x then gd s cω 1 else 0) mω).toInt + (gd s mω 1).toInt := i_addI ⟨ihω.1, by omega⟩ ⟨by omega, by omega⟩
      rw [eω]
      omega
    · rw [if_neg hin, Int32.add_zero]
      omega
theorem zSum_add {f f' : Nat → Int32} {c : Nat} {x : Int32} : ∀ n, c < n → (∀ j, j < n → j ≠ c → f' j = f j) → f' c = f c + x → zSum f' n = zSum f n + x
  | 0, hω, _, _ => absurd hω (by omega)
  | nω + 1, hω, heω, hxω => by
    rw [zSum, zSum]
    by_cases hc : c = nω
    · have eω : ∀ mω, mω ≤ nω → zSum f' mω = zSum f mω := by
        intro mω
        induction mω with
        | zero => intro _; rfl
        | succ mω ihω => intro hmω; rw [zSum, zSum, ihω (by omega), heω mω (by omega) (by omega)]
      rw [eω nω (Nat.le_refl _), ← hc, hxω, Int32.add_assoc]
    · rw [zSum_add nω (by omega) (fun jω hjω hjcω => heω jω (by omega) hjcω) hxω, heω nω (by omega) (by omega), Int32.add_assoc, Int32.add_assoc, Int32.add_comm x]
theorem ok_load {s : Nat → Int32} {n nv no : Nat} {c v : Int32} (h : zWF s n nv no) : zOKr (spLoad s n c v) := by
  unfold spLoad
  have hnω := h.N.2.1
  have hnvω := h.N.2.2.2.1
  by_cases hc : zGoods s c ∧ zVeh s v
  · rw [if_pos hc]
    obtain ⟨jzω, hjzω, hczω, _⟩ := zGoods_in h.N hc.1
    obtain ⟨uzω, huzω, huvω⟩ := zVeh_nat h.N hc.2.1 hc.2.2
    have htω : tN c = jzω := by rw [hczω]; exact tN_nI (by omega)
    have huω : tN v = uzω := by rw [huvω]; exact tN_nI (by omega)
    rw [htω, huω, huvω]
    by_cases h0 : zCan s n jzω uzω
    · rw [if_pos h0]
      have hwω := h.load hjzω huzω h0
      refine ⟨?_, n, nv, no, hwω⟩
      show 0 ≤ vd (zLoads s jzω uzω) uzω 0 - zLd (zLoads s jzω uzω) n (nI uzω) 1
      have hbω := zLd_bd hwω (x := nI uzω) n (Nat.le_refl _)
      have hszω := hwω.sz
      have hvω := hwω.v uzω huzω
      have hv0ω : vd (zLoads s jzω uzω) uzω 0 = vd s uzω 0 := zLoads_o (by omega)
      have haddω : zLd (zLoads s jzω uzω) n (nI uzω) 1 = zLd s n (nI uzω) 1 + gd s jzω 1 := by
        unfold zLd
        refine zSum_add n hjzω (fun kzω hkzω hkjω => ?_) ?_
        · have egω : ∀ qω, qω < 12 → gd (zLoads s jzω uzω) kzω qω = gd s kzω qω := fun qω hqω => zLoads_o (by omega)
          simp only [zInV_cong (egω 6 (by decide)) (egω 7 (by decide)), egω 1 (by decide)]
        · have i1ω : zInV (zLoads s jzω uzω) jzω (nI uzω) := by
            have e6ω : gd (zLoads s jzω uzω) jzω 6 = 1 := by rw [gd_zLoads, if_neg (by decide), if_pos rfl]
            have e7ω : gd (zLoads s jzω uzω) jzω 7 = nI uzω := by rw [gd_zLoads, if_pos rfl]
            unfold zInV
            rw [e6ω, e7ω]
            exact ⟨by decide, by decide, rfl⟩
          have i2ω : ¬ zInV s jzω (nI uzω) := fun zω => by
            have z9ω := zInV_12 zω
            rw [h0.1.1] at z9ω
            exact absurd z9ω (by decide)
          rw [if_pos i1ω, if_neg i2ω, Int32.zero_add, gd_zLoads, if_neg (by decide), if_neg (by decide)]
      have hleω := h0.2.1
      rw [← haddω, ← hv0ω] at hleω
      have l1ω := Int32.le_iff_toInt_le.mp hleω
      have l2ω := Int32.le_iff_toInt_le.mp hvω.1.2
      have e200ω : (200 : Int32).toInt = 200 := rfl
      rw [i0_le, i_subI ⟨by omega, by omega⟩ ⟨hbω.1, by omega⟩]
      omega
    · rw [if_neg h0]
      show (-1000002 : Int32) < 0
      decide
  · rw [if_neg hc]
    show (-1000001 : Int32) < 0
    decide
theorem zFill_WF {n nv no v : Nat} {p r : Int32} (hv : v < nv) : ∀ (f : Nat) (s : Nat → Int32) (L t : Int32), zWF s n nv no → (∀ i, 16 ≤ i → bt t i = false) → zWF (zFill n v p r f s L t).1 n nv no ∧ ∀ i, 16 ≤ i → bt (zFill n v p r f s L t).2 i = false
  | 0, s, _, t, hω, htω => ⟨hω, htω⟩
  | f + 1, s, L, t, hω, htω => by
    have hnω := hω.N.2.1
    cases hp : zPick s L p r n with
    | none => rw [zFill_none hp]; exact ⟨hω, htω⟩
    | some cω =>
      have hcω := (zPick_some hp).1
      by_cases hca : zCan s n cω v
      · rw [zFill_can hp hca]
        refine zFill_WF hv f _ _ _ (hω.load hcω hv hca) (fun iω hiω => ?_)
        by_cases h32 : iω < 32
        · rw [b_or, htω iω hiω, zbit_bt (by omega) h32]
          simp
          omega
        · exact b_big (by omega)
      · rw [zFill_not hp hca]
        exact zFill_WF hv f _ _ _ hω htω
theorem b_nn {x : Int32} (h : bt x 31 = false) : 0 ≤ x := by
  rw [Int32.le_iff_toInt_le]
  show (0 : Int) ≤ x.toBitVec.toInt
  unfold bt at h
  rw [BitVec.toInt_eq_msb_cond]
  have h2ω : x.toBitVec.msb = false := by
    rw [BitVec.msb_eq_getLsbD_last]
    exact h
  rw [h2ω]
  simp
theorem ok_fillS {s : Nat → Int32} {n nv no : Nat} {v p r : Int32} (h : zWF s n nv no) : zOKr (spFillS s n v p r) := by
  unfold spFillS
  have hnvω := h.N.2.2.2.1
  by_cases hc : zVeh s v ∧ zW 1 4 p ∧ zW 0 2 r
  · rw [if_pos hc]
    obtain ⟨uzω, huzω, huvω⟩ := zVeh_nat h.N hc.1.1 hc.1.2
    have huω : tN v = uzω := by rw [huvω]; exact tN_nI (by omega)
    rw [huω]
    by_cases h0 : 0 < vd s uzω 2
    · rw [if_pos h0]
      show (-1000002 : Int32) < 0
      decide
    · rw [if_neg h0]
      obtain ⟨h1ω, h2ω⟩ := zFill_WF (p := p) (r := r) huzω n s 0 0 h (fun iω _ => b_0 iω)
      exact ⟨b_nn (h2ω 31 (by decide)), n, nv, no, h1ω⟩
  · rw [if_neg hc]
    show (-1000001 : Int32) < 0
    decide
/-- the set and the number of what is loaded -/
theorem spFill_S {s : Nat → Int32} {n : Nat} {v p r : Int32} : spFill s n v p r = match spFillS s n v p r with
    | .inl e => .inl e
    | .inr q => .inr (q.1, zBits q.2 16) := by
  unfold spFill spFillS
  by_cases hc : zVeh s v ∧ zW 1 4 p ∧ zW 0 2 r
  · rw [if_pos hc, if_pos hc]
    by_cases h0 : 0 < vd s (tN v) 2
    · rw [if_pos h0, if_pos h0]
    · rw [if_neg h0, if_neg h0]
  · rw [if_neg hc, if_neg hc]
theorem spWFill_S {s : Nat → Int32} {n : Nat} {v p r : Int32} : spWFill s n v p r = match spFillS s n v p r with
    | .inl e => e
    | .inr q => q.2 := by
  unfold spWFill spFillS
  by_cases hc : zVeh s v ∧ zW 1 4 p ∧ zW 0 2 r
  · rw [if_pos hc, if_pos hc]
    by_cases h0 : 0 < vd s (tN v) 2
    · rw [if_pos h0, if_pos h0]
    · rw [if_neg h0, if_neg h0]
  · rw [if_neg hc, if_neg hc]
/-- depart: the states of the consignments -/
theorem zDe_6 {s : Nat → Int32} {n v i : Nat} (hi : i < 16) : ∀ k, k ≤ 16 → gd (zDe s n v k) i 6 = (if i < k ∧ zInV s i (nI v) then 2 else gd s i 6) ∧ ∀ f, f ≠ 6 → f ≠ 11 → f < 12 → gd (zDe s n v k) i f = gd s i f
  | 0, _ => by
    have eω : ∀ fω, fω < 12 → gd (zDe1 s n v) i fω = gd s i fω := fun fω hfω => zDe1_o (by omega)
    exact ⟨by rw [if_neg (by omega)]; exact eω 6 (by decide), fun fω _ _ hfω => eω fω hfω⟩
  | kω + 1, hkω => by
    obtain ⟨h1ω, h2ω⟩ := zDe_6 (s := s) (n := n) (v := v) hi kω (by omega)
    by_cases hik : i = kω
    · subst hik
      rw [if_neg (by omega)] at h1ω
      by_cases hc : zInV s i (nI v)
      · have hc2ω : zInV (zDe s n v i) i (nI v) := (zInV_cong h1ω (h2ω 7 (by decide) (by decide) (by decide))).mpr hc
        rw [zDe_t hc2ω, if_pos ⟨Nat.lt_succ_self _, hc⟩]
        refine ⟨by rw [gd_pg, gd_pg]; rfl, fun fω h6ω h11ω h12ω => ?_⟩
        rw [gd_pg, gd_pg, if_neg h11ω, if_neg h6ω]
        exact h2ω fω h6ω h11ω h12ω
      · have hc2ω : ¬ zInV (zDe s n v i) i (nI v) := mt (zInV_cong h1ω (h2ω 7 (by decide) (by decide) (by decide))).mp hc
        rw [zDe_f hc2ω, if_neg (fun zω => hc zω.2)]
        exact ⟨h1ω, h2ω⟩
    · have eω : ∀ fω, fω < 12 → gd (zDe s n v (kω + 1)) i fω = gd (zDe s n v kω) i fω := fun fω hfω => by
        by_cases hc2ω : zInV (zDe s n v kω) kω (nI v)
        · rw [zDe_t hc2ω, gd_pg2 hik (by decide) hfω, gd_pg2 hik (by decide) hfω]
        · rw [zDe_f hc2ω]
      have e2ω : (i < kω + 1 ∧ zInV s i (nI v)) ↔ (i < kω ∧ zInV s i (nI v)) := ⟨fun zω => ⟨by omega, zω.2⟩, fun zω => ⟨by omega, zω.2⟩⟩
      simp only [e2ω]
      exact ⟨(eω 6 (by decide)).trans h1ω, fun fω h6ω h11ω h12ω => (eω fω h12ω).trans (h2ω fω h6ω h11ω h12ω)⟩
theorem zDm_WF {s : Nat → Int32} {n nv no v : Nat} (h : zWF s n nv no) (hv : v < nv) (h0 : vd s v 2 = 0) : ∀ k, k ≤ n → zWF (zDm s n v k) n nv no
  | 0, _ => by
    have hnvω := h.N.2.2.2.1
    have eω : zDm s n v 0 = s := funext fun qω => zDm_0 (by omega)
    rw [eω]
    exact h
  | kω + 1, hkω => by
    have ihω := zDm_WF h hv h0 kω (by omega)
    have hnω := h.N.2.1
    have hnvω := h.N.2.2.2.1
    by_cases hc : zInV (zDe s n v kω) kω (nI v)
    · have hgkω := fun (fω : Nat) (hfω : fω < 12) => zDm_t (s := s) (n := n) (v := v) (by omega : kω < 16) hfω hc
      have h6ω : gd (zDm s n v (kω + 1)) kω 6 = 2 := by rw [hgkω 6 (by decide)]; rfl
      have hoω : ∀ jzω, jzω ≠ kω → ∀ fω, fω < 12 → gd (zDm s n v (kω + 1)) jzω fω = gd (zDm s n v kω) jzω fω := fun jzω hjkω fω hfω => zDm_o (by omega)
      have hcmω : zInV (zDm s n v kω) kω (nI v) := by
        unfold zInV at hc ⊢
        rw [zDm_g (by omega) (by decide), zDm_g (by omega) (by decide)]
        exact hc
      have hk5ω : ¬ gd (zDm s n v kω) kω 6 = 5 := hcmω.1
      have hctω : ∀ fω, fω ≠ 6 → fω ≠ 11 → fω < 12 → ∀ jzω, jzω < n → zCt1 (zDm s n v (kω + 1)) fω jzω = zCt1 (zDm s n v kω) fω jzω := fun fω f6ω f11ω f12ω jzω hjzω => by
        by_cases hjc : jzω = kω
        · rw [hjc]
          unfold zCt1
          rw [h6ω, hgkω fω f12ω, if_neg f11ω, if_neg f6ω, if_neg (by decide), if_neg hk5ω]
        · exact zCt1_cong (hoω jzω hjc 6 (by decide)) (hoω jzω hjc fω f12ω)
      have hK : ∀ xω : Int32, ¬ xω = 1 → ¬ xω = 2 → zK3 (zDm s n v (kω + 1)) xω n = zK3 (zDm s n v kω) xω n := fun xω x1ω x2ω => zK3_cong n (fun jzω hjzω => by
        by_cases hjc : jzω = kω
        · rw [hjc, h6ω]
          rcases zInV_12 hcmω with z9ω | z9ω
          · rw [z9ω]
            exact ⟨fun zω => absurd zω.symm x2ω, fun zω => absurd zω.symm x1ω⟩
          · rw [z9ω]
        · rw [hoω jzω hjc 6 (by decide)])
      have hggω := ihω.g kω (by omega)
      refine ihω.good (by omega) (fun qω _ h9ω => zDm_o h9ω) ?_ (by rw [zTot_cong n (hctω 1 (by decide) (by decide) (by decide))]; exact ihω.sz) (by rw [zTot_cong n (hctω 5 (by decide) (by decide) (by decide))]; exact ihω.wo) (fun zω => ⟨v, hv, ?_, fun z1ω => absurd (h6ω.symm.trans z1ω) (by decide)⟩) (fun uω huω zω => ?_) (by rw [hK 3 (by decide) (by decide), zDm_lo (by omega) (by omega) (by decide)]; exact (zDm_lo (by omega) (by omega) (by decide)).symm.trans ihω.c3) (by rw [hK 4 (by decide) (by decide), zDm_lo (by omega) (by omega) (by decide)]; exact (zDm_lo (by omega) (by omega) (by decide)).symm.trans ihω.c4)
      · unfold zG at hggω ⊢
        rw [h6ω, hgkω 0 (by decide), hgkω 1 (by decide), hgkω 3 (by decide), hgkω 4 (by decide), hgkω 5 (by decide), hgkω 7 (by decide), hgkω 8 (by decide)]
        exact ⟨hggω.1, hggω.2.1, hggω.2.2.1, hggω.2.2.2.1, by decide, hggω.2.2.2.2.2⟩
      · rw [hgkω 7 (by decide)]
        exact hcmω.2.2
      · have e7ω : gd (zDm s n v (kω + 1)) kω 7 = nI v := (hgkω 7 (by decide)).trans hcmω.2.2
        have eω : uω = v := (nI_eq (a := uω) (b := v) (by omega) (by omega)).mp (zω.2.2.symm.trans e7ω)
        rw [eω]
        refine ⟨fun jzω hjzω hjkω hinω => ?_, fun z2ω => absurd (zDm_v.trans h0) z2ω⟩
        rw [hgkω 0 (by decide)]
        exact ihω.sm v hv kω (by omega) jzω hjzω hcmω hinω
    · rw [zDm_f hc]
      exact ihω
theorem ok_depart {s : Nat → Int32} {n nv no : Nat} {v : Int32} (h : zWF s n nv no) : zOKr (spDepart s n v) := by
  unfold spDepart
  have hnω := h.N.2.1
  have hnvω := h.N.2.2.2.1
  by_cases hc : zVeh s v
  · rw [if_pos hc]
    obtain ⟨uzω, huzω, huvω⟩ := zVeh_nat h.N hc.1 hc.2
    have huω : tN v = uzω := by rw [huvω]; exact tN_nI (by omega)
    rw [huω, huvω]
    by_cases h0 : 0 < vd s uzω 2 ∨ zLs s n (nI uzω) = 0
    · rw [if_pos h0]
      show (-1000002 : Int32) < 0
      decide
    · rw [if_neg h0]
      have hv0ω : vd s uzω 2 = 0 := Int32.le_antisymm (Int32.not_lt.mp (fun zω => h0 (Or.inl zω))) (h.v uzω huzω).2.2.1.1
      have hgzω : ∀ iω, iω < n → zInV s iω (nI uzω) → gd s iω 0 = zGoal s n uzω := fun iω hiω hinω => by
        unfold zGoal
        rw [if_pos hv0ω]
        rcases zLast_d (p := fun czω => zInV s czω (nI uzω)) (f := fun czω => gd s czω 0) (x := -1000004) n with ⟨h3ω, _⟩ | ⟨kzω, hkzω, h3ω, h4ω⟩
        · exact absurd hinω (h3ω iω hiω)
        · rw [h3ω]
          exact h.sm uzω huzω iω hiω kzω hkzω hinω h4ω
      have hexω : ∃ iω, iω < n ∧ zInV s iω (nI uzω) := Classical.byContradiction (fun zω => h0 (Or.inr ((zOr_0 (by omega)).mpr (fun cω hcnω hinω => zω ⟨cω, hcnω, hinω⟩))))
      obtain ⟨izω, hizω, hinzω⟩ := hexω
      have hg14ω : 1 ≤ zGoal s n uzω ∧ zGoal s n uzω ≤ 4 := by rw [← hgzω izω hizω hinzω]; exact (h.g izω hizω).1
      have hmω := zDm_WF h huzω hv0ω n (Nat.le_refl _)
      have hvvω : ∀ fω, vd (zDe s n uzω n) uzω fω = if fω = 4 then s 5 + zGoal s n uzω * s 0 else if fω = 5 then zGoal s n uzω * s 0 else if fω = 3 then zGoal s n uzω else if fω = 2 then 1 else vd s uzω fω := fun fω => (zDe_v hnω).trans zDe1_v
      have h6ω := fun (iω : Nat) (hiω : iω < 16) => zDe_6 (s := s) (n := n) (v := uzω) hiω n hnω
      have hwfω : zWF (zDe s n uzω n) n nv no := by
        refine hmω.veh huzω (fun qω _ h9ω => ?_) ?_ (fun iω hiω z6ω z7ω => ?_) (fun _ iω hiω hinω => ?_)
        · unfold zDm
          split
          · exact (zDe_hi (by omega) n hnω).trans (zDe1_o h9ω)
          · rfl
        · have hgω := h.v uzω huzω
          unfold zVv at hgω ⊢
          rw [hvvω, hvvω, hvvω, hvvω, hvvω]
          simp
          exact ⟨hgω.1, hgω.2.1, hg14ω, hgω.2.2.2.2 (by rw [hv0ω]; decide)⟩
        · rw [zDm_g (by omega) (by decide)] at z6ω z7ω
          have aω := h6ω iω (by omega)
          rw [aω.2 7 (by decide) (by decide) (by decide)] at z7ω
          rw [aω.1] at z6ω
          by_cases hinω : iω < n ∧ zInV s iω (nI uzω)
          · rw [if_pos hinω] at z6ω
            exact absurd z6ω (by decide)
          · rw [if_neg hinω] at z6ω
            exact absurd ⟨hiω, by rw [z6ω]; decide, by rw [z6ω]; decide, z7ω⟩ hinω
        · have aω := h6ω iω (by omega)
          rw [hvvω, if_neg (by decide), if_neg (by decide), if_pos rfl, zDm_g (by omega) (by decide), aω.2 0 (by decide) (by decide) (by decide)]
          have hin2ω : zInV (zDe s n uzω n) iω (nI uzω) := by
            unfold zInV at hinω ⊢
            rw [zDm_g (by omega) (by decide), zDm_g (by omega) (by decide)] at hinω
            exact hinω
          by_cases his : zInV s iω (nI uzω)
          · exact hgzω iω hiω his
          · have bω := aω.1
            rw [if_neg (fun zω => his zω.2)] at bω
            exact absurd ((zInV_cong bω (aω.2 7 (by decide) (by decide) (by decide))).mp hin2ω) his
      refine ⟨?_, n, nv, no, hwfω⟩
      show 0 ≤ vd (zDe s n uzω n) uzω 4
      rw [hvvω, if_pos rfl]
      have t0ω := i0_le.mp h.tm.1
      have t9ω := Int32.le_iff_toInt_le.mp h.tm.2
      have e9ω : (9000 : Int32).toInt = 9000 := rfl
      have a1ω := i_one.mp hg14ω.1
      have a4ω := Int32.le_iff_toInt_le.mp hg14ω.2
      have e4ω : (4 : Int32).toInt = 4 := rfl
      have b1ω := i_one.mp h.s0.1
      have b4ω := Int32.le_iff_toInt_le.mp h.s0.2
      have e24ω : (24 : Int32).toInt = 24 := rfl
      have hmulω := zml (x := zGoal s n uzω) (y := s 0) ⟨by omega, by omega⟩ ⟨by omega, by omega⟩
      rw [i0_le, i_addI ⟨t0ω, by omega⟩ hmulω]
      omega
  · rw [if_neg hc]
    show (-1000001 : Int32) < 0
    decide
theorem zWF_0 : zWF (zM0.1 1) 0 0 0 := zWF.mk ⟨rfl, by decide, rfl, by decide, rfl, by decide⟩ (by decide) (by decide) (by decide) (by decide) (fun _ hω => absurd hω (Nat.not_lt_zero _)) (by decide) (by decide) (fun _ hω => absurd hω (Nat.not_lt_zero _)) (fun _ hω => absurd hω (Nat.not_lt_zero _)) (fun _ hω => absurd hω (Nat.not_lt_zero _)) (fun _ hω => absurd hω (Nat.not_lt_zero _)) (fun _ hω => absurd hω (Nat.not_lt_zero _)) rfl rfl

