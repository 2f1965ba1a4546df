theorem zX.st2 {s : Nat → Int32} {n nv i u : Nat} (h : zX s n nv) (hi : i < n) (hu : u < nv) (h2 : gd s i 6 = 2) (h7 : gd s i 7 = nI u) : vd s u 2 = 1 := h.2.2.2 i hi h2 u hu h7
theorem zSI_mono {s s' : Nat → Int32} {u k : Nat} : ∀ n, (∀ i, i < n → zInV s' i (nI u) → zInV s i (nI u) ∧ gd s' i k = gd s i k) → (∀ i, i < n → 0 ≤ (gd s i k).toInt) → zSI s' u k n ≤ zSI s u k n
  | 0, _, _ => Int.le_refl 0
  | nω + 1, hω, hpω => by
    have ihω := zSI_mono nω (fun iω hiω => hω iω (by omega)) (fun iω hiω => hpω iω (by omega))
    have hnω := hpω nω (by omega)
    show zSI s' u k nω + _ ≤ zSI s u k nω + _
    by_cases a : zInV s' nω (nI u)
    · have bω := hω nω (by omega) a
      rw [if_pos a, if_pos bω.1, bω.2]
      omega
    · rw [if_neg a]
      by_cases bω : zInV s nω (nI u)
      · rw [if_pos bω]; omega
      · rw [if_neg bω]; omega
theorem zSI_cong {s s' : Nat → Int32} {u k : Nat} : ∀ n, (∀ i, i < n → (zInV s' i (nI u) ↔ zInV s i (nI u)) ∧ gd s' i k = gd s i k) → zSI s' u k n = zSI s u k n
  | 0, _ => rfl
  | nω + 1, hω => by
    have ihω := zSI_cong nω (fun iω hiω => hω iω (by omega))
    have hnω := hω nω (by omega)
    show zSI s' u k nω + _ = zSI s u k nω + _
    rw [ihω]
    by_cases a : zInV s' nω (nI u)
    · rw [if_pos a, if_pos (hnω.1.mp a), hnω.2]
    · rw [if_neg a, if_neg (fun zω => a (hnω.1.mpr zω))]
theorem zSI_add {s s' : Nat → Int32} {u k c : Nat} : ∀ n, c < n → (∀ i, i < n → i ≠ c → (zInV s' i (nI u) ↔ zInV s i (nI u)) ∧ gd s' i k = gd s i k) → ¬ zInV s c (nI u) → zInV s' c (nI u) → gd s' c k = gd s c k → zSI s' u k n = zSI s u k n + (gd s c k).toInt
  | 0, hcω, _, _, _, _ => absurd hcω (Nat.not_lt_zero _)
  | nω + 1, hcω, hω, h1ω, h2ω, h3ω => by
    show zSI s' u k nω + _ = zSI s u k nω + _ + _
    by_cases e : c = nω
    · subst e
      rw [zSI_cong c (fun iω hiω => hω iω (by omega) (by omega)), if_pos h2ω, if_neg h1ω, h3ω]
      omega
    · have hnω := hω nω (by omega) (by omega)
      rw [zSI_add nω (by omega) (fun iω hiω hicω => hω iω (by omega) hicω) h1ω h2ω h3ω]
      by_cases a : zInV s' nω (nI u)
      · rw [if_pos a, if_pos (hnω.1.mp a), hnω.2]; omega
      · rw [if_neg a, if_neg (fun zω => a (hnω.1.mpr zω))]; omega
theorem zSI_ge {s : Nat → Int32} {u k : Nat} : ∀ n, (∀ i, i < n → 0 ≤ (gd s i k).toInt) → 0 ≤ zSI s u k n ∧ ∀ m, m ≤ n → zSI s u k m ≤ zSI s u k n
  | 0, _ => ⟨Int.le_refl 0, fun mω hmω => by rw [show mω = 0 from by omega]; exact Int.le_refl _⟩
  | nω + 1, hω => by
    obtain ⟨g1ω, g2ω⟩ := zSI_ge (u := u) nω (fun iω hiω => hω iω (by omega))
    have hnω := hω nω (by omega)
    have eω : 0 ≤ (if zInV s nω (nI u) then (gd s nω k).toInt else 0) := by
      split
      · exact hnω
      · exact Int.le_refl 0
    refine ⟨by show 0 ≤ zSI s u k nω + _; omega, fun mω hmω => ?_⟩
    rcases Nat.lt_or_ge mω (nω + 1) with h2ω | h2ω
    · have := g2ω mω (by omega)
      show _ ≤ zSI s u k nω + _
      omega
    · rw [show mω = nω + 1 from by omega]
      exact Int.le_refl _
theorem zX.szp {s : Nat → Int32} {n nv no : Nat} (hw : zWF s n nv no) : ∀ i, i < n → 0 ≤ (gd s i 1).toInt := fun iω hiω => by
  have := i_one.mp (hw.g iω hiω).2.1
  omega
theorem zX.wtp {s : Nat → Int32} {n nv : Nat} (h : zX s n nv) : ∀ i, i < n → 0 ≤ (gd s i 2).toInt := fun iω hiω => by
  have := h.1 iω hiω
  omega
/-- nothing comes into a vehicle -/
theorem zX.gen {s s' : Nat → Int32} {n nv no : Nat} (h : zX s n nv) (hw : zWF s n nv no) (w : ∀ i, i < n → 1 ≤ (gd s' i 2).toInt) (t : zTot s' 2 n ≤ 99 * (n : Int)) (v : ∀ u, u < nv → vd s' u 0 = vd s u 0 ∧ vd s' u 1 = vd s u 1) (l : ∀ i, i < n → ∀ x, zInV s' i x → zInV s i x ∧ gd s' i 1 = gd s i 1 ∧ gd s' i 2 = gd s i 2) (d : ∀ i, i < n → gd s' i 6 = 2 → ∀ u, u < nv → gd s' i 7 = nI u → vd s' u 2 = 1) : zX s' n nv := by
  refine ⟨w, t, fun uω huω => ?_, d⟩
  have cω := h.2.2.1 uω huω
  have m1ω := zSI_mono (s := s) (s' := s') (u := uω) (k := 1) n (fun iω hiω zω => ⟨(l iω hiω _ zω).1, (l iω hiω _ zω).2.1⟩) (zX.szp hw)
  have m2ω := zSI_mono (s := s) (s' := s') (u := uω) (k := 2) n (fun iω hiω zω => ⟨(l iω hiω _ zω).1, (l iω hiω _ zω).2.2⟩) h.wtp
  rw [(v uω huω).1, (v uω huω).2]
  omega
theorem zX.same {s s' : Nat → Int32} {n nv : Nat} (h : zX s n nv) (hg : ∀ i, i < n → ∀ k, k < 12 → gd s' i k = gd s i k) (hv : ∀ u, u < nv → ∀ k, k < 3 → vd s' u k = vd s u k) : zX s' n nv := by
  refine ⟨fun iω hiω => by rw [hg iω hiω 2 (by decide)]; exact h.1 iω hiω, ?_, fun uω huω => ?_, fun iω hiω h2ω uω huω h7ω => ?_⟩
  · rw [zTot_cong n (fun cω hcω => zCt1_cong (hg cω hcω 6 (by decide)) (hg cω hcω 2 (by decide)))]
    exact h.2.1
  · have eω := fun (kω : Nat) (hkω : kω < 12) => zSI_cong (s := s) (s' := s') (u := uω) (k := kω) n (fun iω hiω => ⟨zInV_cong (hg iω hiω 6 (by decide)) (hg iω hiω 7 (by decide)), hg iω hiω kω hkω⟩)
    rw [eω 1 (by decide), eω 2 (by decide), hv uω huω 0 (by decide), hv uω huω 1 (by decide)]
    exact h.2.2.1 uω huω
  · rw [hv uω huω 2 (by decide)]
    rw [hg iω hiω 6 (by decide)] at h2ω
    rw [hg iω hiω 7 (by decide)] at h7ω
    exact h.2.2.2 iω hiω h2ω uω huω h7ω
/-- a row more, that is in no vehicle -/
theorem zX.more {s' : Nat → Int32} {n nv : Nat} (w : ∀ i, i < n + 1 → 1 ≤ (gd s' i 2).toInt) (t : zTot s' 2 (n + 1) ≤ 99 * ((n + 1 : Nat) : Int)) (h0 : gd s' n 6 = 0) (c : ∀ u, u < nv → zSI s' u 1 n ≤ (vd s' u 0).toInt ∧ zSI s' u 2 n ≤ (vd s' u 1).toInt) (d : ∀ i, i < n → gd s' i 6 = 2 → ∀ u, u < nv → gd s' i 7 = nI u → vd s' u 2 = 1) : zX s' (n + 1) nv := by
  have hniω : ∀ xω, ¬ zInV s' n xω := fun xω zω => by
    have h9ω := zω.2.1.1
    rw [h0] at h9ω
    exact absurd h9ω (by decide)
  refine ⟨w, t, fun uω huω => ?_, fun iω hiω h2ω => ?_⟩
  · show zSI s' uω 1 n + _ ≤ _ ∧ zSI s' uω 2 n + _ ≤ _
    rw [if_neg (hniω _), if_neg (hniω _)]
    have := c uω huω
    omega
  · rcases Nat.lt_or_ge iω n with hinω | hinω
    · exact d iω hinω h2ω
    · rw [show iω = n from by omega, h0] at h2ω
      exact absurd h2ω (by decide)
theorem zX.make {s : Nat → Int32} {n nv no : Nat} {p b w f t o : Int32} (h : zX s n nv) (hw : zWF s n nv no) (hn : n < 16) (h2 : zW 1 99 w) : zX (zMk s n p b w f t o) (n + 1) nv := by
  have h4ω := hw.N.2.2.2.1
  have hgω : ∀ iω, iω < n → ∀ kω, kω < 12 → gd (zMk s n p b w f t o) iω kω = gd s iω kω := fun iω hiω kω hkω => zMk_g2 hiω hkω
  have hvω : ∀ uω, uω < nv → ∀ kω, kω < 3 → vd (zMk s n p b w f t o) uω kω = vd s uω kω := fun uω huω kω hkω => zMk_o (q := 205 + 8 * uω + kω) (by omega) (by omega)
  have hsω := h.same (s' := zMk s n p b w f t o) hgω hvω
  have e2ω : gd (zMk s n p b w f t o) n 2 = w := zMk_g
  have e6ω : gd (zMk s n p b w f t o) n 6 = 0 := zMk_g
  have w1ω := i_one.mp h2.1
  have w2ω := Int32.le_iff_toInt_le.mp h2.2
  rw [show (99 : Int32).toInt = 99 from rfl] at w2ω
  refine zX.more (fun iω hiω => ?_) ?_ e6ω hsω.2.2.1 hsω.2.2.2
  · rcases Nat.lt_or_ge iω n with hinω | hinω
    · exact hsω.1 iω hinω
    · rw [show iω = n from by omega, e2ω]; exact w1ω
  · have htω := hsω.2.1
    show zTot _ 2 n + zCt1 _ 2 n ≤ _
    unfold zCt1
    rw [e6ω, e2ω, if_neg (by decide)]
    omega
theorem zX.split {s : Nat → Int32} {n nv no c : Nat} {b w : Int32} (h : zX s n nv) (hw : zWF s n nv no) (hc : c < n) (hn : n < 16) (h0 : gd s c 6 = 0) (hb : zW 1 (gd s c 1 - 1) b) (h2 : zW 1 (gd s c 2 - 1) w) : zX (zSp s n c b w) (n + 1) nv := by
  have h4ω := hw.N.2.2.2.1
  have hgω : ∀ iω, iω < n → iω ≠ c → ∀ kω, kω < 12 → gd (zSp s n c b w) iω kω = gd s iω kω := fun iω hiω hicω kω hkω => zSp_o (q := 13 + 12 * iω + kω) (by omega) (by omega) (by omega)
  have hvω : ∀ uω, uω < nv → ∀ kω, kω < 8 → vd (zSp s n c b w) uω kω = vd s uω kω := fun uω huω kω hkω => zSp_o (q := 205 + 8 * uω + kω) (by omega) (by omega) (by omega)
  have c2ω : gd (zSp s n c b w) c 2 = gd s c 2 - w := zSp_c hc (by decide)
  have c6ω : gd (zSp s n c b w) c 6 = gd s c 6 := zSp_c hc (by decide)
  have n2ω : gd (zSp s n c b w) n 2 = w := zSp_n hc (by decide)
  have n6ω : gd (zSp s n c b w) n 6 = 0 := zSp_n hc (by decide)
  have t2ω := h.2.1
  have g2ω := (zTot_ge (s := s) (kz := 2) n (fun iω hiω => by
    unfold zCt1
    split
    · exact Int.le_refl 0
    · exact h.wtp iω hiω)).2 c hc
  unfold zCt1 at g2ω
  rw [if_neg (by rw [h0]; decide)] at g2ω
  have wcω := h.1 c hc
  have w1ω := i_one.mp h2.1
  have w2ω := Int32.le_iff_toInt_le.mp h2.2
  rw [i_subI ⟨by omega, by omega⟩ (by decide), show (1 : Int32).toInt = 1 from rfl] at w2ω
  have e2ω : (gd s c 2 - w).toInt = (gd s c 2).toInt - w.toInt := i_subI ⟨by omega, by omega⟩ ⟨by omega, by omega⟩
  have hncω : ∀ xω, ¬ zInV (zSp s n c b w) c xω := fun xω zω => by
    have h9ω := zω.2.1.1
    rw [c6ω, h0] at h9ω
    exact absurd h9ω (by decide)
  have hlω : ∀ iω, iω < n → ∀ xω, zInV (zSp s n c b w) iω xω → zInV s iω xω ∧ gd (zSp s n c b w) iω 1 = gd s iω 1 ∧ gd (zSp s n c b w) iω 2 = gd s iω 2 := fun iω hiω xω zω => by
    by_cases hicω : iω = c
    · rw [hicω] at zω; exact absurd zω (hncω xω)
    · exact ⟨(zInV_cong (hgω iω hiω hicω 6 (by decide)) (hgω iω hiω hicω 7 (by decide))).mp zω, hgω iω hiω hicω 1 (by decide), hgω iω hiω hicω 2 (by decide)⟩
  have tnω : zTot (zSp s n c b w) 2 n = zTot s 2 n - w.toInt := by
    rw [zTot_upd n hc (fun jω hjω hjcω => zCt1_cong (hgω jω hjω hjcω 6 (by decide)) (hgω jω hjω hjcω 2 (by decide)))]
    unfold zCt1
    rw [c6ω, c2ω, h0, if_neg (by decide), if_neg (by decide), e2ω]
    omega
  refine zX.more (fun iω hiω => ?_) ?_ n6ω (fun uω huω => ?_) (fun iω hiω z2ω uω huω z7ω => ?_)
  · by_cases hicω : iω = c
    · rw [hicω, c2ω, e2ω]; omega
    · rcases Nat.lt_or_ge iω n with hinω | hinω
      · rw [hgω iω hinω hicω 2 (by decide)]; exact h.1 iω hinω
      · rw [show iω = n from by omega, n2ω]; exact w1ω
  · show zTot _ 2 n + zCt1 _ 2 n ≤ _
    unfold zCt1
    rw [n6ω, n2ω, if_neg (by decide), tnω]
    omega
  · have ccω := h.2.2.1 uω huω
    have m1ω := zSI_mono (s := s) (s' := zSp s n c b w) (u := uω) (k := 1) n (fun iω hiω zω => ⟨(hlω iω hiω _ zω).1, (hlω iω hiω _ zω).2.1⟩) (zX.szp hw)
    have m2ω := zSI_mono (s := s) (s' := zSp s n c b w) (u := uω) (k := 2) n (fun iω hiω zω => ⟨(hlω iω hiω _ zω).1, (hlω iω hiω _ zω).2.2⟩) h.wtp
    rw [hvω uω huω 0 (by decide), hvω uω huω 1 (by decide)]
    omega
  · by_cases hicω : iω = c
    · rw [hicω, c6ω, h0] at z2ω; exact absurd z2ω (by decide)
    · rw [hgω iω hiω hicω 6 (by decide)] at z2ω
      rw [hgω iω hiω hicω 7 (by decide)] at z7ω
      rw [hvω uω huω 2 (by decide)]
      exact h.2.2.2 iω hiω z2ω uω huω z7ω
theorem zX.wmax {s : Nat → Int32} {n nv no c : Nat} (h : zX s n nv) (hw : zWF s n nv no) (hc : c < n) (h5 : ¬ gd s c 6 = 5) : (gd s c 2).toInt ≤ 1584 := by
  have hnω := hw.N.2.1
  have t2ω := h.2.1
  have g2ω := (zTot_ge (s := s) (kz := 2) n (fun iω hiω => by
    unfold zCt1
    split
    · exact Int.le_refl 0
    · exact h.wtp iω hiω)).2 c hc
  unfold zCt1 at g2ω
  rw [if_neg h5] at g2ω
  omega
theorem zX.join {s : Nat → Int32} {n nv no l g : Nat} (h : zX s n nv) (hw : zWF s n nv no) (hl : l < n) (hg : g < n) (hne : l ≠ g) (l0 : gd s l 6 = 0) (g0 : gd s g 6 = 0) : zX (zJn s l g) n nv := by
  have h4ω := hw.N.2.2.2.1
  have h16ω := hw.N.2.1
  have hoω : ∀ iω, iω < n → iω ≠ l → iω ≠ g → ∀ kω, kω < 12 → gd (zJn s l g) iω kω = gd s iω kω := fun iω hiω h1ω h2ω kω hkω => zJn_o (q := 13 + 12 * iω + kω) (by omega) (by omega)
  have hvω : ∀ uω, uω < nv → ∀ kω, kω < 8 → vd (zJn s l g) uω kω = vd s uω kω := fun uω huω kω hkω => zJn_o (q := 205 + 8 * uω + kω) (by omega) (by omega)
  have l2ω : gd (zJn s l g) l 2 = gd s l 2 + gd s g 2 := zJn_l hne (by decide)
  have l6ω : gd (zJn s l g) l 6 = gd s l 6 := zJn_l hne (by decide)
  have g2ω : gd (zJn s l g) g 2 = gd s g 2 := zJn_h hne (by decide)
  have g6ω : gd (zJn s l g) g 6 = 5 := zJn_h hne (by decide)
  have wlω := h.1 l hl
  have wgω := h.1 g hg
  have xlω := h.wmax hw hl (by rw [l0]; decide)
  have xgω := h.wmax hw hg (by rw [g0]; decide)
  have e2ω : (gd s l 2 + gd s g 2).toInt = (gd s l 2).toInt + (gd s g 2).toInt := by rw [Int32.toInt_add, Int.bmod_eq_of_le (by omega) (by omega)]
  let s1 : Nat → Int32 := fun qω => if 13 + 12 * l ≤ qω ∧ qω < 13 + 12 * l + 12 then zJn s l g qω else s qω
  have s1lω : ∀ kω, kω < 12 → gd s1 l kω = gd (zJn s l g) l kω := fun kω hkω => if_pos ⟨by omega, by omega⟩
  have s1oω : ∀ iω, iω ≠ l → ∀ kω, kω < 12 → gd s1 iω kω = gd s iω kω := fun iω hiω kω hkω => if_neg (by omega)
  have t1ω : zTot s1 2 n = zTot s 2 n + (gd s g 2).toInt := by
    rw [zTot_upd n hl (fun jω hjω hjcω => zCt1_cong (s1oω jω hjcω 6 (by decide)) (s1oω jω hjcω 2 (by decide)))]
    unfold zCt1
    rw [s1lω 6 (by decide), s1lω 2 (by decide), l6ω, l2ω, l0, if_neg (by decide), if_neg (by decide), e2ω]
    omega
  have t2ω : zTot (zJn s l g) 2 n = zTot s1 2 n - (gd s g 2).toInt := by
    rw [zTot_upd (s := s1) n hg (fun jω hjω hjgω => by
      by_cases hjl : jω = l
      · rw [hjl]; exact zCt1_cong (s1lω 6 (by decide)).symm (s1lω 2 (by decide)).symm
      · exact zCt1_cong ((hoω jω hjω hjl hjgω 6 (by decide)).trans (s1oω jω hjl 6 (by decide)).symm) ((hoω jω hjω hjl hjgω 2 (by decide)).trans (s1oω jω hjl 2 (by decide)).symm))]
    unfold zCt1
    rw [s1oω g (Ne.symm hne) 6 (by decide), s1oω g (Ne.symm hne) 2 (by decide), g6ω, g0, if_neg (by decide), if_pos rfl]
    omega
  have hnlω : ∀ xω, ¬ zInV (zJn s l g) l xω := fun xω zω => by
    have h9ω := zω.2.1.1
    rw [l6ω, l0] at h9ω
    exact absurd h9ω (by decide)
  have hngω : ∀ xω, ¬ zInV (zJn s l g) g xω := fun xω zω => zω.1 g6ω
  have ttω := h.2.1
  refine h.gen hw (fun iω hiω => ?_) (by omega) (fun uω huω => ⟨hvω uω huω 0 (by decide), hvω uω huω 1 (by decide)⟩) (fun iω hiω xω zω => ?_) (fun iω hiω z2ω uω huω z7ω => ?_)
  · by_cases hil : iω = l
    · rw [hil, l2ω, e2ω]; omega
    · by_cases hig : iω = g
      · rw [hig, g2ω]; exact wgω
      · rw [hoω iω hiω hil hig 2 (by decide)]; exact h.1 iω hiω
  · by_cases hil : iω = l
    · rw [hil] at zω; exact absurd zω (hnlω xω)
    · by_cases hig : iω = g
      · rw [hig] at zω; exact absurd zω (hngω xω)
      · exact ⟨(zInV_cong (hoω iω hiω hil hig 6 (by decide)) (hoω iω hiω hil hig 7 (by decide))).mp zω, hoω iω hiω hil hig 1 (by decide), hoω iω hiω hil hig 2 (by decide)⟩
  · by_cases hil : iω = l
    · rw [hil, l6ω, l0] at z2ω; exact absurd z2ω (by decide)
    · by_cases hig : iω = g
      · rw [hig, g6ω] at z2ω; exact absurd z2ω (by decide)
      · rw [hoω iω hiω hil hig 6 (by decide)] at z2ω
        rw [hoω iω hiω hil hig 7 (by decide)] at z7ω
        rw [hvω uω huω 2 (by decide)]
        exact h.2.2.2 iω hiω z2ω uω huω z7ω
theorem zX.veh {s : Nat → Int32} {n nv no : Nat} {r b : Int32} (h : zX s n nv) (hw : zWF s n nv no) (hnv : nv < 4) (hr : zW 1 200 r) (hb : zW 1 200 b) : zX (zVe s nv r b) n (nv + 1) := by
  have h16ω := hw.N.2.1
  have hgω : ∀ iω, iω < n → ∀ kω, kω < 12 → gd (zVe s nv r b) iω kω = gd s iω kω := fun iω hiω kω hkω => zVe_o (q := 13 + 12 * iω + kω) (by omega) (by omega)
  have hvω : ∀ uω, uω < nv → ∀ kω, kω < 3 → vd (zVe s nv r b) uω kω = vd s uω kω := fun uω huω kω hkω => zVe_o (q := 205 + 8 * uω + kω) (by omega) (by omega)
  have hsω := h.same (s' := zVe s nv r b) hgω hvω
  have hniω : ∀ iω, iω < n → (gd s iω 6 = 1 ∨ gd s iω 6 = 2) → ¬ gd s iω 7 = nI nv := fun iω hiω h6ω zω => by
    obtain ⟨uω, huω, h7ω, _⟩ := hw.ld iω hiω h6ω
    have := (nI_eq (by omega) (by omega)).mp (h7ω.symm.trans zω)
    omega
  have hzω : ∀ kω n'ω, n'ω ≤ n → zSI (zVe s nv r b) nv kω n'ω = 0 := by
    intro kω n'ω
    induction n'ω with
    | zero => intro _; rfl
    | succ mω ihω =>
      intro hmω
      show zSI _ nv kω mω + _ = 0
      rw [ihω (by omega), if_neg (fun zω => hniω mω (by omega) (by rw [← hgω mω (by omega) 6 (by decide)]; exact zInV_12 zω) ((hgω mω (by omega) 7 (by decide)).symm.trans zω.2.2))]
      rfl
  refine ⟨hsω.1, hsω.2.1, fun uω huω => ?_, fun iω hiω h2ω uω huω h7ω => ?_⟩
  · rcases Nat.lt_or_ge uω nv with hunω | hunω
    · exact hsω.2.2.1 uω hunω
    · have e0ω : vd (zVe s nv r b) nv 0 = r := zVe_v (by decide)
      have e1ω : vd (zVe s nv r b) nv 1 = b := zVe_v (by decide)
      have r1ω := i_one.mp hr.1
      have b1ω := i_one.mp hb.1
      rw [show uω = nv from by omega, hzω 1 n (Nat.le_refl n), hzω 2 n (Nat.le_refl n), e0ω, e1ω]
      omega
  · rcases Nat.lt_or_ge uω nv with hunω | hunω
    · exact hsω.2.2.2 iω hiω h2ω uω hunω h7ω
    · rw [show uω = nv from by omega, hgω iω hiω 7 (by decide)] at h7ω
      rw [hgω iω hiω 6 (by decide)] at h2ω
      exact absurd h7ω (hniω iω hiω (Or.inr h2ω))
theorem zLd_I {s : Nat → Int32} {u k : Nat} {n : Nat} (hp : ∀ i, i < n → 0 ≤ (gd s i k).toInt) (hb : zSI s u k n ≤ 200) : ∀ m, m ≤ n → (zLd s m (nI u) k).toInt = zSI s u k m
  | 0, _ => rfl
  | mω + 1, hmω => by
    have ihω := zLd_I hp hb mω (by omega)
    have gω := (zSI_ge (u := u) n hp).2 (mω + 1) hmω
    have g0ω := (zSI_ge (s := s) (k := k) (u := u) mω (fun iω hiω => hp iω (by omega))).1
    have eω : zSI s u k (mω + 1) = zSI s u k mω + (if zInV s mω (nI u) then (gd s mω k).toInt else 0) := rfl
    have e2ω : zLd s (mω + 1) (nI u) k = zLd s mω (nI u) k + (if zInV s mω (nI u) then gd s mω k else 0) := rfl
    have hm0ω := hp mω (by omega)
    rw [eω] at gω ⊢
    rw [e2ω]
    by_cases a : zInV s mω (nI u)
    · rw [if_pos a] at gω ⊢
      rw [if_pos a, Int32.toInt_add, ihω, Int.bmod_eq_of_le (by omega) (by omega)]
    · rw [if_neg a, if_neg a, Int32.add_zero, ihω]
      omega
theorem v200 {x : Int32} (h : 1 ≤ x ∧ x ≤ 200) : x.toInt ≤ 200 := by
  have := Int32.le_iff_toInt_le.mp h.2
  rwa [show (200 : Int32).toInt = 200 from rfl] at this
theorem zX.ldI {s : Nat → Int32} {n nv no u : Nat} (h : zX s n nv) (hw : zWF s n nv no) (hu : u < nv) : (zLd s n (nI u) 1).toInt = zSI s u 1 n ∧ (zLd s n (nI u) 2).toInt = zSI s u 2 n := by
  have cω := h.2.2.1 u hu
  have vω := hw.v u hu
  have a1ω := v200 vω.1
  have a2ω := v200 vω.2.1
  exact ⟨zLd_I (zX.szp hw) (by omega) n (Nat.le_refl n), zLd_I h.wtp (by omega) n (Nat.le_refl n)⟩
theorem zX.room {s : Nat → Int32} {n nv no u : Nat} (h : zX s n nv) (hw : zWF s n nv no) (hu : u < nv) : zLd s n (nI u) 1 ≤ vd s u 0 ∧ zLd s n (nI u) 2 ≤ vd s u 1 := by
  have cω := h.2.2.1 u hu
  have eω := h.ldI hw hu
  rw [Int32.le_iff_toInt_le, Int32.le_iff_toInt_le, eω.1, eω.2]
  exact cω
theorem zX.load {s : Nat → Int32} {n nv no c u : Nat} (h : zX s n nv) (hw : zWF s n nv no) (hc : c < n) (hu : u < nv) (hcan : zCan s n c u) : zX (zLoads s c u) n nv := by
  have h4ω := hw.N.2.2.2.1
  have h16ω := hw.N.2.1
  have h60ω := hcan.1.1
  have hoω : ∀ iω, iω ≠ c → ∀ kω, kω < 12 → gd (zLoads s c u) iω kω = gd s iω kω := fun iω hiω kω hkω => (gd_pgn (by decide) hkω (Or.inl hiω)).trans (gd_pgn (by decide) hkω (Or.inl hiω))
  have hcxω : ∀ kω, gd (zLoads s c u) c kω = if kω = 7 then nI u else if kω = 6 then 1 else gd s c kω := fun kω => gd_zLoads
  have c1ω : gd (zLoads s c u) c 1 = gd s c 1 := hcxω 1
  have c2ω : gd (zLoads s c u) c 2 = gd s c 2 := hcxω 2
  have c6ω : gd (zLoads s c u) c 6 = 1 := hcxω 6
  have c7ω : gd (zLoads s c u) c 7 = nI u := hcxω 7
  have hvω : ∀ aω, aω < nv → ∀ kω, kω < 8 → vd (zLoads s c u) aω kω = vd s aω kω := fun aω haω kω hkω => (vd_pg (by omega) (by decide)).trans (vd_pg (by omega) (by decide))
  have hncω : ∀ xω, ¬ zInV s c xω := fun xω zω => by
    have h9ω := zω.2.1.1
    rw [h60ω] at h9ω
    exact absurd h9ω (by decide)
  have hinω : zInV (zLoads s c u) c (nI u) := ⟨by rw [c6ω]; decide, by rw [c6ω]; decide, c7ω⟩
  have eω := h.ldI hw hu
  have ccω := h.2.2.1 u hu
  have vω := hw.v u hu
  have a1ω := v200 vω.1
  have a2ω := v200 vω.2.1
  have k1ω := Int32.le_iff_toInt_le.mp hcan.2.1
  have k2ω := Int32.le_iff_toInt_le.mp hcan.2.2
  have bdω := (hw.bd hc (by rw [h60ω]; decide)).2.2
  have wmω := h.wmax hw hc (by rw [h60ω]; decide)
  have wpω := h.1 c hc
  have p1ω := (zSI_ge (s := s) (k := 1) (u := u) n (zX.szp hw)).1
  have p2ω := (zSI_ge (s := s) (k := 2) (u := u) n h.wtp).1
  rw [Int32.toInt_add, eω.1, Int.bmod_eq_of_le (by omega) (by omega)] at k1ω
  rw [Int32.toInt_add, eω.2, Int.bmod_eq_of_le (by omega) (by omega)] at k2ω
  refine ⟨fun iω hiω => ?_, ?_, fun aω haω => ?_, fun iω hiω z2ω aω haω z7ω => ?_⟩
  · by_cases hicω : iω = c
    · rw [hicω, c2ω]; exact wpω
    · rw [hoω iω hicω 2 (by decide)]; exact h.1 iω hiω
  · rw [zTot_cong (s := s) n (fun jω hjω => by
      by_cases hjc : jω = c
      · unfold zCt1
        rw [hjc, c6ω, c2ω, h60ω]
        rfl
      · exact zCt1_cong (hoω jω hjc 6 (by decide)) (hoω jω hjc 2 (by decide)))]
    exact h.2.1
  · rw [hvω aω haω 0 (by decide), hvω aω haω 1 (by decide)]
    by_cases hau : aω = u
    · rw [hau, zSI_add (s := s) n hc (fun iω hiω hicω => ⟨zInV_cong (hoω iω hicω 6 (by decide)) (hoω iω hicω 7 (by decide)), hoω iω hicω 1 (by decide)⟩) (hncω _) hinω c1ω, zSI_add (s := s) n hc (fun iω hiω hicω => ⟨zInV_cong (hoω iω hicω 6 (by decide)) (hoω iω hicω 7 (by decide)), hoω iω hicω 2 (by decide)⟩) (hncω _) hinω c2ω]
      exact ⟨k1ω, k2ω⟩
    · have hlω : ∀ iω, iω < n → zInV (zLoads s c u) iω (nI aω) → zInV s iω (nI aω) ∧ gd (zLoads s c u) iω 1 = gd s iω 1 ∧ gd (zLoads s c u) iω 2 = gd s iω 2 := fun iω hiω zω => by
        by_cases hicω : iω = c
        · rw [hicω] at zω
          have := (nI_eq (by omega) (by omega)).mp (c7ω.symm.trans zω.2.2)
          omega
        · exact ⟨(zInV_cong (hoω iω hicω 6 (by decide)) (hoω iω hicω 7 (by decide))).mp zω, hoω iω hicω 1 (by decide), hoω iω hicω 2 (by decide)⟩
      have caω := h.2.2.1 aω haω
      have m1ω := zSI_mono (s := s) (s' := zLoads s c u) (u := aω) (k := 1) n (fun iω hiω zω => ⟨(hlω iω hiω zω).1, (hlω iω hiω zω).2.1⟩) (zX.szp hw)
      have m2ω := zSI_mono (s := s) (s' := zLoads s c u) (u := aω) (k := 2) n (fun iω hiω zω => ⟨(hlω iω hiω zω).1, (hlω iω hiω zω).2.2⟩) h.wtp
      omega
  · by_cases hicω : iω = c
    · rw [hicω, c6ω] at z2ω; exact absurd z2ω (by decide)
    · rw [hoω iω hicω 6 (by decide)] at z2ω
      rw [hoω iω hicω 7 (by decide)] at z7ω
      rw [hvω aω haω 2 (by decide)]
      exact h.2.2.2 iω hiω z2ω aω haω z7ω
theorem zX.fill0 {n nv no v : Nat} {p r : Int32} (hv : v < nv) : ∀ (f : Nat) (s : Nat → Int32) (L t : Int32), zX s n nv → zWF s n nv no → zX (zFill n v p r f s L t).1 n nv
  | 0, s, L, t, hω, hwω => hω
  | f + 1, s, L, t, hω, hwω => by
    rw [zFill]
    cases hp : zPick s L p r n with
    | none => exact hω
    | some cω =>
      have gω := zPick_some hp
      simp only
      by_cases hca : zCan s n cω v
      · rw [if_pos hca]
        exact zX.fill0 hv f _ _ _ (hω.load hwω gω.1 hv hca) (hwω.load gω.1 hv hca)
      · rw [if_neg hca]
        exact zX.fill0 hv f _ _ _ hω hwω
theorem zX.fill {s : Nat → Int32} {n nv no v : Nat} {p r : Int32} (h : zX s n nv) (hw : zWF s n nv no) (hv : v < nv) : ∀ (f : Nat) (L t : Int32), zX (zFill n v p r f s L t).1 n nv := fun f L t => zX.fill0 hv f s L t h hw
theorem zX.one {s s' : Nat → Int32} {n nv no c : Nat} (h : zX s n nv) (hw : zWF s n nv no) (hc : c < n) (ho : ∀ i, i < n → i ≠ c → ∀ k, k < 12 → gd s' i k = gd s i k) (hv : ∀ u, u < nv → ∀ k, k < 3 → vd s' u k = vd s u k) (c2 : gd s' c 2 = gd s c 2) (c5 : ¬ gd s c 6 = 5) (c5' : ¬ gd s' c 6 = 5) (hn : ¬ (gd s' c 6 = 1 ∨ gd s' c 6 = 2)) : zX s' n nv := by
  refine h.gen hw (fun iω hiω => ?_) ?_ (fun uω huω => ⟨hv uω huω 0 (by decide), hv uω huω 1 (by decide)⟩) (fun iω hiω xω zω => ?_) (fun iω hiω z2ω uω huω z7ω => ?_)
  · by_cases hic : iω = c
    · rw [hic, c2]; exact h.1 c hc
    · rw [ho iω hiω hic 2 (by decide)]; exact h.1 iω hiω
  · rw [zTot_cong (s := s) n (fun jω hjω => by
      by_cases hjc : jω = c
      · unfold zCt1
        rw [hjc, c2, if_neg c5, if_neg c5']
      · exact zCt1_cong (ho jω hjω hjc 6 (by decide)) (ho jω hjω hjc 2 (by decide)))]
    exact h.2.1
  · by_cases hic : iω = c
    · rw [hic] at zω; exact absurd (zInV_12 zω) hn
    · exact ⟨(zInV_cong (ho iω hiω hic 6 (by decide)) (ho iω hiω hic 7 (by decide))).mp zω, ho iω hiω hic 1 (by decide), ho iω hiω hic 2 (by decide)⟩
  · by_cases hic : iω = c
    · rw [hic] at z2ω; exact absurd (Or.inr z2ω) hn
    · rw [ho iω hiω hic 6 (by decide)] at z2ω
      rw [ho iω hiω hic 7 (by decide)] at z7ω
      rw [hv uω huω 2 (by decide)]
      exact h.2.2.2 iω hiω z2ω uω huω z7ω
theorem zX.unload {s : Nat → Int32} {n nv no c : Nat} (h : zX s n nv) (hw : zWF s n nv no) (hc : c < n) (h1 : gd s c 6 = 1) : zX (pg s c 6 0) n nv := by
  have h16ω := hw.N.2.1
  have c6ω : gd (pg s c 6 0) c 6 = 0 := gd_pgs
  exact h.one hw hc (fun iω hiω hicω kω hkω => gd_pgn (by decide) hkω (Or.inl hicω)) (fun uω huω kω hkω => vd_pg (by omega) (by decide)) (gd_pgn (by decide) (by decide) (Or.inr (by decide))) (by rw [h1]; decide) (by rw [c6ω]; decide) (by rw [c6ω]; decide)
theorem zX.dep {s : Nat → Int32} {n nv no v : Nat} (h : zX s n nv) (hw : zWF s n nv no) (hv : v < nv) (h0 : vd s v 2 = 0) : zX (zDe s n v n) n nv := by
  have h16ω := hw.N.2.1
  have h4ω := hw.N.2.2.2.1
  have g6ω : ∀ iω, iω < n → gd (zDe s n v n) iω 6 = (if zInV s iω (nI v) then 2 else gd s iω 6) := fun iω hiω => by
    rw [(zDe_6 (s := s) (n := n) (v := v) (i := iω) (by omega) n h16ω).1]
    by_cases a : zInV s iω (nI v)
    · rw [if_pos ⟨hiω, a⟩, if_pos a]
    · rw [if_neg (fun zω => a zω.2), if_neg a]
  have gfω : ∀ iω, iω < n → ∀ fω, fω ≠ 6 → fω ≠ 11 → fω < 12 → gd (zDe s n v n) iω fω = gd s iω fω := fun iω hiω => (zDe_6 (s := s) (n := n) (v := v) (i := iω) (by omega) n h16ω).2
  have hvdω : ∀ uω jω, vd (zDe s n v n) uω jω = vd (zDe1 s n v) uω jω := fun uω jω => zDe_v h16ω
  have hvoω : ∀ uω, uω ≠ v → ∀ kω, kω < 8 → vd (zDe s n v n) uω kω = vd s uω kω := fun uω huω kω hkω => (hvdω uω kω).trans (zDe1_o (by omega))
  have hvvω : ∀ kω, vd (zDe s n v n) v kω = if kω = 4 then s 5 + zGoal s n v * s 0 else if kω = 5 then zGoal s n v * s 0 else if kω = 3 then zGoal s n v else if kω = 2 then 1 else vd s v kω := fun kω => (hvdω v kω).trans zDe1_v
  refine h.gen hw (fun iω hiω => ?_) ?_ (fun uω huω => ?_) (fun iω hiω xω zω => ?_) (fun iω hiω z2ω uω huω z7ω => ?_)
  · rw [gfω iω hiω 2 (by decide) (by decide) (by decide)]; exact h.1 iω hiω
  · rw [zTot_cong (s := s) n (fun jω hjω => by
      unfold zCt1
      rw [g6ω jω hjω, gfω jω hjω 2 (by decide) (by decide) (by decide)]
      by_cases a : zInV s jω (nI v)
      · rw [if_pos a, if_neg (by decide), if_neg a.1]
      · rw [if_neg a])]
    exact h.2.1
  · by_cases huv : uω = v
    · rw [huv]; exact ⟨hvvω 0, hvvω 1⟩
    · exact ⟨hvoω uω huv 0 (by decide), hvoω uω huv 1 (by decide)⟩
  · refine ⟨?_, gfω iω hiω 1 (by decide) (by decide) (by decide), gfω iω hiω 2 (by decide) (by decide) (by decide)⟩
    have z7ω : gd s iω 7 = xω := (gfω iω hiω 7 (by decide) (by decide) (by decide)).symm.trans zω.2.2
    by_cases a : zInV s iω (nI v)
    · rw [← z7ω]
      exact ⟨a.1, a.2.1, rfl⟩
    · have eω := g6ω iω hiω
      rw [if_neg a] at eω
      exact ⟨by rw [← eω]; exact zω.1, by rw [← eω]; exact zω.2.1, z7ω⟩
  · rw [gfω iω hiω 7 (by decide) (by decide) (by decide)] at z7ω
    by_cases huv : uω = v
    · rw [huv]; exact hvvω 2
    · rw [hvoω uω huv 2 (by decide)]
      have eω := g6ω iω hiω
      by_cases a : zInV s iω (nI v)
      · have := (nI_eq (by omega) (by omega)).mp (a.2.2.symm.trans z7ω)
        omega
      · rw [if_neg a] at eω
        exact h.2.2.2 iω hiω (eω.symm.trans z2ω) uω huω z7ω
theorem zX.off {s : Nat → Int32} {n nv no : Nat} {p b w pr x : Int32} (h : zX s n nv) (hw : zWF s n nv no) (ho : no < 10) : zX (zOf s no p b w pr x) n nv := by
  have h16ω := hw.N.2.1
  have h4ω := hw.N.2.2.2.1
  exact h.same (fun iω hiω kω hkω => zOf_o (q := 13 + 12 * iω + kω) (by omega) (by omega)) (fun uω huω kω hkω => zOf_o (q := 205 + 8 * uω + kω) (by omega) (by omega))
theorem zX.up1 {s : Nat → Int32} {n nv j : Nat} {x : Int32} (h : zX s n nv) (hj : j < 13) : zX (upd s j x) n nv := h.same (fun iω hiω kω hkω => gd_lo hj) (fun uω huω kω hkω => vd_lo hj)
theorem zX.set {s : Nat → Int32} {n nv no k : Nat} {x : Int32} (h : zX s n nv) (hw : zWF s n nv no) (hk : k < 3) : zX (upd s k x) n nv := h.up1 (by omega)
/-! one hour -/
theorem zX.del1 {s : Nat → Int32} {n nv no c : Nat} (h : zX s n nv) (hw : zWF s n nv no) (hc : c < n) (h2 : gd s c 6 = 2) : zX (zDel1 s c) n nv := by
  have h16ω := hw.N.2.1
  have h4ω := hw.N.2.2.2.1
  have c6ω : gd (zDel1 s c) c 6 = (if gd s c 4 < s 5 then 4 else 3) := zDel1_g
  have c2ω : gd (zDel1 s c) c 2 = gd s c 2 := zDel1_g
  refine h.one hw hc (fun iω hiω hicω kω hkω => zDel1_o (q := 13 + 12 * iω + kω) (by omega) (by omega)) (fun uω huω kω hkω => zDel1_o (q := 205 + 8 * uω + kω) (by omega) (by omega)) c2ω (by rw [h2]; decide) ?_ ?_
  · rw [c6ω]; split <;> decide
  · rw [c6ω]; split <;> decide
theorem zDel_X {s : Nat → Int32} {n nv no v : Nat} (hw : zWF s n nv no) (h : zX s n nv) (hv : v < nv) (h2 : ¬ vd s v 2 = 0) : ∀ k, k ≤ n → zX (zDel v s k).1 n nv ∧ ∀ i, i < k → ¬ zInV (zDel v s k).1 i (nI v)
  | 0, _ => ⟨h, fun iω hiω => absurd hiω (Nat.not_lt_zero _)⟩
  | cω + 1, hcω => by
    obtain ⟨ihω, ih2ω⟩ := zDel_X hw h hv h2 cω (by omega)
    have hwcω := zDel_WF hw (hw.in2 hv h2) cω (by omega)
    by_cases a : zInV (zDel v s cω).1 cω (nI v)
    · rw [zDel_t a]
      have hv2ω : ¬ vd (zDel v s cω).1 v 2 = 0 := by
        rw [show vd (zDel v s cω).1 v 2 = vd s v 2 from zDel_o (q := 205 + 8 * v + 2) cω (by have := hw.N.2.1; omega)]
        exact h2
      have stω := hwcω.in2 hv hv2ω cω (by omega) a
      refine ⟨ihω.del1 hwcω (by omega) stω, fun iω hiω => ?_⟩
      by_cases hic : iω = cω
      · rw [hic]
        intro zω
        have c6ω : gd (zDel1 (zDel v s cω).1 cω) cω 6 = (if gd (zDel v s cω).1 cω 4 < (zDel v s cω).1 5 then 4 else 3) := zDel1_g
        have h9ω := zInV_12 zω
        rw [c6ω] at h9ω
        revert h9ω
        split <;> decide
      · intro zω
        have e6ω : gd (zDel1 (zDel v s cω).1 cω) iω 6 = gd (zDel v s cω).1 iω 6 := zDel1_o (q := 13 + 12 * iω + 6) (by omega) (by omega)
        have e7ω : gd (zDel1 (zDel v s cω).1 cω) iω 7 = gd (zDel v s cω).1 iω 7 := zDel1_o (q := 13 + 12 * iω + 7) (by omega) (by omega)
        exact ih2ω iω (by omega) ((zInV_cong e6ω e7ω).mp zω)
    · rw [zDel_f a]
      refine ⟨ihω, fun iω hiω => ?_⟩
      by_cases hic : iω = cω
      · rw [hic]; exact a
      · exact ih2ω iω (by omega)
theorem zX.pv2 {s : Nat → Int32} {n nv u k : Nat} {x : Int32} (h : zX s n nv) (hn : n ≤ 16) (h3 : 3 ≤ k) (hk : k < 8) : zX (pv s u k x) n nv := h.same (fun iω hiω fω hfω => gd_pv (by omega) hfω) (fun aω haω fω hfω => vd_pvn hk (by omega) (Or.inr (by omega)))
theorem zX.st {s : Nat → Int32} {n nv v : Nat} {x : Int32} (h : zX s n nv) (hn : n ≤ 16) (hno : ∀ i, i < n → gd s i 6 = 2 → ¬ gd s i 7 = nI v) : zX (pv s v 2 x) n nv := by
  have hgω : ∀ iω, iω < n → ∀ kω, kω < 12 → gd (pv s v 2 x) iω kω = gd s iω kω := fun iω hiω kω hkω => gd_pv (by omega) hkω
  refine ⟨fun iω hiω => by rw [hgω iω hiω 2 (by decide)]; exact h.1 iω hiω, ?_, fun uω huω => ?_, fun iω hiω h2ω uω huω h7ω => ?_⟩
  · rw [zTot_cong n (fun cω hcω => zCt1_cong (hgω cω hcω 6 (by decide)) (hgω cω hcω 2 (by decide)))]
    exact h.2.1
  · have eω := fun (kω : Nat) (hkω : kω < 12) => zSI_cong (s := s) (s' := pv s v 2 x) (u := uω) (k := kω) n (fun iω hiω => ⟨zInV_cong (hgω iω hiω 6 (by decide)) (hgω iω hiω 7 (by decide)), hgω iω hiω kω hkω⟩)
    rw [eω 1 (by decide), eω 2 (by decide), vd_pvn (by decide) (by decide) (Or.inr (by decide)), vd_pvn (by decide) (by decide) (Or.inr (by decide))]
    exact h.2.2.1 uω huω
  · rw [hgω iω hiω 6 (by decide)] at h2ω
    rw [hgω iω hiω 7 (by decide)] at h7ω
    have huvω : uω ≠ v := fun zω => hno iω hiω h2ω (by rw [← zω]; exact h7ω)
    rw [vd_pvn (by decide) (by decide) (Or.inl huvω)]
    exact h.2.2.2 iω hiω h2ω uω huω h7ω
theorem zX.ret {s : Nat → Int32} {n nv v : Nat} (h : zX s n nv) (hn : n ≤ 16) (hv : v < nv) (h1 : ¬ vd s v 2 = 1) : zX (zRet s v) n nv := by
  unfold zRet
  refine zX.st (zX.pv2 (zX.pv2 (zX.up1 h (by decide)) hn (by decide) (by decide)) hn (by decide) (by decide)) hn (fun iω hiω h2ω h7ω => ?_)
  rw [gd_pv (by omega) (by decide), gd_pv (by omega) (by decide), gd_lo (by decide)] at h2ω h7ω
  exact h1 (h.2.2.2 iω hiω h2ω v hv h7ω)
theorem zX.arr1 {s : Nat → Int32} {n nv no v : Nat} (h : zX s n nv) (hw : zWF s n nv no) (hv : v < nv) (h1 : vd s v 2 = 1) : zX (zArr1 s n v).1 n nv := by
  have h16ω := hw.N.2.1
  have h4ω := hw.N.2.2.2.1
  obtain ⟨hdω, hnnω⟩ := zDel_X hw h hv (by rw [h1]; decide) n (Nat.le_refl n)
  have htω : zX (zTake (vd (zDel v s n).1 v 3) ((zDel v s n).1 5) (cO (zDel v s n).1) (zDel v s n).1 (vd (zDel v s n).1 v 0) (vd (zDel v s n).1 v 1) 0).1 n nv := hdω.same (fun iω hiω kω hkω => zTake_o (q := 13 + 12 * iω + kω) (by omega) (by omega) _ _ _ _ _) (fun uω huω kω hkω => zTake_o (q := 205 + 8 * uω + kω) (by omega) (by omega) _ _ _ _ _)
  unfold zArr1
  refine zX.pv2 (zX.st (zX.pv2 htω h16ω (by decide) (by decide)) h16ω (fun iω hiω h2ω h7ω => ?_)) h16ω (by decide) (by decide)
  rw [gd_pv (by omega) (by decide)] at h2ω h7ω
  have e6ω := zTake_o (place := vd (zDel v s n).1 v 3) (hour := (zDel v s n).1 5) (q := 13 + 12 * iω + 6) (by omega) (by omega) (cO (zDel v s n).1) (zDel v s n).1 (vd (zDel v s n).1 v 0) (vd (zDel v s n).1 v 1) 0
  have e7ω := zTake_o (place := vd (zDel v s n).1 v 3) (hour := (zDel v s n).1 5) (q := 13 + 12 * iω + 7) (by omega) (by omega) (cO (zDel v s n).1) (zDel v s n).1 (vd (zDel v s n).1 v 0) (vd (zDel v s n).1 v 1) 0
  have g6ω : gd (zDel v s n).1 iω 6 = 2 := e6ω.symm.trans h2ω
  have g7ω : gd (zDel v s n).1 iω 7 = nI v := e7ω.symm.trans h7ω
  exact hnnω iω hiω ⟨by rw [g6ω]; decide, by rw [g6ω]; decide, g7ω⟩
theorem zHv_X {s : Nat → Int32} {n nv no : Nat} (hw : zWF s n nv no) (h : zX s n nv) : ∀ v, v ≤ nv → zX (zHv n s v).1 n nv
  | 0, _ => h
  | vω + 1, hvω => by
    have ihω := zHv_X hw h vω (by omega)
    obtain ⟨no'ω, _, hw'ω⟩ := zHv_WF hw vω (by omega)
    by_cases a : 0 < vd (zHv n s vω).1 vω 2 ∧ vd (zHv n s vω).1 vω 4 = (zHv n s vω).1 5
    · by_cases b : vd (zHv n s vω).1 vω 2 = 1
      · rw [zHv_arr a b]
        exact ihω.arr1 hw'ω (by omega) b
      · rw [zHv_ret a b]
        exact ihω.ret hw.N.2.1 (by omega) b
    · rw [zHv_no a]
      exact ihω
theorem zX.drop {s : Nat → Int32} {n nv no k : Nat} (h : zX s n nv) (hn : n ≤ 16) (hnv : nv ≤ 4) : zX (zDrop s no k) n nv := h.same (fun iω hiω fω hfω => zDrop_lo (by omega) (by omega)) (fun uω huω fω hfω => zDrop_lo (by omega) (by omega))
theorem zOld_X {n nv : Nat} (hn : n ≤ 16) (hnv : nv ≤ 4) : ∀ (k : Nat) (s : Nat → Int32), zX s n nv → zX (zOld k s) n nv
  | 0, s, hω => hω
  | k + 1, s, hω => by
    rw [zOld]
    refine zOld_X hn hnv k _ ?_
    split
    · exact hω.drop hn hnv
    · exact hω
theorem zFee_X {s : Nat → Int32} {n nv : Nat} (h : zX s n nv) : ∀ k, zX (zFee s k) n nv
  | 0 => h
  | kω + 1 => (zFee_X h kω).up1 (by decide)
theorem zX.hour {s : Nat → Int32} {n nv no : Nat} (h : zX s n nv) (hw : zWF s n nv no) (ht : s 5 < 9000) : zX (zHour s n nv).1 n nv := by
  have hwtω := hw.tick ht
  have ht2ω : zX (zTick s) n nv := h.up1 (by decide)
  exact zFee_X (zOld_X hw.N.2.1 hw.N.2.2.2.1 _ _ (zHv_X hwtω ht2ω nv (Nat.le_refl nv))) n
