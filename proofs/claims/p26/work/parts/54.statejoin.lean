theorem i_div {x b y : Int32} (hx : 0 ≤ x.toInt ∧ x.toInt ≤ 15984) (hb : 0 ≤ b.toInt ∧ b.toInt ≤ y.toInt) (hy : 0 < y.toInt ∧ y.toInt ≤ 1584) : 0 ≤ (x * b / y).toInt ∧ (x * b / y).toInt ≤ x.toInt := by
  have h1ω : 0 ≤ x.toInt * b.toInt := Int.mul_nonneg hx.1 hb.1
  have h2ω : x.toInt * b.toInt ≤ 15984 * 1584 := Int.mul_le_mul hx.2 (by omega) hb.1 (by decide)
  have hmω : (x * b).toInt = x.toInt * b.toInt := by rw [Int32.toInt_mul, Int.bmod_eq_of_le (by omega) (by omega)]
  have h3ω : x.toInt * b.toInt ≤ x.toInt * y.toInt := Int.mul_le_mul_of_nonneg_left hb.2 hx.1
  have h4ω : 0 ≤ x.toInt * b.toInt / y.toInt := Int.ediv_nonneg h1ω (by omega)
  have h5ω : x.toInt * b.toInt / y.toInt ≤ x.toInt := by
    have h6ω := Int.ediv_le_ediv hy.1 h3ω
    rw [Int.mul_ediv_cancel _ (by omega)] at h6ω
    exact h6ω
  have eω : (x * b / y).toInt = x.toInt * b.toInt / y.toInt := by
    rw [Int32.toInt_div, hmω, Int.tdiv_eq_ediv_of_nonneg h1ω, Int.bmod_eq_of_le (by omega) (by omega)]
  rw [eω]
  exact ⟨h4ω, h5ω⟩
theorem i_subI {x y : Int32} (hx : 0 ≤ x.toInt ∧ x.toInt ≤ 1000000000) (hy : 0 ≤ y.toInt ∧ y.toInt ≤ 1000000000) : (x - y).toInt = x.toInt - y.toInt := by
  rw [Int32.toInt_sub, Int.bmod_eq_of_le (by omega) (by omega)]
theorem i_addI {x y : Int32} (hx : 0 ≤ x.toInt ∧ x.toInt ≤ 1000000000) (hy : 0 ≤ y.toInt ∧ y.toInt ≤ 1000000000) : (x + y).toInt = x.toInt + y.toInt := by
  rw [Int32.toInt_add, Int.bmod_eq_of_le (by omega) (by omega)]
theorem i_one {x : Int32} : 1 ≤ x ↔ 1 ≤ x.toInt := Int32.le_iff_toInt_le
/-- the consignment of which a part is split off, without the part -/
def zSr (s : Nat → Int32) (n c : Nat) (b w : Int32) : Nat → Int32 := fun q => if 13 + 12 * c ≤ q ∧ q < 13 + 12 * c + 12 then zSp s n c b w q else s q
theorem zSr_o {s : Nat → Int32} {n c q : Nat} {b w : Int32} (h : q < 13 + 12 * c ∨ 13 + 12 * c + 12 ≤ q) : zSr s n c b w q = s q := if_neg (by omega)
theorem zSr_c {s : Nat → Int32} {n c k : Nat} {b w : Int32} (hk : k < 12) : gd (zSr s n c b w) c k = gd (zSp s n c b w) c k := if_pos (by omega)
theorem zWF.split {s : Nat → Int32} {n nv no c : Nat} {b w : Int32} (h : zWF s n nv no) (hc : c < n) (hn : n < 16) (h0 : gd s c 6 = 0) (hb : zW 1 (gd s c 1 - 1) b) (hw : zW 1 (gd s c 2 - 1) w) : zWF (zSp s n c b w) (n + 1) nv no := by
  have hbdω := h.bd hc (by rw [h0]; decide)
  have hgω := h.g c hc
  have hg1ω := i_one.mp hgω.2.1
  have e1ω : (gd s c 1 - 1).toInt = (gd s c 1).toInt - 1 := i_subI ⟨hbdω.2.2.1, by have := hbdω.2.2.2; omega⟩ (by decide)
  have b1ω := i_one.mp hb.1
  have b2ω := Int32.le_iff_toInt_le.mp hb.2
  rw [e1ω] at b2ω
  have hdω := i_div hbdω.2.1 (b := b) (y := gd s c 1) ⟨by omega, by omega⟩ ⟨by omega, hbdω.2.2.2⟩
  have e2ω : (gd s c 1 - b).toInt = (gd s c 1).toInt - b.toInt := i_subI ⟨hbdω.2.2.1, by have := hbdω.2.2.2; omega⟩ ⟨by omega, by have := hbdω.2.2.2; omega⟩
  have e3ω : (gd s c 5 - gd s c 5 * b / gd s c 1).toInt = (gd s c 5).toInt - (gd s c 5 * b / gd s c 1).toInt := i_subI ⟨hbdω.2.1.1, by have := hbdω.2.1.2; omega⟩ ⟨hdω.1, by have := hbdω.2.1.2; omega⟩
  have hccω := fun (kzω : Nat) (hkzω : kzω < 12) => (zSr_c (s := s) (n := n) (c := c) (b := b) (w := w) hkzω).trans (zSp_c hc hkzω)
  have hnnω := fun (kzω : Nat) (hkzω : kzω < 12) => zSp_n (s := s) (n := n) (c := c) (b := b) (w := w) hc hkzω
  have hoω : ∀ jzω, jzω < n → jzω ≠ c → ∀ kzω, kzω < 12 → gd (zSr s n c b w) jzω kzω = gd s jzω kzω := fun jzω hjzω hjcω kzω hkzω => zSr_o (by omega)
  have t1ω : zTot (zSr s n c b w) 1 n = zTot s 1 n - b.toInt := by
    rw [zTot_upd n hc (fun jzω hjzω hjcω => zCt1_cong (hoω jzω hjzω hjcω 6 (by decide)) (hoω jzω hjzω hjcω 1 (by decide)))]
    unfold zCt1
    rw [hccω 6 (by decide), hccω 1 (by decide)]
    simp [h0, e2ω]
    omega
  have t5ω : zTot (zSr s n c b w) 5 n = zTot s 5 n - (gd s c 5 * b / gd s c 1).toInt := by
    rw [zTot_upd n hc (fun jzω hjzω hjcω => zCt1_cong (hoω jzω hjzω hjcω 6 (by decide)) (hoω jzω hjzω hjcω 5 (by decide)))]
    unfold zCt1
    rw [hccω 6 (by decide), hccω 5 (by decide)]
    simp [h0, e3ω]
    omega
  have s1ω := h.sz
  have s5ω := h.wo
  have h6rω : gd (zSr s n c b w) c 6 = 0 := by
    rw [hccω 6 (by decide)]
    simpa using h0
  have hk3ω : ∀ xω : Int32, zK3 (zSr s n c b w) xω n = zK3 s xω n := fun xω => zK3_cong n (fun jzω hjzω => by
    by_cases hjcω : jzω = c
    · rw [hjcω, h6rω, h0]
    · rw [hoω jzω hjzω hjcω 6 (by decide)])
  have hrω : zWF (zSr s n c b w) n nv no := by
    refine h.good hc (fun qω _ h9ω => zSr_o h9ω) ?_ (by omega) (by omega) (fun zω => by rw [h6rω] at zω; exact absurd zω (by decide)) (fun uω huω zω => by have z9ω := zInV_12 zω; rw [h6rω] at z9ω; exact absurd z9ω (by decide)) (by rw [hk3ω, zSr_o (by omega)]; exact h.c3) (by rw [hk3ω, zSr_o (by omega)]; exact h.c4)
    unfold zG at hgω ⊢
    rw [hccω 0 (by decide), hccω 1 (by decide), hccω 3 (by decide), hccω 4 (by decide), hccω 5 (by decide), hccω 6 (by decide), hccω 7 (by decide), hccω 8 (by decide)]
    simp
    exact ⟨hgω.1, i_one.mpr (by omega), hgω.2.2.1, i0_le.mpr (by omega), hgω.2.2.2.2⟩
  refine hrω.addG (s' := zSp s n c b w) hn ?_ (fun qω h3ω h9ω => ?_) ?_ ?_ ?_ (by rw [hnnω 6 (by decide)]; rfl)
  · rw [zSp_3, h.N.1, nI_1]
  · by_cases hq : 13 + 12 * c ≤ qω ∧ qω < 13 + 12 * c + 12
    · exact (if_pos hq).symm
    · rw [zSr_o (by omega)]
      exact zSp_o h3ω h9ω (by omega)
  · unfold zG at hgω ⊢
    rw [hnnω 0 (by decide), hnnω 1 (by decide), hnnω 3 (by decide), hnnω 4 (by decide), hnnω 5 (by decide), hnnω 6 (by decide), hnnω 7 (by decide), hnnω 8 (by decide)]
    simp
    exact ⟨hgω.1, i_one.mpr (by omega), hgω.2.2.1, i0_le.mpr (by omega)⟩
  · unfold zCt1
    rw [hnnω 6 (by decide), hnnω 1 (by decide), t1ω]
    simp
    omega
  · unfold zCt1
    rw [hnnω 6 (by decide), hnnω 5 (by decide), t5ω]
    simp
    omega
theorem ok_split {s : Nat → Int32} {n nv no : Nat} {c b w : Int32} (h : zWF s n nv no) : zOKr (spSplit s n c b w) := by
  unfold spSplit
  have hnω := h.N.2.1
  by_cases hc : zGoods s c ∧ zW 1 (gd s (tN c) 1 - 1) b ∧ zW 1 (gd s (tN c) 2 - 1) w
  · rw [if_pos hc]
    obtain ⟨jzω, hjzω, hczω, _⟩ := zGoods_in h.N hc.1
    have htω : tN c = jzω := by rw [hczω]; exact tN_nI (by omega)
    rw [htω] at hc ⊢
    by_cases h0 : gd s jzω 6 = 0
    · rw [if_pos h0]
      by_cases h16 : n = 16
      · rw [if_pos h16]
        show (-1000003 : Int32) < 0
        decide
      · rw [if_neg h16]
        exact ⟨nI_0le (by omega), n + 1, nv, no, h.split hjzω (by omega) h0 hc.2.1 hc.2.2⟩
    · rw [if_neg h0]
      show (-1000002 : Int32) < 0
      decide
  · rw [if_neg hc]
    show (-1000001 : Int32) < 0
    decide
theorem zWF.join {s : Nat → Int32} {n nv no l g : Nat} (h : zWF s n nv no) (hl : l < n) (hg : g < n) (hne : l ≠ g) (l0 : gd s l 6 = 0) (g0 : gd s g 6 = 0) : zWF (zJn s l g) n nv no := by
  have hnω := h.N.2.1
  have ne2ω : g ≠ l := Ne.symm hne
  have h6ω : gd (pg s g 6 5) g 6 = 5 := by rw [gd_pg, if_pos rfl]
  have hkω : ∀ kzω, kzω ≠ 6 → gd (pg s g 6 5) g kzω = gd s g kzω := fun kzω k6ω => by rw [gd_pg, if_neg k6ω]
  have hoω : ∀ jzω, jzω ≠ g → ∀ kzω, kzω < 12 → gd (pg s g 6 5) jzω kzω = gd s jzω kzω := fun jzω hjcω kzω hkzω => pg_o (by decide) (by omega)
  have hctω : ∀ kzω, kzω < 12 → zTot (pg s g 6 5) kzω n = zTot s kzω n - (gd s g kzω).toInt := fun kzω hkzω => by
    rw [zTot_upd n hg (fun jzω hjzω hjcω => zCt1_cong (hoω jzω hjcω 6 (by decide)) (hoω jzω hjcω kzω hkzω))]
    unfold zCt1
    rw [h6ω, if_pos rfl, g0, if_neg (by decide)]
    omega
  have g1ω := (h.bd hg (by rw [g0]; decide))
  have c1ω := h.sz
  have c5ω := h.wo
  have a1ω := hctω 1 (by decide)
  have a5ω := hctω 5 (by decide)
  have hk3ω : ∀ xω : Int32, ¬ xω = 0 → ¬ xω = 5 → zK3 (pg s g 6 5) xω n = zK3 s xω n := fun xω x0ω x5ω => zK3_cong n (fun jzω hjzω => by
    by_cases hjcω : jzω = g
    · rw [hjcω, h6ω, g0]
      exact ⟨fun zω => absurd zω.symm x5ω, fun zω => absurd zω.symm x0ω⟩
    · rw [hoω jzω hjcω 6 (by decide)])
  have hggω := h.g g hg
  have hHω : zWF (pg s g 6 5) n nv no := by
    refine h.good hg (fun qω _ h9ω => pg_o (by decide) h9ω) ?_ (by have := g1ω.2.2.1; omega) (by have := g1ω.2.1.1; omega) (fun zω => by rw [h6ω] at zω; exact absurd zω (by decide)) (fun uω huω zω => by have z9ω := zInV_12 zω; rw [h6ω] at z9ω; exact absurd z9ω (by decide)) (by rw [hk3ω 3 (by decide) (by decide), pg_lo (by decide)]; exact h.c3) (by rw [hk3ω 4 (by decide) (by decide), pg_lo (by decide)]; exact h.c4)
    unfold zG at hggω ⊢
    rw [hkω 0 (by decide), hkω 1 (by decide), hkω 3 (by decide), hkω 4 (by decide), hkω 5 (by decide), hkω 7 (by decide), hkω 8 (by decide), h6ω]
    exact ⟨hggω.1, hggω.2.1, hggω.2.2.1, hggω.2.2.2.1, by decide, hggω.2.2.2.2.2⟩
  have l6ω : gd (pg s g 6 5) l 6 = 0 := (hoω l hne 6 (by decide)).trans l0
  have lbω := hHω.bd hl (by rw [l6ω]; decide)
  have lt1ω := (zTot_ge n hHω.ct1).2 l hl
  have lt5ω := (zTot_ge n hHω.ct5).2 l hl
  unfold zCt1 at lt1ω lt5ω
  rw [l6ω, if_neg (by decide), hoω l hne 1 (by decide)] at lt1ω
  rw [l6ω, if_neg (by decide), hoω l hne 5 (by decide)] at lt5ω
  have lg1ω : (gd (pg s g 6 5) l 1) = gd s l 1 := hoω l hne 1 (by decide)
  have lg5ω : (gd (pg s g 6 5) l 5) = gd s l 5 := hoω l hne 5 (by decide)
  unfold zBd at lbω
  rw [lg1ω, lg5ω] at lbω
  have hllω := fun (kzω : Nat) (hkzω : kzω < 12) => zJn_l (s := s) hne hkzω
  have hhhω := fun (kzω : Nat) (hkzω : kzω < 12) => zJn_h (s := s) hne hkzω
  have e1ω : (gd s l 1 + gd s g 1).toInt = (gd s l 1).toInt + (gd s g 1).toInt := i_addI ⟨lbω.2.2.1, by have := lbω.2.2.2; omega⟩ ⟨g1ω.2.2.1, by have := g1ω.2.2.2; omega⟩
  have e5ω : (gd s l 5 + gd s g 5).toInt = (gd s l 5).toInt + (gd s g 5).toInt := i_addI ⟨lbω.2.1.1, by have := lbω.2.1.2; omega⟩ ⟨g1ω.2.1.1, by have := g1ω.2.1.2; omega⟩
  have hsω : ∀ qω, (qω < 13 + 12 * l ∨ 13 + 12 * l + 12 ≤ qω) → zJn s l g qω = pg s g 6 5 qω := fun qω h9ω => by
    simp only [zJn]
    by_cases hq : qω = 13 + 12 * g + 6
    · rw [hq]
      exact (upd_s _ _ _).trans (upd_s _ _ _).symm
    · have eLω : ∀ (fω : Nat → Int32) (xω : Int32), pg fω g 6 xω qω = fω qω := fun fω xω => upd_n _ _ hq
      rw [eLω, eLω, pg_o (by decide) h9ω, pg_o (by decide) h9ω, pg_o (by decide) h9ω, pg_o (by decide) h9ω]
  have l6'ω : gd (zJn s l g) l 6 = 0 := by
    rw [hllω 6 (by decide)]
    simpa using l0
  have hsameω : ∀ jzω, jzω < n → jzω ≠ l → ∀ kzω, kzω < 12 → gd (zJn s l g) jzω kzω = gd (pg s g 6 5) jzω kzω := fun jzω hjzω hjlω kzω hkzω => hsω _ (by omega)
  have T1ω : zTot (zJn s l g) 1 n = zTot s 1 n := by
    rw [zTot_upd n hl (fun jzω hjzω hjcω => zCt1_cong (hsameω jzω hjzω hjcω 6 (by decide)) (hsameω jzω hjzω hjcω 1 (by decide))), a1ω]
    unfold zCt1
    rw [l6ω, l6'ω, lg1ω, hllω 1 (by decide)]
    simp [e1ω]
    omega
  have T5ω : zTot (zJn s l g) 5 n = zTot s 5 n := by
    rw [zTot_upd n hl (fun jzω hjzω hjcω => zCt1_cong (hsameω jzω hjzω hjcω 6 (by decide)) (hsameω jzω hjzω hjcω 5 (by decide))), a5ω]
    unfold zCt1
    rw [l6ω, l6'ω, lg5ω, hllω 5 (by decide)]
    simp [e5ω]
    omega
  have hK : ∀ xω : Int32, zK3 (zJn s l g) xω n = zK3 (pg s g 6 5) xω n := fun xω => zK3_cong n (fun jzω hjzω => by
    by_cases hjcω : jzω = l
    · rw [hjcω, l6'ω, l6ω]
    · rw [hsameω jzω hjzω hjcω 6 (by decide)])
  have hglω := h.g l hl
  refine hHω.good hl (fun qω _ h9ω => hsω qω h9ω) ?_ (by omega) (by omega) (fun zω => by rw [l6'ω] at zω; exact absurd zω (by decide)) (fun uω huω zω => by have z9ω := zInV_12 zω; rw [l6'ω] at z9ω; exact absurd z9ω (by decide)) (by rw [hK, hsω 7 (by omega)]; exact hHω.c3) (by rw [hK, hsω 8 (by omega)]; exact hHω.c4)
  unfold zG at hglω ⊢
  rw [hllω 0 (by decide), hllω 1 (by decide), hllω 3 (by decide), hllω 4 (by decide), hllω 5 (by decide), hllω 6 (by decide), hllω 7 (by decide), hllω 8 (by decide)]
  simp
  have m1ω := i_one.mp hglω.2.1
  exact ⟨hglω.1, i_one.mpr (by have := g1ω.2.2.1; omega), hglω.2.2.1, i0_le.mpr (by have := g1ω.2.1.1; have := lbω.2.1.1; omega), hglω.2.2.2.2⟩
theorem ok_join {s : Nat → Int32} {n nv no : Nat} {a b : Int32} (h : zWF s n nv no) : zOKr (spJoin s a b) := by
  unfold spJoin
  have hnω := h.N.2.1
  by_cases hc : zGoods s a ∧ zGoods s b ∧ ¬ a = b
  · rw [if_pos hc]
    obtain ⟨jzω, hjzω, hczω, _⟩ := zGoods_in h.N hc.1
    obtain ⟨izω, hizω, hbzω, _⟩ := zGoods_in h.N hc.2.1
    have htω : tN a = jzω := by rw [hczω]; exact tN_nI (by omega)
    have huω : tN b = izω := by rw [hbzω]; exact tN_nI (by omega)
    have hneω : jzω ≠ izω := fun zω => hc.2.2 (by rw [hczω, hbzω, zω])
    rw [htω, huω]
    by_cases h0 : gd s jzω 9 = gd s izω 9 ∧ gd s jzω 6 = 0 ∧ gd s izω 6 = 0
    · rw [if_pos h0]
      by_cases hab : a < b
      · rw [if_pos hab]
        exact ⟨by rw [hczω]; exact nI_0le (by omega), n, nv, no, h.join hjzω hizω hneω h0.2.1 h0.2.2⟩
      · rw [if_neg hab]
        exact ⟨by rw [hbzω]; exact nI_0le (by omega), n, nv, no, h.join hizω hjzω (Ne.symm hneω) h0.2.2 h0.2.1⟩
    · rw [if_neg h0]
      show (-1000002 : Int32) < 0
      decide
  · rw [if_neg hc]
    show (-1000001 : Int32) < 0
    decide

