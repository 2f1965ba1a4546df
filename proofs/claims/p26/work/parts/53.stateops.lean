def zOKr (r : zRes) : Prop := match r with
  | .inl e => e < 0
  | .inr q => 0 ≤ q.2 ∧ ∃ n nv no, zWF q.1 n nv no
theorem nI_0le {m : Nat} (h : m < 2 ^ 31) : 0 ≤ nI m := by
  rw [Int32.le_iff_toInt_le, nI_toInt h]
  show (0 : Int) ≤ _
  omega
theorem zWF.set {s : Nat → Int32} {n nv no k : Nat} {x : Int32} (h : zWF s n nv no) (hk : k < 3) (hx : zW (if k = 0 then 1 else 0) (if k = 0 then 24 else if k = 1 then 99 else 20) x) : zWF (upd s k x) n nv no := by
  have eω : ∀ qω, qω ≠ k → upd s k x qω = s qω := fun qω hqω => upd_n _ _ hqω
  have e0ω : upd s k x k = x := upd_s _ _ _
  refine h.scal (zN_upd h.N (by omega) (by omega) (by omega)) ?_ ?_ ?_ (by rw [eω 5 (by omega)]; exact h.tm) (eω 7 (by omega)) (eω 8 (by omega)) (fun iω hiω jω hjω => eω _ (by omega)) (fun iω hiω jω hjω => eω _ (by omega)) (fun oω hoω => by rw [show od (upd s k x) oω 3 = od s oω 3 from eω _ (by omega)]; exact h.of oω hoω)
  · by_cases h0 : k = 0
    · rw [h0] at hx ⊢
      rw [upd_s]
      exact hx
    · rw [eω 0 (by omega)]
      exact h.s0
  · by_cases h0 : k = 1
    · rw [h0] at hx ⊢
      rw [upd_s]
      exact hx
    · rw [eω 1 (by omega)]
      exact h.s1
  · by_cases h0 : k = 2
    · rw [h0] at hx ⊢
      rw [upd_s]
      exact hx
    · rw [eω 2 (by omega)]
      exact h.s2
theorem ok_set {s : Nat → Int32} {n nv no : Nat} {w x : Int32} (h : zWF s n nv no) : zOKr (spSet s w x) := by
  unfold spSet
  by_cases hc : zW 0 2 w ∧ zW (if w = 0 then 1 else 0) (if w = 0 then 24 else if w = 1 then 99 else 20) x
  · rw [if_pos hc]
    obtain ⟨kzω, _, hkzω, hwω⟩ := zW_nat (a := 0) (b := 2) (by decide) (by decide) hc.1
    have htω : tN w = kzω := by rw [hwω]; exact tN_nI (by omega)
    rw [htω]
    refine ⟨?_, n, nv, no, h.set (by omega) ?_⟩
    · show 0 ≤ s kzω
      rcases (by omega : kzω = 0 ∨ kzω = 1 ∨ kzω = 2) with h9ω | h9ω | h9ω <;> rw [h9ω]
      · exact Int32.le_trans (by decide) h.s0.1
      · exact h.s1.1
      · exact h.s2.1
    · have hxω := hc.2
      rw [hwω] at hxω
      rcases (by omega : kzω = 0 ∨ kzω = 1 ∨ kzω = 2) with h9ω | h9ω | h9ω <;> subst h9ω <;> exact hxω
  · rw [if_neg hc]
    show (-1000001 : Int32) < 0
    decide
theorem ok_pass {s : Nat → Int32} {n nv no : Nat} {x : Int32} (h : zWF s n nv no) : zOKr (spPass s n nv x) := by
  unfold spPass
  split
  · next hcω =>
    split
    · show (-1000003 : Int32) < 0
      decide
    · next hlω =>
      obtain ⟨kzω, _, hkzω, hwω⟩ := zW_nat (a := 1) (b := 99) (by decide) (by decide) hcω
      have htω : tN x = kzω := by rw [hwω]; exact tN_nI (by omega)
      rw [htω]
      obtain ⟨mω, hmω, heω⟩ := zPass_2 (s := s) h.N.2.1 h.N.2.2.2.1 kzω
      obtain ⟨o1ω, _, h1ω⟩ := zPass_WF h (m := kzω) (by omega) (by rw [← hwω]; exact Int32.not_lt.mp hlω) kzω (Nat.le_refl _)
      exact ⟨by rw [heω]; exact nI_0le (by omega), n, nv, o1ω, h1ω⟩
  · show (-1000001 : Int32) < 0
    decide
theorem zOf_o {s : Nat → Int32} {no q : Nat} {p b w pr x : Int32} (h6 : q ≠ 6) (h : q < 237 + 5 * no ∨ 237 + 5 * no + 5 ≤ q) : zOf s no p b w pr x q = s q := by
  simp only [zOf]
  rw [upd_n _ _ h6, upd_n _ _ (by omega), upd_n _ _ (by omega), upd_n _ _ (by omega), upd_n _ _ (by omega), upd_n _ _ (by omega)]
theorem zOf_6 {s : Nat → Int32} {no : Nat} {p b w pr x : Int32} : zOf s no p b w pr x 6 = s 6 + 1 := by
  simp only [zOf]
  rw [upd_s]
  iterate 5 rw [upd_n _ _ (by omega)]
theorem zOf_3 {s : Nat → Int32} {no : Nat} {p b w pr x : Int32} : od (zOf s no p b w pr x) no 3 = pr := by
  unfold od
  simp only [zOf]
  rw [upd_n _ _ (by omega), upd_n _ _ (by omega), upd_s]
theorem ok_offer {s : Nat → Int32} {n nv no : Nat} {p b w pr x : Int32} (h : zWF s n nv no) : zOKr (spOffer s no p b w pr x) := by
  unfold spOffer
  have hnω := h.N.2.1
  have hnvω := h.N.2.2.2.1
  have hnoω := h.N.2.2.2.2.2
  split
  · next hcω =>
    split
    · show (-1000003 : Int32) < 0
      decide
    · next hlω =>
      have h6ω : zOf s no p b w pr x 6 = nI (no + 1) := by rw [zOf_6, h.N.2.2.2.2.1, nI_1]
      have eω : ∀ qω, qω ≠ 6 → qω < 237 → zOf s no p b w pr x qω = s qω := fun qω h6ω hqω => zOf_o h6ω (by omega)
      refine ⟨?_, n, nv, no + 1, h.scal (s' := zOf s no p b w pr x) ⟨(eω _ (by decide) (by decide)).trans h.N.1, hnω, (eω _ (by decide) (by decide)).trans h.N.2.2.1, hnvω, h6ω, by omega⟩ (by rw [eω _ (by decide) (by decide)]; exact h.s0) (by rw [eω _ (by decide) (by decide)]; exact h.s1) (by rw [eω _ (by decide) (by decide)]; exact h.s2) (by rw [eω _ (by decide) (by decide)]; exact h.tm) (eω _ (by decide) (by decide)) (eω _ (by decide) (by decide)) (fun iω hiω jω hjω => eω _ (by omega) (by omega)) (fun iω hiω jω hjω => eω _ (by omega) (by omega)) (fun oω hoω => ?_)⟩
      · show 0 ≤ zOf s no p b w pr x 6
        rw [h6ω]
        exact nI_0le (by omega)
      · by_cases hon : oω = no
        · rw [hon, zOf_3]
          exact hcω.2.2.2.1.1
        · rw [show od (zOf s no p b w pr x) oω 3 = od s oω 3 from zOf_o (by omega) (by omega)]
          exact h.of oω (by omega)
  · show (-1000001 : Int32) < 0
    decide
theorem zVe_o {s : Nat → Int32} {nv q : Nat} {r b : Int32} (h4 : q ≠ 4) (h : q < 205 + 8 * nv ∨ 205 + 8 * nv + 8 ≤ q) : zVe s nv r b q = s q := by
  simp only [zVe]
  rw [upd_n _ _ h4, pv_o (by decide) h, pv_o (by decide) h, zV0_o h 8 (by decide)]
theorem zVe_4 {s : Nat → Int32} {nv : Nat} {r b : Int32} : zVe s nv r b 4 = s 4 + 1 := by
  simp only [zVe]
  rw [upd_s, pv_lo (by decide), pv_lo (by decide), zV0_o (by omega) 8 (by decide)]
theorem zVe_v {s : Nat → Int32} {nv k : Nat} {r b : Int32} (hk : k < 8) : vd (zVe s nv r b) nv k = if k = 1 then b else if k = 0 then r else 0 := by
  simp only [zVe, vd_lo (show 4 < 13 by decide), vd_pv, zV0_v 8 hk]
theorem ok_vehicle {s : Nat → Int32} {n nv no : Nat} {r b : Int32} (h : zWF s n nv no) : zOKr (spVehicle s nv r b) := by
  unfold spVehicle
  have hnvω := h.N.2.2.2.1
  split
  · next hcω =>
    split
    · show (-1000003 : Int32) < 0
      decide
    · next hlω =>
      refine ⟨nI_0le (by omega), n, nv + 1, no, h.addV (s' := zVe s nv r b) (by omega) (by rw [zVe_4, h.N.2.2.1, nI_1]) (fun qω h4ω h9ω => zVe_o h4ω h9ω) ?_ (by rw [zVe_v (by decide), if_neg (by decide), if_neg (by decide)])⟩
      unfold zVv
      rw [zVe_v (by decide), zVe_v (by decide), zVe_v (by decide), zVe_v (by decide), zVe_v (by decide)]
      simp
      exact ⟨hcω.1, hcω.2⟩
  · show (-1000001 : Int32) < 0
    decide
/-- a consignment's state alone changes, not to or from 3, 4 or 5 -/
theorem zWF.unload {s : Nat → Int32} {n nv no c : Nat} (h : zWF s n nv no) (hc : c < n) (h1 : gd s c 6 = 1) : zWF (pg s c 6 0) n nv no := by
  have hnω := h.N.2.1
  have h6'ω : gd (pg s c 6 0) c 6 = 0 := by rw [gd_pg, if_pos rfl]
  have hkω : ∀ kzω, kzω ≠ 6 → gd (pg s c 6 0) c kzω = gd s c kzω := fun kzω k6ω => by rw [gd_pg, if_neg k6ω]
  have hoω : ∀ jzω, jzω < n → jzω ≠ c → ∀ kzω, kzω < 12 → gd (pg s c 6 0) jzω kzω = gd s jzω kzω := fun jzω hjzω hjcω kzω hkzω => pg_o (by decide) (by omega)
  have hctω : ∀ kzω, kzω ≠ 6 → kzω < 12 → ∀ jzω, jzω < n → zCt1 (pg s c 6 0) kzω jzω = zCt1 s kzω jzω := fun kzω k6ω k12ω jzω hjzω => by
    by_cases hjcω : jzω = c
    · rw [hjcω]
      unfold zCt1
      rw [h6'ω, hkω kzω k6ω, h1, if_neg (by decide), if_neg (by decide)]
    · exact zCt1_cong (hoω jzω hjzω hjcω 6 (by decide)) (hoω jzω hjzω hjcω kzω k12ω)
  have hc3ω : ∀ xω : Int32, ¬ xω = 0 → ¬ xω = 1 → zK3 (pg s c 6 0) xω n = zK3 s xω n := fun xω x0ω x1ω => zK3_cong n (fun jzω hjzω => by
    by_cases hjcω : jzω = c
    · rw [hjcω, h6'ω, h1]
      exact ⟨fun zω => absurd zω.symm x0ω, fun zω => absurd zω.symm x1ω⟩
    · rw [hoω jzω hjzω hjcω 6 (by decide)])
  refine h.good hc (fun qω _ h9ω => pg_o (by decide) h9ω) ?_ (by rw [zTot_cong n (hctω 1 (by decide) (by decide))]; exact h.sz) (by rw [zTot_cong n (hctω 5 (by decide) (by decide))]; exact h.wo) (fun zω => by rw [h6'ω] at zω; exact absurd zω (by decide)) (fun wω hwω zω => by have z9ω := zInV_12 zω; rw [h6'ω] at z9ω; exact absurd z9ω (by decide)) (by rw [hc3ω 3 (by decide) (by decide), pg_lo (by decide)]; exact h.c3) (by rw [hc3ω 4 (by decide) (by decide), pg_lo (by decide)]; exact h.c4)
  have hgω := h.g c hc
  unfold zG at hgω ⊢
  rw [hkω 0 (by decide), hkω 1 (by decide), hkω 3 (by decide), hkω 4 (by decide), hkω 5 (by decide), hkω 7 (by decide), hkω 8 (by decide), h6'ω]
  exact ⟨hgω.1, hgω.2.1, hgω.2.2.1, hgω.2.2.2.1, by decide, hgω.2.2.2.2.2⟩
theorem ok_unload {s : Nat → Int32} {n nv no : Nat} {c : Int32} (h : zWF s n nv no) : zOKr (spUnload s c) := by
  unfold spUnload
  have hnvω := h.N.2.2.2.1
  split
  · next hgω =>
    obtain ⟨jzω, hjzω, hczω, _⟩ := zGoods_in h.N hgω
    have htω : tN c = jzω := by rw [hczω]; exact tN_nI (by have := h.N.2.1; omega)
    rw [htω]
    split
    · next h1ω =>
      obtain ⟨uω, huω, h7ω, _⟩ := h.ld jzω hjzω (Or.inl h1ω)
      refine ⟨?_, n, nv, no, h.unload hjzω h1ω⟩
      show 0 ≤ gd (pg s jzω 6 0) jzω 7
      rw [gd_pg, if_neg (by decide), h7ω]
      exact nI_0le (by omega)
    · show (-1000002 : Int32) < 0
      decide
  · show (-1000001 : Int32) < 0
    decide
theorem i_le {x : Int32} {a : Nat} (ha : a < 2 ^ 31) : x ≤ nI a ↔ x.toInt ≤ a := by
  rw [Int32.le_iff_toInt_le, nI_toInt ha]
theorem i_ge {x : Int32} {a : Nat} (ha : a < 2 ^ 31) : nI a ≤ x ↔ (a : Int) ≤ x.toInt := by
  rw [Int32.le_iff_toInt_le, nI_toInt ha]
theorem zWF.make {s : Nat → Int32} {n nv no : Nat} {p b w f t wo : Int32} (h : zWF s n nv no) (hn : n < 16) (hc : zW 1 4 p ∧ zW 1 99 b ∧ zW 1 99 w ∧ zW 0 9999 f ∧ zW f 9999 t ∧ zW 0 999 wo) : zWF (zMk s n p b w f t wo) (n + 1) nv no := by
  have hb1ω := (i_ge (a := 1) (by decide)).mp hc.2.1.1
  have hb9ω := (i_le (a := 99) (by decide)).mp hc.2.1.2
  have hw9ω := (i_le (a := 999) (by decide)).mp hc.2.2.2.2.2.2
  have h1ω := h.sz
  have h5ω := h.wo
  refine h.addG hn (by rw [zMk_3, h.N.1, nI_1]) (fun qω h3ω h9ω => zMk_o h3ω h9ω) ?_ ?_ ?_ (by rw [zMk_g]; rfl)
  · unfold zG
    simp only [zMk_g]
    simp
    exact ⟨hc.1, hc.2.1.1, ⟨hc.2.2.2.1.1, hc.2.2.2.2.1.1, hc.2.2.2.2.1.2⟩, hc.2.2.2.2.2.1⟩
  · unfold zCt1
    rw [zMk_g, zMk_g]
    simp
    omega
  · unfold zCt1
    rw [zMk_g, zMk_g]
    simp
    omega
theorem ok_consign {s : Nat → Int32} {n nv no : Nat} {p b w f t wo : Int32} (h : zWF s n nv no) : zOKr (spConsign s n p b w f t wo) := by
  unfold spConsign
  have hnω := h.N.2.1
  split
  · next hcω =>
    split
    · show (-1000003 : Int32) < 0
      decide
    · next hlω => exact ⟨nI_0le (by omega), n + 1, nv, no, h.make (by omega) hcω⟩
  · show (-1000001 : Int32) < 0
    decide

