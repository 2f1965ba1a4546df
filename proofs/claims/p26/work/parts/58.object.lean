def zArc (M : mM) (a N : Nat) (g : Nat → Int32) : Prop := ∃ f : Nat → Int32, M a = some (.inl (2, N, .inl f)) ∧ ∀ j, j < N → f j = g j
theorem zArc.kept {M M' : mM} {a N : Nat} {g : Nat → Int32} (h : zArc M a N g) (hq : M' a = M a) : zArc M' a N g := by
  obtain ⟨fω, h1ω, h2ω⟩ := h
  exact ⟨fω, hq.trans h1ω, h2ω⟩
def cHall (M : mM) (b : Nat) (s : Nat → Int32) (n nv no : Nat) : Prop := ∃ κ π, hPicP M b κ π ∧ hRel κ s n nv no ∧ zWF s n nv no
def cRow (M : mM) (b : Nat) (s : Nat → Int32) : Prop := ∃ n nv no, cHall M b s n nv no
def cAny (M : mM) (b : Nat) : Prop := ∃ κ π, hPicP M b κ π
theorem cHall.any {M : mM} {b : Nat} {s : Nat → Int32} {n nv no : Nat} (h : cHall M b s n nv no) : cAny M b := by
  obtain ⟨κω, πω, h1ω, -, -⟩ := h
  exact ⟨κω, πω, h1ω⟩
theorem cRow.any {M : mM} {b : Nat} {s : Nat → Int32} (h : cRow M b s) : cAny M b := by
  obtain ⟨nω, nvω, noω, h1ω⟩ := h
  exact h1ω.any
theorem cHall.kept {M M' : mM} {b : Nat} {s : Nat → Int32} {n nv no : Nat} (h : cHall M b s n nv no) (hq : ∀ q, b ≤ q → q < b + 35 → M' q = M q) : cHall M' b s n nv no := by
  obtain ⟨κω, πω, h1ω, h2ω, h3ω⟩ := h
  exact ⟨κω, πω, h1ω.kept hq, h2ω, h3ω⟩
theorem cRow.kept {M M' : mM} {b : Nat} {s : Nat → Int32} (h : cRow M b s) (hq : ∀ q, b ≤ q → q < b + 35 → M' q = M q) : cRow M' b s := by
  obtain ⟨nω, nvω, noω, h1ω⟩ := h
  exact ⟨nω, nvω, noω, h1ω.kept hq⟩
theorem cAny.kept {M M' : mM} {b : Nat} (h : cAny M b) (hq : ∀ q, b ≤ q → q < b + 35 → M' q = M q) : cAny M' b := by
  obtain ⟨κω, πω, h1ω⟩ := h
  exact ⟨κω, πω, h1ω.kept hq⟩
theorem hRel.to {κ : hK} {s s' : Nat → Int32} {n nv no : Nat} (h : hRel κ s n nv no) (he : ∀ q, q < 287 → s' q = s q) : hRel κ s' n nv no := by
  obtain ⟨h1ω, h2ω, h3ω, h4ω, h5ω, h6ω⟩ := h
  have hnω := h1ω.2.1
  have hn4ω := h1ω.2.2.2.1
  have hn10ω := h1ω.2.2.2.2.2
  refine ⟨zN_cong h1ω (he _ (by omega)) (he _ (by omega)) (he _ (by omega)), ?_, fun jω hjω => ?_, fun jω hjω => ?_, fun jω hjω => ?_, fun jω hjω kω hkω => ?_⟩
  · rw [he 3 (by omega), he 4 (by omega), he 6 (by omega), he 5 (by omega), he 9 (by omega), he 10 (by omega), he 11 (by omega), he 12 (by omega)]
    exact h2ω
  · rw [he jω (by omega)]
    exact h3ω jω hjω
  · have hgω : ∀ kω, kω < 12 → gd s' jω kω = gd s jω kω := fun kω hkω => he _ (by omega)
    have h9ω := h4ω jω hjω
    unfold kC at h9ω ⊢
    rw [hgω 0 (by decide), hgω 1 (by decide), hgω 2 (by decide), hgω 3 (by decide), hgω 4 (by decide), hgω 5 (by decide), hgω 6 (by decide), hgω 7 (by decide), hgω 8 (by decide), hgω 9 (by decide), hgω 10 (by decide), hgω 11 (by decide)]
    exact h9ω
  · have hgω : ∀ kω, kω < 8 → vd s' jω kω = vd s jω kω := fun kω hkω => he _ (by omega)
    have h9ω := h5ω jω hjω
    unfold kV at h9ω ⊢
    rw [hgω 0 (by decide), hgω 1 (by decide), hgω 2 (by decide), hgω 3 (by decide), hgω 4 (by decide), hgω 5 (by decide), hgω 6 (by decide), hgω 7 (by decide)]
    exact h9ω
  · exact (h6ω jω hjω kω hkω).trans (he _ (by omega)).symm
theorem zWF.cg {s s' : Nat → Int32} {n nv no : Nat} (h : zWF s n nv no) (he : ∀ q, q < 287 → s' q = s q) : zWF s' n nv no := by
  have hnω := h.N.2.1
  have hn4ω := h.N.2.2.2.1
  have hn10ω := h.N.2.2.2.2.2
  exact h.scal (zN_cong h.N (he _ (by omega)) (he _ (by omega)) (he _ (by omega))) (by rw [he _ (by omega)]; exact h.s0) (by rw [he _ (by omega)]; exact h.s1) (by rw [he _ (by omega)]; exact h.s2) (by rw [he _ (by omega)]; exact h.tm) (he _ (by omega)) (he _ (by omega)) (fun iω hiω jω hjω => he _ (by omega)) (fun iω hiω jω hjω => he _ (by omega)) (fun qω hqω => by rw [show od s' qω 3 = od s qω 3 from he _ (by omega)]; exact h.of qω hqω)
theorem cHall.to {M : mM} {b : Nat} {s s' : Nat → Int32} {n nv no : Nat} (h : cHall M b s n nv no) (he : ∀ q, q < 287 → s' q = s q) : cHall M b s' n nv no := by
  obtain ⟨κω, πω, h1ω, h2ω, h3ω⟩ := h
  exact ⟨κω, πω, h1ω, h2ω.to he, h3ω.cg he⟩
theorem cRow.to {M : mM} {b : Nat} {s s' : Nat → Int32} (h : cRow M b s) (he : ∀ q, q < 287 → s' q = s q) : cRow M b s' := by
  obtain ⟨nω, nvω, noω, h1ω⟩ := h
  exact ⟨nω, nvω, noω, h1ω.to he⟩
theorem zFr.sub {M M' : mM} {a w c W : Nat} (h : zFr M M' a w) (h1 : c ≤ a) (h2 : a + w ≤ c + W) : zFr M M' c W := fun qω hqω => h qω (by omega)
/-- the object, with the states before, the text and the trial -/
def cR (M : mM) (c : Nat) (s : Nat → Int32) (n nv no : Nat) (rows : Nat → Nat → Int32) (kk p o : Nat) (fp fr : Int32) (ty : Nat) (tx : Nat → Int32) (vb nxz : Int32) (nums : Nat → Int32) : Prop := (M c = some (.inr (6, [.ref (c + 1), .ref (c + 36), .ref (c + 71), .ref (c + 248), .int fp, .int fr]))) ∧ (M (c + 71) = some (.inr (2, [.ref (c + 72), .int (nI o), .int (nI p)]))) ∧ (zRef M (c + 72) 6 5 (fun i => c + 73 + 35 * i)) ∧ (M (c + 248) = some (.inr (4, [.ref (c + 249), .ref (c + 250), .int (nI ty), .int vb, .int nxz]))) ∧ (zArc M (c + 249) 80 tx) ∧ (zArr M (c + 250) 5 nums) ∧ (p ≤ 4 ∧ p ≤ kk ∧ kk ≤ 5 ∧ o < 5 ∧ ty ≤ 80) ∧ (cHall M (c + 1) s n nv no) ∧ (cAny M (c + 36)) ∧ (∀ i, i < 5 → cAny M (c + 73 + 35 * i)) ∧ (∀ j, j < kk → cRow M (c + 73 + 35 * ((o + j) % 5)) (rows j))
theorem cR.F {M : mM} {c : Nat} {s : Nat → Int32} {n nv no : Nat} {rows : Nat → Nat → Int32} {kk p o : Nat} {fp fr : Int32} {ty : Nat} {tx : Nat → Int32} {vb nxz : Int32} {nums : Nat → Int32} (h : cR M c s n nv no rows kk p o fp fr ty tx vb nxz nums) : M c = some (.inr (6, [.ref (c + 1), .ref (c + 36), .ref (c + 71), .ref (c + 248), .int fp, .int fr])) := h.1
theorem cR.Y {M : mM} {c : Nat} {s : Nat → Int32} {n nv no : Nat} {rows : Nat → Nat → Int32} {kk p o : Nat} {fp fr : Int32} {ty : Nat} {tx : Nat → Int32} {vb nxz : Int32} {nums : Nat → Int32} (h : cR M c s n nv no rows kk p o fp fr ty tx vb nxz nums) : M (c + 71) = some (.inr (2, [.ref (c + 72), .int (nI o), .int (nI p)])) := h.2.1
theorem cR.A {M : mM} {c : Nat} {s : Nat → Int32} {n nv no : Nat} {rows : Nat → Nat → Int32} {kk p o : Nat} {fp fr : Int32} {ty : Nat} {tx : Nat → Int32} {vb nxz : Int32} {nums : Nat → Int32} (h : cR M c s n nv no rows kk p o fp fr ty tx vb nxz nums) : zRef M (c + 72) 6 5 (fun i => c + 73 + 35 * i) := h.2.2.1
theorem cR.S {M : mM} {c : Nat} {s : Nat → Int32} {n nv no : Nat} {rows : Nat → Nat → Int32} {kk p o : Nat} {fp fr : Int32} {ty : Nat} {tx : Nat → Int32} {vb nxz : Int32} {nums : Nat → Int32} (h : cR M c s n nv no rows kk p o fp fr ty tx vb nxz nums) : M (c + 248) = some (.inr (4, [.ref (c + 249), .ref (c + 250), .int (nI ty), .int vb, .int nxz])) := h.2.2.2.1
theorem cR.C {M : mM} {c : Nat} {s : Nat → Int32} {n nv no : Nat} {rows : Nat → Nat → Int32} {kk p o : Nat} {fp fr : Int32} {ty : Nat} {tx : Nat → Int32} {vb nxz : Int32} {nums : Nat → Int32} (h : cR M c s n nv no rows kk p o fp fr ty tx vb nxz nums) : zArc M (c + 249) 80 tx := h.2.2.2.2.1
theorem cR.U {M : mM} {c : Nat} {s : Nat → Int32} {n nv no : Nat} {rows : Nat → Nat → Int32} {kk p o : Nat} {fp fr : Int32} {ty : Nat} {tx : Nat → Int32} {vb nxz : Int32} {nums : Nat → Int32} (h : cR M c s n nv no rows kk p o fp fr ty tx vb nxz nums) : zArr M (c + 250) 5 nums := h.2.2.2.2.2.1
theorem cR.B {M : mM} {c : Nat} {s : Nat → Int32} {n nv no : Nat} {rows : Nat → Nat → Int32} {kk p o : Nat} {fp fr : Int32} {ty : Nat} {tx : Nat → Int32} {vb nxz : Int32} {nums : Nat → Int32} (h : cR M c s n nv no rows kk p o fp fr ty tx vb nxz nums) : p ≤ 4 ∧ p ≤ kk ∧ kk ≤ 5 ∧ o < 5 ∧ ty ≤ 80 := h.2.2.2.2.2.2.1
theorem cR.H {M : mM} {c : Nat} {s : Nat → Int32} {n nv no : Nat} {rows : Nat → Nat → Int32} {kk p o : Nat} {fp fr : Int32} {ty : Nat} {tx : Nat → Int32} {vb nxz : Int32} {nums : Nat → Int32} (h : cR M c s n nv no rows kk p o fp fr ty tx vb nxz nums) : cHall M (c + 1) s n nv no := h.2.2.2.2.2.2.2.1
theorem cR.T {M : mM} {c : Nat} {s : Nat → Int32} {n nv no : Nat} {rows : Nat → Nat → Int32} {kk p o : Nat} {fp fr : Int32} {ty : Nat} {tx : Nat → Int32} {vb nxz : Int32} {nums : Nat → Int32} (h : cR M c s n nv no rows kk p o fp fr ty tx vb nxz nums) : cAny M (c + 36) := h.2.2.2.2.2.2.2.2.1
theorem cR.R {M : mM} {c : Nat} {s : Nat → Int32} {n nv no : Nat} {rows : Nat → Nat → Int32} {kk p o : Nat} {fp fr : Int32} {ty : Nat} {tx : Nat → Int32} {vb nxz : Int32} {nums : Nat → Int32} (h : cR M c s n nv no rows kk p o fp fr ty tx vb nxz nums) : ∀ i, i < 5 → cAny M (c + 73 + 35 * i) := h.2.2.2.2.2.2.2.2.2.1
theorem cR.W {M : mM} {c : Nat} {s : Nat → Int32} {n nv no : Nat} {rows : Nat → Nat → Int32} {kk p o : Nat} {fp fr : Int32} {ty : Nat} {tx : Nat → Int32} {vb nxz : Int32} {nums : Nat → Int32} (h : cR M c s n nv no rows kk p o fp fr ty tx vb nxz nums) : ∀ j, j < kk → cRow M (c + 73 + 35 * ((o + j) % 5)) (rows j) := h.2.2.2.2.2.2.2.2.2.2
theorem cR.mk {M : mM} {c : Nat} {s : Nat → Int32} {n nv no : Nat} {rows : Nat → Nat → Int32} {kk p o : Nat} {fp fr : Int32} {ty : Nat} {tx : Nat → Int32} {vb nxz : Int32} {nums : Nat → Int32} (hF : M c = some (.inr (6, [.ref (c + 1), .ref (c + 36), .ref (c + 71), .ref (c + 248), .int fp, .int fr]))) (hY : M (c + 71) = some (.inr (2, [.ref (c + 72), .int (nI o), .int (nI p)]))) (hA : zRef M (c + 72) 6 5 (fun i => c + 73 + 35 * i)) (hS : M (c + 248) = some (.inr (4, [.ref (c + 249), .ref (c + 250), .int (nI ty), .int vb, .int nxz]))) (hC : zArc M (c + 249) 80 tx) (hU : zArr M (c + 250) 5 nums) (hB : p ≤ 4 ∧ p ≤ kk ∧ kk ≤ 5 ∧ o < 5 ∧ ty ≤ 80) (hH : cHall M (c + 1) s n nv no) (hT : cAny M (c + 36)) (hR : ∀ i, i < 5 → cAny M (c + 73 + 35 * i)) (hW : ∀ j, j < kk → cRow M (c + 73 + 35 * ((o + j) % 5)) (rows j)) : cR M c s n nv no rows kk p o fp fr ty tx vb nxz nums := ⟨hF, hY, hA, hS, hC, hU, hB, hH, hT, hR, hW⟩
theorem cR.hall {M M' : mM} {c : Nat} {s : Nat → Int32} {n nv no : Nat} {rows : Nat → Nat → Int32} {kk p o : Nat} {fp fr : Int32} {ty : Nat} {tx : Nat → Int32} {vb nxz : Int32} {nums : Nat → Int32} {s' : Nat → Int32} {n' nv' no' : Nat} (h : cR M c s n nv no rows kk p o fp fr ty tx vb nxz nums) (hf : zFr M M' (c + 1) 35) (hh : cHall M' (c + 1) s' n' nv' no') : cR M' c s' n' nv' no' rows kk p o fp fr ty tx vb nxz nums := cR.mk ((hf _ (by omega)).trans h.F) ((hf _ (by omega)).trans h.Y) (h.A.kept (hf _ (by omega))) ((hf _ (by omega)).trans h.S) (h.C.kept (hf _ (by omega))) (h.U.kept (hf _ (by omega))) h.B hh (h.T.kept (fun qω h1ω h2ω => hf _ (by omega))) (fun iω hiω => (h.R iω hiω).kept (fun qω h1ω h2ω => hf _ (by omega))) (fun jω hjω => (h.W jω hjω).kept (fun qω h1ω h2ω => hf _ (by have := Nat.mod_lt (o + jω) (show 5 > 0 by decide); omega)))
theorem cR.trial {M M' : mM} {c : Nat} {s : Nat → Int32} {n nv no : Nat} {rows : Nat → Nat → Int32} {kk p o : Nat} {fp fr : Int32} {ty : Nat} {tx : Nat → Int32} {vb nxz : Int32} {nums : Nat → Int32} (h : cR M c s n nv no rows kk p o fp fr ty tx vb nxz nums) (hf : zFr M M' (c + 36) 35) (hh : cAny M' (c + 36)) : cR M' c s n nv no rows kk p o fp fr ty tx vb nxz nums := cR.mk ((hf _ (by omega)).trans h.F) ((hf _ (by omega)).trans h.Y) (h.A.kept (hf _ (by omega))) ((hf _ (by omega)).trans h.S) (h.C.kept (hf _ (by omega))) (h.U.kept (hf _ (by omega))) h.B (h.H.kept (fun qω h1ω h2ω => hf _ (by omega))) hh (fun iω hiω => (h.R iω hiω).kept (fun qω h1ω h2ω => hf _ (by omega))) (fun jω hjω => (h.W jω hjω).kept (fun qω h1ω h2ω => hf _ (by have := Nat.mod_lt (o + jω) (show 5 > 0 by decide); omega)))
theorem m5 {a b : Nat} (ha : a < b) (hb : b ≤ a + 4) {o : Nat} : (o + a) % 5 ≠ (o + b) % 5 := by omega
theorem cR.row {M M' : mM} {c : Nat} {s : Nat → Int32} {n nv no : Nat} {rows : Nat → Nat → Int32} {p o : Nat} {fp fr : Int32} {ty : Nat} {tx : Nat → Int32} {vb nxz : Int32} {nums : Nat → Int32} {s2 : Nat → Int32} (h : cR M c s n nv no rows p p o fp fr ty tx vb nxz nums) (hf : zFr M M' (c + 73 + 35 * ((o + p) % 5)) 35) (hh : cRow M' (c + 73 + 35 * ((o + p) % 5)) s2) : cR M' c s n nv no (fun j => if j = p then s2 else rows j) (p + 1) p o fp fr ty tx vb nxz nums := by
  have hbω := h.B
  have hmω := Nat.mod_lt (o + p) (show 5 > 0 by decide)
  refine cR.mk ((hf _ (by omega)).trans h.F) ((hf _ (by omega)).trans h.Y) (h.A.kept (hf _ (by omega))) ((hf _ (by omega)).trans h.S) (h.C.kept (hf _ (by omega))) (h.U.kept (hf _ (by omega))) ⟨hbω.1, by omega, by omega, hbω.2.2.2⟩ (h.H.kept (fun qω h1ω h2ω => hf _ (by omega))) (h.T.kept (fun qω h1ω h2ω => hf _ (by omega))) (fun iω hiω => ?_) (fun jω hjω => ?_)
  · by_cases hi5 : iω = (o + p) % 5
    · rw [hi5]
      exact hh.any
    · exact (h.R iω hiω).kept (fun qω h1ω h2ω => hf _ (by omega))
  · by_cases hjp : jω = p
    · subst hjp
      simp only [if_pos]
      exact hh
    · rw [if_neg hjp]
      have h5ω := m5 (a := jω) (b := p) (o := o) (by omega) (by omega)
      have hm2ω := Nat.mod_lt (o + jω) (show 5 > 0 by decide)
      exact (h.W jω (by omega)).kept (fun qω h1ω h2ω => hf _ (by omega))
theorem i5 : ∀ a, a < 16 → nI a - nI a / 5 * 5 = nI (a % 5) := by decide +kernel
theorem kRow {κ : hK} {s : Nat → Int32} {n nv no : Nat} {M : mM} {b : Nat} {π : Nat → Nat} (h1 : hPicP M b κ π) (h2 : hRel κ s n nv no) (h3 : zWF s n nv no) : cHall M b s n nv no := ⟨κ, π, h1, h2, h3⟩
set_option maxRecDepth 20000 in
set_option maxHeartbeats 4000000 in
theorem ct_X2_prepare {K : zK} {M : mM} {nx : Nat} {c : Nat} {s : Nat → Int32} {n nv no : Nat} {rows : Nat → Nat → Int32} {p o : Nat} {fp fr : Int32} {ty : Nat} {tx : Nat → Int32} {vb nxz : Int32} {nums : Nat → Int32} (hm : cR M c s n nv no rows p p o fp fr ty tx vb nxz nums) : zCt K yX2_prepare cX2_prepare 2 zr_X2_prepare 3 [.ref (c + 71), .ref (c + 1)] M nx 0 0 (zU (fun M' => cR M' c s n nv no (fun j => if j = p then s else rows j) (p + 1) p o fp fr ty tx vb nxz nums ∧ zFr M M' c 251)) := by
  refine z_enter [some (.ref (c + 71)), some (.ref (c + 1))] (by decide +kernel) (Nat.le_of_ble_eq_true rfl) rfl (fun Bω okω hzω => ?_)
  obtain ⟨κHω, πHω, hmHω, hrHω, hwHω⟩ := hm.H
  have hb5ω := hm.B
  have hl5ω := Nat.mod_lt (o + p) (show 5 > 0 by decide)
  obtain ⟨κRω, πRω, hmRω⟩ := hm.R ((o + p) % 5) hl5ω
  refine z_aload_n okω dX2_prepare_0 rfl ?_
  refine z_getf okω dX2_prepare_1 zin_X2 rfl 0 (by decide) zw_242 hm.Y rfl ?_
  refine z_aload_n okω dX2_prepare_4 rfl ?_
  refine z_getf okω dX2_prepare_5 zin_X2 rfl 1 (by decide) zw_243 hm.Y rfl ?_
  refine z_aload_n okω dX2_prepare_8 rfl ?_
  refine z_getf okω dX2_prepare_9 zin_X2 rfl 2 (by decide) zw_244 hm.Y rfl ?_
  refine z_iadd okω dX2_prepare_12 ?_
  refine z_iconst (v := 5) okω dX2_prepare_13 (by decide) ?_
  refine z_irem okω dX2_prepare_14 (by decide) ?_
  refine h_ldR (j := ((o + p) % 5)) okω dX2_prepare_15 hm.A rfl (by rw [nI_add]; exact i5 (o + p) (by have := hm.B; omega)) (by omega) (by decide) ?_
  refine z_aload_n okω dX2_prepare_16 rfl ?_
  refine z_callVv okω dX2_prepare_17 zm_X1_copyFrom zw_343 zi_X1_copyFrom hmRω.1 rfl (ct_X1_copyFrom hmRω hmHω (by omega) hrHω) rfl rfl (by decide) (by decide) (by decide) (Nat.le_of_ble_eq_true rfl) (fun Mz2ω qz3ω => ?_)
  obtain ⟨κQω, hmQω, hrQω, hfQω⟩ := qz3ω
  exact z_vret okω dX2_prepare_20 rfl rfl (Nat.zero_le _) ⟨hm.row hfQω ⟨n, nv, no, kRow hmQω hrQω hwHω⟩, hfQω.sub (by omega) (by omega)⟩

set_option maxRecDepth 20000 in
set_option maxHeartbeats 4000000 in
theorem ct_X2_keep {K : zK} {M : mM} {nx : Nat} {a a2 p o : Nat} (hp5 : p ≤ 4) (ho5 : o < 5) (hp : M a = some (.inr (2, [.ref a2, .int (nI o), .int (nI p)]))) : zCt K yX2_keep cX2_keep 1 zr_X2_keep 0 [.ref a] M nx 0 0 (zU (fun M' => M' a = some (.inr (2, [.ref a2, .int (nI (if p < 4 then o else (o + 1) % 5)), .int (nI (if p < 4 then p + 1 else 4))])) ∧ ∀ q, q ≠ a → M' q = M q)) := by
  refine z_enter [some (.ref a)] (by decide +kernel) (Nat.le_of_ble_eq_true rfl) rfl (fun Bω okω hzω => ?_)
  refine z_aload_n okω dX2_keep_0 rfl ?_
  refine z_getf okω dX2_keep_1 zin_X2 rfl 2 (by decide) zw_244 hp rfl ?_
  refine z_iconst (v := 4) okω dX2_keep_4 (by decide) ?_
  refine z_icmp_ge (tgt := 21) okω dX2_keep_5 (by decide) (fun cz5ω => ?_) (fun cz5ω => ?_)
  · have h4ω : ¬ p < 4 := by have h9ω := (nI_leI (a := 4) (by omega) (by omega)).mp cz5ω; omega
    have hp4ω : p = 4 := by omega
    refine z_aload_n okω dX2_keep_21 rfl ?_
    refine z_aload_n okω dX2_keep_22 rfl ?_
    refine z_getf okω dX2_keep_23 zin_X2 rfl 1 (by decide) zw_243 hp rfl ?_
    refine z_iconst (v := 1) okω dX2_keep_26 (by decide) ?_
    refine z_iadd okω dX2_keep_27 ?_
    refine z_iconst (v := 5) okω dX2_keep_28 (by decide) ?_
    refine z_irem okω dX2_keep_29 (by decide) ?_
    refine z_putf (T := TX2) (N := 3) (ty := .int) okω dX2_keep_30 zin_X2 tyX2 tyX2_ok nmX2 rfl 1 (by decide) zw_243 rfl hp (by decide +kernel) rfl rfl (Nat.le_of_ble_eq_true rfl) ?_
    refine zV_up (fun _ hp1ω hu30ω => ?_)
    exact z_vret okω dX2_keep_33 rfl rfl (Nat.zero_le _) ⟨by rw [if_neg h4ω, if_neg h4ω, ← i5 (o + 1) (by omega), ← nI_1, ← hp4ω]; exact hp1ω, hu30ω⟩
  · have h4ω : p < 4 := by have h9ω := mt (nI_leI (a := 4) (b := p) (by omega) (by omega)).mpr cz5ω; omega
    refine z_aload_n okω dX2_keep_8 rfl ?_
    refine z_dup okω dX2_keep_9 rfl ?_
    refine z_getf okω dX2_keep_10 zin_X2 rfl 2 (by decide) zw_244 hp rfl ?_
    refine z_iconst (v := 1) okω dX2_keep_13 (by decide) ?_
    refine z_iadd okω dX2_keep_14 ?_
    refine z_putf (T := TX2) (N := 3) (ty := .int) okω dX2_keep_15 zin_X2 tyX2 tyX2_ok nmX2 rfl 2 (by decide) zw_244 rfl hp (by decide +kernel) rfl rfl (Nat.le_of_ble_eq_true rfl) ?_
    refine zV_up (fun _ hp4ω hu15ω => ?_)
    refine z_goto (tgt := 33) okω dX2_keep_18 (by decide) ?_
    exact z_vret okω dX2_keep_33 rfl rfl (Nat.zero_le _) ⟨by rw [if_pos h4ω, if_pos h4ω, ← nI_1]; exact hp4ω, hu15ω⟩

/-- a change counts: the state before it is kept -/
theorem cR.keep {M M' : mM} {c : Nat} {s : Nat → Int32} {n nv no : Nat} {rows : Nat → Nat → Int32} {p o : Nat} {fp fr : Int32} {ty : Nat} {tx : Nat → Int32} {vb nxz : Int32} {nums : Nat → Int32} (h : cR M c s n nv no rows (p + 1) p o fp fr ty tx vb nxz nums) (hY : M' (c + 71) = some (.inr (2, [.ref (c + 72), .int (nI (if p < 4 then o else (o + 1) % 5)), .int (nI (if p < 4 then p + 1 else 4))]))) (hf : ∀ q, q ≠ c + 71 → M' q = M q) : cR M' c s n nv no (fun j => if p < 4 then rows j else rows (j + 1)) (if p < 4 then p + 1 else 4) (if p < 4 then p + 1 else 4) (if p < 4 then o else (o + 1) % 5) fp fr ty tx vb nxz nums := by
  have hbω := h.B
  have hm1ω := Nat.mod_lt (o + 1) (show 5 > 0 by decide)
  refine cR.mk ((hf _ (by omega)).trans h.F) hY (h.A.kept (hf _ (by omega))) ((hf _ (by omega)).trans h.S) (h.C.kept (hf _ (by omega))) (h.U.kept (hf _ (by omega))) ⟨by split <;> omega, Nat.le_refl _, by split <;> omega, by split <;> omega, hbω.2.2.2.2⟩ (h.H.kept (fun qω h1ω h2ω => hf _ (by omega))) (h.T.kept (fun qω h1ω h2ω => hf _ (by omega))) (fun iω hiω => (h.R iω hiω).kept (fun qω h1ω h2ω => hf _ (by omega))) (fun jω hjω => ?_)
  by_cases hp : p < 4
  · rw [if_pos hp] at hjω
    simp only [if_pos hp]
    exact (h.W jω hjω).kept (fun qω h1ω h2ω => hf _ (by omega))
  · rw [if_neg hp] at hjω
    simp only [if_neg hp]
    rw [show ((o + 1) % 5 + jω) % 5 = (o + (jω + 1)) % 5 from by omega]
    exact (h.W (jω + 1) (by omega)).kept (fun qω h1ω h2ω => hf _ (by omega))
/-- as the reference has it: the states before, one behind another -/
def cPic (M : mM) (c : Nat) (s past : Nat → Int32) (p ty : Nat) (tx : Nat → Int32) : Prop := ∃ n nv no o fp fr vb nxz nums, cR M c s n nv no (fun j q => past (287 * j + q)) p p o fp fr ty tx vb nxz nums
theorem cR.rows {M : mM} {c : Nat} {s : Nat → Int32} {n nv no : Nat} {rows : Nat → Nat → Int32} {kk p o : Nat} {fp fr : Int32} {ty : Nat} {tx : Nat → Int32} {vb nxz : Int32} {nums : Nat → Int32} {rows' : Nat → Nat → Int32} (h : cR M c s n nv no rows kk p o fp fr ty tx vb nxz nums) (he : ∀ j, j < kk → ∀ q, q < 287 → rows' j q = rows j q) : cR M c s n nv no rows' kk p o fp fr ty tx vb nxz nums := cR.mk h.F h.Y h.A h.S h.C h.U h.B h.H h.T h.R (fun jω hjω => (h.W jω hjω).to (he jω hjω))

theorem cR.past {M : mM} {c : Nat} {s : Nat → Int32} {n nv no : Nat} {p o : Nat} {fp fr : Int32} {ty : Nat} {tx : Nat → Int32} {vb nxz : Int32} {nums : Nat → Int32} {s1 past : Nat → Int32} (h : cR M c s n nv no (fun j => if p < 4 then (fun j => if j = p then s1 else fun q => past (287 * j + q)) j else (fun j => if j = p then s1 else fun q => past (287 * j + q)) (j + 1)) (if p < 4 then p + 1 else 4) (if p < 4 then p + 1 else 4) o fp fr ty tx vb nxz nums) (hp : p ≤ 4) : cPic M c s (zPast s1 past p) (if p = 4 then 4 else p + 1) ty tx := by
  have eω : (if p = 4 then 4 else p + 1) = if p < 4 then p + 1 else 4 := by split <;> split <;> omega
  rw [eω]
  refine ⟨n, nv, no, o, fp, fr, vb, nxz, nums, h.rows (fun jω hjω qω hqω => ?_)⟩
  unfold zPast
  by_cases h4 : p < 4
  · rw [if_pos h4] at hjω ⊢
    dsimp only
    rw [if_neg (by omega)]
    unfold zPu
    by_cases hjp : jω = p
    · rw [hjp, if_pos (by omega), if_pos rfl]
      exact congrArg s1 (by omega)
    · rw [if_neg (by omega), if_neg hjp]
  · rw [if_neg h4] at hjω ⊢
    dsimp only
    rw [if_pos (by omega)]
    unfold zPu
    by_cases hj3 : jω = 3
    · rw [hj3, if_pos (by omega), if_pos (by omega)]
      exact congrArg s1 (by omega)
    · rw [if_neg (by omega), if_neg (by omega)]
      unfold zSh
      rw [if_pos (by omega)]
      exact congrArg past (by omega)

