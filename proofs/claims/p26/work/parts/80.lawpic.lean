/-! the law's own hall: six arrays at m .. m+5 (numbers, goods, dates, days, vehicles, offers); what a row s says lies in them by the image lA; only what is live is said -/
def zAL (M : mM) (a N L : Nat) (g : Nat → Int32) : Prop := ∃ f : Nat → Int32, M a = some (.inl (0, N, .inl f)) ∧ ∀ j, j < L → f j = g j
theorem zAL.kept {M M' : mM} {a N L : Nat} {g : Nat → Int32} (h : zAL M a N L g) (hq : M' a = M a) : zAL M' a N L g := by
  obtain ⟨fω, h1ω, h2ω⟩ := h
  exact ⟨fω, hq.trans h1ω, h2ω⟩
theorem zAL.cong {M : mM} {a N L : Nat} {g g' : Nat → Int32} (h : zAL M a N L g) (hg : ∀ j, j < L → g j = g' j) : zAL M a N L g' := by
  obtain ⟨fω, h1ω, h2ω⟩ := h
  exact ⟨fω, h1ω, fun jω hjω => (h2ω jω hjω).trans (hg jω hjω)⟩
theorem zAL.arr {M : mM} {a N L : Nat} {g : Nat → Int32} (h : zAL M a N L g) : ∃ f : Nat → Int32, zArr M a N f ∧ ∀ j, j < L → f j = g j := by
  obtain ⟨fω, h1ω, h2ω⟩ := h
  exact ⟨fω, ⟨fω, h1ω, fun _ _ => rfl⟩, h2ω⟩
theorem zAL.of {M : mM} {a N L : Nat} {f g : Nat → Int32} (h : zArr M a N f) (hL : L ≤ N) (hg : ∀ j, j < L → f j = g j) : zAL M a N L g := by
  obtain ⟨f'ω, h1ω, h2ω⟩ := h
  exact ⟨f'ω, h1ω, fun jω hjω => (h2ω jω (by omega)).trans (hg jω hjω)⟩
def lA1 (s : Nat → Int32) (j : Nat) : Int32 := if j % 4 = 0 then gd s (j / 4) 0 else if j % 4 = 1 then gd s (j / 4) 1 else if j % 4 = 2 then gd s (j / 4) 2 else gd s (j / 4) 5
theorem lA1_m0 {s : Nat → Int32} {j : Nat} (h : j % 4 = 0) : lA1 s j = gd s (j / 4) 0 := by
  unfold lA1
  rw [if_pos h]
theorem lA1_m1 {s : Nat → Int32} {j : Nat} (h : j % 4 = 1) : lA1 s j = gd s (j / 4) 1 := by
  unfold lA1
  rw [if_neg (by omega), if_pos h]
theorem lA1_m2 {s : Nat → Int32} {j : Nat} (h : j % 4 = 2) : lA1 s j = gd s (j / 4) 2 := by
  unfold lA1
  rw [if_neg (by omega), if_neg (by omega), if_pos h]
theorem lA1_m3 {s : Nat → Int32} {j : Nat} (h : j % 4 = 3) : lA1 s j = gd s (j / 4) 5 := by
  unfold lA1
  rw [if_neg (by omega), if_neg (by omega), if_neg (by omega)]
theorem lA1_cg {s s' : Nat → Int32} {j : Nat} (h0 : gd s (j / 4) 0 = gd s' (j / 4) 0) (h1 : gd s (j / 4) 1 = gd s' (j / 4) 1) (h2 : gd s (j / 4) 2 = gd s' (j / 4) 2) (h3 : gd s (j / 4) 5 = gd s' (j / 4) 5) : lA1 s j = lA1 s' j := by
  unfold lA1
  rw [h0, h1, h2, h3]
def lA2 (s : Nat → Int32) (j : Nat) : Int32 := if j % 4 = 0 then gd s (j / 4) 3 else if j % 4 = 1 then gd s (j / 4) 4 else if j % 4 = 2 then gd s (j / 4) 6 else zEn (gd s (j / 4) 7)
theorem lA2_m0 {s : Nat → Int32} {j : Nat} (h : j % 4 = 0) : lA2 s j = gd s (j / 4) 3 := by
  unfold lA2
  rw [if_pos h]
theorem lA2_m1 {s : Nat → Int32} {j : Nat} (h : j % 4 = 1) : lA2 s j = gd s (j / 4) 4 := by
  unfold lA2
  rw [if_neg (by omega), if_pos h]
theorem lA2_m2 {s : Nat → Int32} {j : Nat} (h : j % 4 = 2) : lA2 s j = gd s (j / 4) 6 := by
  unfold lA2
  rw [if_neg (by omega), if_neg (by omega), if_pos h]
theorem lA2_m3 {s : Nat → Int32} {j : Nat} (h : j % 4 = 3) : lA2 s j = zEn (gd s (j / 4) 7) := by
  unfold lA2
  rw [if_neg (by omega), if_neg (by omega), if_neg (by omega)]
theorem lA2_cg {s s' : Nat → Int32} {j : Nat} (h0 : gd s (j / 4) 3 = gd s' (j / 4) 3) (h1 : gd s (j / 4) 4 = gd s' (j / 4) 4) (h2 : gd s (j / 4) 6 = gd s' (j / 4) 6) (h3 : gd s (j / 4) 7 = gd s' (j / 4) 7) : lA2 s j = lA2 s' j := by
  unfold lA2
  rw [h0, h1, h2, h3]
def lA3 (s : Nat → Int32) (j : Nat) : Int32 := if j % 4 = 0 then zEn (gd s (j / 4) 8) else if j % 4 = 1 then gd s (j / 4) 9 else if j % 4 = 2 then gd s (j / 4) 10 else gd s (j / 4) 11
theorem lA3_m0 {s : Nat → Int32} {j : Nat} (h : j % 4 = 0) : lA3 s j = zEn (gd s (j / 4) 8) := by
  unfold lA3
  rw [if_pos h]
theorem lA3_m1 {s : Nat → Int32} {j : Nat} (h : j % 4 = 1) : lA3 s j = gd s (j / 4) 9 := by
  unfold lA3
  rw [if_neg (by omega), if_pos h]
theorem lA3_m2 {s : Nat → Int32} {j : Nat} (h : j % 4 = 2) : lA3 s j = gd s (j / 4) 10 := by
  unfold lA3
  rw [if_neg (by omega), if_neg (by omega), if_pos h]
theorem lA3_m3 {s : Nat → Int32} {j : Nat} (h : j % 4 = 3) : lA3 s j = gd s (j / 4) 11 := by
  unfold lA3
  rw [if_neg (by omega), if_neg (by omega), if_neg (by omega)]
theorem lA3_cg {s s' : Nat → Int32} {j : Nat} (h0 : gd s (j / 4) 8 = gd s' (j / 4) 8) (h1 : gd s (j / 4) 9 = gd s' (j / 4) 9) (h2 : gd s (j / 4) 10 = gd s' (j / 4) 10) (h3 : gd s (j / 4) 11 = gd s' (j / 4) 11) : lA3 s j = lA3 s' j := by
  unfold lA3
  rw [h0, h1, h2, h3]
def lA4 (s : Nat → Int32) (j : Nat) : Int32 := s (205 + j)
def lA5 (s : Nat → Int32) (j : Nat) : Int32 := s (237 + j)
def lP (M : mM) (m : Nat) (s : Nat → Int32) (n nv no : Nat) : Prop := zAL M m 13 13 s ∧ zAL M (m + 1) 64 (4 * n) (lA1 s) ∧ zAL M (m + 2) 64 (4 * n) (lA2 s) ∧ zAL M (m + 3) 64 (4 * n) (lA3 s) ∧ zAL M (m + 4) 32 (8 * nv) (lA4 s) ∧ zAL M (m + 5) 50 (5 * no) (lA5 s) ∧ n ≤ 16 ∧ nv ≤ 4 ∧ no ≤ 10
theorem lP.kept {M M' : mM} {m : Nat} {s : Nat → Int32} {n nv no : Nat} (h : lP M m s n nv no) (hq : ∀ q, m ≤ q → q < m + 6 → M' q = M q) : lP M' m s n nv no := by
  obtain ⟨h0ω, h1ω, h2ω, h3ω, h4ω, h5ω, h6ω⟩ := h
  exact ⟨h0ω.kept (hq _ (by omega) (by omega)), h1ω.kept (hq _ (by omega) (by omega)), h2ω.kept (hq _ (by omega) (by omega)), h3ω.kept (hq _ (by omega) (by omega)), h4ω.kept (hq _ (by omega) (by omega)), h5ω.kept (hq _ (by omega) (by omega)), h6ω⟩
/-- what is live is the same -/
theorem lP.cong {M : mM} {m : Nat} {s s' : Nat → Int32} {n nv no : Nat} (h : lP M m s n nv no) (h0 : ∀ j, j < 13 → s j = s' j) (hg : ∀ i, i < n → ∀ k, k < 12 → gd s i k = gd s' i k) (hv : ∀ u, u < nv → ∀ k, k < 8 → vd s u k = vd s' u k) (ho : ∀ o, o < no → ∀ k, k < 5 → od s o k = od s' o k) : lP M m s' n nv no := by
  obtain ⟨a0ω, a1ω, a2ω, a3ω, a4ω, a5ω, a6ω⟩ := h
  refine ⟨a0ω.cong h0, a1ω.cong (fun jω hjω => ?_), a2ω.cong (fun jω hjω => ?_), a3ω.cong (fun jω hjω => ?_), a4ω.cong (fun jω hjω => ?_), a5ω.cong (fun jω hjω => ?_), a6ω⟩
  · exact lA1_cg (hg _ (by omega) _ (by omega)) (hg _ (by omega) _ (by omega)) (hg _ (by omega) _ (by omega)) (hg _ (by omega) _ (by omega))
  · exact lA2_cg (hg _ (by omega) _ (by omega)) (hg _ (by omega) _ (by omega)) (hg _ (by omega) _ (by omega)) (hg _ (by omega) _ (by omega))
  · exact lA3_cg (hg _ (by omega) _ (by omega)) (hg _ (by omega) _ (by omega)) (hg _ (by omega) _ (by omega)) (hg _ (by omega) _ (by omega))
  · have h9ω := hv (jω / 8) (by omega) (jω % 8) (by omega)
    unfold vd at h9ω
    show s (205 + jω) = s' (205 + jω)
    rwa [show 205 + 8 * (jω / 8) + jω % 8 = 205 + jω from by omega] at h9ω
  · have h9ω := ho (jω / 5) (by omega) (jω % 5) (by omega)
    unfold od at h9ω
    show s (237 + jω) = s' (237 + jω)
    rwa [show 237 + 5 * (jω / 5) + jω % 5 = 237 + jω from by omega] at h9ω
theorem gd_pgn {s : Nat → Int32} {c i k k' : Nat} {x : Int32} (hk : k < 12) (hk' : k' < 12) (h : i ≠ c ∨ k' ≠ k) : gd (pg s c k x) i k' = gd s i k' := by
  unfold gd pg upd
  exact if_neg (by omega)
theorem gd_pgs {s : Nat → Int32} {c k : Nat} {x : Int32} : gd (pg s c k x) c k = x := if_pos rfl
theorem vd_pg {s : Nat → Int32} {c u k k' : Nat} {x : Int32} (hc : c < 16) (hk : k < 12) : vd (pg s c k x) u k' = vd s u k' := by
  unfold vd pg upd
  exact if_neg (by omega)
theorem od_pg {s : Nat → Int32} {c u k k' : Nat} {x : Int32} (hc : c < 16) (hk : k < 12) : od (pg s c k x) u k' = od s u k' := by
  unfold od pg upd
  exact if_neg (by omega)
theorem gd_pv {s : Nat → Int32} {c u k k' : Nat} {x : Int32} (hc : c < 16) (hk : k' < 12) : gd (pv s u k x) c k' = gd s c k' := by
  unfold gd pv upd
  exact if_neg (by omega)
theorem od_pvn {s : Nat → Int32} {v k o f : Nat} {x : Int32} (hv : v < 4) (hk : k < 8) : od (pv s v k x) o f = od s o f := by
  unfold od pv upd
  exact if_neg (by omega)
theorem vd_pvn {s : Nat → Int32} {c u k k' : Nat} {x : Int32} (hk : k < 8) (hk' : k' < 8) (h : u ≠ c ∨ k' ≠ k) : vd (pv s c k x) u k' = vd s u k' := by
  unfold vd pv upd
  exact if_neg (by omega)
theorem od_lo {s : Nat → Int32} {o j k : Nat} {x : Int32} (h : j < 13) : od (upd s j x) o k = od s o k := by
  unfold od upd
  exact if_neg (by omega)
theorem zEn_v2 {v : Nat} (hv : v < 4) : zEn (nI v) = nI v := zEn_v hv rfl

theorem lA_0 (s : Nat → Int32) (c : Nat) : lA1 s (4 * c + 0) = gd s c 0 := by
  rw [lA1_m0 (by omega), show (4 * c + 0) / 4 = c from by omega]
theorem lA_1 (s : Nat → Int32) (c : Nat) : lA1 s (4 * c + 1) = gd s c 1 := by
  rw [lA1_m1 (by omega), show (4 * c + 1) / 4 = c from by omega]
theorem lA_2 (s : Nat → Int32) (c : Nat) : lA1 s (4 * c + 2) = gd s c 2 := by
  rw [lA1_m2 (by omega), show (4 * c + 2) / 4 = c from by omega]
theorem lA_5 (s : Nat → Int32) (c : Nat) : lA1 s (4 * c + 3) = gd s c 5 := by
  rw [lA1_m3 (by omega), show (4 * c + 3) / 4 = c from by omega]
theorem lA_3 (s : Nat → Int32) (c : Nat) : lA2 s (4 * c + 0) = gd s c 3 := by
  rw [lA2_m0 (by omega), show (4 * c + 0) / 4 = c from by omega]
theorem lA_4 (s : Nat → Int32) (c : Nat) : lA2 s (4 * c + 1) = gd s c 4 := by
  rw [lA2_m1 (by omega), show (4 * c + 1) / 4 = c from by omega]
theorem lA_6 (s : Nat → Int32) (c : Nat) : lA2 s (4 * c + 2) = gd s c 6 := by
  rw [lA2_m2 (by omega), show (4 * c + 2) / 4 = c from by omega]
theorem lA_7 (s : Nat → Int32) (c : Nat) : lA2 s (4 * c + 3) = zEn (gd s c 7) := by
  rw [lA2_m3 (by omega), show (4 * c + 3) / 4 = c from by omega]
theorem lA_8 (s : Nat → Int32) (c : Nat) : lA3 s (4 * c + 0) = zEn (gd s c 8) := by
  rw [lA3_m0 (by omega), show (4 * c + 0) / 4 = c from by omega]
theorem lA_9 (s : Nat → Int32) (c : Nat) : lA3 s (4 * c + 1) = gd s c 9 := by
  rw [lA3_m1 (by omega), show (4 * c + 1) / 4 = c from by omega]
theorem lA_10 (s : Nat → Int32) (c : Nat) : lA3 s (4 * c + 2) = gd s c 10 := by
  rw [lA3_m2 (by omega), show (4 * c + 2) / 4 = c from by omega]
theorem lA_11 (s : Nat → Int32) (c : Nat) : lA3 s (4 * c + 3) = gd s c 11 := by
  rw [lA3_m3 (by omega), show (4 * c + 3) / 4 = c from by omega]
theorem lP.set0 {M M' : mM} {m : Nat} {s : Nat → Int32} {n nv no c : Nat} {x : Int32} (h : lP M m s n nv no) (hc : c < n) (hs : ∀ f : Nat → Int32, zArr M (m + 1) 64 f → zArr M' (m + 1) 64 (upd f (4 * c + 0) x)) (hq : ∀ q, q ≠ m + 1 → M' q = M q) : lP M' m (pg s c 0 x) n nv no := by
  obtain ⟨a0ω, a1ω, a2ω, a3ω, a4ω, a5ω, a6ω⟩ := h
  have hn16ω := a6ω.1
  have hbω : zAL M' (m + 1) 64 (4 * n) (lA1 (pg s c 0 x)) := by
    obtain ⟨fω, b1ω, b2ω⟩ := a1ω.arr
    refine zAL.of (hs fω b1ω) (by omega) (fun jω hjω => ?_)
    unfold upd
    by_cases e : jω = 4 * c + 0
    · rw [if_pos e, e, lA_0, gd_pgs]
    · rw [if_neg e, b2ω jω hjω]
      by_cases hjc : jω / 4 = c
      · rcases (by omega : jω % 4 = 0 ∨ jω % 4 = 1 ∨ jω % 4 = 2 ∨ jω % 4 = 3) with e4ω | e4ω | e4ω | e4ω
        · exact absurd (show jω = 4 * c + 0 from by omega) e
        · rw [lA1_m1 e4ω, lA1_m1 e4ω, gd_pgn (by decide) (by decide) (Or.inr (by decide))]
        · rw [lA1_m2 e4ω, lA1_m2 e4ω, gd_pgn (by decide) (by decide) (Or.inr (by decide))]
        · rw [lA1_m3 e4ω, lA1_m3 e4ω, gd_pgn (by decide) (by decide) (Or.inr (by decide))]
      · have hzω : ∀ k'ω, k'ω < 12 → gd s (jω / 4) k'ω = gd (pg s c 0 x) (jω / 4) k'ω := fun k'ω hk'ω => (gd_pgn (by decide) hk'ω (Or.inl hjc)).symm
        exact lA1_cg (hzω _ (by decide)) (hzω _ (by decide)) (hzω _ (by decide)) (hzω _ (by decide))
  exact ⟨(a0ω.kept (hq _ (by omega))).cong (fun jω hjω => (pg_lo hjω).symm), hbω, ((a2ω.kept (hq _ (by omega))).cong (fun jω hjω => lA2_cg (gd_pgn (by decide) (by decide) (Or.inr (by decide))).symm (gd_pgn (by decide) (by decide) (Or.inr (by decide))).symm (gd_pgn (by decide) (by decide) (Or.inr (by decide))).symm (gd_pgn (by decide) (by decide) (Or.inr (by decide))).symm)), ((a3ω.kept (hq _ (by omega))).cong (fun jω hjω => lA3_cg (gd_pgn (by decide) (by decide) (Or.inr (by decide))).symm (gd_pgn (by decide) (by decide) (Or.inr (by decide))).symm (gd_pgn (by decide) (by decide) (Or.inr (by decide))).symm (gd_pgn (by decide) (by decide) (Or.inr (by decide))).symm)), (a4ω.kept (hq _ (by omega))).cong (fun jω hjω => (pg_o (s := s) (c := c) (k := 0) (q := 205 + jω) (x := x) (by decide) (Or.inr (by omega))).symm), (a5ω.kept (hq _ (by omega))).cong (fun jω hjω => (pg_o (s := s) (c := c) (k := 0) (q := 237 + jω) (x := x) (by decide) (Or.inr (by omega))).symm), a6ω⟩
theorem lP.set1 {M M' : mM} {m : Nat} {s : Nat → Int32} {n nv no c : Nat} {x : Int32} (h : lP M m s n nv no) (hc : c < n) (hs : ∀ f : Nat → Int32, zArr M (m + 1) 64 f → zArr M' (m + 1) 64 (upd f (4 * c + 1) x)) (hq : ∀ q, q ≠ m + 1 → M' q = M q) : lP M' m (pg s c 1 x) n nv no := by
  obtain ⟨a0ω, a1ω, a2ω, a3ω, a4ω, a5ω, a6ω⟩ := h
  have hn16ω := a6ω.1
  have hbω : zAL M' (m + 1) 64 (4 * n) (lA1 (pg s c 1 x)) := by
    obtain ⟨fω, b1ω, b2ω⟩ := a1ω.arr
    refine zAL.of (hs fω b1ω) (by omega) (fun jω hjω => ?_)
    unfold upd
    by_cases e : jω = 4 * c + 1
    · rw [if_pos e, e, lA_1, gd_pgs]
    · rw [if_neg e, b2ω jω hjω]
      by_cases hjc : jω / 4 = c
      · rcases (by omega : jω % 4 = 0 ∨ jω % 4 = 1 ∨ jω % 4 = 2 ∨ jω % 4 = 3) with e4ω | e4ω | e4ω | e4ω
        · rw [lA1_m0 e4ω, lA1_m0 e4ω, gd_pgn (by decide) (by decide) (Or.inr (by decide))]
        · exact absurd (show jω = 4 * c + 1 from by omega) e
        · rw [lA1_m2 e4ω, lA1_m2 e4ω, gd_pgn (by decide) (by decide) (Or.inr (by decide))]
        · rw [lA1_m3 e4ω, lA1_m3 e4ω, gd_pgn (by decide) (by decide) (Or.inr (by decide))]
      · have hzω : ∀ k'ω, k'ω < 12 → gd s (jω / 4) k'ω = gd (pg s c 1 x) (jω / 4) k'ω := fun k'ω hk'ω => (gd_pgn (by decide) hk'ω (Or.inl hjc)).symm
        exact lA1_cg (hzω _ (by decide)) (hzω _ (by decide)) (hzω _ (by decide)) (hzω _ (by decide))
  exact ⟨(a0ω.kept (hq _ (by omega))).cong (fun jω hjω => (pg_lo hjω).symm), hbω, ((a2ω.kept (hq _ (by omega))).cong (fun jω hjω => lA2_cg (gd_pgn (by decide) (by decide) (Or.inr (by decide))).symm (gd_pgn (by decide) (by decide) (Or.inr (by decide))).symm (gd_pgn (by decide) (by decide) (Or.inr (by decide))).symm (gd_pgn (by decide) (by decide) (Or.inr (by decide))).symm)), ((a3ω.kept (hq _ (by omega))).cong (fun jω hjω => lA3_cg (gd_pgn (by decide) (by decide) (Or.inr (by decide))).symm (gd_pgn (by decide) (by decide) (Or.inr (by decide))).symm (gd_pgn (by decide) (by decide) (Or.inr (by decide))).symm (gd_pgn (by decide) (by decide) (Or.inr (by decide))).symm)), (a4ω.kept (hq _ (by omega))).cong (fun jω hjω => (pg_o (s := s) (c := c) (k := 1) (q := 205 + jω) (x := x) (by decide) (Or.inr (by omega))).symm), (a5ω.kept (hq _ (by omega))).cong (fun jω hjω => (pg_o (s := s) (c := c) (k := 1) (q := 237 + jω) (x := x) (by decide) (Or.inr (by omega))).symm), a6ω⟩
theorem lP.set2 {M M' : mM} {m : Nat} {s : Nat → Int32} {n nv no c : Nat} {x : Int32} (h : lP M m s n nv no) (hc : c < n) (hs : ∀ f : Nat → Int32, zArr M (m + 1) 64 f → zArr M' (m + 1) 64 (upd f (4 * c + 2) x)) (hq : ∀ q, q ≠ m + 1 → M' q = M q) : lP M' m (pg s c 2 x) n nv no := by
  obtain ⟨a0ω, a1ω, a2ω, a3ω, a4ω, a5ω, a6ω⟩ := h
  have hn16ω := a6ω.1
  have hbω : zAL M' (m + 1) 64 (4 * n) (lA1 (pg s c 2 x)) := by
    obtain ⟨fω, b1ω, b2ω⟩ := a1ω.arr
    refine zAL.of (hs fω b1ω) (by omega) (fun jω hjω => ?_)
    unfold upd
    by_cases e : jω = 4 * c + 2
    · rw [if_pos e, e, lA_2, gd_pgs]
    · rw [if_neg e, b2ω jω hjω]
      by_cases hjc : jω / 4 = c
      · rcases (by omega : jω % 4 = 0 ∨ jω % 4 = 1 ∨ jω % 4 = 2 ∨ jω % 4 = 3) with e4ω | e4ω | e4ω | e4ω
        · rw [lA1_m0 e4ω, lA1_m0 e4ω, gd_pgn (by decide) (by decide) (Or.inr (by decide))]
        · rw [lA1_m1 e4ω, lA1_m1 e4ω, gd_pgn (by decide) (by decide) (Or.inr (by decide))]
        · exact absurd (show jω = 4 * c + 2 from by omega) e
        · rw [lA1_m3 e4ω, lA1_m3 e4ω, gd_pgn (by decide) (by decide) (Or.inr (by decide))]
      · have hzω : ∀ k'ω, k'ω < 12 → gd s (jω / 4) k'ω = gd (pg s c 2 x) (jω / 4) k'ω := fun k'ω hk'ω => (gd_pgn (by decide) hk'ω (Or.inl hjc)).symm
        exact lA1_cg (hzω _ (by decide)) (hzω _ (by decide)) (hzω _ (by decide)) (hzω _ (by decide))
  exact ⟨(a0ω.kept (hq _ (by omega))).cong (fun jω hjω => (pg_lo hjω).symm), hbω, ((a2ω.kept (hq _ (by omega))).cong (fun jω hjω => lA2_cg (gd_pgn (by decide) (by decide) (Or.inr (by decide))).symm (gd_pgn (by decide) (by decide) (Or.inr (by decide))).symm (gd_pgn (by decide) (by decide) (Or.inr (by decide))).symm (gd_pgn (by decide) (by decide) (Or.inr (by decide))).symm)), ((a3ω.kept (hq _ (by omega))).cong (fun jω hjω => lA3_cg (gd_pgn (by decide) (by decide) (Or.inr (by decide))).symm (gd_pgn (by decide) (by decide) (Or.inr (by decide))).symm (gd_pgn (by decide) (by decide) (Or.inr (by decide))).symm (gd_pgn (by decide) (by decide) (Or.inr (by decide))).symm)), (a4ω.kept (hq _ (by omega))).cong (fun jω hjω => (pg_o (s := s) (c := c) (k := 2) (q := 205 + jω) (x := x) (by decide) (Or.inr (by omega))).symm), (a5ω.kept (hq _ (by omega))).cong (fun jω hjω => (pg_o (s := s) (c := c) (k := 2) (q := 237 + jω) (x := x) (by decide) (Or.inr (by omega))).symm), a6ω⟩
theorem lP.set5 {M M' : mM} {m : Nat} {s : Nat → Int32} {n nv no c : Nat} {x : Int32} (h : lP M m s n nv no) (hc : c < n) (hs : ∀ f : Nat → Int32, zArr M (m + 1) 64 f → zArr M' (m + 1) 64 (upd f (4 * c + 3) x)) (hq : ∀ q, q ≠ m + 1 → M' q = M q) : lP M' m (pg s c 5 x) n nv no := by
  obtain ⟨a0ω, a1ω, a2ω, a3ω, a4ω, a5ω, a6ω⟩ := h
  have hn16ω := a6ω.1
  have hbω : zAL M' (m + 1) 64 (4 * n) (lA1 (pg s c 5 x)) := by
    obtain ⟨fω, b1ω, b2ω⟩ := a1ω.arr
    refine zAL.of (hs fω b1ω) (by omega) (fun jω hjω => ?_)
    unfold upd
    by_cases e : jω = 4 * c + 3
    · rw [if_pos e, e, lA_5, gd_pgs]
    · rw [if_neg e, b2ω jω hjω]
      by_cases hjc : jω / 4 = c
      · rcases (by omega : jω % 4 = 0 ∨ jω % 4 = 1 ∨ jω % 4 = 2 ∨ jω % 4 = 3) with e4ω | e4ω | e4ω | e4ω
        · rw [lA1_m0 e4ω, lA1_m0 e4ω, gd_pgn (by decide) (by decide) (Or.inr (by decide))]
        · rw [lA1_m1 e4ω, lA1_m1 e4ω, gd_pgn (by decide) (by decide) (Or.inr (by decide))]
        · rw [lA1_m2 e4ω, lA1_m2 e4ω, gd_pgn (by decide) (by decide) (Or.inr (by decide))]
        · exact absurd (show jω = 4 * c + 3 from by omega) e
      · have hzω : ∀ k'ω, k'ω < 12 → gd s (jω / 4) k'ω = gd (pg s c 5 x) (jω / 4) k'ω := fun k'ω hk'ω => (gd_pgn (by decide) hk'ω (Or.inl hjc)).symm
        exact lA1_cg (hzω _ (by decide)) (hzω _ (by decide)) (hzω _ (by decide)) (hzω _ (by decide))
  exact ⟨(a0ω.kept (hq _ (by omega))).cong (fun jω hjω => (pg_lo hjω).symm), hbω, ((a2ω.kept (hq _ (by omega))).cong (fun jω hjω => lA2_cg (gd_pgn (by decide) (by decide) (Or.inr (by decide))).symm (gd_pgn (by decide) (by decide) (Or.inr (by decide))).symm (gd_pgn (by decide) (by decide) (Or.inr (by decide))).symm (gd_pgn (by decide) (by decide) (Or.inr (by decide))).symm)), ((a3ω.kept (hq _ (by omega))).cong (fun jω hjω => lA3_cg (gd_pgn (by decide) (by decide) (Or.inr (by decide))).symm (gd_pgn (by decide) (by decide) (Or.inr (by decide))).symm (gd_pgn (by decide) (by decide) (Or.inr (by decide))).symm (gd_pgn (by decide) (by decide) (Or.inr (by decide))).symm)), (a4ω.kept (hq _ (by omega))).cong (fun jω hjω => (pg_o (s := s) (c := c) (k := 5) (q := 205 + jω) (x := x) (by decide) (Or.inr (by omega))).symm), (a5ω.kept (hq _ (by omega))).cong (fun jω hjω => (pg_o (s := s) (c := c) (k := 5) (q := 237 + jω) (x := x) (by decide) (Or.inr (by omega))).symm), a6ω⟩
theorem lP.set3 {M M' : mM} {m : Nat} {s : Nat → Int32} {n nv no c : Nat} {x : Int32} (h : lP M m s n nv no) (hc : c < n) (hs : ∀ f : Nat → Int32, zArr M (m + 2) 64 f → zArr M' (m + 2) 64 (upd f (4 * c + 0) x)) (hq : ∀ q, q ≠ m + 2 → M' q = M q) : lP M' m (pg s c 3 x) n nv no := by
  obtain ⟨a0ω, a1ω, a2ω, a3ω, a4ω, a5ω, a6ω⟩ := h
  have hn16ω := a6ω.1
  have hbω : zAL M' (m + 2) 64 (4 * n) (lA2 (pg s c 3 x)) := by
    obtain ⟨fω, b1ω, b2ω⟩ := a2ω.arr
    refine zAL.of (hs fω b1ω) (by omega) (fun jω hjω => ?_)
    unfold upd
    by_cases e : jω = 4 * c + 0
    · rw [if_pos e, e, lA_3, gd_pgs]
    · rw [if_neg e, b2ω jω hjω]
      by_cases hjc : jω / 4 = c
      · rcases (by omega : jω % 4 = 0 ∨ jω % 4 = 1 ∨ jω % 4 = 2 ∨ jω % 4 = 3) with e4ω | e4ω | e4ω | e4ω
        · exact absurd (show jω = 4 * c + 0 from by omega) e
        · rw [lA2_m1 e4ω, lA2_m1 e4ω, gd_pgn (by decide) (by decide) (Or.inr (by decide))]
        · rw [lA2_m2 e4ω, lA2_m2 e4ω, gd_pgn (by decide) (by decide) (Or.inr (by decide))]
        · rw [lA2_m3 e4ω, lA2_m3 e4ω, gd_pgn (by decide) (by decide) (Or.inr (by decide))]
      · have hzω : ∀ k'ω, k'ω < 12 → gd s (jω / 4) k'ω = gd (pg s c 3 x) (jω / 4) k'ω := fun k'ω hk'ω => (gd_pgn (by decide) hk'ω (Or.inl hjc)).symm
        exact lA2_cg (hzω _ (by decide)) (hzω _ (by decide)) (hzω _ (by decide)) (hzω _ (by decide))
  exact ⟨(a0ω.kept (hq _ (by omega))).cong (fun jω hjω => (pg_lo hjω).symm), ((a1ω.kept (hq _ (by omega))).cong (fun jω hjω => lA1_cg (gd_pgn (by decide) (by decide) (Or.inr (by decide))).symm (gd_pgn (by decide) (by decide) (Or.inr (by decide))).symm (gd_pgn (by decide) (by decide) (Or.inr (by decide))).symm (gd_pgn (by decide) (by decide) (Or.inr (by decide))).symm)), hbω, ((a3ω.kept (hq _ (by omega))).cong (fun jω hjω => lA3_cg (gd_pgn (by decide) (by decide) (Or.inr (by decide))).symm (gd_pgn (by decide) (by decide) (Or.inr (by decide))).symm (gd_pgn (by decide) (by decide) (Or.inr (by decide))).symm (gd_pgn (by decide) (by decide) (Or.inr (by decide))).symm)), (a4ω.kept (hq _ (by omega))).cong (fun jω hjω => (pg_o (s := s) (c := c) (k := 3) (q := 205 + jω) (x := x) (by decide) (Or.inr (by omega))).symm), (a5ω.kept (hq _ (by omega))).cong (fun jω hjω => (pg_o (s := s) (c := c) (k := 3) (q := 237 + jω) (x := x) (by decide) (Or.inr (by omega))).symm), a6ω⟩
theorem lP.set4 {M M' : mM} {m : Nat} {s : Nat → Int32} {n nv no c : Nat} {x : Int32} (h : lP M m s n nv no) (hc : c < n) (hs : ∀ f : Nat → Int32, zArr M (m + 2) 64 f → zArr M' (m + 2) 64 (upd f (4 * c + 1) x)) (hq : ∀ q, q ≠ m + 2 → M' q = M q) : lP M' m (pg s c 4 x) n nv no := by
  obtain ⟨a0ω, a1ω, a2ω, a3ω, a4ω, a5ω, a6ω⟩ := h
  have hn16ω := a6ω.1
  have hbω : zAL M' (m + 2) 64 (4 * n) (lA2 (pg s c 4 x)) := by
    obtain ⟨fω, b1ω, b2ω⟩ := a2ω.arr
    refine zAL.of (hs fω b1ω) (by omega) (fun jω hjω => ?_)
    unfold upd
    by_cases e : jω = 4 * c + 1
    · rw [if_pos e, e, lA_4, gd_pgs]
    · rw [if_neg e, b2ω jω hjω]
      by_cases hjc : jω / 4 = c
      · rcases (by omega : jω % 4 = 0 ∨ jω % 4 = 1 ∨ jω % 4 = 2 ∨ jω % 4 = 3) with e4ω | e4ω | e4ω | e4ω
        · rw [lA2_m0 e4ω, lA2_m0 e4ω, gd_pgn (by decide) (by decide) (Or.inr (by decide))]
        · exact absurd (show jω = 4 * c + 1 from by omega) e
        · rw [lA2_m2 e4ω, lA2_m2 e4ω, gd_pgn (by decide) (by decide) (Or.inr (by decide))]
        · rw [lA2_m3 e4ω, lA2_m3 e4ω, gd_pgn (by decide) (by decide) (Or.inr (by decide))]
      · have hzω : ∀ k'ω, k'ω < 12 → gd s (jω / 4) k'ω = gd (pg s c 4 x) (jω / 4) k'ω := fun k'ω hk'ω => (gd_pgn (by decide) hk'ω (Or.inl hjc)).symm
        exact lA2_cg (hzω _ (by decide)) (hzω _ (by decide)) (hzω _ (by decide)) (hzω _ (by decide))
  exact ⟨(a0ω.kept (hq _ (by omega))).cong (fun jω hjω => (pg_lo hjω).symm), ((a1ω.kept (hq _ (by omega))).cong (fun jω hjω => lA1_cg (gd_pgn (by decide) (by decide) (Or.inr (by decide))).symm (gd_pgn (by decide) (by decide) (Or.inr (by decide))).symm (gd_pgn (by decide) (by decide) (Or.inr (by decide))).symm (gd_pgn (by decide) (by decide) (Or.inr (by decide))).symm)), hbω, ((a3ω.kept (hq _ (by omega))).cong (fun jω hjω => lA3_cg (gd_pgn (by decide) (by decide) (Or.inr (by decide))).symm (gd_pgn (by decide) (by decide) (Or.inr (by decide))).symm (gd_pgn (by decide) (by decide) (Or.inr (by decide))).symm (gd_pgn (by decide) (by decide) (Or.inr (by decide))).symm)), (a4ω.kept (hq _ (by omega))).cong (fun jω hjω => (pg_o (s := s) (c := c) (k := 4) (q := 205 + jω) (x := x) (by decide) (Or.inr (by omega))).symm), (a5ω.kept (hq _ (by omega))).cong (fun jω hjω => (pg_o (s := s) (c := c) (k := 4) (q := 237 + jω) (x := x) (by decide) (Or.inr (by omega))).symm), a6ω⟩
theorem lP.set6 {M M' : mM} {m : Nat} {s : Nat → Int32} {n nv no c : Nat} {x : Int32} (h : lP M m s n nv no) (hc : c < n) (hs : ∀ f : Nat → Int32, zArr M (m + 2) 64 f → zArr M' (m + 2) 64 (upd f (4 * c + 2) x)) (hq : ∀ q, q ≠ m + 2 → M' q = M q) : lP M' m (pg s c 6 x) n nv no := by
  obtain ⟨a0ω, a1ω, a2ω, a3ω, a4ω, a5ω, a6ω⟩ := h
  have hn16ω := a6ω.1
  have hbω : zAL M' (m + 2) 64 (4 * n) (lA2 (pg s c 6 x)) := by
    obtain ⟨fω, b1ω, b2ω⟩ := a2ω.arr
    refine zAL.of (hs fω b1ω) (by omega) (fun jω hjω => ?_)
    unfold upd
    by_cases e : jω = 4 * c + 2
    · rw [if_pos e, e, lA_6, gd_pgs]
    · rw [if_neg e, b2ω jω hjω]
      by_cases hjc : jω / 4 = c
      · rcases (by omega : jω % 4 = 0 ∨ jω % 4 = 1 ∨ jω % 4 = 2 ∨ jω % 4 = 3) with e4ω | e4ω | e4ω | e4ω
        · rw [lA2_m0 e4ω, lA2_m0 e4ω, gd_pgn (by decide) (by decide) (Or.inr (by decide))]
        · rw [lA2_m1 e4ω, lA2_m1 e4ω, gd_pgn (by decide) (by decide) (Or.inr (by decide))]
        · exact absurd (show jω = 4 * c + 2 from by omega) e
        · rw [lA2_m3 e4ω, lA2_m3 e4ω, gd_pgn (by decide) (by decide) (Or.inr (by decide))]
      · have hzω : ∀ k'ω, k'ω < 12 → gd s (jω / 4) k'ω = gd (pg s c 6 x) (jω / 4) k'ω := fun k'ω hk'ω => (gd_pgn (by decide) hk'ω (Or.inl hjc)).symm
        exact lA2_cg (hzω _ (by decide)) (hzω _ (by decide)) (hzω _ (by decide)) (hzω _ (by decide))
  exact ⟨(a0ω.kept (hq _ (by omega))).cong (fun jω hjω => (pg_lo hjω).symm), ((a1ω.kept (hq _ (by omega))).cong (fun jω hjω => lA1_cg (gd_pgn (by decide) (by decide) (Or.inr (by decide))).symm (gd_pgn (by decide) (by decide) (Or.inr (by decide))).symm (gd_pgn (by decide) (by decide) (Or.inr (by decide))).symm (gd_pgn (by decide) (by decide) (Or.inr (by decide))).symm)), hbω, ((a3ω.kept (hq _ (by omega))).cong (fun jω hjω => lA3_cg (gd_pgn (by decide) (by decide) (Or.inr (by decide))).symm (gd_pgn (by decide) (by decide) (Or.inr (by decide))).symm (gd_pgn (by decide) (by decide) (Or.inr (by decide))).symm (gd_pgn (by decide) (by decide) (Or.inr (by decide))).symm)), (a4ω.kept (hq _ (by omega))).cong (fun jω hjω => (pg_o (s := s) (c := c) (k := 6) (q := 205 + jω) (x := x) (by decide) (Or.inr (by omega))).symm), (a5ω.kept (hq _ (by omega))).cong (fun jω hjω => (pg_o (s := s) (c := c) (k := 6) (q := 237 + jω) (x := x) (by decide) (Or.inr (by omega))).symm), a6ω⟩
theorem lP.set7 {M M' : mM} {m : Nat} {s : Nat → Int32} {n nv no c : Nat} {x : Int32} {y : Int32} (h : lP M m s n nv no) (hc : c < n) (hx : y = zEn x) (hs : ∀ f : Nat → Int32, zArr M (m + 2) 64 f → zArr M' (m + 2) 64 (upd f (4 * c + 3) y)) (hq : ∀ q, q ≠ m + 2 → M' q = M q) : lP M' m (pg s c 7 x) n nv no := by
  obtain ⟨a0ω, a1ω, a2ω, a3ω, a4ω, a5ω, a6ω⟩ := h
  have hn16ω := a6ω.1
  have hbω : zAL M' (m + 2) 64 (4 * n) (lA2 (pg s c 7 x)) := by
    obtain ⟨fω, b1ω, b2ω⟩ := a2ω.arr
    refine zAL.of (hs fω b1ω) (by omega) (fun jω hjω => ?_)
    unfold upd
    by_cases e : jω = 4 * c + 3
    · rw [if_pos e, e, lA_7, gd_pgs]
      exact hx
    · rw [if_neg e, b2ω jω hjω]
      by_cases hjc : jω / 4 = c
      · rcases (by omega : jω % 4 = 0 ∨ jω % 4 = 1 ∨ jω % 4 = 2 ∨ jω % 4 = 3) with e4ω | e4ω | e4ω | e4ω
        · rw [lA2_m0 e4ω, lA2_m0 e4ω, gd_pgn (by decide) (by decide) (Or.inr (by decide))]
        · rw [lA2_m1 e4ω, lA2_m1 e4ω, gd_pgn (by decide) (by decide) (Or.inr (by decide))]
        · rw [lA2_m2 e4ω, lA2_m2 e4ω, gd_pgn (by decide) (by decide) (Or.inr (by decide))]
        · exact absurd (show jω = 4 * c + 3 from by omega) e
      · have hzω : ∀ k'ω, k'ω < 12 → gd s (jω / 4) k'ω = gd (pg s c 7 x) (jω / 4) k'ω := fun k'ω hk'ω => (gd_pgn (by decide) hk'ω (Or.inl hjc)).symm
        exact lA2_cg (hzω _ (by decide)) (hzω _ (by decide)) (hzω _ (by decide)) (hzω _ (by decide))
  exact ⟨(a0ω.kept (hq _ (by omega))).cong (fun jω hjω => (pg_lo hjω).symm), ((a1ω.kept (hq _ (by omega))).cong (fun jω hjω => lA1_cg (gd_pgn (by decide) (by decide) (Or.inr (by decide))).symm (gd_pgn (by decide) (by decide) (Or.inr (by decide))).symm (gd_pgn (by decide) (by decide) (Or.inr (by decide))).symm (gd_pgn (by decide) (by decide) (Or.inr (by decide))).symm)), hbω, ((a3ω.kept (hq _ (by omega))).cong (fun jω hjω => lA3_cg (gd_pgn (by decide) (by decide) (Or.inr (by decide))).symm (gd_pgn (by decide) (by decide) (Or.inr (by decide))).symm (gd_pgn (by decide) (by decide) (Or.inr (by decide))).symm (gd_pgn (by decide) (by decide) (Or.inr (by decide))).symm)), (a4ω.kept (hq _ (by omega))).cong (fun jω hjω => (pg_o (s := s) (c := c) (k := 7) (q := 205 + jω) (x := x) (by decide) (Or.inr (by omega))).symm), (a5ω.kept (hq _ (by omega))).cong (fun jω hjω => (pg_o (s := s) (c := c) (k := 7) (q := 237 + jω) (x := x) (by decide) (Or.inr (by omega))).symm), a6ω⟩
theorem lP.set8 {M M' : mM} {m : Nat} {s : Nat → Int32} {n nv no c : Nat} {x : Int32} {y : Int32} (h : lP M m s n nv no) (hc : c < n) (hx : y = zEn x) (hs : ∀ f : Nat → Int32, zArr M (m + 3) 64 f → zArr M' (m + 3) 64 (upd f (4 * c + 0) y)) (hq : ∀ q, q ≠ m + 3 → M' q = M q) : lP M' m (pg s c 8 x) n nv no := by
  obtain ⟨a0ω, a1ω, a2ω, a3ω, a4ω, a5ω, a6ω⟩ := h
  have hn16ω := a6ω.1
  have hbω : zAL M' (m + 3) 64 (4 * n) (lA3 (pg s c 8 x)) := by
    obtain ⟨fω, b1ω, b2ω⟩ := a3ω.arr
    refine zAL.of (hs fω b1ω) (by omega) (fun jω hjω => ?_)
    unfold upd
    by_cases e : jω = 4 * c + 0
    · rw [if_pos e, e, lA_8, gd_pgs]
      exact hx
    · rw [if_neg e, b2ω jω hjω]
      by_cases hjc : jω / 4 = c
      · rcases (by omega : jω % 4 = 0 ∨ jω % 4 = 1 ∨ jω % 4 = 2 ∨ jω % 4 = 3) with e4ω | e4ω | e4ω | e4ω
        · exact absurd (show jω = 4 * c + 0 from by omega) e
        · rw [lA3_m1 e4ω, lA3_m1 e4ω, gd_pgn (by decide) (by decide) (Or.inr (by decide))]
        · rw [lA3_m2 e4ω, lA3_m2 e4ω, gd_pgn (by decide) (by decide) (Or.inr (by decide))]
        · rw [lA3_m3 e4ω, lA3_m3 e4ω, gd_pgn (by decide) (by decide) (Or.inr (by decide))]
      · have hzω : ∀ k'ω, k'ω < 12 → gd s (jω / 4) k'ω = gd (pg s c 8 x) (jω / 4) k'ω := fun k'ω hk'ω => (gd_pgn (by decide) hk'ω (Or.inl hjc)).symm
        exact lA3_cg (hzω _ (by decide)) (hzω _ (by decide)) (hzω _ (by decide)) (hzω _ (by decide))
  exact ⟨(a0ω.kept (hq _ (by omega))).cong (fun jω hjω => (pg_lo hjω).symm), ((a1ω.kept (hq _ (by omega))).cong (fun jω hjω => lA1_cg (gd_pgn (by decide) (by decide) (Or.inr (by decide))).symm (gd_pgn (by decide) (by decide) (Or.inr (by decide))).symm (gd_pgn (by decide) (by decide) (Or.inr (by decide))).symm (gd_pgn (by decide) (by decide) (Or.inr (by decide))).symm)), ((a2ω.kept (hq _ (by omega))).cong (fun jω hjω => lA2_cg (gd_pgn (by decide) (by decide) (Or.inr (by decide))).symm (gd_pgn (by decide) (by decide) (Or.inr (by decide))).symm (gd_pgn (by decide) (by decide) (Or.inr (by decide))).symm (gd_pgn (by decide) (by decide) (Or.inr (by decide))).symm)), hbω, (a4ω.kept (hq _ (by omega))).cong (fun jω hjω => (pg_o (s := s) (c := c) (k := 8) (q := 205 + jω) (x := x) (by decide) (Or.inr (by omega))).symm), (a5ω.kept (hq _ (by omega))).cong (fun jω hjω => (pg_o (s := s) (c := c) (k := 8) (q := 237 + jω) (x := x) (by decide) (Or.inr (by omega))).symm), a6ω⟩
theorem lP.set9 {M M' : mM} {m : Nat} {s : Nat → Int32} {n nv no c : Nat} {x : Int32} (h : lP M m s n nv no) (hc : c < n) (hs : ∀ f : Nat → Int32, zArr M (m + 3) 64 f → zArr M' (m + 3) 64 (upd f (4 * c + 1) x)) (hq : ∀ q, q ≠ m + 3 → M' q = M q) : lP M' m (pg s c 9 x) n nv no := by
  obtain ⟨a0ω, a1ω, a2ω, a3ω, a4ω, a5ω, a6ω⟩ := h
  have hn16ω := a6ω.1
  have hbω : zAL M' (m + 3) 64 (4 * n) (lA3 (pg s c 9 x)) := by
    obtain ⟨fω, b1ω, b2ω⟩ := a3ω.arr
    refine zAL.of (hs fω b1ω) (by omega) (fun jω hjω => ?_)
    unfold upd
    by_cases e : jω = 4 * c + 1
    · rw [if_pos e, e, lA_9, gd_pgs]
    · rw [if_neg e, b2ω jω hjω]
      by_cases hjc : jω / 4 = c
      · rcases (by omega : jω % 4 = 0 ∨ jω % 4 = 1 ∨ jω % 4 = 2 ∨ jω % 4 = 3) with e4ω | e4ω | e4ω | e4ω
        · rw [lA3_m0 e4ω, lA3_m0 e4ω, gd_pgn (by decide) (by decide) (Or.inr (by decide))]
        · exact absurd (show jω = 4 * c + 1 from by omega) e
        · rw [lA3_m2 e4ω, lA3_m2 e4ω, gd_pgn (by decide) (by decide) (Or.inr (by decide))]
        · rw [lA3_m3 e4ω, lA3_m3 e4ω, gd_pgn (by decide) (by decide) (Or.inr (by decide))]
      · have hzω : ∀ k'ω, k'ω < 12 → gd s (jω / 4) k'ω = gd (pg s c 9 x) (jω / 4) k'ω := fun k'ω hk'ω => (gd_pgn (by decide) hk'ω (Or.inl hjc)).symm
        exact lA3_cg (hzω _ (by decide)) (hzω _ (by decide)) (hzω _ (by decide)) (hzω _ (by decide))
  exact ⟨(a0ω.kept (hq _ (by omega))).cong (fun jω hjω => (pg_lo hjω).symm), ((a1ω.kept (hq _ (by omega))).cong (fun jω hjω => lA1_cg (gd_pgn (by decide) (by decide) (Or.inr (by decide))).symm (gd_pgn (by decide) (by decide) (Or.inr (by decide))).symm (gd_pgn (by decide) (by decide) (Or.inr (by decide))).symm (gd_pgn (by decide) (by decide) (Or.inr (by decide))).symm)), ((a2ω.kept (hq _ (by omega))).cong (fun jω hjω => lA2_cg (gd_pgn (by decide) (by decide) (Or.inr (by decide))).symm (gd_pgn (by decide) (by decide) (Or.inr (by decide))).symm (gd_pgn (by decide) (by decide) (Or.inr (by decide))).symm (gd_pgn (by decide) (by decide) (Or.inr (by decide))).symm)), hbω, (a4ω.kept (hq _ (by omega))).cong (fun jω hjω => (pg_o (s := s) (c := c) (k := 9) (q := 205 + jω) (x := x) (by decide) (Or.inr (by omega))).symm), (a5ω.kept (hq _ (by omega))).cong (fun jω hjω => (pg_o (s := s) (c := c) (k := 9) (q := 237 + jω) (x := x) (by decide) (Or.inr (by omega))).symm), a6ω⟩
theorem lP.set10 {M M' : mM} {m : Nat} {s : Nat → Int32} {n nv no c : Nat} {x : Int32} (h : lP M m s n nv no) (hc : c < n) (hs : ∀ f : Nat → Int32, zArr M (m + 3) 64 f → zArr M' (m + 3) 64 (upd f (4 * c + 2) x)) (hq : ∀ q, q ≠ m + 3 → M' q = M q) : lP M' m (pg s c 10 x) n nv no := by
  obtain ⟨a0ω, a1ω, a2ω, a3ω, a4ω, a5ω, a6ω⟩ := h
  have hn16ω := a6ω.1
  have hbω : zAL M' (m + 3) 64 (4 * n) (lA3 (pg s c 10 x)) := by
    obtain ⟨fω, b1ω, b2ω⟩ := a3ω.arr
    refine zAL.of (hs fω b1ω) (by omega) (fun jω hjω => ?_)
    unfold upd
    by_cases e : jω = 4 * c + 2
    · rw [if_pos e, e, lA_10, gd_pgs]
    · rw [if_neg e, b2ω jω hjω]
      by_cases hjc : jω / 4 = c
      · rcases (by omega : jω % 4 = 0 ∨ jω % 4 = 1 ∨ jω % 4 = 2 ∨ jω % 4 = 3) with e4ω | e4ω | e4ω | e4ω
        · rw [lA3_m0 e4ω, lA3_m0 e4ω, gd_pgn (by decide) (by decide) (Or.inr (by decide))]
        · rw [lA3_m1 e4ω, lA3_m1 e4ω, gd_pgn (by decide) (by decide) (Or.inr (by decide))]
        · exact absurd (show jω = 4 * c + 2 from by omega) e
        · rw [lA3_m3 e4ω, lA3_m3 e4ω, gd_pgn (by decide) (by decide) (Or.inr (by decide))]
      · have hzω : ∀ k'ω, k'ω < 12 → gd s (jω / 4) k'ω = gd (pg s c 10 x) (jω / 4) k'ω := fun k'ω hk'ω => (gd_pgn (by decide) hk'ω (Or.inl hjc)).symm
        exact lA3_cg (hzω _ (by decide)) (hzω _ (by decide)) (hzω _ (by decide)) (hzω _ (by decide))
  exact ⟨(a0ω.kept (hq _ (by omega))).cong (fun jω hjω => (pg_lo hjω).symm), ((a1ω.kept (hq _ (by omega))).cong (fun jω hjω => lA1_cg (gd_pgn (by decide) (by decide) (Or.inr (by decide))).symm (gd_pgn (by decide) (by decide) (Or.inr (by decide))).symm (gd_pgn (by decide) (by decide) (Or.inr (by decide))).symm (gd_pgn (by decide) (by decide) (Or.inr (by decide))).symm)), ((a2ω.kept (hq _ (by omega))).cong (fun jω hjω => lA2_cg (gd_pgn (by decide) (by decide) (Or.inr (by decide))).symm (gd_pgn (by decide) (by decide) (Or.inr (by decide))).symm (gd_pgn (by decide) (by decide) (Or.inr (by decide))).symm (gd_pgn (by decide) (by decide) (Or.inr (by decide))).symm)), hbω, (a4ω.kept (hq _ (by omega))).cong (fun jω hjω => (pg_o (s := s) (c := c) (k := 10) (q := 205 + jω) (x := x) (by decide) (Or.inr (by omega))).symm), (a5ω.kept (hq _ (by omega))).cong (fun jω hjω => (pg_o (s := s) (c := c) (k := 10) (q := 237 + jω) (x := x) (by decide) (Or.inr (by omega))).symm), a6ω⟩
theorem lP.set11 {M M' : mM} {m : Nat} {s : Nat → Int32} {n nv no c : Nat} {x : Int32} (h : lP M m s n nv no) (hc : c < n) (hs : ∀ f : Nat → Int32, zArr M (m + 3) 64 f → zArr M' (m + 3) 64 (upd f (4 * c + 3) x)) (hq : ∀ q, q ≠ m + 3 → M' q = M q) : lP M' m (pg s c 11 x) n nv no := by
  obtain ⟨a0ω, a1ω, a2ω, a3ω, a4ω, a5ω, a6ω⟩ := h
  have hn16ω := a6ω.1
  have hbω : zAL M' (m + 3) 64 (4 * n) (lA3 (pg s c 11 x)) := by
    obtain ⟨fω, b1ω, b2ω⟩ := a3ω.arr
    refine zAL.of (hs fω b1ω) (by omega) (fun jω hjω => ?_)
    unfold upd
    by_cases e : jω = 4 * c + 3
    · rw [if_pos e, e, lA_11, gd_pgs]
    · rw [if_neg e, b2ω jω hjω]
      by_cases hjc : jω / 4 = c
      · rcases (by omega : jω % 4 = 0 ∨ jω % 4 = 1 ∨ jω % 4 = 2 ∨ jω % 4 = 3) with e4ω | e4ω | e4ω | e4ω
        · rw [lA3_m0 e4ω, lA3_m0 e4ω, gd_pgn (by decide) (by decide) (Or.inr (by decide))]
        · rw [lA3_m1 e4ω, lA3_m1 e4ω, gd_pgn (by decide) (by decide) (Or.inr (by decide))]
        · rw [lA3_m2 e4ω, lA3_m2 e4ω, gd_pgn (by decide) (by decide) (Or.inr (by decide))]
        · exact absurd (show jω = 4 * c + 3 from by omega) e
      · have hzω : ∀ k'ω, k'ω < 12 → gd s (jω / 4) k'ω = gd (pg s c 11 x) (jω / 4) k'ω := fun k'ω hk'ω => (gd_pgn (by decide) hk'ω (Or.inl hjc)).symm
        exact lA3_cg (hzω _ (by decide)) (hzω _ (by decide)) (hzω _ (by decide)) (hzω _ (by decide))
  exact ⟨(a0ω.kept (hq _ (by omega))).cong (fun jω hjω => (pg_lo hjω).symm), ((a1ω.kept (hq _ (by omega))).cong (fun jω hjω => lA1_cg (gd_pgn (by decide) (by decide) (Or.inr (by decide))).symm (gd_pgn (by decide) (by decide) (Or.inr (by decide))).symm (gd_pgn (by decide) (by decide) (Or.inr (by decide))).symm (gd_pgn (by decide) (by decide) (Or.inr (by decide))).symm)), ((a2ω.kept (hq _ (by omega))).cong (fun jω hjω => lA2_cg (gd_pgn (by decide) (by decide) (Or.inr (by decide))).symm (gd_pgn (by decide) (by decide) (Or.inr (by decide))).symm (gd_pgn (by decide) (by decide) (Or.inr (by decide))).symm (gd_pgn (by decide) (by decide) (Or.inr (by decide))).symm)), hbω, (a4ω.kept (hq _ (by omega))).cong (fun jω hjω => (pg_o (s := s) (c := c) (k := 11) (q := 205 + jω) (x := x) (by decide) (Or.inr (by omega))).symm), (a5ω.kept (hq _ (by omega))).cong (fun jω hjω => (pg_o (s := s) (c := c) (k := 11) (q := 237 + jω) (x := x) (by decide) (Or.inr (by omega))).symm), a6ω⟩
theorem lP.setV {M M' : mM} {m : Nat} {s : Nat → Int32} {n nv no u t : Nat} {x : Int32} (h : lP M m s n nv no) (hu : u < nv) (ht : t < 8) (hs : ∀ f : Nat → Int32, zArr M (m + 4) 32 f → zArr M' (m + 4) 32 (upd f (8 * u + t) x)) (hq : ∀ q, q ≠ m + 4 → M' q = M q) : lP M' m (pv s u t x) n nv no := by
  obtain ⟨a0ω, a1ω, a2ω, a3ω, a4ω, a5ω, a6ω⟩ := h
  have hn16ω := a6ω.1
  have hn4ω := a6ω.2.1
  have hbω : zAL M' (m + 4) 32 (8 * nv) (lA4 (pv s u t x)) := by
    obtain ⟨fω, b1ω, b2ω⟩ := a4ω.arr
    refine zAL.of (hs fω b1ω) (by omega) (fun jω hjω => ?_)
    show upd fω (8 * u + t) x jω = upd s (205 + 8 * u + t) x (205 + jω)
    unfold upd
    by_cases e : jω = 8 * u + t
    · rw [if_pos e, if_pos (by omega)]
    · rw [if_neg e, if_neg (by omega)]
      exact b2ω jω hjω
  have hgω : ∀ iω, iω < n → ∀ kω, kω < 12 → gd s iω kω = gd (pv s u t x) iω kω := fun iω hiω kω hkω => (gd_pv (by omega) hkω).symm
  exact ⟨(a0ω.kept (hq _ (by omega))).cong (fun jω hjω => (pv_lo hjω).symm), (a1ω.kept (hq _ (by omega))).cong (fun jω hjω => lA1_cg (hgω _ (by omega) _ (by decide)) (hgω _ (by omega) _ (by decide)) (hgω _ (by omega) _ (by decide)) (hgω _ (by omega) _ (by decide))), (a2ω.kept (hq _ (by omega))).cong (fun jω hjω => lA2_cg (hgω _ (by omega) _ (by decide)) (hgω _ (by omega) _ (by decide)) (hgω _ (by omega) _ (by decide)) (hgω _ (by omega) _ (by decide))), (a3ω.kept (hq _ (by omega))).cong (fun jω hjω => lA3_cg (hgω _ (by omega) _ (by decide)) (hgω _ (by omega) _ (by decide)) (hgω _ (by omega) _ (by decide)) (hgω _ (by omega) _ (by decide))), hbω, (a5ω.kept (hq _ (by omega))).cong (fun jω hjω => (pv_o (s := s) (c := u) (k := t) (q := 237 + jω) (x := x) ht (Or.inr (by omega))).symm), a6ω⟩
theorem lP.setG {M M' : mM} {m : Nat} {s : Nat → Int32} {n nv no t : Nat} {x : Int32} (h : lP M m s n nv no) (ht : t < 13) (hs : ∀ f : Nat → Int32, zArr M m 13 f → zArr M' m 13 (upd f t x)) (hq : ∀ q, q ≠ m → M' q = M q) : lP M' m (upd s t x) n nv no := by
  obtain ⟨a0ω, a1ω, a2ω, a3ω, a4ω, a5ω, a6ω⟩ := h
  have hbω : zAL M' m 13 13 (upd s t x) := by
    obtain ⟨fω, b1ω, b2ω⟩ := a0ω.arr
    refine zAL.of (hs fω b1ω) (by omega) (fun jω hjω => ?_)
    show upd fω t x jω = upd s t x jω
    unfold upd
    by_cases e : jω = t
    · rw [if_pos e, if_pos e]
    · rw [if_neg e, if_neg e]
      exact b2ω jω hjω
  have hgω : ∀ iω kω, gd s iω kω = gd (upd s t x) iω kω := fun iω kω => (gd_lo ht).symm
  exact ⟨hbω, (a1ω.kept (hq _ (by omega))).cong (fun jω hjω => lA1_cg (hgω _ _) (hgω _ _) (hgω _ _) (hgω _ _)), (a2ω.kept (hq _ (by omega))).cong (fun jω hjω => lA2_cg (hgω _ _) (hgω _ _) (hgω _ _) (hgω _ _)), (a3ω.kept (hq _ (by omega))).cong (fun jω hjω => lA3_cg (hgω _ _) (hgω _ _) (hgω _ _) (hgω _ _)), (a4ω.kept (hq _ (by omega))).cong (fun jω hjω => (if_neg (by omega)).symm), (a5ω.kept (hq _ (by omega))).cong (fun jω hjω => (if_neg (by omega)).symm), a6ω⟩
theorem l_ald {K : zK} {yn : MethodName} {cc : ByteArray} {nL : Nat} {ret : Option FieldType} {d mc ms : Nat} {B : zB} {Q : State → Prop} {pc : Nat} {L : List (Option Value)} {rest : List Value} {M : mM} {k n0 : Nat} {a N L0 j : Nat} {g : Nat → Int32} {i : Int32} (ok : zOk K yn cc nL ret d mc ms B) (hd : decode cc pc = .ok (.iaload, 1)) (ha : zAL M a N L0 g) (hi : i = nI j) (hj : j < L0) (hL : L0 ≤ N) (hN : N < 2 ^ 31)
    (kk : zV nL B Q (pc + 1) L (.int (g j) :: rest) M k n0) : zV nL B Q pc L (.int i :: .ref a :: rest) M k n0 := by
  obtain ⟨fω, h1ω, h2ω⟩ := ha.arr
  refine z_ald ok hd h1ω hi (by omega) hN ?_
  rw [h2ω j hj]
  exact kk
theorem l_ldG {K : zK} {yn : MethodName} {cc : ByteArray} {nL : Nat} {ret : Option FieldType} {d mc ms : Nat} {B : zB} {Q : State → Prop} {pc : Nat} {L : List (Option Value)} {rest : List Value} {M : mM} {k n0 : Nat} {m n nv no t : Nat} {s : Nat → Int32} {i : Int32} (ok : zOk K yn cc nL ret d mc ms B) (hd : decode cc pc = .ok (.iaload, 1)) (hm : lP M m s n nv no) (hi : i = nI t) (ht : t < 13)
    (kk : zV nL B Q (pc + 1) L (.int (s t) :: rest) M k n0) : zV nL B Q pc L (.int i :: .ref m :: rest) M k n0 := l_ald ok hd hm.1 hi ht (by omega) (by omega) kk
theorem zArr.same {M : mM} {a N : Nat} {f f' : Nat → Int32} (h1 : zArr M a N f) (h2 : zArr M a N f') : ∀ j, j < N → f j = f' j := by
  obtain ⟨f1ω, c1ω, c2ω⟩ := h1
  obtain ⟨f2ω, d1ω, d2ω⟩ := h2
  have eω := c1ω.symm.trans d1ω
  cases eω
  exact fun jω hjω => (c2ω jω hjω).symm.trans (d2ω jω hjω)
theorem zArr.upd2 {M M1 : mM} {a N t : Nat} {f f' : Nat → Int32} {x : Int32} (h1 : zArr M a N f) (h3 : zArr M1 a N (upd f t x)) (h2 : zArr M a N f') : zArr M1 a N (upd f' t x) := h3.cong (fun jω hjω => by
  have h9ω := h1.same h2 jω hjω
  unfold upd
  split
  · rfl
  · exact h9ω)
theorem l_stG {K : zK} {yn : MethodName} {cc : ByteArray} {nL : Nat} {ret : Option FieldType} {d mc ms : Nat} {B : zB} {Q : State → Prop} {pc : Nat} {L : List (Option Value)} {rest : List Value} {M : mM} {k n0 : Nat} {m n nv no t : Nat} {s : Nat → Int32} {i x : Int32} (ok : zOk K yn cc nL ret d mc ms B) (hd : decode cc pc = .ok (.iastore, 1)) (hm : lP M m s n nv no) (hi : i = nI t) (ht : t < 13)
    (kk : ∀ M1 : mM, lP M1 m (upd s t x) n nv no → zFr M M1 m 6 → zV nL B Q (pc + 1) L rest M1 k n0) : zV nL B Q pc L (.int x :: .int i :: .ref m :: rest) M k n0 := by
  obtain ⟨fω, h1ω, h2ω⟩ := hm.1.arr
  refine z_ast ok hd h1ω hi ht (by omega) (fun M1ω h3ω h4ω => kk M1ω (hm.setG ht (fun f'ω h5ω => h1ω.upd2 h3ω h5ω) h4ω) (fun qω hqω => h4ω qω (by omega)))
theorem l_ldV {K : zK} {yn : MethodName} {cc : ByteArray} {nL : Nat} {ret : Option FieldType} {d mc ms : Nat} {B : zB} {Q : State → Prop} {pc : Nat} {L : List (Option Value)} {rest : List Value} {M : mM} {k n0 : Nat} {m n nv no u t : Nat} {s : Nat → Int32} {i : Int32} (ok : zOk K yn cc nL ret d mc ms B) (hd : decode cc pc = .ok (.iaload, 1)) (hm : lP M m s n nv no) (hi : i = nI (8 * u + t)) (hu : u < nv) (ht : t < 8)
    (kk : zV nL B Q (pc + 1) L (.int (vd s u t) :: rest) M k n0) : zV nL B Q pc L (.int i :: .ref (m + 4) :: rest) M k n0 := by
  have h9ω := hm.2.2.2.2.2.2.2.1
  refine l_ald ok hd hm.2.2.2.2.1 hi (by omega) (by omega) (by omega) ?_
  rw [show lA4 s (8 * u + t) = vd s u t from by unfold lA4 vd; rw [show 205 + (8 * u + t) = 205 + 8 * u + t from by omega]]
  exact kk
theorem l_ldF {K : zK} {yn : MethodName} {cc : ByteArray} {nL : Nat} {ret : Option FieldType} {d mc ms : Nat} {B : zB} {Q : State → Prop} {pc : Nat} {L : List (Option Value)} {rest : List Value} {M : mM} {k n0 : Nat} {m n nv no u t : Nat} {s : Nat → Int32} {i : Int32} (ok : zOk K yn cc nL ret d mc ms B) (hd : decode cc pc = .ok (.iaload, 1)) (hm : lP M m s n nv no) (hi : i = nI (5 * u + t)) (hu : u < no) (ht : t < 5)
    (kk : zV nL B Q (pc + 1) L (.int (od s u t) :: rest) M k n0) : zV nL B Q pc L (.int i :: .ref (m + 5) :: rest) M k n0 := by
  have h9ω := hm.2.2.2.2.2.2.2.2
  refine l_ald ok hd hm.2.2.2.2.2.1 hi (by omega) (by omega) (by omega) ?_
  rw [show lA5 s (5 * u + t) = od s u t from by unfold lA5 od; rw [show 237 + (5 * u + t) = 237 + 5 * u + t from by omega]]
  exact kk
theorem l_stV {K : zK} {yn : MethodName} {cc : ByteArray} {nL : Nat} {ret : Option FieldType} {d mc ms : Nat} {B : zB} {Q : State → Prop} {pc : Nat} {L : List (Option Value)} {rest : List Value} {M : mM} {k n0 : Nat} {m n nv no u t : Nat} {s : Nat → Int32} {i x : Int32} (ok : zOk K yn cc nL ret d mc ms B) (hd : decode cc pc = .ok (.iastore, 1)) (hm : lP M m s n nv no) (hi : i = nI (8 * u + t)) (hu : u < nv) (ht : t < 8)
    (kk : ∀ M1 : mM, lP M1 m (pv s u t x) n nv no → zFr M M1 m 6 → zV nL B Q (pc + 1) L rest M1 k n0) : zV nL B Q pc L (.int x :: .int i :: .ref (m + 4) :: rest) M k n0 := by
  obtain ⟨fω, h1ω, h2ω⟩ := hm.2.2.2.2.1.arr
  have h9ω := hm.2.2.2.2.2.2.2.1
  exact z_ast ok hd h1ω hi (by omega) (by omega) (fun M1ω h3ω h4ω => kk M1ω (hm.setV hu ht (fun f'ω h5ω => h1ω.upd2 h3ω h5ω) h4ω) (fun qω hqω => h4ω qω (by omega)))
theorem l_ld0 {K : zK} {yn : MethodName} {cc : ByteArray} {nL : Nat} {ret : Option FieldType} {d mc ms : Nat} {B : zB} {Q : State → Prop} {pc : Nat} {L : List (Option Value)} {rest : List Value} {M : mM} {k n0 : Nat} {m n nv no : Nat} (c : Nat) {s : Nat → Int32} {i : Int32} (ok : zOk K yn cc nL ret d mc ms B) (hd : decode cc pc = .ok (.iaload, 1)) (hm : lP M m s n nv no) (hi : i = nI (4 * c + 0)) (hc : c < n)
    (kk : zV nL B Q (pc + 1) L (.int (gd s c 0) :: rest) M k n0) : zV nL B Q pc L (.int i :: .ref (m + 1) :: rest) M k n0 := by
  have h9ω := hm.2.2.2.2.2.2.1
  refine l_ald ok hd hm.2.1 hi (by omega) (by omega) (by omega) ?_
  rw [lA_0]
  exact kk
theorem l_st0 {K : zK} {yn : MethodName} {cc : ByteArray} {nL : Nat} {ret : Option FieldType} {d mc ms : Nat} {B : zB} {Q : State → Prop} {pc : Nat} {L : List (Option Value)} {rest : List Value} {M : mM} {k n0 : Nat} {m n nv no : Nat} (c : Nat) {s : Nat → Int32} {i x : Int32} (ok : zOk K yn cc nL ret d mc ms B) (hd : decode cc pc = .ok (.iastore, 1)) (hm : lP M m s n nv no) (hi : i = nI (4 * c + 0)) (hc : c < n)
    (kk : ∀ M1 : mM, lP M1 m (pg s c 0 x) n nv no → zFr M M1 m 6 → zV nL B Q (pc + 1) L rest M1 k n0) : zV nL B Q pc L (.int x :: .int i :: .ref (m + 1) :: rest) M k n0 := by
  obtain ⟨fω, h1ω, h2ω⟩ := hm.2.1.arr
  have h9ω := hm.2.2.2.2.2.2.1
  exact z_ast ok hd h1ω hi (by omega) (by omega) (fun M1ω h3ω h4ω => kk M1ω (hm.set0 hc (fun f'ω h5ω => h1ω.upd2 h3ω h5ω) h4ω) (fun qω hqω => h4ω qω (by omega)))
theorem l_ld1 {K : zK} {yn : MethodName} {cc : ByteArray} {nL : Nat} {ret : Option FieldType} {d mc ms : Nat} {B : zB} {Q : State → Prop} {pc : Nat} {L : List (Option Value)} {rest : List Value} {M : mM} {k n0 : Nat} {m n nv no : Nat} (c : Nat) {s : Nat → Int32} {i : Int32} (ok : zOk K yn cc nL ret d mc ms B) (hd : decode cc pc = .ok (.iaload, 1)) (hm : lP M m s n nv no) (hi : i = nI (4 * c + 1)) (hc : c < n)
    (kk : zV nL B Q (pc + 1) L (.int (gd s c 1) :: rest) M k n0) : zV nL B Q pc L (.int i :: .ref (m + 1) :: rest) M k n0 := by
  have h9ω := hm.2.2.2.2.2.2.1
  refine l_ald ok hd hm.2.1 hi (by omega) (by omega) (by omega) ?_
  rw [lA_1]
  exact kk
theorem l_st1 {K : zK} {yn : MethodName} {cc : ByteArray} {nL : Nat} {ret : Option FieldType} {d mc ms : Nat} {B : zB} {Q : State → Prop} {pc : Nat} {L : List (Option Value)} {rest : List Value} {M : mM} {k n0 : Nat} {m n nv no : Nat} (c : Nat) {s : Nat → Int32} {i x : Int32} (ok : zOk K yn cc nL ret d mc ms B) (hd : decode cc pc = .ok (.iastore, 1)) (hm : lP M m s n nv no) (hi : i = nI (4 * c + 1)) (hc : c < n)
    (kk : ∀ M1 : mM, lP M1 m (pg s c 1 x) n nv no → zFr M M1 m 6 → zV nL B Q (pc + 1) L rest M1 k n0) : zV nL B Q pc L (.int x :: .int i :: .ref (m + 1) :: rest) M k n0 := by
  obtain ⟨fω, h1ω, h2ω⟩ := hm.2.1.arr
  have h9ω := hm.2.2.2.2.2.2.1
  exact z_ast ok hd h1ω hi (by omega) (by omega) (fun M1ω h3ω h4ω => kk M1ω (hm.set1 hc (fun f'ω h5ω => h1ω.upd2 h3ω h5ω) h4ω) (fun qω hqω => h4ω qω (by omega)))
theorem l_ld2 {K : zK} {yn : MethodName} {cc : ByteArray} {nL : Nat} {ret : Option FieldType} {d mc ms : Nat} {B : zB} {Q : State → Prop} {pc : Nat} {L : List (Option Value)} {rest : List Value} {M : mM} {k n0 : Nat} {m n nv no : Nat} (c : Nat) {s : Nat → Int32} {i : Int32} (ok : zOk K yn cc nL ret d mc ms B) (hd : decode cc pc = .ok (.iaload, 1)) (hm : lP M m s n nv no) (hi : i = nI (4 * c + 2)) (hc : c < n)
    (kk : zV nL B Q (pc + 1) L (.int (gd s c 2) :: rest) M k n0) : zV nL B Q pc L (.int i :: .ref (m + 1) :: rest) M k n0 := by
  have h9ω := hm.2.2.2.2.2.2.1
  refine l_ald ok hd hm.2.1 hi (by omega) (by omega) (by omega) ?_
  rw [lA_2]
  exact kk
theorem l_st2 {K : zK} {yn : MethodName} {cc : ByteArray} {nL : Nat} {ret : Option FieldType} {d mc ms : Nat} {B : zB} {Q : State → Prop} {pc : Nat} {L : List (Option Value)} {rest : List Value} {M : mM} {k n0 : Nat} {m n nv no : Nat} (c : Nat) {s : Nat → Int32} {i x : Int32} (ok : zOk K yn cc nL ret d mc ms B) (hd : decode cc pc = .ok (.iastore, 1)) (hm : lP M m s n nv no) (hi : i = nI (4 * c + 2)) (hc : c < n)
    (kk : ∀ M1 : mM, lP M1 m (pg s c 2 x) n nv no → zFr M M1 m 6 → zV nL B Q (pc + 1) L rest M1 k n0) : zV nL B Q pc L (.int x :: .int i :: .ref (m + 1) :: rest) M k n0 := by
  obtain ⟨fω, h1ω, h2ω⟩ := hm.2.1.arr
  have h9ω := hm.2.2.2.2.2.2.1
  exact z_ast ok hd h1ω hi (by omega) (by omega) (fun M1ω h3ω h4ω => kk M1ω (hm.set2 hc (fun f'ω h5ω => h1ω.upd2 h3ω h5ω) h4ω) (fun qω hqω => h4ω qω (by omega)))
theorem l_ld5 {K : zK} {yn : MethodName} {cc : ByteArray} {nL : Nat} {ret : Option FieldType} {d mc ms : Nat} {B : zB} {Q : State → Prop} {pc : Nat} {L : List (Option Value)} {rest : List Value} {M : mM} {k n0 : Nat} {m n nv no : Nat} (c : Nat) {s : Nat → Int32} {i : Int32} (ok : zOk K yn cc nL ret d mc ms B) (hd : decode cc pc = .ok (.iaload, 1)) (hm : lP M m s n nv no) (hi : i = nI (4 * c + 3)) (hc : c < n)
    (kk : zV nL B Q (pc + 1) L (.int (gd s c 5) :: rest) M k n0) : zV nL B Q pc L (.int i :: .ref (m + 1) :: rest) M k n0 := by
  have h9ω := hm.2.2.2.2.2.2.1
  refine l_ald ok hd hm.2.1 hi (by omega) (by omega) (by omega) ?_
  rw [lA_5]
  exact kk
theorem l_st5 {K : zK} {yn : MethodName} {cc : ByteArray} {nL : Nat} {ret : Option FieldType} {d mc ms : Nat} {B : zB} {Q : State → Prop} {pc : Nat} {L : List (Option Value)} {rest : List Value} {M : mM} {k n0 : Nat} {m n nv no : Nat} (c : Nat) {s : Nat → Int32} {i x : Int32} (ok : zOk K yn cc nL ret d mc ms B) (hd : decode cc pc = .ok (.iastore, 1)) (hm : lP M m s n nv no) (hi : i = nI (4 * c + 3)) (hc : c < n)
    (kk : ∀ M1 : mM, lP M1 m (pg s c 5 x) n nv no → zFr M M1 m 6 → zV nL B Q (pc + 1) L rest M1 k n0) : zV nL B Q pc L (.int x :: .int i :: .ref (m + 1) :: rest) M k n0 := by
  obtain ⟨fω, h1ω, h2ω⟩ := hm.2.1.arr
  have h9ω := hm.2.2.2.2.2.2.1
  exact z_ast ok hd h1ω hi (by omega) (by omega) (fun M1ω h3ω h4ω => kk M1ω (hm.set5 hc (fun f'ω h5ω => h1ω.upd2 h3ω h5ω) h4ω) (fun qω hqω => h4ω qω (by omega)))
theorem l_ld3 {K : zK} {yn : MethodName} {cc : ByteArray} {nL : Nat} {ret : Option FieldType} {d mc ms : Nat} {B : zB} {Q : State → Prop} {pc : Nat} {L : List (Option Value)} {rest : List Value} {M : mM} {k n0 : Nat} {m n nv no : Nat} (c : Nat) {s : Nat → Int32} {i : Int32} (ok : zOk K yn cc nL ret d mc ms B) (hd : decode cc pc = .ok (.iaload, 1)) (hm : lP M m s n nv no) (hi : i = nI (4 * c + 0)) (hc : c < n)
    (kk : zV nL B Q (pc + 1) L (.int (gd s c 3) :: rest) M k n0) : zV nL B Q pc L (.int i :: .ref (m + 2) :: rest) M k n0 := by
  have h9ω := hm.2.2.2.2.2.2.1
  refine l_ald ok hd hm.2.2.1 hi (by omega) (by omega) (by omega) ?_
  rw [lA_3]
  exact kk
theorem l_st3 {K : zK} {yn : MethodName} {cc : ByteArray} {nL : Nat} {ret : Option FieldType} {d mc ms : Nat} {B : zB} {Q : State → Prop} {pc : Nat} {L : List (Option Value)} {rest : List Value} {M : mM} {k n0 : Nat} {m n nv no : Nat} (c : Nat) {s : Nat → Int32} {i x : Int32} (ok : zOk K yn cc nL ret d mc ms B) (hd : decode cc pc = .ok (.iastore, 1)) (hm : lP M m s n nv no) (hi : i = nI (4 * c + 0)) (hc : c < n)
    (kk : ∀ M1 : mM, lP M1 m (pg s c 3 x) n nv no → zFr M M1 m 6 → zV nL B Q (pc + 1) L rest M1 k n0) : zV nL B Q pc L (.int x :: .int i :: .ref (m + 2) :: rest) M k n0 := by
  obtain ⟨fω, h1ω, h2ω⟩ := hm.2.2.1.arr
  have h9ω := hm.2.2.2.2.2.2.1
  exact z_ast ok hd h1ω hi (by omega) (by omega) (fun M1ω h3ω h4ω => kk M1ω (hm.set3 hc (fun f'ω h5ω => h1ω.upd2 h3ω h5ω) h4ω) (fun qω hqω => h4ω qω (by omega)))
theorem l_ld4 {K : zK} {yn : MethodName} {cc : ByteArray} {nL : Nat} {ret : Option FieldType} {d mc ms : Nat} {B : zB} {Q : State → Prop} {pc : Nat} {L : List (Option Value)} {rest : List Value} {M : mM} {k n0 : Nat} {m n nv no : Nat} (c : Nat) {s : Nat → Int32} {i : Int32} (ok : zOk K yn cc nL ret d mc ms B) (hd : decode cc pc = .ok (.iaload, 1)) (hm : lP M m s n nv no) (hi : i = nI (4 * c + 1)) (hc : c < n)
    (kk : zV nL B Q (pc + 1) L (.int (gd s c 4) :: rest) M k n0) : zV nL B Q pc L (.int i :: .ref (m + 2) :: rest) M k n0 := by
  have h9ω := hm.2.2.2.2.2.2.1
  refine l_ald ok hd hm.2.2.1 hi (by omega) (by omega) (by omega) ?_
  rw [lA_4]
  exact kk
theorem l_st4 {K : zK} {yn : MethodName} {cc : ByteArray} {nL : Nat} {ret : Option FieldType} {d mc ms : Nat} {B : zB} {Q : State → Prop} {pc : Nat} {L : List (Option Value)} {rest : List Value} {M : mM} {k n0 : Nat} {m n nv no : Nat} (c : Nat) {s : Nat → Int32} {i x : Int32} (ok : zOk K yn cc nL ret d mc ms B) (hd : decode cc pc = .ok (.iastore, 1)) (hm : lP M m s n nv no) (hi : i = nI (4 * c + 1)) (hc : c < n)
    (kk : ∀ M1 : mM, lP M1 m (pg s c 4 x) n nv no → zFr M M1 m 6 → zV nL B Q (pc + 1) L rest M1 k n0) : zV nL B Q pc L (.int x :: .int i :: .ref (m + 2) :: rest) M k n0 := by
  obtain ⟨fω, h1ω, h2ω⟩ := hm.2.2.1.arr
  have h9ω := hm.2.2.2.2.2.2.1
  exact z_ast ok hd h1ω hi (by omega) (by omega) (fun M1ω h3ω h4ω => kk M1ω (hm.set4 hc (fun f'ω h5ω => h1ω.upd2 h3ω h5ω) h4ω) (fun qω hqω => h4ω qω (by omega)))
theorem l_ld6 {K : zK} {yn : MethodName} {cc : ByteArray} {nL : Nat} {ret : Option FieldType} {d mc ms : Nat} {B : zB} {Q : State → Prop} {pc : Nat} {L : List (Option Value)} {rest : List Value} {M : mM} {k n0 : Nat} {m n nv no : Nat} (c : Nat) {s : Nat → Int32} {i : Int32} (ok : zOk K yn cc nL ret d mc ms B) (hd : decode cc pc = .ok (.iaload, 1)) (hm : lP M m s n nv no) (hi : i = nI (4 * c + 2)) (hc : c < n)
    (kk : zV nL B Q (pc + 1) L (.int (gd s c 6) :: rest) M k n0) : zV nL B Q pc L (.int i :: .ref (m + 2) :: rest) M k n0 := by
  have h9ω := hm.2.2.2.2.2.2.1
  refine l_ald ok hd hm.2.2.1 hi (by omega) (by omega) (by omega) ?_
  rw [lA_6]
  exact kk
theorem l_st6 {K : zK} {yn : MethodName} {cc : ByteArray} {nL : Nat} {ret : Option FieldType} {d mc ms : Nat} {B : zB} {Q : State → Prop} {pc : Nat} {L : List (Option Value)} {rest : List Value} {M : mM} {k n0 : Nat} {m n nv no : Nat} (c : Nat) {s : Nat → Int32} {i x : Int32} (ok : zOk K yn cc nL ret d mc ms B) (hd : decode cc pc = .ok (.iastore, 1)) (hm : lP M m s n nv no) (hi : i = nI (4 * c + 2)) (hc : c < n)
    (kk : ∀ M1 : mM, lP M1 m (pg s c 6 x) n nv no → zFr M M1 m 6 → zV nL B Q (pc + 1) L rest M1 k n0) : zV nL B Q pc L (.int x :: .int i :: .ref (m + 2) :: rest) M k n0 := by
  obtain ⟨fω, h1ω, h2ω⟩ := hm.2.2.1.arr
  have h9ω := hm.2.2.2.2.2.2.1
  exact z_ast ok hd h1ω hi (by omega) (by omega) (fun M1ω h3ω h4ω => kk M1ω (hm.set6 hc (fun f'ω h5ω => h1ω.upd2 h3ω h5ω) h4ω) (fun qω hqω => h4ω qω (by omega)))
theorem l_ld7 {K : zK} {yn : MethodName} {cc : ByteArray} {nL : Nat} {ret : Option FieldType} {d mc ms : Nat} {B : zB} {Q : State → Prop} {pc : Nat} {L : List (Option Value)} {rest : List Value} {M : mM} {k n0 : Nat} {m n nv no : Nat} (c : Nat) {s : Nat → Int32} {i : Int32} (ok : zOk K yn cc nL ret d mc ms B) (hd : decode cc pc = .ok (.iaload, 1)) (hm : lP M m s n nv no) (hi : i = nI (4 * c + 3)) (hc : c < n)
    (kk : zV nL B Q (pc + 1) L (.int (zEn (gd s c 7)) :: rest) M k n0) : zV nL B Q pc L (.int i :: .ref (m + 2) :: rest) M k n0 := by
  have h9ω := hm.2.2.2.2.2.2.1
  refine l_ald ok hd hm.2.2.1 hi (by omega) (by omega) (by omega) ?_
  rw [lA_7]
  exact kk
theorem l_st7 {K : zK} {yn : MethodName} {cc : ByteArray} {nL : Nat} {ret : Option FieldType} {d mc ms : Nat} {B : zB} {Q : State → Prop} {pc : Nat} {L : List (Option Value)} {rest : List Value} {M : mM} {k n0 : Nat} {m n nv no : Nat} (c : Nat) {s : Nat → Int32} {i y : Int32} (x : Int32) (ok : zOk K yn cc nL ret d mc ms B) (hd : decode cc pc = .ok (.iastore, 1)) (hm : lP M m s n nv no) (hi : i = nI (4 * c + 3)) (hc : c < n) (hx : y = zEn x)
    (kk : ∀ M1 : mM, lP M1 m (pg s c 7 x) n nv no → zFr M M1 m 6 → zV nL B Q (pc + 1) L rest M1 k n0) : zV nL B Q pc L (.int y :: .int i :: .ref (m + 2) :: rest) M k n0 := by
  obtain ⟨fω, h1ω, h2ω⟩ := hm.2.2.1.arr
  have h9ω := hm.2.2.2.2.2.2.1
  exact z_ast ok hd h1ω hi (by omega) (by omega) (fun M1ω h3ω h4ω => kk M1ω (hm.set7 hc hx (fun f'ω h5ω => h1ω.upd2 h3ω h5ω) h4ω) (fun qω hqω => h4ω qω (by omega)))
theorem l_ld8 {K : zK} {yn : MethodName} {cc : ByteArray} {nL : Nat} {ret : Option FieldType} {d mc ms : Nat} {B : zB} {Q : State → Prop} {pc : Nat} {L : List (Option Value)} {rest : List Value} {M : mM} {k n0 : Nat} {m n nv no : Nat} (c : Nat) {s : Nat → Int32} {i : Int32} (ok : zOk K yn cc nL ret d mc ms B) (hd : decode cc pc = .ok (.iaload, 1)) (hm : lP M m s n nv no) (hi : i = nI (4 * c + 0)) (hc : c < n)
    (kk : zV nL B Q (pc + 1) L (.int (zEn (gd s c 8)) :: rest) M k n0) : zV nL B Q pc L (.int i :: .ref (m + 3) :: rest) M k n0 := by
  have h9ω := hm.2.2.2.2.2.2.1
  refine l_ald ok hd hm.2.2.2.1 hi (by omega) (by omega) (by omega) ?_
  rw [lA_8]
  exact kk
theorem l_st8 {K : zK} {yn : MethodName} {cc : ByteArray} {nL : Nat} {ret : Option FieldType} {d mc ms : Nat} {B : zB} {Q : State → Prop} {pc : Nat} {L : List (Option Value)} {rest : List Value} {M : mM} {k n0 : Nat} {m n nv no : Nat} (c : Nat) {s : Nat → Int32} {i y : Int32} (x : Int32) (ok : zOk K yn cc nL ret d mc ms B) (hd : decode cc pc = .ok (.iastore, 1)) (hm : lP M m s n nv no) (hi : i = nI (4 * c + 0)) (hc : c < n) (hx : y = zEn x)
    (kk : ∀ M1 : mM, lP M1 m (pg s c 8 x) n nv no → zFr M M1 m 6 → zV nL B Q (pc + 1) L rest M1 k n0) : zV nL B Q pc L (.int y :: .int i :: .ref (m + 3) :: rest) M k n0 := by
  obtain ⟨fω, h1ω, h2ω⟩ := hm.2.2.2.1.arr
  have h9ω := hm.2.2.2.2.2.2.1
  exact z_ast ok hd h1ω hi (by omega) (by omega) (fun M1ω h3ω h4ω => kk M1ω (hm.set8 hc hx (fun f'ω h5ω => h1ω.upd2 h3ω h5ω) h4ω) (fun qω hqω => h4ω qω (by omega)))
theorem l_ld9 {K : zK} {yn : MethodName} {cc : ByteArray} {nL : Nat} {ret : Option FieldType} {d mc ms : Nat} {B : zB} {Q : State → Prop} {pc : Nat} {L : List (Option Value)} {rest : List Value} {M : mM} {k n0 : Nat} {m n nv no : Nat} (c : Nat) {s : Nat → Int32} {i : Int32} (ok : zOk K yn cc nL ret d mc ms B) (hd : decode cc pc = .ok (.iaload, 1)) (hm : lP M m s n nv no) (hi : i = nI (4 * c + 1)) (hc : c < n)
    (kk : zV nL B Q (pc + 1) L (.int (gd s c 9) :: rest) M k n0) : zV nL B Q pc L (.int i :: .ref (m + 3) :: rest) M k n0 := by
  have h9ω := hm.2.2.2.2.2.2.1
  refine l_ald ok hd hm.2.2.2.1 hi (by omega) (by omega) (by omega) ?_
  rw [lA_9]
  exact kk
theorem l_st9 {K : zK} {yn : MethodName} {cc : ByteArray} {nL : Nat} {ret : Option FieldType} {d mc ms : Nat} {B : zB} {Q : State → Prop} {pc : Nat} {L : List (Option Value)} {rest : List Value} {M : mM} {k n0 : Nat} {m n nv no : Nat} (c : Nat) {s : Nat → Int32} {i x : Int32} (ok : zOk K yn cc nL ret d mc ms B) (hd : decode cc pc = .ok (.iastore, 1)) (hm : lP M m s n nv no) (hi : i = nI (4 * c + 1)) (hc : c < n)
    (kk : ∀ M1 : mM, lP M1 m (pg s c 9 x) n nv no → zFr M M1 m 6 → zV nL B Q (pc + 1) L rest M1 k n0) : zV nL B Q pc L (.int x :: .int i :: .ref (m + 3) :: rest) M k n0 := by
  obtain ⟨fω, h1ω, h2ω⟩ := hm.2.2.2.1.arr
  have h9ω := hm.2.2.2.2.2.2.1
  exact z_ast ok hd h1ω hi (by omega) (by omega) (fun M1ω h3ω h4ω => kk M1ω (hm.set9 hc (fun f'ω h5ω => h1ω.upd2 h3ω h5ω) h4ω) (fun qω hqω => h4ω qω (by omega)))
theorem l_ld10 {K : zK} {yn : MethodName} {cc : ByteArray} {nL : Nat} {ret : Option FieldType} {d mc ms : Nat} {B : zB} {Q : State → Prop} {pc : Nat} {L : List (Option Value)} {rest : List Value} {M : mM} {k n0 : Nat} {m n nv no : Nat} (c : Nat) {s : Nat → Int32} {i : Int32} (ok : zOk K yn cc nL ret d mc ms B) (hd : decode cc pc = .ok (.iaload, 1)) (hm : lP M m s n nv no) (hi : i = nI (4 * c + 2)) (hc : c < n)
    (kk : zV nL B Q (pc + 1) L (.int (gd s c 10) :: rest) M k n0) : zV nL B Q pc L (.int i :: .ref (m + 3) :: rest) M k n0 := by
  have h9ω := hm.2.2.2.2.2.2.1
  refine l_ald ok hd hm.2.2.2.1 hi (by omega) (by omega) (by omega) ?_
  rw [lA_10]
  exact kk
theorem l_st10 {K : zK} {yn : MethodName} {cc : ByteArray} {nL : Nat} {ret : Option FieldType} {d mc ms : Nat} {B : zB} {Q : State → Prop} {pc : Nat} {L : List (Option Value)} {rest : List Value} {M : mM} {k n0 : Nat} {m n nv no : Nat} (c : Nat) {s : Nat → Int32} {i x : Int32} (ok : zOk K yn cc nL ret d mc ms B) (hd : decode cc pc = .ok (.iastore, 1)) (hm : lP M m s n nv no) (hi : i = nI (4 * c + 2)) (hc : c < n)
    (kk : ∀ M1 : mM, lP M1 m (pg s c 10 x) n nv no → zFr M M1 m 6 → zV nL B Q (pc + 1) L rest M1 k n0) : zV nL B Q pc L (.int x :: .int i :: .ref (m + 3) :: rest) M k n0 := by
  obtain ⟨fω, h1ω, h2ω⟩ := hm.2.2.2.1.arr
  have h9ω := hm.2.2.2.2.2.2.1
  exact z_ast ok hd h1ω hi (by omega) (by omega) (fun M1ω h3ω h4ω => kk M1ω (hm.set10 hc (fun f'ω h5ω => h1ω.upd2 h3ω h5ω) h4ω) (fun qω hqω => h4ω qω (by omega)))
theorem l_ld11 {K : zK} {yn : MethodName} {cc : ByteArray} {nL : Nat} {ret : Option FieldType} {d mc ms : Nat} {B : zB} {Q : State → Prop} {pc : Nat} {L : List (Option Value)} {rest : List Value} {M : mM} {k n0 : Nat} {m n nv no : Nat} (c : Nat) {s : Nat → Int32} {i : Int32} (ok : zOk K yn cc nL ret d mc ms B) (hd : decode cc pc = .ok (.iaload, 1)) (hm : lP M m s n nv no) (hi : i = nI (4 * c + 3)) (hc : c < n)
    (kk : zV nL B Q (pc + 1) L (.int (gd s c 11) :: rest) M k n0) : zV nL B Q pc L (.int i :: .ref (m + 3) :: rest) M k n0 := by
  have h9ω := hm.2.2.2.2.2.2.1
  refine l_ald ok hd hm.2.2.2.1 hi (by omega) (by omega) (by omega) ?_
  rw [lA_11]
  exact kk
theorem l_st11 {K : zK} {yn : MethodName} {cc : ByteArray} {nL : Nat} {ret : Option FieldType} {d mc ms : Nat} {B : zB} {Q : State → Prop} {pc : Nat} {L : List (Option Value)} {rest : List Value} {M : mM} {k n0 : Nat} {m n nv no : Nat} (c : Nat) {s : Nat → Int32} {i x : Int32} (ok : zOk K yn cc nL ret d mc ms B) (hd : decode cc pc = .ok (.iastore, 1)) (hm : lP M m s n nv no) (hi : i = nI (4 * c + 3)) (hc : c < n)
    (kk : ∀ M1 : mM, lP M1 m (pg s c 11 x) n nv no → zFr M M1 m 6 → zV nL B Q (pc + 1) L rest M1 k n0) : zV nL B Q pc L (.int x :: .int i :: .ref (m + 3) :: rest) M k n0 := by
  obtain ⟨fω, h1ω, h2ω⟩ := hm.2.2.2.1.arr
  have h9ω := hm.2.2.2.2.2.2.1
  exact z_ast ok hd h1ω hi (by omega) (by omega) (fun M1ω h3ω h4ω => kk M1ω (hm.set11 hc (fun f'ω h5ω => h1ω.upd2 h3ω h5ω) h4ω) (fun qω hqω => h4ω qω (by omega)))
theorem lx4_0 (c : Nat) : (4 : Int32) * nI c = nI (4 * c + 0) := by rw [show (4 : Int32) = nI 4 from rfl, pk_mul]; rfl
theorem lx4_1 (c : Nat) : (4 : Int32) * nI c + 1 = nI (4 * c + 1) := by rw [show (4 : Int32) = nI 4 from rfl, pk_mul, show (1 : Int32) = nI 1 from rfl, nI_add]
theorem lx4_2 (c : Nat) : (4 : Int32) * nI c + 2 = nI (4 * c + 2) := by rw [show (4 : Int32) = nI 4 from rfl, pk_mul, show (2 : Int32) = nI 2 from rfl, nI_add]
theorem lx4_3 (c : Nat) : (4 : Int32) * nI c + 3 = nI (4 * c + 3) := by rw [show (4 : Int32) = nI 4 from rfl, pk_mul, show (3 : Int32) = nI 3 from rfl, nI_add]
theorem lx5_0 (c : Nat) : (5 : Int32) * nI c = nI (5 * c + 0) := by rw [show (5 : Int32) = nI 5 from rfl, pk_mul]; rfl
theorem lx5_1 (c : Nat) : (5 : Int32) * nI c + 1 = nI (5 * c + 1) := by rw [show (5 : Int32) = nI 5 from rfl, pk_mul, show (1 : Int32) = nI 1 from rfl, nI_add]
theorem lx5_2 (c : Nat) : (5 : Int32) * nI c + 2 = nI (5 * c + 2) := by rw [show (5 : Int32) = nI 5 from rfl, pk_mul, show (2 : Int32) = nI 2 from rfl, nI_add]
theorem lx5_3 (c : Nat) : (5 : Int32) * nI c + 3 = nI (5 * c + 3) := by rw [show (5 : Int32) = nI 5 from rfl, pk_mul, show (3 : Int32) = nI 3 from rfl, nI_add]
theorem lx5_4 (c : Nat) : (5 : Int32) * nI c + 4 = nI (5 * c + 4) := by rw [show (5 : Int32) = nI 5 from rfl, pk_mul, show (4 : Int32) = nI 4 from rfl, nI_add]
theorem lx8_0 (c : Nat) : (8 : Int32) * nI c = nI (8 * c + 0) := by rw [show (8 : Int32) = nI 8 from rfl, pk_mul]; rfl
theorem lx8_1 (c : Nat) : (8 : Int32) * nI c + 1 = nI (8 * c + 1) := by rw [show (8 : Int32) = nI 8 from rfl, pk_mul, show (1 : Int32) = nI 1 from rfl, nI_add]
theorem lx8_2 (c : Nat) : (8 : Int32) * nI c + 2 = nI (8 * c + 2) := by rw [show (8 : Int32) = nI 8 from rfl, pk_mul, show (2 : Int32) = nI 2 from rfl, nI_add]
theorem lx8_3 (c : Nat) : (8 : Int32) * nI c + 3 = nI (8 * c + 3) := by rw [show (8 : Int32) = nI 8 from rfl, pk_mul, show (3 : Int32) = nI 3 from rfl, nI_add]
theorem lx8_4 (c : Nat) : (8 : Int32) * nI c + 4 = nI (8 * c + 4) := by rw [show (8 : Int32) = nI 8 from rfl, pk_mul, show (4 : Int32) = nI 4 from rfl, nI_add]
theorem lx8_5 (c : Nat) : (8 : Int32) * nI c + 5 = nI (8 * c + 5) := by rw [show (8 : Int32) = nI 8 from rfl, pk_mul, show (5 : Int32) = nI 5 from rfl, nI_add]
theorem lx8_6 (c : Nat) : (8 : Int32) * nI c + 6 = nI (8 * c + 6) := by rw [show (8 : Int32) = nI 8 from rfl, pk_mul, show (6 : Int32) = nI 6 from rfl, nI_add]
theorem lx8_7 (c : Nat) : (8 : Int32) * nI c + 7 = nI (8 * c + 7) := by rw [show (8 : Int32) = nI 8 from rfl, pk_mul, show (7 : Int32) = nI 7 from rfl, nI_add]
