/-! what every state keeps (pure) -/
def zG (g : Nat → Int32) : Prop := (1 ≤ g 0 ∧ g 0 ≤ 4) ∧ 1 ≤ g 1 ∧ (0 ≤ g 3 ∧ g 3 ≤ g 4 ∧ g 4 ≤ 9999) ∧ 0 ≤ g 5 ∧ (0 ≤ g 6 ∧ g 6 ≤ 5) ∧ (g 7 = -1000004 ∨ ∃ v, v < 4 ∧ g 7 = nI v) ∧ (g 8 = -1000004 ∨ 0 ≤ g 8)
def zVv (g : Nat → Int32) : Prop := (1 ≤ g 0 ∧ g 0 ≤ 200) ∧ (1 ≤ g 1 ∧ g 1 ≤ 200) ∧ (0 ≤ g 2 ∧ g 2 ≤ 2) ∧ (¬ g 2 = 0 → 1 ≤ g 3 ∧ g 3 ≤ 4) ∧ (¬ g 2 = 2 → g 6 = 0)
def zCt1 (s : Nat → Int32) (k c : Nat) : Int := if gd s c 6 = 5 then 0 else (gd s c k).toInt
def zTot (s : Nat → Int32) (k : Nat) : Nat → Int
  | 0 => 0
  | n + 1 => zTot s k n + zCt1 s k n
def zK3 (s : Nat → Int32) (x : Int32) (n : Nat) : Int32 := zSum (fun c => if gd s c 6 = x then 1 else 0) n
def zWF (s : Nat → Int32) (n nv no : Nat) : Prop := (zN s n nv no) ∧ (1 ≤ s 0 ∧ s 0 ≤ 24) ∧ (0 ≤ s 1 ∧ s 1 ≤ 99) ∧ (0 ≤ s 2 ∧ s 2 ≤ 20) ∧ (0 ≤ s 5 ∧ s 5 ≤ 9000) ∧ (∀ i, i < n → zG (gd s i)) ∧ (zTot s 1 n ≤ 99 * (n : Int)) ∧ (zTot s 5 n ≤ 999 * (n : Int)) ∧ (∀ u, u < nv → zVv (vd s u)) ∧ (∀ i, i < n → (gd s i 6 = 1 ∨ gd s i 6 = 2) → ∃ u, u < nv ∧ gd s i 7 = nI u ∧ (gd s i 6 = 1 → vd s u 2 = 0)) ∧ (∀ u, u < nv → zSm s n u) ∧ (∀ u, u < nv → ¬ vd s u 2 = 0 → ∀ i, i < n → zInV s i (nI u) → gd s i 0 = vd s u 3) ∧ (∀ o, o < no → 0 ≤ od s o 3) ∧ (s 7 = zK3 s 3 n) ∧ (s 8 = zK3 s 4 n)
theorem zWF.N {s : Nat → Int32} {n nv no : Nat} (h : zWF s n nv no) : zN s n nv no := h.1
theorem zWF.s0 {s : Nat → Int32} {n nv no : Nat} (h : zWF s n nv no) : 1 ≤ s 0 ∧ s 0 ≤ 24 := h.2.1
theorem zWF.s1 {s : Nat → Int32} {n nv no : Nat} (h : zWF s n nv no) : 0 ≤ s 1 ∧ s 1 ≤ 99 := h.2.2.1
theorem zWF.s2 {s : Nat → Int32} {n nv no : Nat} (h : zWF s n nv no) : 0 ≤ s 2 ∧ s 2 ≤ 20 := h.2.2.2.1
theorem zWF.tm {s : Nat → Int32} {n nv no : Nat} (h : zWF s n nv no) : 0 ≤ s 5 ∧ s 5 ≤ 9000 := h.2.2.2.2.1
theorem zWF.g {s : Nat → Int32} {n nv no : Nat} (h : zWF s n nv no) : ∀ i, i < n → zG (gd s i) := h.2.2.2.2.2.1
theorem zWF.sz {s : Nat → Int32} {n nv no : Nat} (h : zWF s n nv no) : zTot s 1 n ≤ 99 * (n : Int) := h.2.2.2.2.2.2.1
theorem zWF.wo {s : Nat → Int32} {n nv no : Nat} (h : zWF s n nv no) : zTot s 5 n ≤ 999 * (n : Int) := h.2.2.2.2.2.2.2.1
theorem zWF.v {s : Nat → Int32} {n nv no : Nat} (h : zWF s n nv no) : ∀ u, u < nv → zVv (vd s u) := h.2.2.2.2.2.2.2.2.1
theorem zWF.ld {s : Nat → Int32} {n nv no : Nat} (h : zWF s n nv no) : ∀ i, i < n → (gd s i 6 = 1 ∨ gd s i 6 = 2) → ∃ u, u < nv ∧ gd s i 7 = nI u ∧ (gd s i 6 = 1 → vd s u 2 = 0) := h.2.2.2.2.2.2.2.2.2.1
theorem zWF.sm {s : Nat → Int32} {n nv no : Nat} (h : zWF s n nv no) : ∀ u, u < nv → zSm s n u := h.2.2.2.2.2.2.2.2.2.2.1
theorem zWF.aw {s : Nat → Int32} {n nv no : Nat} (h : zWF s n nv no) : ∀ u, u < nv → ¬ vd s u 2 = 0 → ∀ i, i < n → zInV s i (nI u) → gd s i 0 = vd s u 3 := h.2.2.2.2.2.2.2.2.2.2.2.1
theorem zWF.of {s : Nat → Int32} {n nv no : Nat} (h : zWF s n nv no) : ∀ o, o < no → 0 ≤ od s o 3 := h.2.2.2.2.2.2.2.2.2.2.2.2.1
theorem zWF.c3 {s : Nat → Int32} {n nv no : Nat} (h : zWF s n nv no) : s 7 = zK3 s 3 n := h.2.2.2.2.2.2.2.2.2.2.2.2.2.1
theorem zWF.c4 {s : Nat → Int32} {n nv no : Nat} (h : zWF s n nv no) : s 8 = zK3 s 4 n := h.2.2.2.2.2.2.2.2.2.2.2.2.2.2
theorem zWF.mk {s : Nat → Int32} {n nv no : Nat} (N : zN s n nv no) (s0 : 1 ≤ s 0 ∧ s 0 ≤ 24) (s1 : 0 ≤ s 1 ∧ s 1 ≤ 99) (s2 : 0 ≤ s 2 ∧ s 2 ≤ 20) (tm : 0 ≤ s 5 ∧ s 5 ≤ 9000) (g : ∀ i, i < n → zG (gd s i)) (sz : zTot s 1 n ≤ 99 * (n : Int)) (wo : zTot s 5 n ≤ 999 * (n : Int)) (v : ∀ u, u < nv → zVv (vd s u)) (ld : ∀ i, i < n → (gd s i 6 = 1 ∨ gd s i 6 = 2) → ∃ u, u < nv ∧ gd s i 7 = nI u ∧ (gd s i 6 = 1 → vd s u 2 = 0)) (sm : ∀ u, u < nv → zSm s n u) (aw : ∀ u, u < nv → ¬ vd s u 2 = 0 → ∀ i, i < n → zInV s i (nI u) → gd s i 0 = vd s u 3) (of : ∀ o, o < no → 0 ≤ od s o 3) (c3 : s 7 = zK3 s 3 n) (c4 : s 8 = zK3 s 4 n) : zWF s n nv no := ⟨N, s0, s1, s2, tm, g, sz, wo, v, ld, sm, aw, of, c3, c4⟩
theorem zG_cong {f g : Nat → Int32} (h : zG f) (e : ∀ k, k < 12 → g k = f k) : zG g := by
  unfold zG
  rw [e 0 (by decide), e 1 (by decide), e 3 (by decide), e 4 (by decide), e 5 (by decide), e 6 (by decide), e 7 (by decide), e 8 (by decide)]
  exact h
theorem zVv_cong {f g : Nat → Int32} (h : zVv f) (e : ∀ k, k < 8 → g k = f k) : zVv g := by
  unfold zVv
  rw [e 0 (by decide), e 1 (by decide), e 2 (by decide), e 3 (by decide), e 6 (by decide)]
  exact h
theorem zCt1_cong {s s' : Nat → Int32} {k c : Nat} (h6 : gd s' c 6 = gd s c 6) (hk : gd s' c k = gd s c k) : zCt1 s' k c = zCt1 s k c := by
  unfold zCt1
  rw [h6, hk]
theorem zTot_cong {s s' : Nat → Int32} {k : Nat} : ∀ n, (∀ c, c < n → zCt1 s' k c = zCt1 s k c) → zTot s' k n = zTot s k n
  | 0, _ => rfl
  | n + 1, h => by rw [zTot, zTot, zTot_cong n (fun c hc => h c (by omega)), h n (by omega)]
theorem zTot_upd {s s' : Nat → Int32} {k c : Nat} : ∀ n, c < n → (∀ j, j < n → j ≠ c → zCt1 s' k j = zCt1 s k j) → zTot s' k n = zTot s k n - zCt1 s k c + zCt1 s' k c
  | 0, h, _ => absurd h (by omega)
  | n + 1, h, he => by
    rw [zTot, zTot]
    by_cases hc : c = n
    · rw [hc, zTot_cong n (fun j hj => he j (by omega) (by omega))]
      omega
    · rw [zTot_upd n (by omega) (fun j hj hjc => he j (by omega) hjc), he n (by omega) (by omega)]
      omega
theorem zK3_cong {s s' : Nat → Int32} {x : Int32} : ∀ n, (∀ c, c < n → (gd s' c 6 = x ↔ gd s c 6 = x)) → zK3 s' x n = zK3 s x n
  | 0, _ => rfl
  | n + 1, h => by
    have h1 := zK3_cong n (fun c hc => h c (by omega))
    unfold zK3 at h1 ⊢
    rw [zSum, zSum, h1]
    simp only [h n (by omega)]
theorem zK3_add {s s' : Nat → Int32} {x : Int32} {c : Nat} : ∀ n, c < n → (∀ j, j < n → j ≠ c → (gd s' j 6 = x ↔ gd s j 6 = x)) → gd s' c 6 = x → ¬ gd s c 6 = x → zK3 s' x n = zK3 s x n + 1
  | 0, h, _, _, _ => absurd h (by omega)
  | n + 1, h, he, h1, h2 => by
    by_cases hc : c = n
    · have h3 := zK3_cong (x := x) n (fun j hj => he j (by omega) (by omega))
      unfold zK3 at h3 ⊢
      rw [zSum, zSum, h3, ← hc, if_pos h1, if_neg h2, Int32.add_zero]
    · have h3 := zK3_add n (by omega) (fun j hj hjc => he j (by omega) hjc) h1 h2
      unfold zK3 at h3 ⊢
      rw [zSum, zSum, h3]
      simp only [he n (by omega) (by omega)]
      rw [Int32.add_assoc, Int32.add_assoc, Int32.add_comm 1]
theorem zInV_cong {s s' : Nat → Int32} {i : Nat} {x : Int32} (h6 : gd s' i 6 = gd s i 6) (h7 : gd s' i 7 = gd s i 7) : zInV s' i x ↔ zInV s i x := by
  unfold zInV
  rw [h6, h7]
/-- goods and vehicles as they were -/
theorem zWF.scal {s s' : Nat → Int32} {n nv no no' : Nat} (h : zWF s n nv no) (N : zN s' n nv no') (s0 : 1 ≤ s' 0 ∧ s' 0 ≤ 24) (s1 : 0 ≤ s' 1 ∧ s' 1 ≤ 99) (s2 : 0 ≤ s' 2 ∧ s' 2 ≤ 20) (tm : 0 ≤ s' 5 ∧ s' 5 ≤ 9000) (e7 : s' 7 = s 7) (e8 : s' 8 = s 8) (hg : ∀ i, i < n → ∀ k, k < 12 → gd s' i k = gd s i k) (hv : ∀ u, u < nv → ∀ k, k < 8 → vd s' u k = vd s u k) (of : ∀ o, o < no' → 0 ≤ od s' o 3) : zWF s' n nv no' := by
  refine zWF.mk (N := N) (s0 := s0) (s1 := s1) (s2 := s2) (tm := tm) (g := fun i hi => zG_cong (h.g i hi) (hg i hi)) (sz := by rw [zTot_cong n (fun c hc => zCt1_cong (hg c hc 6 (by decide)) (hg c hc 1 (by decide)))]; exact h.sz) (wo := by rw [zTot_cong n (fun c hc => zCt1_cong (hg c hc 6 (by decide)) (hg c hc 5 (by decide)))]; exact h.wo) (v := fun u hu => zVv_cong (h.v u hu) (hv u hu)) (ld := ?_) (sm := ?_) (aw := ?_) (of := of) (c3 := by rw [e7, zK3_cong (s := s) n (fun c hc => by rw [hg c hc 6 (by decide)])]; exact h.c3) (c4 := by rw [e8, zK3_cong (s := s) n (fun c hc => by rw [hg c hc 6 (by decide)])]; exact h.c4)
  · intro i hi hs
    rw [hg i hi 6 (by decide)] at hs ⊢
    obtain ⟨u, hu, h7, h2⟩ := h.ld i hi hs
    exact ⟨u, hu, (hg i hi 7 (by decide)).trans h7, fun z => (hv u hu 2 (by decide)).trans (h2 z)⟩
  · intro u hu c hc c' hc' h1 h2
    rw [hg c hc 0 (by decide), hg c' hc' 0 (by decide)]
    exact h.sm u hu c hc c' hc' ((zInV_cong (hg c hc 6 (by decide)) (hg c hc 7 (by decide))).mp h1) ((zInV_cong (hg c' hc' 6 (by decide)) (hg c' hc' 7 (by decide))).mp h2)
  · intro u hu h2 i hi h1
    rw [hv u hu 2 (by decide)] at h2
    rw [hg i hi 0 (by decide), hv u hu 3 (by decide)]
    exact h.aw u hu h2 i hi ((zInV_cong (hg i hi 6 (by decide)) (hg i hi 7 (by decide))).mp h1)
/-- a vehicle changes -/
theorem zWF.veh {s s' : Nat → Int32} {n nv no u : Nat} (h : zWF s n nv no) (hu : u < nv) (hs : ∀ q, (q < 10 ∨ 13 ≤ q) → (q < 205 + 8 * u ∨ 205 + 8 * u + 8 ≤ q) → s' q = s q) (hV : zVv (vd s' u)) (hl : ∀ i, i < n → gd s i 6 = 1 → gd s i 7 = nI u → vd s' u 2 = 0) (ha : ¬ vd s' u 2 = 0 → ∀ i, i < n → zInV s i (nI u) → gd s i 0 = vd s' u 3) : zWF s' n nv no := by
  have hn := h.N.2.1
  have hnv := h.N.2.2.2.1
  have hg : ∀ i, i < n → ∀ k, k < 12 → gd s' i k = gd s i k := fun i hi k hk => hs _ (by omega) (by omega)
  have hv : ∀ j, j < nv → j ≠ u → ∀ k, k < 8 → vd s' j k = vd s j k := fun j hj hju k hk => hs _ (by omega) (by omega)
  have lo : ∀ q, q < 10 → s' q = s q := fun q hq => hs q (by omega) (by omega)
  have hiv : ∀ i, i < n → ∀ x, zInV s' i x ↔ zInV s i x := fun i hi x => zInV_cong (hg i hi 6 (by decide)) (hg i hi 7 (by decide))
  refine zWF.mk (N := zN_cong h.N (lo _ (by decide)) (lo _ (by decide)) (lo _ (by decide))) (s0 := by rw [lo _ (by decide)]; exact h.s0) (s1 := by rw [lo _ (by decide)]; exact h.s1) (s2 := by rw [lo _ (by decide)]; exact h.s2) (tm := by rw [lo _ (by decide)]; exact h.tm) (g := fun i hi => zG_cong (h.g i hi) (hg i hi)) (sz := ?_) (wo := ?_) (v := fun j hj => ?_) (ld := fun i hi hs6 => ?_) (sm := fun j hj c hc c' hc' h1 h2 => ?_) (aw := fun j hj h2 i hi h1 => ?_) (of := fun o ho => ?_) (c3 := ?_) (c4 := ?_)
  · rw [zTot_cong n (fun c hc => zCt1_cong (hg c hc 6 (by decide)) (hg c hc 1 (by decide)))]
    exact h.sz
  · rw [zTot_cong n (fun c hc => zCt1_cong (hg c hc 6 (by decide)) (hg c hc 5 (by decide)))]
    exact h.wo
  · by_cases hju : j = u
    · rw [hju]; exact hV
    · exact zVv_cong (h.v j hj) (hv j hj hju)
  · rw [hg i hi 6 (by decide)] at hs6 ⊢
    obtain ⟨j, hj, h7, h2⟩ := h.ld i hi hs6
    refine ⟨j, hj, (hg i hi 7 (by decide)).trans h7, fun z => ?_⟩
    by_cases hju : j = u
    · rw [hju] at h7 ⊢
      exact hl i hi z h7
    · exact (hv j hj hju 2 (by decide)).trans (h2 z)
  · rw [hg c hc 0 (by decide), hg c' hc' 0 (by decide)]
    exact h.sm j hj c hc c' hc' ((hiv c hc _).mp h1) ((hiv c' hc' _).mp h2)
  · rw [hg i hi 0 (by decide)]
    by_cases hju : j = u
    · rw [hju] at h2 h1 ⊢
      exact ha h2 i hi ((hiv i hi _).mp h1)
    · rw [hv j hj hju 2 (by decide)] at h2
      rw [hv j hj hju 3 (by decide)]
      exact h.aw j hj h2 i hi ((hiv i hi _).mp h1)
  · rw [show od s' o 3 = od s o 3 from hs _ (by omega) (by omega)]
    exact h.of o ho
  · rw [lo _ (by decide), zK3_cong (s := s) n (fun c hc => by rw [hg c hc 6 (by decide)])]; exact h.c3
  · rw [lo _ (by decide), zK3_cong (s := s) n (fun c hc => by rw [hg c hc 6 (by decide)])]; exact h.c4
/-- a consignment changes -/
theorem zWF.good {s s' : Nat → Int32} {n nv no c : Nat} (h : zWF s n nv no) (hc : c < n) (hs : ∀ q, (q < 7 ∨ 13 ≤ q) → (q < 13 + 12 * c ∨ 13 + 12 * c + 12 ≤ q) → s' q = s q) (hG : zG (gd s' c)) (hsz : zTot s' 1 n ≤ 99 * (n : Int)) (hwo : zTot s' 5 n ≤ 999 * (n : Int)) (hl : (gd s' c 6 = 1 ∨ gd s' c 6 = 2) → ∃ u, u < nv ∧ gd s' c 7 = nI u ∧ (gd s' c 6 = 1 → vd s u 2 = 0)) (hm : ∀ u, u < nv → zInV s' c (nI u) → (∀ j, j < n → j ≠ c → zInV s j (nI u) → gd s' c 0 = gd s j 0) ∧ (¬ vd s u 2 = 0 → gd s' c 0 = vd s u 3)) (c3 : s' 7 = zK3 s' 3 n) (c4 : s' 8 = zK3 s' 4 n) : zWF s' n nv no := by
  have hn := h.N.2.1
  have hnv := h.N.2.2.2.1
  have hg : ∀ i, i < n → i ≠ c → ∀ k, k < 12 → gd s' i k = gd s i k := fun i hi hic k hk => hs _ (by omega) (by omega)
  have hv : ∀ j, j < nv → ∀ k, k < 8 → vd s' j k = vd s j k := fun j hj k hk => hs _ (by omega) (by omega)
  have lo : ∀ q, q < 7 → s' q = s q := fun q hq => hs q (by omega) (by omega)
  have hiv : ∀ i, i < n → i ≠ c → ∀ x, zInV s' i x ↔ zInV s i x := fun i hi hic x => zInV_cong (hg i hi hic 6 (by decide)) (hg i hi hic 7 (by decide))
  refine zWF.mk (N := zN_cong h.N (lo _ (by decide)) (lo _ (by decide)) (lo _ (by decide))) (s0 := by rw [lo _ (by decide)]; exact h.s0) (s1 := by rw [lo _ (by decide)]; exact h.s1) (s2 := by rw [lo _ (by decide)]; exact h.s2) (tm := by rw [lo _ (by decide)]; exact h.tm) (g := fun i hi => ?_) (sz := hsz) (wo := hwo) (v := fun j hj => zVv_cong (h.v j hj) (hv j hj)) (ld := fun i hi hs6 => ?_) (sm := fun u hu a ha a' ha' h1 h2 => ?_) (aw := fun u hu h2 i hi h1 => ?_) (of := fun o ho => ?_) (c3 := c3) (c4 := c4)
  · by_cases hic : i = c
    · rw [hic]; exact hG
    · exact zG_cong (h.g i hi) (hg i hi hic)
  · by_cases hic : i = c
    · rw [hic] at hs6 ⊢
      obtain ⟨u, hu, h7, h2⟩ := hl hs6
      exact ⟨u, hu, h7, fun z => (hv u hu 2 (by decide)).trans (h2 z)⟩
    · rw [hg i hi hic 6 (by decide)] at hs6 ⊢
      obtain ⟨u, hu, h7, h2⟩ := h.ld i hi hs6
      exact ⟨u, hu, (hg i hi hic 7 (by decide)).trans h7, fun z => (hv u hu 2 (by decide)).trans (h2 z)⟩
  · by_cases hac : a = c
    · by_cases hac' : a' = c
      · rw [hac, hac']
      · rw [hac] at h1 ⊢
        rw [hg a' ha' hac' 0 (by decide)]
        exact (hm u hu h1).1 a' ha' hac' ((hiv a' ha' hac' _).mp h2)
    · by_cases hac' : a' = c
      · rw [hac'] at h2 ⊢
        rw [hg a ha hac 0 (by decide)]
        exact ((hm u hu h2).1 a ha hac ((hiv a ha hac _).mp h1)).symm
      · rw [hg a ha hac 0 (by decide), hg a' ha' hac' 0 (by decide)]
        exact h.sm u hu a ha a' ha' ((hiv a ha hac _).mp h1) ((hiv a' ha' hac' _).mp h2)
  · rw [hv u hu 2 (by decide)] at h2
    rw [hv u hu 3 (by decide)]
    by_cases hic : i = c
    · rw [hic] at h1 ⊢
      exact (hm u hu h1).2 h2
    · rw [hg i hi hic 0 (by decide)]
      exact h.aw u hu h2 i hi ((hiv i hi hic _).mp h1)
  · rw [show od s' o 3 = od s o 3 from hs _ (by omega) (by omega)]
    exact h.of o ho
/-- a consignment more -/
theorem zWF.addG {s s' : Nat → Int32} {n nv no : Nat} (h : zWF s n nv no) (hn16 : n < 16) (h3 : s' 3 = nI (n + 1)) (hs : ∀ q, q ≠ 3 → (q < 13 + 12 * n ∨ 13 + 12 * n + 12 ≤ q) → s' q = s q) (hG : zG (gd s' n)) (hsz : zCt1 s' 1 n ≤ 99 * (n + 1 : Int) - zTot s 1 n) (hwo : zCt1 s' 5 n ≤ 999 * (n + 1 : Int) - zTot s 5 n) (h0 : gd s' n 6 = 0) : zWF s' (n + 1) nv no := by
  have hnv := h.N.2.2.2.1
  have hg : ∀ i, i < n → ∀ k, k < 12 → gd s' i k = gd s i k := fun i hi k hk => hs _ (by omega) (by omega)
  have hv : ∀ j, j < nv → ∀ k, k < 8 → vd s' j k = vd s j k := fun j hj k hk => hs _ (by omega) (by omega)
  have lo : ∀ q, q < 13 → q ≠ 3 → s' q = s q := fun q hq hq3 => hs q hq3 (by omega)
  have hiv : ∀ i, i < n → ∀ x, zInV s' i x ↔ zInV s i x := fun i hi x => zInV_cong (hg i hi 6 (by decide)) (hg i hi 7 (by decide))
  have hni : ∀ x, ¬ zInV s' n x := fun x z => by
    have h9 := z.2.1.1
    rw [h0] at h9
    exact absurd h9 (by decide)
  have hlt : ∀ i, i < n + 1 → i = n ∨ i < n := fun i hi => by omega
  refine zWF.mk (N := ⟨h3, by omega, (lo _ (by decide) (by decide)).trans h.N.2.2.1, hnv, (lo _ (by decide) (by decide)).trans h.N.2.2.2.2.1, h.N.2.2.2.2.2⟩) (s0 := by rw [lo _ (by decide) (by decide)]; exact h.s0) (s1 := by rw [lo _ (by decide) (by decide)]; exact h.s1) (s2 := by rw [lo _ (by decide) (by decide)]; exact h.s2) (tm := by rw [lo _ (by decide) (by decide)]; exact h.tm) (g := fun i hi => ?_) (sz := ?_) (wo := ?_) (v := fun j hj => zVv_cong (h.v j hj) (hv j hj)) (ld := fun i hi hs6 => ?_) (sm := fun u hu a ha a' ha' h1 h2 => ?_) (aw := fun u hu h2 i hi h1 => ?_) (of := fun o ho => ?_) (c3 := ?_) (c4 := ?_)
  · rcases hlt i hi with hin | hin
    · rw [hin]; exact hG
    · exact zG_cong (h.g i hin) (hg i hin)
  · rw [zTot, zTot_cong n (fun c hc => zCt1_cong (hg c hc 6 (by decide)) (hg c hc 1 (by decide)))]
    omega
  · rw [zTot, zTot_cong n (fun c hc => zCt1_cong (hg c hc 6 (by decide)) (hg c hc 5 (by decide)))]
    omega
  · rcases hlt i hi with hin | hin
    · rw [hin, h0] at hs6
      exact absurd hs6 (by decide)
    · rw [hg i hin 6 (by decide)] at hs6 ⊢
      obtain ⟨u, hu, h7, h2⟩ := h.ld i hin hs6
      exact ⟨u, hu, (hg i hin 7 (by decide)).trans h7, fun z => (hv u hu 2 (by decide)).trans (h2 z)⟩
  · rcases hlt a ha with hin | hin
    · rw [hin] at h1
      exact absurd h1 (hni _)
    · rcases hlt a' ha' with hin' | hin'
      · rw [hin'] at h2
        exact absurd h2 (hni _)
      · rw [hg a hin 0 (by decide), hg a' hin' 0 (by decide)]
        exact h.sm u hu a hin a' hin' ((hiv a hin _).mp h1) ((hiv a' hin' _).mp h2)
  · rw [hv u hu 2 (by decide)] at h2
    rw [hv u hu 3 (by decide)]
    rcases hlt i hi with hin | hin
    · rw [hin] at h1
      exact absurd h1 (hni _)
    · rw [hg i hin 0 (by decide)]
      exact h.aw u hu h2 i hin ((hiv i hin _).mp h1)
  · rw [show od s' o 3 = od s o 3 from hs _ (by omega) (by omega)]
    exact h.of o ho
  · rw [lo _ (by decide) (by decide), h.c3]
    have h9 := zK3_cong (s := s) (s' := s') (x := 3) n (fun c hc => by rw [hg c hc 6 (by decide)])
    unfold zK3 at h9 ⊢
    rw [zSum, h9, h0, if_neg (by decide), Int32.add_zero]
  · rw [lo _ (by decide) (by decide), h.c4]
    have h9 := zK3_cong (s := s) (s' := s') (x := 4) n (fun c hc => by rw [hg c hc 6 (by decide)])
    unfold zK3 at h9 ⊢
    rw [zSum, h9, h0, if_neg (by decide), Int32.add_zero]
/-- a vehicle more -/
theorem zWF.addV {s s' : Nat → Int32} {n nv no : Nat} (h : zWF s n nv no) (hnv : nv < 4) (h4 : s' 4 = nI (nv + 1)) (hs : ∀ q, q ≠ 4 → (q < 205 + 8 * nv ∨ 205 + 8 * nv + 8 ≤ q) → s' q = s q) (hV : zVv (vd s' nv)) (h0 : vd s' nv 2 = 0) : zWF s' n (nv + 1) no := by
  have hn := h.N.2.1
  have hg : ∀ i, i < n → ∀ k, k < 12 → gd s' i k = gd s i k := fun i hi k hk => hs _ (by omega) (by omega)
  have hv : ∀ j, j < nv → ∀ k, k < 8 → vd s' j k = vd s j k := fun j hj k hk => hs _ (by omega) (by omega)
  have lo : ∀ q, q < 13 → q ≠ 4 → s' q = s q := fun q hq hq3 => hs q hq3 (by omega)
  have hiv : ∀ i, i < n → ∀ x, zInV s' i x ↔ zInV s i x := fun i hi x => zInV_cong (hg i hi 6 (by decide)) (hg i hi 7 (by decide))
  have hni : ∀ i, i < n → ¬ zInV s i (nI nv) := fun i hi z => by
    have h9 : gd s i 6 = 1 ∨ gd s i 6 = 2 := by
      have h8 := z.2.1
      have h4 := Int32.le_iff_toInt_le.mp h8.1
      have h5 := Int32.le_iff_toInt_le.mp h8.2
      have e1 : (1 : Int32).toInt = 1 := rfl
      have e2 : (2 : Int32).toInt = 2 := rfl
      rw [e1] at h4
      rw [e2] at h5
      rcases (by omega : (gd s i 6).toInt = 1 ∨ (gd s i 6).toInt = 2) with h6 | h6
      · exact Or.inl (Int32.toInt_inj.mp (h6.trans e1.symm))
      · exact Or.inr (Int32.toInt_inj.mp (h6.trans e2.symm))
    obtain ⟨u, hu, h7, -⟩ := h.ld i hi h9
    have h8 := (nI_eq (a := nv) (b := u) (by omega) (by omega)).mp (z.2.2.symm.trans h7)
    omega
  have hlt : ∀ i, i < nv + 1 → i = nv ∨ i < nv := fun i hi => by omega
  refine zWF.mk (N := ⟨(lo _ (by decide) (by decide)).trans h.N.1, hn, h4, by omega, (lo _ (by decide) (by decide)).trans h.N.2.2.2.2.1, h.N.2.2.2.2.2⟩) (s0 := by rw [lo _ (by decide) (by decide)]; exact h.s0) (s1 := by rw [lo _ (by decide) (by decide)]; exact h.s1) (s2 := by rw [lo _ (by decide) (by decide)]; exact h.s2) (tm := by rw [lo _ (by decide) (by decide)]; exact h.tm) (g := fun i hi => zG_cong (h.g i hi) (hg i hi)) (sz := ?_) (wo := ?_) (v := fun j hj => ?_) (ld := fun i hi hs6 => ?_) (sm := fun u hu a ha a' ha' h1 h2 => ?_) (aw := fun u hu h2 i hi h1 => ?_) (of := fun o ho => ?_) (c3 := ?_) (c4 := ?_)
  · rw [zTot_cong n (fun c hc => zCt1_cong (hg c hc 6 (by decide)) (hg c hc 1 (by decide)))]
    exact h.sz
  · rw [zTot_cong n (fun c hc => zCt1_cong (hg c hc 6 (by decide)) (hg c hc 5 (by decide)))]
    exact h.wo
  · rcases hlt j hj with hin | hin
    · rw [hin]; exact hV
    · exact zVv_cong (h.v j hin) (hv j hin)
  · rw [hg i hi 6 (by decide)] at hs6 ⊢
    obtain ⟨u, hu, h7, h2⟩ := h.ld i hi hs6
    exact ⟨u, by omega, (hg i hi 7 (by decide)).trans h7, fun z => (hv u hu 2 (by decide)).trans (h2 z)⟩
  · rcases hlt u hu with hin | hin
    · rw [hin] at h1
      exact absurd ((hiv a ha _).mp h1) (hni a ha)
    · rw [hg a ha 0 (by decide), hg a' ha' 0 (by decide)]
      exact h.sm u hin a ha a' ha' ((hiv a ha _).mp h1) ((hiv a' ha' _).mp h2)
  · rcases hlt u hu with hin | hin
    · rw [hin] at h1
      exact absurd ((hiv i hi _).mp h1) (hni i hi)
    · rw [hv u hin 2 (by decide)] at h2
      rw [hv u hin 3 (by decide), hg i hi 0 (by decide)]
      exact h.aw u hin h2 i hi ((hiv i hi _).mp h1)
  · rw [show od s' o 3 = od s o 3 from hs _ (by omega) (by omega)]
    exact h.of o ho
  · rw [lo _ (by decide) (by decide), zK3_cong (s := s) n (fun c hc => by rw [hg c hc 6 (by decide)])]; exact h.c3
  · rw [lo _ (by decide) (by decide), zK3_cong (s := s) n (fun c hc => by rw [hg c hc 6 (by decide)])]; exact h.c4

