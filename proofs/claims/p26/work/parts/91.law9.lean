theorem nI_and (a b : Nat) : nI a &&& nI b = nI (a &&& b) := by
  apply Int32.toBitVec_inj.mp
  rw [Int32.toBitVec_and]
  show BitVec.ofNat 32 a &&& BitVec.ofNat 32 b = BitVec.ofNat 32 (a &&& b)
  exact BitVec.ofNat_and.symm
theorem nI_sub1 {m : Nat} (h : 0 < m) : nI m - 1 = nI (m - 1) := by rw [dI_sub, dI_1 h]
theorem nI_le0 {m : Nat} (hm : m < 2 ^ 31) : nI m ≤ 0 ↔ m = 0 := by
  rw [show (0 : Int32) = nI 0 from rfl, nI_leI hm (by decide)]
  omega
theorem zVeh_u {s : Nat → Int32} {n nv no u : Nat} (hN : zN s n nv no) (hu : u < nv) : zVeh s (nI u) := by
  have h4ω := hN.2.2.2.1
  refine ⟨nI_pos (by omega), ?_⟩
  rw [hN.2.2.1, nI_leI (by omega) (by omega)]
  omega
theorem spV {s : Nat → Int32} {nv r b : Nat} (hr : 1 ≤ r ∧ r ≤ 200) (hb : 1 ≤ b ∧ b ≤ 200) : zW 1 200 (nI r) ∧ zW 1 200 (nI b) := ⟨zWq (A := 1) (Z := 200) rfl rfl hr (by omega), zWq (A := 1) (Z := 200) rfl rfl hb (by omega)⟩
theorem spL_ng {s : Nat → Int32} {n : Nat} {a b : Int32} (h : ¬ zGoods s a) : spLoad s n a b = .inl (-1000001) := if_neg (fun zω => h zω.1)
theorem spL_nc {s : Nat → Int32} {n k u : Nat} (hk : k < 2 ^ 31) (hu : u < 2 ^ 31) (hg : zGoods s (nI k)) (hv : zVeh s (nI u)) (h : ¬ zCan s n k u) : spLoad s n (nI k) (nI u) = .inl (-1000002) := (if_pos ⟨hg, hv⟩).trans (if_neg (by unfold tN; rw [nI_clamp hk, nI_clamp hu]; exact h))
theorem spL_ok {s : Nat → Int32} {n k u : Nat} (hk : k < 2 ^ 31) (hu : u < 2 ^ 31) (hg : zGoods s (nI k)) (hv : zVeh s (nI u)) (h : zCan s n k u) : spLoad s n (nI k) (nI u) = .inr (zLoads s k u, vd (zLoads s k u) u 0 - zLd (zLoads s k u) n (nI u) 1) := (if_pos ⟨hg, hv⟩).trans (by unfold tN; rw [nI_clamp hk, nI_clamp hu]; exact if_pos h)
theorem spU_ng {s : Nat → Int32} {a : Int32} (h : ¬ zGoods s a) : spUnload s a = .inl (-1000001) := if_neg h
theorem spU_n1 {s : Nat → Int32} {k : Nat} (hk : k < 2 ^ 31) (hg : zGoods s (nI k)) (h : ¬ gd s k 6 = 1) : spUnload s (nI k) = .inl (-1000002) := (if_pos hg).trans (if_neg (by unfold tN; rw [nI_clamp hk]; exact h))
theorem spU_ok {s : Nat → Int32} {k : Nat} (hk : k < 2 ^ 31) (hg : zGoods s (nI k)) (h : gd s k 6 = 1) : spUnload s (nI k) = .inr (pg s k 6 0, gd (pg s k 6 0) k 7) := (if_pos hg).trans (by unfold tN; rw [nI_clamp hk]; exact if_pos h)
theorem unl_e {s : Nat → Int32} {n nv no k : Nat} (hw : zWF s n nv no) (hk : k < n) (h : gd s k 6 = 1) : zEn (gd (pg s k 6 0) k 7) = gd (pg s k 6 0) k 7 := by
  have h4ω := hw.N.2.2.2.1
  obtain ⟨uω, huω, h7ω, _⟩ := hw.ld k hk (Or.inl h)
  rw [gd_pgn (by decide) (by decide) (Or.inr (by decide)), h7ω]
  exact zEn_v2 (by omega)
theorem spF_c {s : Nat → Int32} {n nv no u p r : Nat} (hN : zN s n nv no) (hu : u < nv) (hp : 1 ≤ p ∧ p ≤ 4) (hr : 0 ≤ r ∧ r ≤ 2) : zVeh s (nI u) ∧ zW 1 4 (nI p) ∧ zW 0 2 (nI r) := ⟨zVeh_u hN hu, zWq (A := 1) (Z := 4) rfl rfl hp (by omega), zWq (A := 0) (Z := 2) rfl rfl hr (by omega)⟩
theorem spF_np {s : Nat → Int32} {n nv no u p r : Nat} (hN : zN s n nv no) (hu : u < nv) (hp : 1 ≤ p ∧ p ≤ 4) (hr : 0 ≤ r ∧ r ≤ 2) (h : ¬ vd s u 2 ≤ 0) : spFill s n (nI u) (nI p) (nI r) = .inl (-1000002) := by
  have h4ω := hN.2.2.2.1
  exact (if_pos (spF_c hN hu hp hr)).trans (if_pos (by unfold tN; rw [nI_clamp (by omega)]; exact Int32.not_le.mp h))
theorem spF_ok {s : Nat → Int32} {n nv no u p r : Nat} (hN : zN s n nv no) (hu : u < nv) (hp : 1 ≤ p ∧ p ≤ 4) (hr : 0 ≤ r ∧ r ≤ 2) (h : vd s u 2 ≤ 0) : spFill s n (nI u) (nI p) (nI r) = .inr ((zFill n u (nI p) (nI r) n s 0 0).1, zBits (zFill n u (nI p) (nI r) n s 0 0).2 16) := by
  have h4ω := hN.2.2.2.1
  refine (if_pos (spF_c hN hu hp hr)).trans ?_
  unfold tN
  rw [nI_clamp (by omega)]
  exact if_neg (Int32.not_lt.mpr h)
theorem fill_m {s : Nat → Int32} {n nv no u : Nat} {p r : Int32} (hw : zWF s n nv no) (hu : u < nv) : ∃ m, m < 65536 ∧ (zFill n u p r n s 0 0).2 = nI m := nI_of16 (zFill_WF hu n s 0 0 hw (fun iω _ => b_0 iω)).2
theorem spD_no {s : Nat → Int32} {n nv no u : Nat} (hN : zN s n nv no) (hu : u < nv) (h : 0 < vd s u 2 ∨ zLs s n (nI u) = 0) : spDepart s n (nI u) = .inl (-1000002) := by
  have h4ω := hN.2.2.2.1
  exact (if_pos (zVeh_u hN hu)).trans (if_pos (by unfold tN; rw [nI_clamp (by omega)]; exact h))
theorem spD_ok {s : Nat → Int32} {n nv no u : Nat} (hN : zN s n nv no) (hu : u < nv) (h : ¬ (0 < vd s u 2 ∨ zLs s n (nI u) = 0)) : spDepart s n (nI u) = .inr (zDe s n u n, vd (zDe s n u n) u 4) := by
  have h4ω := hN.2.2.2.1
  refine (if_pos (zVeh_u hN hu)).trans ?_
  unfold tN
  rw [nI_clamp (by omega)]
  exact if_neg h
theorem goal_e {s : Nat → Int32} {n nv no u : Nat} (hw : zWF s n nv no) (hu : u < nv) (h : ¬ zLs s n (nI u) = 0) : zEn (zGoal s n u) = zGoal s n u := by
  obtain ⟨cω, h1ω, h2ω⟩ : ∃ cω, cω < n ∧ zInV s cω (nI u) := Decidable.byContradiction (fun zω => h ((zLs_0 hw.N.2.1).mpr (fun cω hcω h9ω => zω ⟨cω, hcω, h9ω⟩)))
  rw [zGoal_in hw hu h1ω h2ω]
  exact zEn_14 (hw.g cω h1ω).1
theorem dep_l {s : Nat → Int32} {n v : Nat} {x5 x4 : Int32} (h5 : x5 = zGoal s n v * s 0) (h4 : x4 = s 5 + zGoal s n v * s 0) : pv (pv (pv (pv s v 3 (zGoal s n v)) v 2 1) v 5 x5) v 4 x4 = zDe1 s n v := by
  have eω : pv (pv s v 3 (zGoal s n v)) v 2 1 = pv (pv s v 2 1) v 3 (zGoal s n v) := by
    funext q
    unfold pv upd
    by_cases a : q = 205 + 8 * v + 2
    · rw [if_pos a, if_neg (by omega), if_pos a]
    · rw [if_neg a, if_neg a]
  rw [eω, h5, h4]
  unfold zDe1
  simp only [pv_lo (show 0 < 13 by decide), pv_lo (show 5 < 13 by decide)]
theorem zDe_lo {s : Nat → Int32} {n v k q : Nat} (hk : k ≤ 16) (hq : q < 13) : zDe s n v k q = s q := (zDe_hi (Or.inl hq) k hk).trans (zDe1_o (by omega))
theorem zDe_NN {s : Nat → Int32} {n nv no v k : Nat} (hN : zN s n nv no) (hk : k ≤ 16) : zN (zDe s n v k) n nv no := zN_cong hN (zDe_lo hk (by decide)) (zDe_lo hk (by decide)) (zDe_lo hk (by decide))
theorem dep_in {s : Nat → Int32} {n nv no v i : Nat} (hw : zWF s n nv no) (hx : zX s n nv) (hv : v < nv) (h2 : vd s v 2 = 0) (hi : i < n) : zInV (zDe s n v i) i (nI v) ↔ (gd (zDe s n v i) i 6 = 1 ∧ zEn (gd (zDe s n v i) i 7) = nI v) := by
  have h4ω := hw.N.2.2.2.1
  have h16ω := hw.N.2.1
  have gω := zDe_6 (s := s) (n := n) (v := v) (i := i) (by omega) i (by omega)
  have g6ω : gd (zDe s n v i) i 6 = gd s i 6 := gω.1.trans (if_neg (fun zω => Nat.lt_irrefl _ zω.1))
  have g7ω : gd (zDe s n v i) i 7 = gd s i 7 := gω.2 7 (by decide) (by decide) (by decide)
  rw [zInV_cong (s := s) g6ω g7ω, zInV_l hw hi (by omega), g6ω, g7ω]
  constructor
  · rintro ⟨h | h, h7⟩
    · exact ⟨h, h7⟩
    · have := hx.st2 hi hv h ((zEn_nI (by omega)).mp h7)
      rw [h2] at this
      exact absurd this (by decide)
  · exact fun zω => ⟨Or.inl zω.1, zω.2⟩
theorem spO_c {p b w r h : Nat} (hp : 1 ≤ p ∧ p ≤ 4) (hb : 1 ≤ b ∧ b ≤ 99) (hw : 1 ≤ w ∧ w ≤ 99) (hr : 0 ≤ r ∧ r ≤ 999) (hh : 0 ≤ h ∧ h ≤ 99) : zW 1 4 (nI p) ∧ zW 1 99 (nI b) ∧ zW 1 99 (nI w) ∧ zW 0 999 (nI r) ∧ zW 0 99 (nI h) := ⟨zWq (A := 1) (Z := 4) rfl rfl hp (by omega), zWq (A := 1) (Z := 99) rfl rfl hb (by omega), zWq (A := 1) (Z := 99) rfl rfl hw (by omega), zWq (A := 0) (Z := 999) rfl rfl hr (by omega), zWq (A := 0) (Z := 99) rfl rfl hh (by omega)⟩
theorem spP_ok {s : Nat → Int32} {n nv h τ : Nat} (hh : 1 ≤ h ∧ h ≤ 99) (ht : s 5 = nI τ) (h9 : τ + h ≤ 9000) : spPass s n nv (nI h) = .inr ((zPass n nv s h).1, (zPass n nv s h).2) := by
  refine (if_pos (zWq (A := 1) (Z := 99) rfl rfl hh (by omega))).trans ?_
  unfold tN
  rw [nI_clamp (by omega), ht, nI_add]
  exact if_neg (Int32.not_lt.mpr ((nI_leI (b := 9000) (by omega) (by omega)).mpr h9))
theorem pass_s {n nv i : Nat} {s s1 : Nat → Int32} {y : Int32} (h : zPass n nv s i = (s1, y)) : zPass n nv s (i + 1) = ((zHour s1 n nv).1, y + (zHour s1 n nv).2) := by
  rw [zPass, h]
theorem ve_fin {M : mM} {m : Nat} {f0 f1 f2 f3 f4 f5 s : Nat → Int32} {n nv no : Nat} {r b : Int32} (hr : lRp f0 f1 f2 f3 f4 f5 s n nv no) (hN : zN s n nv no) (hv : nv < 4) (h : lR M m (upd f0 4 (f0 4 + 1)) f1 f2 f3 (upd (upd (upd (upd (upd (upd (upd (upd f4 (8 * nv + 0) r) (8 * nv + 1) b) (8 * nv + 2) 0) (8 * nv + 3) 0) (8 * nv + 4) 0) (8 * nv + 5) 0) (8 * nv + 6) 0) (8 * nv + 7) 0) f5) : lP M m (zVe s nv r b) n (nv + 1) no := by
  have hn16ω := hN.2.1
  have hno10ω := hN.2.2.2.2.2
  have hzω : ∀ jω, jω < 4 * n → ∀ kω, kω < 12 → gd s (jω / 4) kω = gd (zVe s nv r b) (jω / 4) kω := fun jω hjω kω hkω => (zVe_o (q := 13 + 12 * (jω / 4) + kω) (by omega) (by omega)).symm
  refine h.lP hn16ω (by omega) hno10ω ⟨fun jω hjω => ?_, fun jω hjω => (hr.2.1 jω hjω).trans (lA1_cg (hzω jω hjω _ (by decide)) (hzω jω hjω _ (by decide)) (hzω jω hjω _ (by decide)) (hzω jω hjω _ (by decide))), fun jω hjω => (hr.2.2.1 jω hjω).trans (lA2_cg (hzω jω hjω _ (by decide)) (hzω jω hjω _ (by decide)) (hzω jω hjω _ (by decide)) (hzω jω hjω _ (by decide))), fun jω hjω => (hr.2.2.2.1 jω hjω).trans (lA3_cg (hzω jω hjω _ (by decide)) (hzω jω hjω _ (by decide)) (hzω jω hjω _ (by decide)) (hzω jω hjω _ (by decide))), fun jω hjω => ?_, fun jω hjω => (hr.2.2.2.2.2 jω hjω).trans (zVe_o (q := 237 + jω) (by omega) (by omega)).symm⟩
  · unfold upd
    by_cases eω : jω = 4
    · rw [if_pos eω, eω, zVe_4, hr.1 4 (by omega)]
    · rw [if_neg eω, hr.1 jω hjω, zVe_o eω (by omega)]
  · by_cases hj2 : jω < 8 * nv
    · unfold upd
      repeat rw [if_neg (by omega)]
      rw [hr.2.2.2.2.1 jω hj2]
      exact (zVe_o (q := 205 + jω) (by omega) (by omega)).symm
    · have eω := zVe_v (s := s) (nv := nv) (k := jω - 8 * nv) (r := r) (b := b) (by omega)
      rw [show lA4 (zVe s nv r b) jω = vd (zVe s nv r b) nv (jω - 8 * nv) from by unfold lA4 vd; rw [show 205 + jω = 205 + 8 * nv + (jω - 8 * nv) from by omega], eω]
      rcases (by omega : jω = 8 * nv + 0 ∨ jω = 8 * nv + 1 ∨ jω = 8 * nv + 2 ∨ jω = 8 * nv + 3 ∨ jω = 8 * nv + 4 ∨ jω = 8 * nv + 5 ∨ jω = 8 * nv + 6 ∨ jω = 8 * nv + 7) with h9ω | h9ω | h9ω | h9ω | h9ω | h9ω | h9ω | h9ω <;> subst h9ω <;> simp [upd]
theorem od_zOf {s : Nat → Int32} {no : Nat} {p b w pr x : Int32} : od (zOf s no p b w pr x) no 0 = p ∧ od (zOf s no p b w pr x) no 1 = b ∧ od (zOf s no p b w pr x) no 2 = w ∧ od (zOf s no p b w pr x) no 3 = pr ∧ od (zOf s no p b w pr x) no 4 = s 5 + x := by
  unfold od zOf
  simp only [upd]
  refine ⟨?_, ?_, ?_, ?_, ?_⟩ <;> repeat (first | rw [if_pos trivial] | rw [if_pos (by omega)] | rw [if_neg (by omega)])
theorem of_fin {M : mM} {m : Nat} {f0 f1 f2 f3 f4 f5 s : Nat → Int32} {n nv no : Nat} {p b w r h1 : Int32} (hr : lRp f0 f1 f2 f3 f4 f5 s n nv no) (hN : zN s n nv no) (ho : no < 10) (h : lR M m (upd f0 6 (f0 6 + 1)) f1 f2 f3 f4 (upd (upd (upd (upd (upd f5 (5 * no + 0) p) (5 * no + 1) b) (5 * no + 2) w) (5 * no + 3) r) (5 * no + 4) (f0 5 + h1))) : lP M m (zOf s no p b w r h1) n nv (no + 1) := by
  have hn16ω := hN.2.1
  have hnv4ω := hN.2.2.2.1
  have hzω : ∀ jω, jω < 4 * n → ∀ kω, kω < 12 → gd s (jω / 4) kω = gd (zOf s no p b w r h1) (jω / 4) kω := fun jω hjω kω hkω => (zOf_o (q := 13 + 12 * (jω / 4) + kω) (by omega) (by omega)).symm
  refine h.lP hn16ω hnv4ω (by omega) ⟨fun jω hjω => ?_, fun jω hjω => (hr.2.1 jω hjω).trans (lA1_cg (hzω jω hjω _ (by decide)) (hzω jω hjω _ (by decide)) (hzω jω hjω _ (by decide)) (hzω jω hjω _ (by decide))), fun jω hjω => (hr.2.2.1 jω hjω).trans (lA2_cg (hzω jω hjω _ (by decide)) (hzω jω hjω _ (by decide)) (hzω jω hjω _ (by decide)) (hzω jω hjω _ (by decide))), fun jω hjω => (hr.2.2.2.1 jω hjω).trans (lA3_cg (hzω jω hjω _ (by decide)) (hzω jω hjω _ (by decide)) (hzω jω hjω _ (by decide)) (hzω jω hjω _ (by decide))), fun jω hjω => (hr.2.2.2.2.1 jω hjω).trans (zOf_o (q := 205 + jω) (by omega) (by omega)).symm, fun jω hjω => ?_⟩
  · unfold upd
    by_cases eω : jω = 6
    · rw [if_pos eω, eω, zOf_6, hr.1 6 (by omega)]
    · rw [if_neg eω, hr.1 jω hjω, zOf_o eω (by omega)]
  · by_cases hj2 : jω < 5 * no
    · unfold upd
      repeat rw [if_neg (by omega)]
      rw [hr.2.2.2.2.2 jω hj2]
      exact (zOf_o (q := 237 + jω) (by omega) (by omega)).symm
    · rw [hr.1 5 (by omega)]
      have eω := od_zOf (s := s) (no := no) (p := p) (b := b) (w := w) (pr := r) (x := h1)
      rcases (by omega : jω = 5 * no + 0 ∨ jω = 5 * no + 1 ∨ jω = 5 * no + 2 ∨ jω = 5 * no + 3 ∨ jω = 5 * no + 4) with h9ω | h9ω | h9ω | h9ω | h9ω
      · rw [h9ω, show lA5 (zOf s no p b w r h1) (5 * no + 0) = od (zOf s no p b w r h1) no 0 from rfl, eω.1]; simp [upd]
      · rw [h9ω, show lA5 (zOf s no p b w r h1) (5 * no + 1) = od (zOf s no p b w r h1) no 1 from rfl, eω.2.1]; simp [upd]
      · rw [h9ω, show lA5 (zOf s no p b w r h1) (5 * no + 2) = od (zOf s no p b w r h1) no 2 from rfl, eω.2.2.1]; simp [upd]
      · rw [h9ω, show lA5 (zOf s no p b w r h1) (5 * no + 3) = od (zOf s no p b w r h1) no 3 from rfl, eω.2.2.2.1]; simp [upd]
      · rw [h9ω, show lA5 (zOf s no p b w r h1) (5 * no + 4) = od (zOf s no p b w r h1) no 4 from rfl, eω.2.2.2.2]; simp [upd]
theorem lxz {mul c : Nat} {x : Int32} (h : x = nI mul) : x * nI c + 0 = nI (mul * c + 0) := by
  rw [h, pk_mul, Int32.add_zero]
  rfl
theorem spSet_ok {s : Nat → Int32} {k : Nat} {x : Int32} (hk : k < 3) (hx : zW (if k = 0 then 1 else 0) (if k = 0 then 24 else if k = 1 then 99 else 20) x) : spSet s (nI k) x = .inr (upd s k x, s k) := by
  rcases (by omega : k = 0 ∨ k = 1 ∨ k = 2) with hω | hω | hω <;> subst hω
  · exact if_pos ⟨by decide, hx⟩
  · exact if_pos ⟨by decide, hx⟩
  · exact if_pos ⟨by decide, hx⟩
