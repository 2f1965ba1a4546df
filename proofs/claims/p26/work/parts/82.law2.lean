theorem zLast_in {p : Nat → Prop} [DecidablePred p] {f : Nat → Int32} {x : Int32} : ∀ n, (∃ c, c < n ∧ p c) → ∃ c, c < n ∧ p c ∧ zLast p f x n = f c
  | 0, hω => by obtain ⟨cω, h1ω, h2ω⟩ := hω; omega
  | nω + 1, hω => by
    by_cases hp : p nω
    · exact ⟨nω, by omega, hp, if_pos hp⟩
    · obtain ⟨cω, h1ω, h2ω⟩ := hω
      have hcω : cω < nω := by
        rcases Nat.lt_or_ge cω nω with h3ω | h3ω
        · exact h3ω
        · exact absurd (show p nω from by rw [show nω = cω from by omega]; exact h2ω) hp
      obtain ⟨c'ω, g1ω, g2ω, g3ω⟩ := zLast_in (f := f) (x := x) nω ⟨cω, hcω, h2ω⟩
      exact ⟨c'ω, by omega, g2ω, (if_neg hp).trans g3ω⟩
theorem zLast_no {p : Nat → Prop} [DecidablePred p] {f : Nat → Int32} {x : Int32} : ∀ n, (∀ c, c < n → ¬ p c) → zLast p f x n = x
  | 0, _ => rfl
  | nω + 1, hω => (if_neg (hω nω (by omega))).trans (zLast_no nω (fun cω hcω => hω cω (by omega)))
theorem zGoal_in {s : Nat → Int32} {n nv no v c : Nat} (hw : zWF s n nv no) (hv : v < nv) (hc : c < n) (h : zInV s c (nI v)) : zGoal s n v = gd s c 0 := by
  obtain ⟨c'ω, g1ω, g2ω, g3ω⟩ := zLast_in (p := fun c => zInV s c (nI v)) (f := fun c => gd s c 0) (x := if vd s v 2 = 0 then -1000004 else vd s v 3) n ⟨c, hc, h⟩
  exact g3ω.trans (hw.sm v hv c'ω g1ω c hc g2ω h)
theorem zGoal_no {s : Nat → Int32} {n v : Nat} (h : ∀ c, c < n → ¬ zInV s c (nI v)) : zGoal s n v = if vd s v 2 = 0 then -1000004 else vd s v 3 := zLast_no n h
theorem zEn_14 {x : Int32} (h : 1 ≤ x ∧ x ≤ 4) : zEn x = x := zEn_p (Int32.le_trans (by decide) h.1)
theorem zGoal_1 {s : Nat → Int32} {n nv no v : Nat} (hw : zWF s n nv no) (hv : v < nv) : zGoal s n v = -1000004 ∨ (1 ≤ zGoal s n v ∧ zGoal s n v ≤ 4) := by
  by_cases h : ∃ cω, cω < n ∧ zInV s cω (nI v)
  · obtain ⟨cω, h1ω, h2ω⟩ := h
    rw [zGoal_in hw hv h1ω h2ω]
    exact Or.inr (hw.g cω h1ω).1
  · rw [zGoal_no (fun cω hcω hzω => h ⟨cω, hcω, hzω⟩)]
    by_cases h0 : vd s v 2 = 0
    · exact Or.inl (if_pos h0)
    · rw [if_neg h0]
      exact Or.inr ((hw.v v hv).2.2.2.1 h0)
theorem zLs_pos {s : Nat → Int32} {n v : Nat} (hn : n ≤ 16) : 0 ≤ zLs s n (nI v) := b_nn (by
  unfold zLs
  rw [zOr_bit (by omega) n (by omega)]
  exact decide_eq_false (fun zω => by omega))
theorem zLs_bit {s : Nat → Int32} {n v i : Nat} (hn : n ≤ 16) (hi : i < n) : zb (zLs s n (nI v)) i ↔ ¬ zInV s i (nI v) := by
  rw [zb_bt (by omega)]
  unfold zLs
  rw [zOr_bit (by omega) n (by omega)]
  simp [hi]
theorem zLs_0 {s : Nat → Int32} {n v : Nat} (hn : n ≤ 16) : zLs s n (nI v) = 0 ↔ ∀ c, c < n → ¬ zInV s c (nI v) := zOr_0 (by omega)
theorem zFirst {p : Nat → Prop} [DecidablePred p] : ∀ n, (∃ c, c < n ∧ p c) → ∃ c, c < n ∧ p c ∧ ∀ j, j < c → ¬ p j
  | 0, hω => by obtain ⟨cω, h1ω, h2ω⟩ := hω; omega
  | nω + 1, hω => by
    by_cases h1ω : ∃ cω, cω < nω ∧ p cω
    · obtain ⟨cω, g1ω, g2ω, g3ω⟩ := zFirst nω h1ω
      exact ⟨cω, by omega, g2ω, g3ω⟩
    · obtain ⟨cω, g1ω, g2ω⟩ := hω
      have hcω : cω = nω := by
        rcases Nat.lt_or_ge cω nω with h3ω | h3ω
        · exact absurd ⟨cω, h3ω, g2ω⟩ h1ω
        · omega
      exact ⟨cω, g1ω, g2ω, fun jω hjω hpω => h1ω ⟨jω, by omega, hpω⟩⟩
set_option maxRecDepth 20000 in
set_option maxHeartbeats 4000000 in
theorem ct_L_goal {K : zK} {M : mM} {nx : Nat} {m : Nat} {s : Nat → Int32} {n nv no : Nat} (hm : lP M m s n nv no) (hw : zWF s n nv no) {v : Nat} (hvv : v < nv) : zCt K yL_goal cL_goal 7 zr_L_goal 1 [.ref m, .ref (m + 1), .ref (m + 2), .ref (m + 4), .int (nI v)] M nx 0 0 (zI (fun x M' => x = zEn (zGoal s n v) ∧ M' = M)) := by
  refine z_enter [some (.ref m), some (.ref (m + 1)), some (.ref (m + 2)), some (.ref (m + 4)), some (.int (nI v)), none, none] (by decide +kernel) (Nat.le_of_ble_eq_true rfl) rfl (fun Bω okω hzω => ?_)
  have hNω := hw.N
  have hn16ω := hNω.2.1
  have hnv4ω := hNω.2.2.2.1
  have hno10ω := hNω.2.2.2.2.2
  refine z_aload_n okω dL_goal_0 rfl ?_
  refine z_aload_n okω dL_goal_1 rfl ?_
  refine z_aload_n okω dL_goal_2 rfl ?_
  refine z_iload okω dL_goal_3 rfl ?_
  refine z_iconst (v := 0) okω dL_goal_5 (by decide) ?_
  refine z_callSi okω dL_goal_6 zm_L_load zw_471 zw_472 (ct_L_load0 hm hw (v := v) (by omega)) rfl rfl (by decide) (by decide) (by decide) (Nat.le_of_ble_eq_true rfl) (fun xz1ω Mz2ω qz3ω => ?_)
  obtain ⟨rfl, hMeω⟩ := qz3ω
  obtain rfl := hMeω.symm
  refine z_istore okω dL_goal_9 (by decide) rfl ?_
  refine z_iconst (v := 0) okω dL_goal_11 (by decide) ?_
  refine z_istore okω dL_goal_12 (by decide) rfl ?_
  by_cases hset : zLs s n (nI v) = 0
  · refine z_iload okω dL_goal_14 rfl ?_
    refine z_if_le (tgt := 35) okω dL_goal_16 (by decide) (fun _ => ?_) (fun q9ω => absurd (by rw [hset]; decide) q9ω)
    refine z_iload okω dL_goal_35 rfl ?_
    refine z_if_le (tgt := 49) okω dL_goal_37 (by decide) (fun _ => ?_) (fun q9ω => absurd (by rw [hset]; decide) q9ω)
    have hgoω := zGoal_no ((zLs_0 hn16ω).mp hset)
    refine z_aload_n okω dL_goal_49 rfl ?_
    refine z_bipush (v := 8) okω dL_goal_50 (by decide) ?_
    refine z_iload okω dL_goal_52 rfl ?_
    refine z_imul okω dL_goal_54 ?_
    refine z_iconst (v := 2) okω dL_goal_55 (by decide) ?_
    refine z_iadd okω dL_goal_56 ?_
    refine l_ldV (u := v) (t := 2) okω dL_goal_57 hm (lx8_2 v) (by first | assumption | omega) (by decide) ?_
    refine z_if_le (tgt := 73) okω dL_goal_58 (by decide) (fun cz58ω => ?_) (fun cz58ω => ?_)
    · refine z_iconst (v := -1) okω dL_goal_73 (by decide) ?_
      exact z_iret okω dL_goal_74 rfl rfl rfl (Nat.zero_le _) ⟨by first | rw [hgoω, if_neg (fun zω => by rw [zω] at cz58ω; exact cz58ω (by decide)), zEn_14 ((hw.v v hvv).2.2.2.1 (fun zω => by rw [zω] at cz58ω; exact cz58ω (by decide)))] | rw [hgoω, if_pos (Int32.le_antisymm cz58ω (hw.v v hvv).2.2.1.1)]; rfl, rfl⟩
    · refine z_aload_n okω dL_goal_61 rfl ?_
      refine z_bipush (v := 8) okω dL_goal_62 (by decide) ?_
      refine z_iload okω dL_goal_64 rfl ?_
      refine z_imul okω dL_goal_66 ?_
      refine z_iconst (v := 3) okω dL_goal_67 (by decide) ?_
      refine z_iadd okω dL_goal_68 ?_
      refine l_ldV (u := v) (t := 3) okω dL_goal_69 hm (lx8_3 v) (by first | assumption | omega) (by decide) ?_
      refine z_goto (tgt := 74) okω dL_goal_70 (by decide) ?_
      exact z_iret okω dL_goal_74 rfl rfl rfl (Nat.zero_le _) ⟨by first | rw [hgoω, if_neg (fun zω => by rw [zω] at cz58ω; exact cz58ω (by decide)), zEn_14 ((hw.v v hvv).2.2.2.1 (fun zω => by rw [zω] at cz58ω; exact cz58ω (by decide)))] | rw [hgoω, if_pos (Int32.le_antisymm cz58ω (hw.v v hvv).2.2.1.1)]; rfl, rfl⟩
  · obtain ⟨c0ω, hc0ω, hicω, hfcω⟩ := zFirst (p := fun cω => zInV s cω (nI v)) n (Decidable.byContradiction (fun zω => hset ((zLs_0 hn16ω).mpr (fun cω hcω h9ω => zω ⟨cω, hcω, h9ω⟩))))
    have hpsω : ¬ zLs s n (nI v) ≤ 0 := fun zω => hset (Int32.le_antisymm zω (zLs_pos hn16ω))
    have hgoω := zGoal_in hw hvv hc0ω hicω
    have loop14ω : ∀ (tω iω : Nat), c0ω < iω + tω → iω ≤ c0ω → zV 7 Bω (zE Bω (zI (fun xω M'ω => xω = zEn (zGoal s n v) ∧ M'ω = M)) 0 0) 14 [some (.ref m), some (.ref (m + 1)), some (.ref (m + 2)), some (.ref (m + 4)), some (.int (nI v)), some (.int (zLs s n (nI v))), some (.int (nI iω))] [] M 0 0 := by
      intro tω
      induction tω with
      | zero => intro iω h1ω h2ω; exact absurd h1ω (by omega)
      | succ tω ihω =>
        intro iω h1ω h2ω
        refine z_iload okω dL_goal_14 rfl ?_
        refine z_if_le (tgt := 35) okω dL_goal_16 (by decide) (fun q9ω => absurd q9ω hpsω) (fun _ => ?_)
        refine z_iload okω dL_goal_19 rfl ?_
        refine z_iload okω dL_goal_21 rfl ?_
        refine z_ishr okω dL_goal_23 ?_
        refine z_iconst (v := 1) okω dL_goal_24 (by decide) ?_
        refine z_iand okω dL_goal_25 ?_
        refine z_if_ne (tgt := 35) okω dL_goal_26 (by decide) (fun cz26ω => ?_) (fun cz26ω => ?_)
        · have hieω : iω = c0ω := Nat.le_antisymm h2ω (Nat.not_lt.mp (fun zω => cz26ω ((zLs_bit hn16ω (by omega)).mpr (hfcω iω zω))))
          rw [hieω]
          refine z_iload okω dL_goal_35 rfl ?_
          refine z_if_le (tgt := 49) okω dL_goal_37 (by decide) (fun q9ω => absurd q9ω hpsω) (fun _ => ?_)
          refine z_aload_n okω dL_goal_40 rfl ?_
          refine z_iconst (v := 4) okω dL_goal_41 (by decide) ?_
          refine z_iload okω dL_goal_42 rfl ?_
          refine z_imul okω dL_goal_44 ?_
          refine l_ld0 c0ω okω dL_goal_45 hm (lx4_0 c0ω) hc0ω ?_
          refine z_goto (tgt := 74) okω dL_goal_46 (by decide) ?_
          exact z_iret okω dL_goal_74 rfl rfl rfl (Nat.zero_le _) ⟨by rw [hgoω, zEn_14 (hw.g c0ω hc0ω).1], rfl⟩
        · have hltω : iω < c0ω := Nat.lt_of_le_of_ne h2ω (fun zω => by rw [zω] at cz26ω; exact (zLs_bit hn16ω hc0ω).mp cz26ω hicω)
          refine z_iinc okω dL_goal_29 rfl (zinc2 _) (by decide) rfl ?_
          refine z_goto (tgt := 14) okω dL_goal_32 (by decide) ?_
          exact ihω (iω + 1) (by omega) (by omega)
    exact loop14ω (c0ω + 1) 0 (by omega) (by omega)

theorem zCan_l {s : Nat → Int32} {n nv no c v : Nat} (hw : zWF s n nv no) (hc : c < n) (hv : v < nv) : (zEn (zGoal s n v) < 0 ∨ zEn (zGoal s n v) = gd s c 0) ↔ (zGoal s n v < 0 ∨ zGoal s n v = gd s c 0) := by
  have h14ω := (hw.g c hc).1
  rcases zGoal_1 hw hv with hω | hω
  · rw [hω]
    exact ⟨fun _ => Or.inl (by decide), fun _ => Or.inl (by decide)⟩
  · rw [zEn_14 hω]
set_option maxRecDepth 20000 in
set_option maxHeartbeats 4000000 in
theorem ct_L_fits {K : zK} {M : mM} {nx : Nat} {m : Nat} {s : Nat → Int32} {n nv no : Nat} (hm : lP M m s n nv no) (hw : zWF s n nv no) {c v : Nat} (hcc : c < n) (hvv : v < nv) : zCt K yL_fits cL_fits 8 zr_L_fits 2 [.ref m, .ref (m + 1), .ref (m + 2), .ref (m + 4), .int (nI c), .int (nI v)] M nx 0 0 (zI (fun x M' => x = b2 (zCan s n c v) ∧ M' = M)) := by
  refine z_enter [some (.ref m), some (.ref (m + 1)), some (.ref (m + 2)), some (.ref (m + 4)), some (.int (nI c)), some (.int (nI v)), none, none] (by decide +kernel) (Nat.le_of_ble_eq_true rfl) rfl (fun Bω okω hzω => ?_)
  have hNω := hw.N
  have hn16ω := hNω.2.1
  have hnv4ω := hNω.2.2.2.1
  have hno10ω := hNω.2.2.2.2.2
  refine z_aload_n okω dL_fits_0 rfl ?_
  refine z_aload_n okω dL_fits_1 rfl ?_
  refine z_aload_n okω dL_fits_2 rfl ?_
  refine z_aload_n okω dL_fits_3 rfl ?_
  refine z_iload okω dL_fits_4 rfl ?_
  refine z_callSi okω dL_fits_6 zm_L_goal zw_468 zw_469 (ct_L_goal hm hw hvv) rfl rfl (by decide) (by decide) (by decide) (Nat.le_of_ble_eq_true rfl) (fun xz1ω Mz2ω qz3ω => ?_)
  obtain ⟨rfl, hMeω⟩ := qz3ω
  obtain rfl := hMeω.symm
  refine z_istore okω dL_fits_9 (by decide) rfl ?_
  refine z_aload_n okω dL_fits_11 rfl ?_
  refine z_iconst (v := 4) okω dL_fits_12 (by decide) ?_
  refine z_iload okω dL_fits_13 rfl ?_
  refine z_imul okω dL_fits_15 ?_
  refine z_iconst (v := 2) okω dL_fits_16 (by decide) ?_
  refine z_iadd okω dL_fits_17 ?_
  refine l_ld6 c okω dL_fits_18 hm (lx4_2 c) (by first | assumption | omega) ?_
  refine z_if_ne (tgt := 54) okω dL_fits_19 (by decide) (fun cz19ω => ?_) (fun cz19ω => ?_)
  · refine z_iconst (v := 0) okω dL_fits_54 (by decide) ?_
    refine z_istore okω dL_fits_55 (by decide) rfl ?_
    refine z_iload okω dL_fits_57 rfl ?_
    refine z_if_eq (tgt := 124) okω dL_fits_59 (by decide) (fun _ => ?_) (fun q9ω => absurd (by decide) q9ω)
    refine z_iconst (v := 0) okω dL_fits_124 (by decide) ?_
    exact z_iret okω dL_fits_125 rfl rfl rfl (Nat.zero_le _) ⟨by first | exact b2_t ⟨⟨cz19ω, cz31ω, (zCan_l hw hcc hvv).mp (by first | exact Or.inl cz36ω | exact Or.inr cz47ω)⟩, Int32.not_lt.mp cz87ω, Int32.not_lt.mp cz117ω⟩ | exact b2_f (fun zω => cz19ω zω.1.1) | exact b2_f (fun zω => cz31ω zω.1.2.1) | exact b2_f (fun zω => ((zCan_l hw hcc hvv).mpr zω.1.2.2).elim cz36ω cz47ω) | exact b2_f (fun zω => absurd zω.2.1 (Int32.not_le.mpr cz87ω)) | exact b2_f (fun zω => absurd zω.2.2 (Int32.not_le.mpr cz117ω)), rfl⟩
  · refine z_aload_n okω dL_fits_22 rfl ?_
    refine z_bipush (v := 8) okω dL_fits_23 (by decide) ?_
    refine z_iload okω dL_fits_25 rfl ?_
    refine z_imul okω dL_fits_27 ?_
    refine z_iconst (v := 2) okω dL_fits_28 (by decide) ?_
    refine z_iadd okω dL_fits_29 ?_
    refine l_ldV (u := v) (t := 2) okω dL_fits_30 hm (lx8_2 v) (by first | assumption | omega) (by decide) ?_
    refine z_if_ne (tgt := 54) okω dL_fits_31 (by decide) (fun cz31ω => ?_) (fun cz31ω => ?_)
    · refine z_iconst (v := 0) okω dL_fits_54 (by decide) ?_
      refine z_istore okω dL_fits_55 (by decide) rfl ?_
      refine z_iload okω dL_fits_57 rfl ?_
      refine z_if_eq (tgt := 124) okω dL_fits_59 (by decide) (fun _ => ?_) (fun q9ω => absurd (by decide) q9ω)
      refine z_iconst (v := 0) okω dL_fits_124 (by decide) ?_
      exact z_iret okω dL_fits_125 rfl rfl rfl (Nat.zero_le _) ⟨by first | exact b2_t ⟨⟨cz19ω, cz31ω, (zCan_l hw hcc hvv).mp (by first | exact Or.inl cz36ω | exact Or.inr cz47ω)⟩, Int32.not_lt.mp cz87ω, Int32.not_lt.mp cz117ω⟩ | exact b2_f (fun zω => cz19ω zω.1.1) | exact b2_f (fun zω => cz31ω zω.1.2.1) | exact b2_f (fun zω => ((zCan_l hw hcc hvv).mpr zω.1.2.2).elim cz36ω cz47ω) | exact b2_f (fun zω => absurd zω.2.1 (Int32.not_le.mpr cz87ω)) | exact b2_f (fun zω => absurd zω.2.2 (Int32.not_le.mpr cz117ω)), rfl⟩
    · refine z_iload okω dL_fits_34 rfl ?_
      refine z_if_lt (tgt := 50) okω dL_fits_36 (by decide) (fun cz36ω => ?_) (fun cz36ω => ?_)
      · refine z_iconst (v := 1) okω dL_fits_50 (by decide) ?_
        refine z_goto (tgt := 55) okω dL_fits_51 (by decide) ?_
        refine z_istore okω dL_fits_55 (by decide) rfl ?_
        refine z_iload okω dL_fits_57 rfl ?_
        refine z_if_eq (tgt := 124) okω dL_fits_59 (by decide) (fun q9ω => absurd q9ω (by decide)) (fun _ => ?_)
        refine z_aload_n okω dL_fits_62 rfl ?_
        refine z_aload_n okω dL_fits_63 rfl ?_
        refine z_aload_n okω dL_fits_64 rfl ?_
        refine z_iload okω dL_fits_65 rfl ?_
        refine z_iconst (v := 1) okω dL_fits_67 (by decide) ?_
        refine z_callSi okω dL_fits_68 zm_L_load zw_471 zw_472 (ct_L_load1 hm hw (v := v) (by omega)) rfl rfl (by decide) (by decide) (by decide) (Nat.le_of_ble_eq_true rfl) (fun xz4ω Mz5ω qz6ω => ?_)
        obtain ⟨rfl, hMeω⟩ := qz6ω
        obtain rfl := hMeω.symm
        refine z_aload_n okω dL_fits_71 rfl ?_
        refine z_iconst (v := 4) okω dL_fits_72 (by decide) ?_
        refine z_iload okω dL_fits_73 rfl ?_
        refine z_imul okω dL_fits_75 ?_
        refine z_iconst (v := 1) okω dL_fits_76 (by decide) ?_
        refine z_iadd okω dL_fits_77 ?_
        refine l_ld1 c okω dL_fits_78 hm (lx4_1 c) (by first | assumption | omega) ?_
        refine z_iadd okω dL_fits_79 ?_
        refine z_aload_n okω dL_fits_80 rfl ?_
        refine z_bipush (v := 8) okω dL_fits_81 (by decide) ?_
        refine z_iload okω dL_fits_83 rfl ?_
        refine z_imul okω dL_fits_85 ?_
        refine l_ldV (u := v) (t := 0) okω dL_fits_86 hm (lx8_0 v) (by first | assumption | omega) (by decide) ?_
        refine z_icmp_gt (tgt := 124) okω dL_fits_87 (by decide) (fun cz87ω => ?_) (fun cz87ω => ?_)
        · refine z_iconst (v := 0) okω dL_fits_124 (by decide) ?_
          exact z_iret okω dL_fits_125 rfl rfl rfl (Nat.zero_le _) ⟨by first | exact b2_t ⟨⟨cz19ω, cz31ω, (zCan_l hw hcc hvv).mp (by first | exact Or.inl cz36ω | exact Or.inr cz47ω)⟩, Int32.not_lt.mp cz87ω, Int32.not_lt.mp cz117ω⟩ | exact b2_f (fun zω => cz19ω zω.1.1) | exact b2_f (fun zω => cz31ω zω.1.2.1) | exact b2_f (fun zω => ((zCan_l hw hcc hvv).mpr zω.1.2.2).elim cz36ω cz47ω) | exact b2_f (fun zω => absurd zω.2.1 (Int32.not_le.mpr cz87ω)) | exact b2_f (fun zω => absurd zω.2.2 (Int32.not_le.mpr cz117ω)), rfl⟩
        · refine z_aload_n okω dL_fits_90 rfl ?_
          refine z_aload_n okω dL_fits_91 rfl ?_
          refine z_aload_n okω dL_fits_92 rfl ?_
          refine z_iload okω dL_fits_93 rfl ?_
          refine z_iconst (v := 2) okω dL_fits_95 (by decide) ?_
          refine z_callSi okω dL_fits_96 zm_L_load zw_471 zw_472 (ct_L_load2 hm hw (v := v) (by omega)) rfl rfl (by decide) (by decide) (by decide) (Nat.le_of_ble_eq_true rfl) (fun xz7ω Mz8ω qz9ω => ?_)
          obtain ⟨rfl, hMeω⟩ := qz9ω
          obtain rfl := hMeω.symm
          refine z_aload_n okω dL_fits_99 rfl ?_
          refine z_iconst (v := 4) okω dL_fits_100 (by decide) ?_
          refine z_iload okω dL_fits_101 rfl ?_
          refine z_imul okω dL_fits_103 ?_
          refine z_iconst (v := 2) okω dL_fits_104 (by decide) ?_
          refine z_iadd okω dL_fits_105 ?_
          refine l_ld2 c okω dL_fits_106 hm (lx4_2 c) (by first | assumption | omega) ?_
          refine z_iadd okω dL_fits_107 ?_
          refine z_aload_n okω dL_fits_108 rfl ?_
          refine z_bipush (v := 8) okω dL_fits_109 (by decide) ?_
          refine z_iload okω dL_fits_111 rfl ?_
          refine z_imul okω dL_fits_113 ?_
          refine z_iconst (v := 1) okω dL_fits_114 (by decide) ?_
          refine z_iadd okω dL_fits_115 ?_
          refine l_ldV (u := v) (t := 1) okω dL_fits_116 hm (lx8_1 v) (by first | assumption | omega) (by decide) ?_
          refine z_icmp_gt (tgt := 124) okω dL_fits_117 (by decide) (fun cz117ω => ?_) (fun cz117ω => ?_)
          · refine z_iconst (v := 0) okω dL_fits_124 (by decide) ?_
            exact z_iret okω dL_fits_125 rfl rfl rfl (Nat.zero_le _) ⟨by first | exact b2_t ⟨⟨cz19ω, cz31ω, (zCan_l hw hcc hvv).mp (by first | exact Or.inl cz36ω | exact Or.inr cz47ω)⟩, Int32.not_lt.mp cz87ω, Int32.not_lt.mp cz117ω⟩ | exact b2_f (fun zω => cz19ω zω.1.1) | exact b2_f (fun zω => cz31ω zω.1.2.1) | exact b2_f (fun zω => ((zCan_l hw hcc hvv).mpr zω.1.2.2).elim cz36ω cz47ω) | exact b2_f (fun zω => absurd zω.2.1 (Int32.not_le.mpr cz87ω)) | exact b2_f (fun zω => absurd zω.2.2 (Int32.not_le.mpr cz117ω)), rfl⟩
          · refine z_iconst (v := 1) okω dL_fits_120 (by decide) ?_
            refine z_goto (tgt := 125) okω dL_fits_121 (by decide) ?_
            exact z_iret okω dL_fits_125 rfl rfl rfl (Nat.zero_le _) ⟨by first | exact b2_t ⟨⟨cz19ω, cz31ω, (zCan_l hw hcc hvv).mp (by first | exact Or.inl cz36ω | exact Or.inr cz47ω)⟩, Int32.not_lt.mp cz87ω, Int32.not_lt.mp cz117ω⟩ | exact b2_f (fun zω => cz19ω zω.1.1) | exact b2_f (fun zω => cz31ω zω.1.2.1) | exact b2_f (fun zω => ((zCan_l hw hcc hvv).mpr zω.1.2.2).elim cz36ω cz47ω) | exact b2_f (fun zω => absurd zω.2.1 (Int32.not_le.mpr cz87ω)) | exact b2_f (fun zω => absurd zω.2.2 (Int32.not_le.mpr cz117ω)), rfl⟩
      · refine z_iload okω dL_fits_39 rfl ?_
        refine z_aload_n okω dL_fits_41 rfl ?_
        refine z_iconst (v := 4) okω dL_fits_42 (by decide) ?_
        refine z_iload okω dL_fits_43 rfl ?_
        refine z_imul okω dL_fits_45 ?_
        refine l_ld0 c okω dL_fits_46 hm (lx4_0 c) (by first | assumption | omega) ?_
        refine z_icmp_ne (tgt := 54) okω dL_fits_47 (by decide) (fun cz47ω => ?_) (fun cz47ω => ?_)
        · refine z_iconst (v := 0) okω dL_fits_54 (by decide) ?_
          refine z_istore okω dL_fits_55 (by decide) rfl ?_
          refine z_iload okω dL_fits_57 rfl ?_
          refine z_if_eq (tgt := 124) okω dL_fits_59 (by decide) (fun _ => ?_) (fun q9ω => absurd (by decide) q9ω)
          refine z_iconst (v := 0) okω dL_fits_124 (by decide) ?_
          exact z_iret okω dL_fits_125 rfl rfl rfl (Nat.zero_le _) ⟨by first | exact b2_t ⟨⟨cz19ω, cz31ω, (zCan_l hw hcc hvv).mp (by first | exact Or.inl cz36ω | exact Or.inr cz47ω)⟩, Int32.not_lt.mp cz87ω, Int32.not_lt.mp cz117ω⟩ | exact b2_f (fun zω => cz19ω zω.1.1) | exact b2_f (fun zω => cz31ω zω.1.2.1) | exact b2_f (fun zω => ((zCan_l hw hcc hvv).mpr zω.1.2.2).elim cz36ω cz47ω) | exact b2_f (fun zω => absurd zω.2.1 (Int32.not_le.mpr cz87ω)) | exact b2_f (fun zω => absurd zω.2.2 (Int32.not_le.mpr cz117ω)), rfl⟩
        · refine z_iconst (v := 1) okω dL_fits_50 (by decide) ?_
          refine z_goto (tgt := 55) okω dL_fits_51 (by decide) ?_
          refine z_istore okω dL_fits_55 (by decide) rfl ?_
          refine z_iload okω dL_fits_57 rfl ?_
          refine z_if_eq (tgt := 124) okω dL_fits_59 (by decide) (fun q9ω => absurd q9ω (by decide)) (fun _ => ?_)
          refine z_aload_n okω dL_fits_62 rfl ?_
          refine z_aload_n okω dL_fits_63 rfl ?_
          refine z_aload_n okω dL_fits_64 rfl ?_
          refine z_iload okω dL_fits_65 rfl ?_
          refine z_iconst (v := 1) okω dL_fits_67 (by decide) ?_
          refine z_callSi okω dL_fits_68 zm_L_load zw_471 zw_472 (ct_L_load1 hm hw (v := v) (by omega)) rfl rfl (by decide) (by decide) (by decide) (Nat.le_of_ble_eq_true rfl) (fun xz10ω Mz11ω qz12ω => ?_)
          obtain ⟨rfl, hMeω⟩ := qz12ω
          obtain rfl := hMeω.symm
          refine z_aload_n okω dL_fits_71 rfl ?_
          refine z_iconst (v := 4) okω dL_fits_72 (by decide) ?_
          refine z_iload okω dL_fits_73 rfl ?_
          refine z_imul okω dL_fits_75 ?_
          refine z_iconst (v := 1) okω dL_fits_76 (by decide) ?_
          refine z_iadd okω dL_fits_77 ?_
          refine l_ld1 c okω dL_fits_78 hm (lx4_1 c) (by first | assumption | omega) ?_
          refine z_iadd okω dL_fits_79 ?_
          refine z_aload_n okω dL_fits_80 rfl ?_
          refine z_bipush (v := 8) okω dL_fits_81 (by decide) ?_
          refine z_iload okω dL_fits_83 rfl ?_
          refine z_imul okω dL_fits_85 ?_
          refine l_ldV (u := v) (t := 0) okω dL_fits_86 hm (lx8_0 v) (by first | assumption | omega) (by decide) ?_
          refine z_icmp_gt (tgt := 124) okω dL_fits_87 (by decide) (fun cz87ω => ?_) (fun cz87ω => ?_)
          · refine z_iconst (v := 0) okω dL_fits_124 (by decide) ?_
            exact z_iret okω dL_fits_125 rfl rfl rfl (Nat.zero_le _) ⟨by first | exact b2_t ⟨⟨cz19ω, cz31ω, (zCan_l hw hcc hvv).mp (by first | exact Or.inl cz36ω | exact Or.inr cz47ω)⟩, Int32.not_lt.mp cz87ω, Int32.not_lt.mp cz117ω⟩ | exact b2_f (fun zω => cz19ω zω.1.1) | exact b2_f (fun zω => cz31ω zω.1.2.1) | exact b2_f (fun zω => ((zCan_l hw hcc hvv).mpr zω.1.2.2).elim cz36ω cz47ω) | exact b2_f (fun zω => absurd zω.2.1 (Int32.not_le.mpr cz87ω)) | exact b2_f (fun zω => absurd zω.2.2 (Int32.not_le.mpr cz117ω)), rfl⟩
          · refine z_aload_n okω dL_fits_90 rfl ?_
            refine z_aload_n okω dL_fits_91 rfl ?_
            refine z_aload_n okω dL_fits_92 rfl ?_
            refine z_iload okω dL_fits_93 rfl ?_
            refine z_iconst (v := 2) okω dL_fits_95 (by decide) ?_
            refine z_callSi okω dL_fits_96 zm_L_load zw_471 zw_472 (ct_L_load2 hm hw (v := v) (by omega)) rfl rfl (by decide) (by decide) (by decide) (Nat.le_of_ble_eq_true rfl) (fun xz13ω Mz14ω qz15ω => ?_)
            obtain ⟨rfl, hMeω⟩ := qz15ω
            obtain rfl := hMeω.symm
            refine z_aload_n okω dL_fits_99 rfl ?_
            refine z_iconst (v := 4) okω dL_fits_100 (by decide) ?_
            refine z_iload okω dL_fits_101 rfl ?_
            refine z_imul okω dL_fits_103 ?_
            refine z_iconst (v := 2) okω dL_fits_104 (by decide) ?_
            refine z_iadd okω dL_fits_105 ?_
            refine l_ld2 c okω dL_fits_106 hm (lx4_2 c) (by first | assumption | omega) ?_
            refine z_iadd okω dL_fits_107 ?_
            refine z_aload_n okω dL_fits_108 rfl ?_
            refine z_bipush (v := 8) okω dL_fits_109 (by decide) ?_
            refine z_iload okω dL_fits_111 rfl ?_
            refine z_imul okω dL_fits_113 ?_
            refine z_iconst (v := 1) okω dL_fits_114 (by decide) ?_
            refine z_iadd okω dL_fits_115 ?_
            refine l_ldV (u := v) (t := 1) okω dL_fits_116 hm (lx8_1 v) (by first | assumption | omega) (by decide) ?_
            refine z_icmp_gt (tgt := 124) okω dL_fits_117 (by decide) (fun cz117ω => ?_) (fun cz117ω => ?_)
            · refine z_iconst (v := 0) okω dL_fits_124 (by decide) ?_
              exact z_iret okω dL_fits_125 rfl rfl rfl (Nat.zero_le _) ⟨by first | exact b2_t ⟨⟨cz19ω, cz31ω, (zCan_l hw hcc hvv).mp (by first | exact Or.inl cz36ω | exact Or.inr cz47ω)⟩, Int32.not_lt.mp cz87ω, Int32.not_lt.mp cz117ω⟩ | exact b2_f (fun zω => cz19ω zω.1.1) | exact b2_f (fun zω => cz31ω zω.1.2.1) | exact b2_f (fun zω => ((zCan_l hw hcc hvv).mpr zω.1.2.2).elim cz36ω cz47ω) | exact b2_f (fun zω => absurd zω.2.1 (Int32.not_le.mpr cz87ω)) | exact b2_f (fun zω => absurd zω.2.2 (Int32.not_le.mpr cz117ω)), rfl⟩
            · refine z_iconst (v := 1) okω dL_fits_120 (by decide) ?_
              refine z_goto (tgt := 125) okω dL_fits_121 (by decide) ?_
              exact z_iret okω dL_fits_125 rfl rfl rfl (Nat.zero_le _) ⟨by first | exact b2_t ⟨⟨cz19ω, cz31ω, (zCan_l hw hcc hvv).mp (by first | exact Or.inl cz36ω | exact Or.inr cz47ω)⟩, Int32.not_lt.mp cz87ω, Int32.not_lt.mp cz117ω⟩ | exact b2_f (fun zω => cz19ω zω.1.1) | exact b2_f (fun zω => cz31ω zω.1.2.1) | exact b2_f (fun zω => ((zCan_l hw hcc hvv).mpr zω.1.2.2).elim cz36ω cz47ω) | exact b2_f (fun zω => absurd zω.2.1 (Int32.not_le.mpr cz87ω)) | exact b2_f (fun zω => absurd zω.2.2 (Int32.not_le.mpr cz117ω)), rfl⟩

set_option maxRecDepth 20000 in
set_option maxHeartbeats 4000000 in
theorem ct_L_put {K : zK} {M : mM} {nx : Nat} {m : Nat} {s : Nat → Int32} {n nv no : Nat} (hm : lP M m s n nv no) {c v : Nat} (hcc : c < n) (hvv : v < 4) : zCt K yL_put cL_put 3 zr_L_put 0 [.ref (m + 2), .int (nI c), .int (nI v)] M nx 0 0 (zU (fun M' => lP M' m (zLoads s c v) n nv no ∧ zFr M M' m 6)) := by
  refine z_enter [some (.ref (m + 2)), some (.int (nI c)), some (.int (nI v))] (by decide +kernel) (Nat.le_of_ble_eq_true rfl) rfl (fun Bω okω hzω => ?_)
  refine z_aload_n okω dL_put_0 rfl ?_
  refine z_iconst (v := 4) okω dL_put_1 (by decide) ?_
  refine z_iload_n okω dL_put_2 rfl ?_
  refine z_imul okω dL_put_3 ?_
  refine z_iconst (v := 2) okω dL_put_4 (by decide) ?_
  refine z_iadd okω dL_put_5 ?_
  refine z_iconst (v := 1) okω dL_put_6 (by decide) ?_
  refine l_st6 c okω dL_put_7 hm (lx4_2 c) (by first | assumption | omega) (fun Mz2ω hm1ω frz3ω => ?_)
  refine z_aload_n okω dL_put_8 rfl ?_
  refine z_iconst (v := 4) okω dL_put_9 (by decide) ?_
  refine z_iload_n okω dL_put_10 rfl ?_
  refine z_imul okω dL_put_11 ?_
  refine z_iconst (v := 3) okω dL_put_12 (by decide) ?_
  refine z_iadd okω dL_put_13 ?_
  refine z_iload_n okω dL_put_14 rfl ?_
  refine l_st7 c (nI v) okω dL_put_15 hm1ω (lx4_3 c) (by first | assumption | omega) (zEn_v2 hvv).symm (fun Mz5ω hm4ω frz6ω => ?_)
  exact z_vret okω dL_put_16 rfl rfl (Nat.zero_le _) ⟨hm4ω, by first | exact zFr.tr frz3ω frz6ω | exact zFr.tr (by assumption) (by assumption)⟩

