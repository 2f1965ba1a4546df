abbrev zMn (a b : Int32) : Int32 := if b < a then b else a
abbrev zMx (a b : Int32) : Int32 := if a < b then b else a
theorem i_tri (a b : Int32) : a < b ∨ a = b ∨ b < a := by
  rcases Int32.lt_or_eq_of_le (Int32.le_refl a) with hω | hω
  · exact absurd hω (Int32.lt_irrefl)
  · by_cases h1 : a < b
    · exact Or.inl h1
    · by_cases h2 : b < a
      · exact Or.inr (Or.inr h2)
      · exact Or.inr (Or.inl (Int32.le_antisymm (Int32.not_lt.mp h2) (Int32.not_lt.mp h1)))
theorem i_asym {a b : Int32} (h : a < b) : ¬ b < a := fun zω => Int32.lt_irrefl (Int32.lt_trans h zω)
theorem spJoin_c (s : Nat → Int32) (a b : Int32) : spJoin s a b = if zGoods s (zMn a b) ∧ zGoods s (zMx a b) ∧ ¬ a = b then (if gd s (tN (zMn a b)) 9 = gd s (tN (zMx a b)) 9 ∧ gd s (tN (zMn a b)) 6 = 0 ∧ gd s (tN (zMx a b)) 6 = 0 then .inr (zJn s (tN (zMn a b)) (tN (zMx a b)), zMn a b) else .inl (-1000002)) else .inl (-1000001) := by
  unfold spJoin zMn zMx
  rcases i_tri a b with hω | hω | hω
  · rw [if_neg (i_asym hω), if_pos hω, if_pos hω]
  · rw [if_neg (fun zω => zω.2.2 hω), if_neg (fun zω => zω.2.2 hω)]
  · rw [if_pos hω, if_neg (i_asym hω), if_neg (i_asym hω)]
    have e1ω : (zGoods s a ∧ zGoods s b ∧ ¬ a = b) ↔ (zGoods s b ∧ zGoods s a ∧ ¬ a = b) := ⟨fun zω => ⟨zω.2.1, zω.1, zω.2.2⟩, fun zω => ⟨zω.2.1, zω.1, zω.2.2⟩⟩
    have e2ω : (gd s (tN a) 9 = gd s (tN b) 9 ∧ gd s (tN a) 6 = 0 ∧ gd s (tN b) 6 = 0) ↔ (gd s (tN b) 9 = gd s (tN a) 9 ∧ gd s (tN b) 6 = 0 ∧ gd s (tN a) 6 = 0) := ⟨fun zω => ⟨zω.1.symm, zω.2.2, zω.2.1⟩, fun zω => ⟨zω.1.symm, zω.2.2, zω.2.1⟩⟩
    simp only [e1ω, e2ω]
theorem zMn_ne {a b : Int32} (h : ¬ a = b) : ¬ zMn a b = zMx a b := by
  unfold zMn zMx
  rcases i_tri a b with h1ω | h1ω | h1ω
  · rw [if_neg (i_asym h1ω), if_pos h1ω]; exact h
  · exact absurd h1ω h
  · rw [if_pos h1ω, if_neg (i_asym h1ω)]; exact fun zω => h zω.symm
theorem zJn_l {s : Nat → Int32} {l h k : Nat} (hne : l ≠ h) (hk : k < 12) : gd (zJn s l h) l k = if k = 10 then (if gd s h 10 < gd s l 10 then gd s h 10 else gd s l 10) else if k = 5 then gd s l 5 + gd s h 5 else if k = 2 then gd s l 2 + gd s h 2 else if k = 1 then gd s l 1 + gd s h 1 else gd s l k := by
  have hne2ω : h ≠ l := Ne.symm hne
  simp only [zJn]
  rw [gd_pg2 hne (by decide) hk]
  simp only [gd_pg, gd_pg2 hne2ω (show (1 : Nat) < 12 by decide) (show (2 : Nat) < 12 by decide), gd_pg2 hne2ω (show (1 : Nat) < 12 by decide) (show (5 : Nat) < 12 by decide), gd_pg2 hne2ω (show (2 : Nat) < 12 by decide) (show (5 : Nat) < 12 by decide), gd_pg2 hne2ω (show (1 : Nat) < 12 by decide) (show (10 : Nat) < 12 by decide), gd_pg2 hne2ω (show (2 : Nat) < 12 by decide) (show (10 : Nat) < 12 by decide), gd_pg2 hne2ω (show (5 : Nat) < 12 by decide) (show (10 : Nat) < 12 by decide)]
  simp
theorem zJn_h {s : Nat → Int32} {l h k : Nat} (hne : l ≠ h) (hk : k < 12) : gd (zJn s l h) h k = if k = 6 then 5 else gd s h k := by
  have hne2ω : h ≠ l := Ne.symm hne
  simp only [zJn]
  rw [gd_pg, gd_pg2 hne2ω (by decide) hk, gd_pg2 hne2ω (by decide) hk, gd_pg2 hne2ω (by decide) hk, gd_pg2 hne2ω (by decide) hk]
theorem zJn_o {s : Nat → Int32} {l h q : Nat} (h1 : q < 13 + 12 * l ∨ 13 + 12 * l + 12 ≤ q) (h2 : q < 13 + 12 * h ∨ 13 + 12 * h + 12 ≤ q) : zJn s l h q = s q := by
  simp only [zJn]
  rw [pg_o (by decide) h2, pg_o (by decide) h1, pg_o (by decide) h1, pg_o (by decide) h1, pg_o (by decide) h1]
/-- two consignments differ -/
theorem hRel.setC2 {κ κ' : hK} {s s' : Nat → Int32} {n nv no i j : Nat} (h : hRel κ s n nv no) (hi : i < n) (hj : j < n) (hne : i ≠ j) (hκ : ∀ a c, ¬ (a = 0 ∧ c = i) → ¬ (a = 0 ∧ c = j) → κ' a c = κ a c) (hs : ∀ q, (q < 13 + 12 * i ∨ 13 + 12 * i + 12 ≤ q) → (q < 13 + 12 * j ∨ 13 + 12 * j + 12 ≤ q) → s' q = s q) (hc : kC (κ' 0 i) (gd s' i)) (hc2 : kC (κ' 0 j) (gd s' j)) : hRel κ' s' n nv no := by
  have h1ω : hRel (kR κ 0 i (κ' 0 i)) (fun qω => if 13 + 12 * i ≤ qω ∧ qω < 13 + 12 * i + 12 then s' qω else s qω) n nv no := by
    refine h.setC hi (fun aω cω h9ω => kR_n h9ω) (fun qω h9ω => if_neg (by omega)) ?_
    rw [kR_s]
    have eω : ∀ kzω, kzω < 12 → gd (fun qω => if 13 + 12 * i ≤ qω ∧ qω < 13 + 12 * i + 12 then s' qω else s qω) i kzω = gd s' i kzω := fun kzω hkzω => if_pos (by omega)
    unfold kC at hc ⊢
    rw [eω 0 (by decide), eω 1 (by decide), eω 2 (by decide), eω 3 (by decide), eω 4 (by decide), eω 5 (by decide), eω 6 (by decide), eω 7 (by decide), eω 8 (by decide), eω 9 (by decide), eω 10 (by decide), eω 11 (by decide)]
    exact hc
  refine h1ω.setC hj (fun aω cω h9ω => ?_) (fun qω h9ω => ?_) hc2
  · by_cases hci : aω = 0 ∧ cω = i
    · rw [hci.1, hci.2, kR_s]
    · rw [kR_n hci]
      exact hκ aω cω hci h9ω
  · by_cases hqi : 13 + 12 * i ≤ qω ∧ qω < 13 + 12 * i + 12
    · exact (if_pos hqi).symm
    · rw [if_neg hqi]
      exact hs qω (by omega) h9ω
set_option maxRecDepth 20000 in
set_option maxHeartbeats 4000000 in
theorem ct_X1_joinParts {K : zK} {M : mM} {nx : Nat} {b : Nat} {κ : hK} {π : Nat → Nat} (hm : hPicP M b κ π) {s : Nat → Int32} {n nv no : Nat} (hr : hRel κ s n nv no) {c1 c2 : Int32} : zCt K yX1_joinParts cX1_joinParts 5 zr_X1_joinParts 1 [.ref b, .int c1, .int c2] M nx 0 0 (zI (kPost M b (spJoin s c1 c2))) := by
  refine z_enter [some (.ref b), some (.int c1), some (.int c2), none, none] (by decide +kernel) (Nat.le_of_ble_eq_true rfl) rfl (fun Bω okω hzω => ?_)
  have hmdω := hr.made
  have hn16ω := hr.1.2.1
  refine z_aload_n okω dX1_joinParts_0 rfl ?_
  refine z_iload_n okω dX1_joinParts_1 rfl ?_
  refine z_iload_n okω dX1_joinParts_2 rfl ?_
  refine z_mmin okω dX1_joinParts_3 zw_419 zw_420 zw_12 zw_421 (by decide) (Nat.le_of_ble_eq_true rfl) (Nat.zero_le _) (Nat.zero_le _) ?_
  refine z_callVa okω dX1_joinParts_6 zm_X1_consignmentAt zw_401 zi_X1_consignmentAt hm.1 rfl (ct_X1_consignmentAt hm hr) rfl rfl (by decide) (by decide) (by decide) (Nat.le_of_ble_eq_true rfl) (fun xz1ω Mz2ω qz3ω => ?_)
  obtain ⟨hMeω, hcsqω⟩ := qz3ω
  obtain rfl := hMeω.symm
  rcases hcsqω with ⟨hng6ω, rfl⟩ | ⟨jz6ω, hjz6ω, hcz6ω, hgd6ω, rfl⟩
  · have hnull6ω := hng6ω
    refine z_astore_nN okω dX1_joinParts_9 (by decide) rfl ?_
    refine z_aload_n okω dX1_joinParts_10 rfl ?_
    refine z_iload_n okω dX1_joinParts_11 rfl ?_
    refine z_iload_n okω dX1_joinParts_12 rfl ?_
    refine z_mmax okω dX1_joinParts_13 zw_422 zw_423 zw_12 zw_424 (by decide) (Nat.le_of_ble_eq_true rfl) (Nat.zero_le _) (Nat.zero_le _) ?_
    refine z_callVa okω dX1_joinParts_16 zm_X1_consignmentAt zw_401 zi_X1_consignmentAt hm.1 rfl (ct_X1_consignmentAt hm hr) rfl rfl (by decide) (by decide) (by decide) (Nat.le_of_ble_eq_true rfl) (fun xz4ω Mz5ω qz6ω => ?_)
    obtain ⟨hMeω, hcsqω⟩ := qz6ω
    obtain rfl := hMeω.symm
    rcases hcsqω with ⟨hng16ω, rfl⟩ | ⟨jz16ω, hjz16ω, hcz16ω, hgd16ω, rfl⟩
    · have hnull16ω := hng16ω
      refine z_astoreN okω dX1_joinParts_19 (by decide) rfl ?_
      refine z_aload_nN okω dX1_joinParts_21 rfl ?_
      refine z_ifnullN (tgt := 35) okω dX1_joinParts_22 (by decide) ?_
      refine z_ldc okω dX1_joinParts_35 zw_406 ?_
      exact z_iret okω dX1_joinParts_37 rfl rfl rfl (Nat.zero_le _) (kPost_e (by rw [spJoin_c]; first | rw [if_neg (fun z9ω => hnull6ω z9ω.1)] | rw [if_neg (fun z9ω => hnull16ω z9ω.2.1)] | rw [if_neg (fun z9ω => z9ω.2.2 cz32ω)]))
    · have hcc16ω := hr.c hjz16ω
      have htc16ω : tN (zMx c1 c2) = jz16ω := (congrArg tN hcz16ω).trans (tN_nI (by omega))
      refine z_astore okω dX1_joinParts_19 (by decide) rfl ?_
      refine z_aload_nN okω dX1_joinParts_21 rfl ?_
      refine z_ifnullN (tgt := 35) okω dX1_joinParts_22 (by decide) ?_
      refine z_ldc okω dX1_joinParts_35 zw_406 ?_
      exact z_iret okω dX1_joinParts_37 rfl rfl rfl (Nat.zero_le _) (kPost_e (by rw [spJoin_c]; first | rw [if_neg (fun z9ω => hnull6ω z9ω.1)] | rw [if_neg (fun z9ω => hnull16ω z9ω.2.1)] | rw [if_neg (fun z9ω => z9ω.2.2 cz32ω)]))
  · have hcc6ω := hr.c hjz6ω
    have htc6ω : tN (zMn c1 c2) = jz6ω := (congrArg tN hcz6ω).trans (tN_nI (by omega))
    refine z_astore_n okω dX1_joinParts_9 (by decide) rfl ?_
    refine z_aload_n okω dX1_joinParts_10 rfl ?_
    refine z_iload_n okω dX1_joinParts_11 rfl ?_
    refine z_iload_n okω dX1_joinParts_12 rfl ?_
    refine z_mmax okω dX1_joinParts_13 zw_422 zw_423 zw_12 zw_424 (by decide) (Nat.le_of_ble_eq_true rfl) (Nat.zero_le _) (Nat.zero_le _) ?_
    refine z_callVa okω dX1_joinParts_16 zm_X1_consignmentAt zw_401 zi_X1_consignmentAt hm.1 rfl (ct_X1_consignmentAt hm hr) rfl rfl (by decide) (by decide) (by decide) (Nat.le_of_ble_eq_true rfl) (fun xz7ω Mz8ω qz9ω => ?_)
    obtain ⟨hMeω, hcsqω⟩ := qz9ω
    obtain rfl := hMeω.symm
    rcases hcsqω with ⟨hng16ω, rfl⟩ | ⟨jz16ω, hjz16ω, hcz16ω, hgd16ω, rfl⟩
    · have hnull16ω := hng16ω
      refine z_astoreN okω dX1_joinParts_19 (by decide) rfl ?_
      refine z_aload_n okω dX1_joinParts_21 rfl ?_
      refine z_ifnull okω dX1_joinParts_22 ?_
      refine z_aloadN okω dX1_joinParts_25 rfl ?_
      refine z_ifnullN (tgt := 35) okω dX1_joinParts_27 (by decide) ?_
      refine z_ldc okω dX1_joinParts_35 zw_406 ?_
      exact z_iret okω dX1_joinParts_37 rfl rfl rfl (Nat.zero_le _) (kPost_e (by rw [spJoin_c]; first | rw [if_neg (fun z9ω => hnull6ω z9ω.1)] | rw [if_neg (fun z9ω => hnull16ω z9ω.2.1)] | rw [if_neg (fun z9ω => z9ω.2.2 cz32ω)]))
    · have hcc16ω := hr.c hjz16ω
      have htc16ω : tN (zMx c1 c2) = jz16ω := (congrArg tN hcz16ω).trans (tN_nI (by omega))
      refine z_astore okω dX1_joinParts_19 (by decide) rfl ?_
      refine z_aload_n okω dX1_joinParts_21 rfl ?_
      refine z_ifnull okω dX1_joinParts_22 ?_
      refine z_aload okω dX1_joinParts_25 rfl ?_
      refine z_ifnull okω dX1_joinParts_27 ?_
      refine z_iload_n okω dX1_joinParts_30 rfl ?_
      refine z_iload_n okω dX1_joinParts_31 rfl ?_
      refine z_icmp_ne (tgt := 38) okω dX1_joinParts_32 (by decide) (fun cz32ω => ?_) (fun cz32ω => ?_)
      · have hneω : jz6ω ≠ jz16ω := fun z9ω => zMn_ne cz32ω (hcz6ω.trans ((congrArg nI z9ω).trans hcz16ω.symm))
        refine z_aload_n okω dX1_joinParts_38 rfl ?_
        refine z_getf okω dX1_joinParts_39 zin_X0 rfl 9 (by decide) zw_66 (hm.2.2.2.2.1 jz6ω (by omega)).1 rfl ?_
        refine z_aload okω dX1_joinParts_42 rfl ?_
        refine z_getf okω dX1_joinParts_44 zin_X0 rfl 9 (by decide) zw_66 (hm.2.2.2.2.1 jz16ω (by omega)).1 rfl ?_
        refine z_icmp_ne (tgt := 65) okω dX1_joinParts_47 (by decide) (fun cz47ω => ?_) (fun cz47ω => ?_)
        · have hnoω : ¬ (gd s jz6ω 9 = gd s jz16ω 9 ∧ gd s jz6ω 6 = 0 ∧ gd s jz16ω 6 = 0) := fun z9ω => cz47ω (hcc6ω.2.2.2.2.2.2.2.2.1.trans (z9ω.1.trans hcc16ω.2.2.2.2.2.2.2.2.1.symm))
          refine z_ldc okω dX1_joinParts_65 zw_407 ?_
          exact z_iret okω dX1_joinParts_67 rfl rfl rfl (Nat.zero_le _) (kPost_e (by rw [spJoin_c, if_pos ⟨hgd6ω, hgd16ω, cz32ω⟩, htc6ω, htc16ω, if_neg hnoω]))
        · refine z_aload_n okω dX1_joinParts_50 rfl ?_
          refine z_getf okω dX1_joinParts_51 zin_X0 rfl 7 (by decide) zw_60 (hm.2.2.2.2.1 jz6ω (by omega)).1 rfl ?_
          refine z_if_ne (tgt := 65) okω dX1_joinParts_54 (by decide) (fun cz54ω => ?_) (fun cz54ω => ?_)
          · have hnoω : ¬ (gd s jz6ω 9 = gd s jz16ω 9 ∧ gd s jz6ω 6 = 0 ∧ gd s jz16ω 6 = 0) := fun z9ω => cz54ω (hcc6ω.2.2.2.2.2.2.1.trans z9ω.2.1)
            refine z_ldc okω dX1_joinParts_65 zw_407 ?_
            exact z_iret okω dX1_joinParts_67 rfl rfl rfl (Nat.zero_le _) (kPost_e (by rw [spJoin_c, if_pos ⟨hgd6ω, hgd16ω, cz32ω⟩, htc6ω, htc16ω, if_neg hnoω]))
          · refine z_aload okω dX1_joinParts_57 rfl ?_
            refine z_getf okω dX1_joinParts_59 zin_X0 rfl 7 (by decide) zw_60 (hm.2.2.2.2.1 jz16ω (by omega)).1 rfl ?_
            refine z_if_eq (tgt := 68) okω dX1_joinParts_62 (by decide) (fun cz62ω => ?_) (fun cz62ω => ?_)
            · have hyesω : gd s jz6ω 9 = gd s jz16ω 9 ∧ gd s jz6ω 6 = 0 ∧ gd s jz16ω 6 = 0 := ⟨hcc6ω.2.2.2.2.2.2.2.2.1.symm.trans (cz47ω.trans hcc16ω.2.2.2.2.2.2.2.2.1), hcc6ω.2.2.2.2.2.2.1.symm.trans cz54ω, hcc16ω.2.2.2.2.2.2.1.symm.trans cz62ω⟩
              have hne2ω := Ne.symm hneω
              refine z_aload_n okω dX1_joinParts_68 rfl ?_
              refine z_dup okω dX1_joinParts_69 rfl ?_
              refine z_getf okω dX1_joinParts_70 zin_X0 rfl 2 (by decide) zw_45 (hm.2.2.2.2.1 jz6ω (by omega)).1 rfl ?_
              refine z_aload okω dX1_joinParts_73 rfl ?_
              refine z_getf okω dX1_joinParts_75 zin_X0 rfl 2 (by decide) zw_45 (hm.2.2.2.2.1 jz16ω (by omega)).1 rfl ?_
              refine z_iadd okω dX1_joinParts_78 ?_
              refine h_putC2 okω dX1_joinParts_79 zw_45 hm (by omega) (fun Mz11ω hm10ω frz12ω => ?_)
              refine z_aload_n okω dX1_joinParts_82 rfl ?_
              refine z_dup okω dX1_joinParts_83 rfl ?_
              refine z_getf okω dX1_joinParts_84 zin_X0 rfl 3 (by decide) zw_48 (hm10ω.2.2.2.2.1 jz6ω (by omega)).1 rfl ?_
              refine z_aload okω dX1_joinParts_87 rfl ?_
              refine z_getf okω dX1_joinParts_89 zin_X0 rfl 3 (by decide) zw_48 (hm10ω.2.2.2.2.1 jz16ω (by omega)).1 rfl ?_
              refine z_iadd okω dX1_joinParts_92 ?_
              refine h_putC3 okω dX1_joinParts_93 zw_48 hm10ω (by omega) (fun Mz14ω hm13ω frz15ω => ?_)
              refine z_aload_n okω dX1_joinParts_96 rfl ?_
              refine z_dup okω dX1_joinParts_97 rfl ?_
              refine z_getf okω dX1_joinParts_98 zin_X0 rfl 6 (by decide) zw_57 (hm13ω.2.2.2.2.1 jz6ω (by omega)).1 rfl ?_
              refine z_aload okω dX1_joinParts_101 rfl ?_
              refine z_getf okω dX1_joinParts_103 zin_X0 rfl 6 (by decide) zw_57 (hm13ω.2.2.2.2.1 jz16ω (by omega)).1 rfl ?_
              refine z_iadd okω dX1_joinParts_106 ?_
              refine h_putC6 okω dX1_joinParts_107 zw_57 hm13ω (by omega) (fun Mz17ω hm16ω frz18ω => ?_)
              refine z_aload_n okω dX1_joinParts_110 rfl ?_
              refine z_aload_n okω dX1_joinParts_111 rfl ?_
              refine z_getf okω dX1_joinParts_112 zin_X0 rfl 8 (by decide) zw_63 (hm16ω.2.2.2.2.1 jz6ω (by omega)).1 rfl ?_
              refine z_aload okω dX1_joinParts_115 rfl ?_
              refine z_getf okω dX1_joinParts_117 zin_X0 rfl 8 (by decide) zw_63 (hm16ω.2.2.2.2.1 jz16ω (by omega)).1 rfl ?_
              refine z_mmin okω dX1_joinParts_120 zw_419 zw_420 zw_12 zw_421 (by decide) (Nat.le_of_ble_eq_true rfl) (Nat.zero_le _) (Nat.zero_le _) ?_
              refine h_putC8 okω dX1_joinParts_123 zw_63 hm16ω (by omega) (fun Mz20ω hm19ω frz21ω => ?_)
              refine z_aload okω dX1_joinParts_126 rfl ?_
              refine z_iconst (v := 5) okω dX1_joinParts_128 (by decide) ?_
              refine h_putC7 okω dX1_joinParts_129 zw_60 hm19ω (by omega) (fun Mz23ω hm22ω frz24ω => ?_)
              refine z_aload_n okω dX1_joinParts_132 rfl ?_
              refine z_getf okω dX1_joinParts_133 zin_X0 rfl 0 (by decide) zw_40 (hm22ω.2.2.2.2.1 jz6ω (by omega)).1 rfl ?_
              exact z_iret okω dX1_joinParts_136 rfl rfl rfl (Nat.zero_le _) (kPost_ok hm22ω (hr.setC2 (s' := zJn s jz6ω jz16ω) hjz6ω hjz16ω hneω (fun a9ω c9ω h9ω h8ω => by simp only [kU_o h9ω, kU_o h8ω]) (fun q9ω h9ω h8ω => zJn_o h9ω h8ω) (by unfold kC; have hgnω := fun (kzω : Nat) (hkzω : kzω < 12) => zJn_l (s := s) hneω hkzω; simp only [hgnω 0 (by decide), hgnω 1 (by decide), hgnω 2 (by decide), hgnω 3 (by decide), hgnω 4 (by decide), hgnω 5 (by decide), hgnω 6 (by decide), hgnω 7 (by decide), hgnω 8 (by decide), hgnω 9 (by decide), hgnω 10 (by decide), hgnω 11 (by decide)]; have h9ω := hcc6ω; have h8ω := hcc16ω; unfold kC at h9ω h8ω; simp [kU, hneω, hne2ω, h9ω, h8ω]; exact h9ω.2.2.2.2.2.2.2.2.2.2.2) (by unfold kC; have hgnω := fun (kzω : Nat) (hkzω : kzω < 12) => zJn_h (s := s) hneω hkzω; simp only [hgnω 0 (by decide), hgnω 1 (by decide), hgnω 2 (by decide), hgnω 3 (by decide), hgnω 4 (by decide), hgnω 5 (by decide), hgnω 6 (by decide), hgnω 7 (by decide), hgnω 8 (by decide), hgnω 9 (by decide), hgnω 10 (by decide), hgnω 11 (by decide)]; have h8ω := hcc16ω; unfold kC at h8ω; simp [kU, hneω, hne2ω, h8ω])) (by repeat (first | assumption | exact zFr.rf | refine zFr.tr (by assumption) ?_)) (by rw [spJoin_c, if_pos ⟨hgd6ω, hgd16ω, cz32ω⟩, htc6ω, htc16ω, if_pos hyesω]; exact congrArg (fun z9ω => Sum.inr (zJn s jz6ω jz16ω, z9ω)) (hcz6ω.trans (hm22ω.2.2.2.2.1 jz6ω (by omega)).2.symm)))
            · have hnoω : ¬ (gd s jz6ω 9 = gd s jz16ω 9 ∧ gd s jz6ω 6 = 0 ∧ gd s jz16ω 6 = 0) := fun z9ω => cz62ω (hcc16ω.2.2.2.2.2.2.1.trans z9ω.2.2)
              refine z_ldc okω dX1_joinParts_65 zw_407 ?_
              exact z_iret okω dX1_joinParts_67 rfl rfl rfl (Nat.zero_le _) (kPost_e (by rw [spJoin_c, if_pos ⟨hgd6ω, hgd16ω, cz32ω⟩, htc6ω, htc16ω, if_neg hnoω]))
      · refine z_ldc okω dX1_joinParts_35 zw_406 ?_
        exact z_iret okω dX1_joinParts_37 rfl rfl rfl (Nat.zero_le _) (kPost_e (by rw [spJoin_c]; first | rw [if_neg (fun z9ω => hnull6ω z9ω.1)] | rw [if_neg (fun z9ω => hnull16ω z9ω.2.1)] | rw [if_neg (fun z9ω => z9ω.2.2 cz32ω)]))

set_option maxRecDepth 20000 in
set_option maxHeartbeats 4000000 in
theorem ct_X1_leastOfSetting {K : zK} {M : mM} {nx : Nat} {w : Int32} : zCt K yX1_leastOfSetting cX1_leastOfSetting 1 zr_X1_leastOfSetting 0 [.int w] M nx 0 0 (zI (fun x M' => x = (if w = 0 then 1 else 0) ∧ M' = M)) := by
  refine z_enter [some (.int w)] (by decide +kernel) (Nat.le_of_ble_eq_true rfl) rfl (fun Bω okω hzω => ?_)
  refine z_iload_n okω dX1_leastOfSetting_0 rfl ?_
  refine z_if_ne (tgt := 8) okω dX1_leastOfSetting_1 (by decide) (fun cz1ω => ?_) (fun cz1ω => ?_)
  · refine z_iconst (v := 0) okω dX1_leastOfSetting_8 (by decide) ?_
    exact z_iret okω dX1_leastOfSetting_9 rfl rfl rfl (Nat.zero_le _) ⟨by first | rw [if_pos cz1ω] | rw [if_neg cz1ω], rfl⟩
  · refine z_iconst (v := 1) okω dX1_leastOfSetting_4 (by decide) ?_
    refine z_goto (tgt := 9) okω dX1_leastOfSetting_5 (by decide) ?_
    exact z_iret okω dX1_leastOfSetting_9 rfl rfl rfl (Nat.zero_le _) ⟨by first | rw [if_pos cz1ω] | rw [if_neg cz1ω], rfl⟩

set_option maxRecDepth 20000 in
set_option maxHeartbeats 4000000 in
theorem ct_X1_mostOfSetting {K : zK} {M : mM} {nx : Nat} {w : Int32} : zCt K yX1_mostOfSetting cX1_mostOfSetting 1 zr_X1_mostOfSetting 0 [.int w] M nx 0 0 (zI (fun x M' => x = (if w = 0 then 24 else if w = 1 then 99 else 20) ∧ M' = M)) := by
  refine z_enter [some (.int w)] (by decide +kernel) (Nat.le_of_ble_eq_true rfl) rfl (fun Bω okω hzω => ?_)
  refine z_iload_n okω dX1_mostOfSetting_0 rfl ?_
  rcases zlk3 (w) with hsw1ω | hsw1ω | hsw1ω
  · refine z_lookup (off := 27) (tgt := 28) okω dX1_mostOfSetting_1 (by decide) (by rw [hsw1ω]; rfl) (by decide) ?_
    refine z_bipush (v := 24) okω dX1_mostOfSetting_28 (by decide) ?_
    exact z_iret okω dX1_mostOfSetting_30 rfl rfl rfl (Nat.zero_le _) ⟨by first | (rw [hsw1ω]; rfl) | rw [if_neg hsw1ω.1, if_neg hsw1ω.2], rfl⟩
  · refine z_lookup (off := 30) (tgt := 31) okω dX1_mostOfSetting_1 (by decide) (by rw [hsw1ω]; rfl) (by decide) ?_
    refine z_bipush (v := 99) okω dX1_mostOfSetting_31 (by decide) ?_
    exact z_iret okω dX1_mostOfSetting_33 rfl rfl rfl (Nat.zero_le _) ⟨by first | (rw [hsw1ω]; rfl) | rw [if_neg hsw1ω.1, if_neg hsw1ω.2], rfl⟩
  · refine z_lookup (off := 33) (tgt := 34) okω dX1_mostOfSetting_1 (by decide) (zlk2 hsw1ω.1 hsw1ω.2) (by decide) ?_
    refine z_bipush (v := 20) okω dX1_mostOfSetting_34 (by decide) ?_
    exact z_iret okω dX1_mostOfSetting_36 rfl rfl rfl (Nat.zero_le _) ⟨by first | (rw [hsw1ω]; rfl) | rw [if_neg hsw1ω.1, if_neg hsw1ω.2], rfl⟩

theorem hRel.setT {κ : hK} {s : Nat → Int32} {n nv no k : Nat} {x : Int32} (h : hRel κ s n nv no) (hk : k < 3) : hRel (kU κ 3 0 k x) (upd s k x) n nv no := by
  obtain ⟨h1ω, h2ω, h3ω, h4ω, h5ω, h6ω⟩ := h
  refine ⟨zN_cong h1ω (upd_n _ _ (by omega)) (upd_n _ _ (by omega)) (upd_n _ _ (by omega)), ?_, fun jzω hjzω => ?_, fun jzω hjzω => ?_, fun jzω hjzω => ?_, fun jzω hjzω kzω hkzω => ?_⟩
  · rw [kU_o (by omega), upd_n _ _ (by omega), upd_n _ _ (by omega), upd_n _ _ (by omega), upd_n _ _ (by omega), upd_n _ _ (by omega), upd_n _ _ (by omega), upd_n _ _ (by omega), upd_n _ _ (by omega)]
    exact h2ω
  · rw [kU_u]
    by_cases hjk : jzω = k
    · rw [hjk, upd_s, upd_s]
    · rw [upd_n _ _ hjk, upd_n _ _ hjk]
      exact h3ω jzω hjzω
  · rw [kU_o (by omega)]
    have eω : ∀ kzω, gd (upd s k x) jzω kzω = gd s jzω kzω := fun kzω => upd_n _ _ (by omega)
    have h9ω := h4ω jzω hjzω
    unfold kC at h9ω ⊢
    simp only [eω]
    exact h9ω
  · rw [kU_o (by omega)]
    have eω : ∀ kzω, vd (upd s k x) jzω kzω = vd s jzω kzω := fun kzω => upd_n _ _ (by omega)
    have h9ω := h5ω jzω hjzω
    unfold kV at h9ω ⊢
    simp only [eω]
    exact h9ω
  · rw [kU_o (by omega)]
    exact (h6ω jzω hjzω kzω hkzω).trans (show od (upd s k x) jzω kzω = od s jzω kzω from upd_n _ _ (by omega)).symm
set_option maxRecDepth 20000 in
set_option maxHeartbeats 4000000 in
theorem ct_X1_changeSetting {K : zK} {M : mM} {nx : Nat} {b : Nat} {κ : hK} {π : Nat → Nat} (hm : hPicP M b κ π) {s : Nat → Int32} {n nv no : Nat} (hr : hRel κ s n nv no) {w x : Int32} : zCt K yX1_changeSetting cX1_changeSetting 4 zr_X1_changeSetting 1 [.ref b, .int w, .int x] M nx 0 0 (zI (kPost M b (spSet s w x))) := by
  refine z_enter [some (.ref b), some (.int w), some (.int x), none] (by decide +kernel) (Nat.le_of_ble_eq_true rfl) rfl (fun Bω okω hzω => ?_)
  refine z_iload_n okω dX1_changeSetting_0 rfl ?_
  refine z_iconst (v := 0) okω dX1_changeSetting_1 (by decide) ?_
  refine z_iconst (v := 2) okω dX1_changeSetting_2 (by decide) ?_
  refine z_callSNi okω dX1_changeSetting_3 zm_X6_isWithin (fun _ hω => hω.2.2.2.2.2.2.1) zw_296 (ct_X6_isWithin) rfl rfl (by decide) (by decide) (by decide) (Nat.le_of_ble_eq_true rfl) (fun xz1ω Mz2ω qz3ω => ?_)
  obtain ⟨rfl, hMeω⟩ := qz3ω
  obtain rfl := hMeω.symm
  refine z_if_eq (tgt := 24) okω dX1_changeSetting_6 (by decide) (fun cz6ω => ?_) (fun cz6ω => ?_)
  · have hb6ω := b2_0.mp cz6ω
    refine z_ldc okω dX1_changeSetting_24 zw_406 ?_
    exact z_iret okω dX1_changeSetting_26 rfl rfl rfl (Nat.zero_le _) (kPost_e (by unfold spSet; first | rw [if_neg (fun z9ω => hb6ω z9ω.1)] | rw [if_neg (fun z9ω => hb21ω z9ω.2)]))
  · have hb6ω := Decidable.not_not.mp (mt b2_0.mpr cz6ω)
    refine z_iload_n okω dX1_changeSetting_9 rfl ?_
    refine z_iload_n okω dX1_changeSetting_10 rfl ?_
    refine z_callSi okω dX1_changeSetting_11 zm_X1_leastOfSetting zw_583 zw_584 (ct_X1_leastOfSetting) rfl rfl (by decide) (by decide) (by decide) (Nat.le_of_ble_eq_true rfl) (fun xz4ω Mz5ω qz6ω => ?_)
    obtain ⟨rfl, hMeω⟩ := qz6ω
    obtain rfl := hMeω.symm
    refine z_iload_n okω dX1_changeSetting_14 rfl ?_
    refine z_callSi okω dX1_changeSetting_15 zm_X1_mostOfSetting zw_586 zw_587 (ct_X1_mostOfSetting) rfl rfl (by decide) (by decide) (by decide) (Nat.le_of_ble_eq_true rfl) (fun xz7ω Mz8ω qz9ω => ?_)
    obtain ⟨rfl, hMeω⟩ := qz9ω
    obtain rfl := hMeω.symm
    refine z_callSNi okω dX1_changeSetting_18 zm_X6_isWithin (fun _ hω => hω.2.2.2.2.2.2.1) zw_296 (ct_X6_isWithin) rfl rfl (by decide) (by decide) (by decide) (Nat.le_of_ble_eq_true rfl) (fun xz10ω Mz11ω qz12ω => ?_)
    obtain ⟨rfl, hMeω⟩ := qz12ω
    obtain rfl := hMeω.symm
    refine z_if_ne (tgt := 27) okω dX1_changeSetting_21 (by decide) (fun cz21ω => ?_) (fun cz21ω => ?_)
    · have hb21ω := Decidable.not_not.mp (mt b2_0.mpr cz21ω)
      obtain ⟨kw9ω, _, hkw2ω, hkwω⟩ := zW_nat (a := 0) (b := 2) (by decide) (by decide) hb6ω
      have htnω : tN w = kw9ω := by rw [hkwω]; exact tN_nI (by omega)
      refine z_aload_n okω dX1_changeSetting_27 rfl ?_
      refine z_getf okω dX1_changeSetting_28 zin_X1 rfl 3 (by decide) zw_190 hm.1 rfl ?_
      refine z_iload_n okω dX1_changeSetting_31 rfl ?_
      refine h_ldT (j := kw9ω) okω dX1_changeSetting_32 hm hkwω (by omega) ?_
      refine z_istore_n okω dX1_changeSetting_33 (by decide) rfl ?_
      refine z_aload_n okω dX1_changeSetting_34 rfl ?_
      refine z_getf okω dX1_changeSetting_35 zin_X1 rfl 3 (by decide) zw_190 hm.1 rfl ?_
      refine z_iload_n okω dX1_changeSetting_38 rfl ?_
      refine z_iload_n okω dX1_changeSetting_39 rfl ?_
      refine h_stT (j := kw9ω) okω dX1_changeSetting_40 hm hkwω (by omega) (fun Mz14ω hm13ω frz15ω => ?_)
      refine z_iload_n okω dX1_changeSetting_41 rfl ?_
      exact z_iret okω dX1_changeSetting_42 rfl rfl rfl (Nat.zero_le _) (kPost_ok hm13ω (hr.setT (by omega)) (by repeat (first | assumption | exact zFr.rf | refine zFr.tr (by assumption) ?_)) (by unfold spSet; rw [if_pos ⟨hb6ω, hb21ω⟩, htnω, hr.2.2.1 kw9ω (by omega)]))
    · have hb21ω := b2_0.mp cz21ω
      refine z_ldc okω dX1_changeSetting_24 zw_406 ?_
      exact z_iret okω dX1_changeSetting_26 rfl rfl rfl (Nat.zero_le _) (kPost_e (by unfold spSet; first | rw [if_neg (fun z9ω => hb6ω z9ω.1)] | rw [if_neg (fun z9ω => hb21ω z9ω.2)]))


