theorem spCof_no {s : Nat → Int32} {n : Nat} {c w : Int32} (h : ¬ zGoods s c) : spCof s n c w = -1000001 := if_neg (fun zω => h zω.1)
theorem spCof_out {s : Nat → Int32} {n : Nat} {c w : Int32} (h : w.toInt < 0 ∨ 10 < w.toInt) : spCof s n c w = -1000001 := if_neg (fun zω => by
  have h1ω := Int32.le_iff_toInt_le.mp zω.2.1
  have h2ω := Int32.le_iff_toInt_le.mp zω.2.2
  have e0ω : (0 : Int32).toInt = 0 := rfl
  have e1ω : (10 : Int32).toInt = 10 := rfl
  omega)
theorem spCof_g {s : Nat → Int32} {n jz k : Nat} {c : Int32} (h : zGoods s c) (ht : tN c = jz) (hk : k ≤ 8) : spCof s n c (nI k) = gd s jz k := by
  unfold spCof
  have a1ω : (0 : Int32) ≤ nI k := nI_nn (by omega)
  have a2ω : nI k ≤ 10 := (i_le (a := 10) (by decide)).mpr (by rw [nI_toInt (by omega)]; omega)
  have a3ω : nI k < 9 := by
    rw [Int32.lt_iff_toInt_lt, nI_toInt (by omega)]
    show (k : Int) < 9
    omega
  rw [if_pos ⟨h, a1ω, a2ω⟩, if_pos a3ω, ht, tN_nI (by omega)]
theorem spCof_9 {s : Nat → Int32} {n jz : Nat} {c : Int32} (h : zGoods s c) (ht : tN c = jz) : spCof s n c (nI 9) = zPt s n (gd s jz 9) := by
  unfold spCof
  rw [if_pos ⟨h, by decide, by decide⟩, if_neg (by decide), if_pos (by decide), ht]
theorem spCof_10 {s : Nat → Int32} {n jz : Nat} {c : Int32} (h : zGoods s c) (ht : tN c = jz) : spCof s n c (nI 10) = (if zHere s jz then s 5 else gd s jz 11) - gd s jz 10 := by
  unfold spCof
  rw [if_pos ⟨h, by decide, by decide⟩, if_neg (by decide), if_neg (by decide), ht]
theorem zEn_u {x : Int32} (hx : x = -1000004 ∨ 0 ≤ x) : (zEn x = -1 → x = -1000004) ∧ (¬ zEn x = -1 → zEn x = x) := by
  unfold zEn
  by_cases h : x = -1000004
  · rw [if_pos h]
    exact ⟨fun _ => h, fun zω => absurd rfl zω⟩
  · rw [if_neg h]
    refine ⟨fun zω => ?_, fun _ => rfl⟩
    rcases hx with h1ω | h1ω
    · exact h1ω
    · rw [zω] at h1ω
      exact absurd h1ω (by decide)
theorem zWF.g7 {s : Nat → Int32} {n nv no i : Nat} (h : zWF s n nv no) (hi : i < n) : gd s i 7 = -1000004 ∨ 0 ≤ gd s i 7 := by
  rcases (h.g i hi).2.2.2.2.2.1 with h1ω | ⟨vω, hvω, h1ω⟩
  · exact Or.inl h1ω
  · exact Or.inr (by rw [h1ω]; exact nI_nn (by omega))
theorem zgone {s : Nat → Int32} {n nv no i : Nat} (h : zWF s n nv no) (hi : i < n) (h5 : ¬ gd s i 6 = 5) (hh : ¬ zHere s i) : 2 ≤ gd s i 6 ∧ gd s i 6 ≤ 4 := by
  have h9ω := (h.g i hi).2.2.2.2.1
  have aω := Int32.le_iff_toInt_le.mp h9ω.2
  have bω := mt Int32.lt_iff_toInt_lt.mpr (fun zω => hh ⟨h5, zω⟩)
  have e5ω : (5 : Int32).toInt = 5 := rfl
  have e2ω : (2 : Int32).toInt = 2 := rfl
  have e4ω : (4 : Int32).toInt = 4 := rfl
  have cω : (gd s i 6).toInt ≠ 5 := fun zω => h5 (Int32.toInt_inj.mp (zω.trans e5ω.symm))
  rw [Int32.le_iff_toInt_le, Int32.le_iff_toInt_le]
  omega
set_option maxRecDepth 20000 in
set_option maxHeartbeats 4000000 in
theorem ct_X6_consignmentOf {K : zK} {M : mM} {nx : Nat} {c : Nat} {s : Nat → Int32} {n nv no : Nat} {past : Nat → Int32} {p o : Nat} {fp fr : Int32} {ty : Nat} {tx : Nat → Int32} {vb nxz : Int32} {nums : Nat → Int32} (hm : cR M c s n nv no (fun j q => past (287 * j + q)) p p o fp fr ty tx vb nxz nums) {cq w : Int32} : zCt K yX6_consignmentOf cX6_consignmentOf 4 zr_X6_consignmentOf 2 [.ref c, .int cq, .int w] M nx 0 0 (zI (fun x M' => x = spCof s n cq w ∧ M' = M)) := by
  refine z_enter [some (.ref c), some (.int cq), some (.int w), none] (by decide +kernel) (Nat.le_of_ble_eq_true rfl) rfl (fun Bω okω hzω => ?_)
  obtain ⟨κω, πω, hmHω, hrω, hwω⟩ := hm.H
  have hn16ω := hrω.1.2.1
  have hn4ω := hrω.1.2.2.2.1
  have hn10ω := hrω.1.2.2.2.2.2
  refine z_aload_n okω dX6_consignmentOf_0 rfl ?_
  refine z_getf okω dX6_consignmentOf_1 zin_X6 rfl 0 (by decide) zw_274 hm.F rfl ?_
  refine z_iload_n okω dX6_consignmentOf_4 rfl ?_
  refine z_callVa okω dX6_consignmentOf_5 zm_X1_consignmentAt zw_599 zi_X1_consignmentAt hmHω.1 rfl (ct_X1_consignmentAt hmHω hrω) rfl rfl (by decide) (by decide) (by decide) (Nat.le_of_ble_eq_true rfl) (fun xz1ω Mz2ω qz3ω => ?_)
  obtain ⟨hMeω, hcsqω⟩ := qz3ω
  obtain rfl := hMeω.symm
  rcases hcsqω with ⟨hng5ω, rfl⟩ | ⟨jz5ω, hjz5ω, hcz5ω, hgd5ω, rfl⟩
  · have hnull5ω := hng5ω
    refine z_astore_nN okω dX6_consignmentOf_8 (by decide) rfl ?_
    refine z_aload_nN okω dX6_consignmentOf_9 rfl ?_
    refine z_ifnonnullN okω dX6_consignmentOf_10 ?_
    refine z_ldc okω dX6_consignmentOf_13 zw_298 ?_
    exact z_iret okω dX6_consignmentOf_15 rfl rfl rfl (Nat.zero_le _) ⟨(spCof_no hnull5ω).symm, rfl⟩
  · have hccω := hrω.c hjz5ω
    have htcω : tN cq = jz5ω := by rw [hcz5ω]; exact tN_nI (by omega)
    have hg6ω : ¬ gd s jz5ω 6 = 5 := by have h9ω := hgd5ω.2.2; rw [← htcω]; exact h9ω
    refine z_astore_n okω dX6_consignmentOf_8 (by decide) rfl ?_
    refine z_aload_n okω dX6_consignmentOf_9 rfl ?_
    refine z_ifnonnull (tgt := 16) okω dX6_consignmentOf_10 (by decide) ?_
    refine z_iload_n okω dX6_consignmentOf_16 rfl ?_
    rcases zsw (w) 10 (by omega) with hsw17ω | ⟨kswω, hkswω, hsw17ω⟩
    · refine z_tableOut (tgt := 186) okω dX6_consignmentOf_17 hsw17ω (by decide) ?_
      refine z_ldc okω dX6_consignmentOf_186 zw_298 ?_
      exact z_iret okω dX6_consignmentOf_188 rfl rfl rfl (Nat.zero_le _) ⟨(spCof_out hsw17ω).symm, rfl⟩
    · rcases (by omega : kswω = 0 ∨ kswω = 1 ∨ kswω = 2 ∨ kswω = 3 ∨ kswω = 4 ∨ kswω = 5 ∨ kswω = 6 ∨ kswω = 7 ∨ kswω = 8 ∨ kswω = 9 ∨ kswω = 10) with rfl | rfl | rfl | rfl | rfl | rfl | rfl | rfl | rfl | rfl | rfl
      · rw [hsw17ω]
        refine z_tableIn (off := 59) (tgt := 76) okω dX6_consignmentOf_17 (by decide) (by decide) rfl (by decide) ?_
        refine z_aload_n okω dX6_consignmentOf_76 rfl ?_
        refine z_getf okω dX6_consignmentOf_77 zin_X0 rfl 1 (by decide) zw_43 (hmHω.2.2.2.2.1 jz5ω (by omega)).1 rfl ?_
        exact z_iret okω dX6_consignmentOf_80 rfl rfl rfl (Nat.zero_le _) ⟨(hccω.1).trans (spCof_g hgd5ω htcω (k := 0) (by decide)).symm, rfl⟩
      · rw [hsw17ω]
        refine z_tableIn (off := 64) (tgt := 81) okω dX6_consignmentOf_17 (by decide) (by decide) rfl (by decide) ?_
        refine z_aload_n okω dX6_consignmentOf_81 rfl ?_
        refine z_getf okω dX6_consignmentOf_82 zin_X0 rfl 2 (by decide) zw_46 (hmHω.2.2.2.2.1 jz5ω (by omega)).1 rfl ?_
        exact z_iret okω dX6_consignmentOf_85 rfl rfl rfl (Nat.zero_le _) ⟨(hccω.2.1).trans (spCof_g hgd5ω htcω (k := 1) (by decide)).symm, rfl⟩
      · rw [hsw17ω]
        refine z_tableIn (off := 69) (tgt := 86) okω dX6_consignmentOf_17 (by decide) (by decide) rfl (by decide) ?_
        refine z_aload_n okω dX6_consignmentOf_86 rfl ?_
        refine z_getf okω dX6_consignmentOf_87 zin_X0 rfl 3 (by decide) zw_49 (hmHω.2.2.2.2.1 jz5ω (by omega)).1 rfl ?_
        exact z_iret okω dX6_consignmentOf_90 rfl rfl rfl (Nat.zero_le _) ⟨(hccω.2.2.1).trans (spCof_g hgd5ω htcω (k := 2) (by decide)).symm, rfl⟩
      · rw [hsw17ω]
        refine z_tableIn (off := 74) (tgt := 91) okω dX6_consignmentOf_17 (by decide) (by decide) rfl (by decide) ?_
        refine z_aload_n okω dX6_consignmentOf_91 rfl ?_
        refine z_getf okω dX6_consignmentOf_92 zin_X0 rfl 4 (by decide) zw_52 (hmHω.2.2.2.2.1 jz5ω (by omega)).1 rfl ?_
        exact z_iret okω dX6_consignmentOf_95 rfl rfl rfl (Nat.zero_le _) ⟨(hccω.2.2.2.1).trans (spCof_g hgd5ω htcω (k := 3) (by decide)).symm, rfl⟩
      · rw [hsw17ω]
        refine z_tableIn (off := 79) (tgt := 96) okω dX6_consignmentOf_17 (by decide) (by decide) rfl (by decide) ?_
        refine z_aload_n okω dX6_consignmentOf_96 rfl ?_
        refine z_getf okω dX6_consignmentOf_97 zin_X0 rfl 5 (by decide) zw_55 (hmHω.2.2.2.2.1 jz5ω (by omega)).1 rfl ?_
        exact z_iret okω dX6_consignmentOf_100 rfl rfl rfl (Nat.zero_le _) ⟨(hccω.2.2.2.2.1).trans (spCof_g hgd5ω htcω (k := 4) (by decide)).symm, rfl⟩
      · rw [hsw17ω]
        refine z_tableIn (off := 84) (tgt := 101) okω dX6_consignmentOf_17 (by decide) (by decide) rfl (by decide) ?_
        refine z_aload_n okω dX6_consignmentOf_101 rfl ?_
        refine z_getf okω dX6_consignmentOf_102 zin_X0 rfl 6 (by decide) zw_58 (hmHω.2.2.2.2.1 jz5ω (by omega)).1 rfl ?_
        exact z_iret okω dX6_consignmentOf_105 rfl rfl rfl (Nat.zero_le _) ⟨(hccω.2.2.2.2.2.1).trans (spCof_g hgd5ω htcω (k := 5) (by decide)).symm, rfl⟩
      · rw [hsw17ω]
        refine z_tableIn (off := 89) (tgt := 106) okω dX6_consignmentOf_17 (by decide) (by decide) rfl (by decide) ?_
        refine z_aload_n okω dX6_consignmentOf_106 rfl ?_
        refine z_getf okω dX6_consignmentOf_107 zin_X0 rfl 7 (by decide) zw_61 (hmHω.2.2.2.2.1 jz5ω (by omega)).1 rfl ?_
        exact z_iret okω dX6_consignmentOf_110 rfl rfl rfl (Nat.zero_le _) ⟨(hccω.2.2.2.2.2.2.1).trans (spCof_g hgd5ω htcω (k := 6) (by decide)).symm, rfl⟩
      · rw [hsw17ω]
        refine z_tableIn (off := 94) (tgt := 111) okω dX6_consignmentOf_17 (by decide) (by decide) rfl (by decide) ?_
        refine z_aload_n okω dX6_consignmentOf_111 rfl ?_
        refine z_getf okω dX6_consignmentOf_112 zin_X0 rfl 10 (by decide) zw_70 (hmHω.2.2.2.2.1 jz5ω (by omega)).1 rfl ?_
        refine z_iconst (v := -1) okω dX6_consignmentOf_115 (by decide) ?_
        refine z_icmp_ne (tgt := 124) okω dX6_consignmentOf_116 (by decide) (fun cz116ω => ?_) (fun cz116ω => ?_)
        · have hzvω := (zEn_u (hwω.g7 hjz5ω)).2 (by rw [← hccω.2.2.2.2.2.2.2.2.2.1]; exact cz116ω)
          refine z_aload_n okω dX6_consignmentOf_124 rfl ?_
          refine z_getf okω dX6_consignmentOf_125 zin_X0 rfl 10 (by decide) zw_70 (hmHω.2.2.2.2.1 jz5ω (by omega)).1 rfl ?_
          exact z_iret okω dX6_consignmentOf_128 rfl rfl rfl (Nat.zero_le _) ⟨by rw [spCof_g hgd5ω htcω (k := 7) (by decide)]; first | exact hzvω.symm | exact hccω.2.2.2.2.2.2.2.2.2.1.trans hzvω, rfl⟩
        · have hzvω := (zEn_u (hwω.g7 hjz5ω)).1 (by rw [← hccω.2.2.2.2.2.2.2.2.2.1]; exact cz116ω)
          refine z_ldc okω dX6_consignmentOf_119 zw_299 ?_
          refine z_goto (tgt := 128) okω dX6_consignmentOf_121 (by decide) ?_
          exact z_iret okω dX6_consignmentOf_128 rfl rfl rfl (Nat.zero_le _) ⟨by rw [spCof_g hgd5ω htcω (k := 7) (by decide)]; first | exact hzvω.symm | exact hccω.2.2.2.2.2.2.2.2.2.1.trans hzvω, rfl⟩
      · rw [hsw17ω]
        refine z_tableIn (off := 112) (tgt := 129) okω dX6_consignmentOf_17 (by decide) (by decide) rfl (by decide) ?_
        refine z_aload_n okω dX6_consignmentOf_129 rfl ?_
        refine z_getf okω dX6_consignmentOf_130 zin_X0 rfl 12 (by decide) zw_75 (hmHω.2.2.2.2.1 jz5ω (by omega)).1 rfl ?_
        refine z_iconst (v := -1) okω dX6_consignmentOf_133 (by decide) ?_
        refine z_icmp_ne (tgt := 142) okω dX6_consignmentOf_134 (by decide) (fun cz134ω => ?_) (fun cz134ω => ?_)
        · have hzvω := (zEn_u (hwω.g jz5ω hjz5ω).2.2.2.2.2.2).2 (by rw [← hccω.2.2.2.2.2.2.2.2.2.2.1]; exact cz134ω)
          refine z_aload_n okω dX6_consignmentOf_142 rfl ?_
          refine z_getf okω dX6_consignmentOf_143 zin_X0 rfl 12 (by decide) zw_75 (hmHω.2.2.2.2.1 jz5ω (by omega)).1 rfl ?_
          exact z_iret okω dX6_consignmentOf_146 rfl rfl rfl (Nat.zero_le _) ⟨by rw [spCof_g hgd5ω htcω (k := 8) (by decide)]; first | exact hzvω.symm | exact hccω.2.2.2.2.2.2.2.2.2.2.1.trans hzvω, rfl⟩
        · have hzvω := (zEn_u (hwω.g jz5ω hjz5ω).2.2.2.2.2.2).1 (by rw [← hccω.2.2.2.2.2.2.2.2.2.2.1]; exact cz134ω)
          refine z_ldc okω dX6_consignmentOf_137 zw_299 ?_
          refine z_goto (tgt := 146) okω dX6_consignmentOf_139 (by decide) ?_
          exact z_iret okω dX6_consignmentOf_146 rfl rfl rfl (Nat.zero_le _) ⟨by rw [spCof_g hgd5ω htcω (k := 8) (by decide)]; first | exact hzvω.symm | exact hccω.2.2.2.2.2.2.2.2.2.2.1.trans hzvω, rfl⟩
      · rw [hsw17ω]
        refine z_tableIn (off := 130) (tgt := 147) okω dX6_consignmentOf_17 (by decide) (by decide) rfl (by decide) ?_
        refine z_aload_n okω dX6_consignmentOf_147 rfl ?_
        refine z_getf okω dX6_consignmentOf_148 zin_X6 rfl 0 (by decide) zw_274 hm.F rfl ?_
        refine z_aload_n okω dX6_consignmentOf_151 rfl ?_
        refine z_getf okω dX6_consignmentOf_152 zin_X0 rfl 9 (by decide) zw_67 (hmHω.2.2.2.2.1 jz5ω (by omega)).1 rfl ?_
        refine z_callVi okω dX6_consignmentOf_155 zm_X1_partsOf zw_600 zi_X1_partsOf hmHω.1 rfl (ct_X1_partsOf hmHω hrω) rfl rfl (by decide) (by decide) (by decide) (Nat.le_of_ble_eq_true rfl) (fun xz4ω Mz5ω qz6ω => ?_)
        obtain ⟨hpqω, hMeω⟩ := qz6ω
        obtain rfl := hMeω.symm
        exact z_iret okω dX6_consignmentOf_158 rfl rfl rfl (Nat.zero_le _) ⟨by rw [spCof_9 hgd5ω htcω, ← hccω.2.2.2.2.2.2.2.2.1]; exact hpqω, rfl⟩
      · rw [hsw17ω]
        refine z_tableIn (off := 142) (tgt := 159) okω dX6_consignmentOf_17 (by decide) (by decide) rfl (by decide) ?_
        refine z_aload_n okω dX6_consignmentOf_159 rfl ?_
        refine z_callVi okω dX6_consignmentOf_160 zm_X0_isInHall zw_604 zi_X0_isInHall (hmHω.2.2.2.2.1 jz5ω (by omega)).1 rfl (ct_isHere2 hmHω hrω hwω.S0 hjz5ω) rfl rfl (by decide) (by decide) (by decide) (Nat.le_of_ble_eq_true rfl) (fun xz7ω Mz8ω qz9ω => ?_)
        obtain ⟨rfl, hMeω⟩ := qz9ω
        obtain rfl := hMeω.symm
        refine z_if_eq (tgt := 176) okω dX6_consignmentOf_163 (by decide) (fun cz163ω => ?_) (fun cz163ω => ?_)
        · have hbω := b2_0.mp cz163ω
          refine z_aload_n okω dX6_consignmentOf_176 rfl ?_
          refine z_getf okω dX6_consignmentOf_177 zin_X0 rfl 11 (by decide) zw_73 (hmHω.2.2.2.2.1 jz5ω (by omega)).1 rfl ?_
          refine z_aload_n okω dX6_consignmentOf_180 rfl ?_
          refine z_getf okω dX6_consignmentOf_181 zin_X0 rfl 8 (by decide) zw_64 (hmHω.2.2.2.2.1 jz5ω (by omega)).1 rfl ?_
          refine z_isub okω dX6_consignmentOf_184 ?_
          exact z_iret okω dX6_consignmentOf_185 rfl rfl rfl (Nat.zero_le _) ⟨by rw [spCof_10 hgd5ω htcω, ← hccω.2.2.2.2.2.2.2.1]; first | rw [if_pos hbω, ← hrω.tm] | rw [if_neg hbω, hccω.2.2.2.2.2.2.2.2.2.2.2 (zgone hwω hjz5ω hg6ω hbω).1 (zgone hwω hjz5ω hg6ω hbω).2], rfl⟩
        · have hbω := Decidable.not_not.mp (mt b2_0.mpr cz163ω)
          refine z_aload_n okω dX6_consignmentOf_166 rfl ?_
          refine z_getf okω dX6_consignmentOf_167 zin_X6 rfl 0 (by decide) zw_274 hm.F rfl ?_
          refine z_getf okω dX6_consignmentOf_170 zin_X1 rfl 7 (by decide) zw_199 hmHω.1 rfl ?_
          refine z_goto (tgt := 180) okω dX6_consignmentOf_173 (by decide) ?_
          refine z_aload_n okω dX6_consignmentOf_180 rfl ?_
          refine z_getf okω dX6_consignmentOf_181 zin_X0 rfl 8 (by decide) zw_64 (hmHω.2.2.2.2.1 jz5ω (by omega)).1 rfl ?_
          refine z_isub okω dX6_consignmentOf_184 ?_
          exact z_iret okω dX6_consignmentOf_185 rfl rfl rfl (Nat.zero_le _) ⟨by rw [spCof_10 hgd5ω htcω, ← hccω.2.2.2.2.2.2.2.1]; first | rw [if_pos hbω, ← hrω.tm] | rw [if_neg hbω, hccω.2.2.2.2.2.2.2.2.2.2.2 (zgone hwω hjz5ω hg6ω hbω).1 (zgone hwω hjz5ω hg6ω hbω).2], rfl⟩

theorem zGoal_way {s : Nat → Int32} {n nv no v : Nat} (h : zWF s n nv no) (hv : v < nv) (h0 : ¬ vd s v 2 = 0) : zGoal s n v = vd s v 3 := by
  unfold zGoal
  rw [if_neg h0]
  rcases zLast_d (p := fun czω => zInV s czω (nI v)) (f := fun czω => gd s czω 0) (x := vd s v 3) n with ⟨_, h3ω⟩ | ⟨kzω, hkzω, h3ω, h4ω⟩
  · exact h3ω
  · rw [h3ω]
    exact h.aw v hv h0 kzω hkzω h4ω
theorem zGoal_none {s : Nat → Int32} {n v : Nat} {x : Int32} (h : kPlace s n v x) (hx : x = 0) (h1 : zP1 s n) (h0 : vd s v 2 = 0) : zGoal s n v = -1000004 := by
  unfold zGoal
  rw [if_pos h0]
  rcases h with ⟨_, h2ω⟩ | ⟨cω, hcω, hinω, hxeω⟩
  · rcases zLast_d (p := fun czω => zInV s czω (nI v)) (f := fun czω => gd s czω 0) (x := -1000004) n with ⟨_, h3ω⟩ | ⟨kzω, hkzω, h3ω, h4ω⟩
    · exact h3ω
    · exact absurd h4ω (h2ω kzω hkzω)
  · exact absurd (hxeω.symm.trans hx) (i_pos (h1 cω hcω).1).1
set_option maxRecDepth 20000 in
set_option maxHeartbeats 4000000 in
theorem ct_X6_placeOf {K : zK} {M : mM} {nx : Nat} {c : Nat} {s : Nat → Int32} {n nv no : Nat} {past : Nat → Int32} {p o : Nat} {fp fr : Int32} {ty : Nat} {tx : Nat → Int32} {vb nxz : Int32} {nums : Nat → Int32} (hm : cR M c s n nv no (fun j q => past (287 * j + q)) p p o fp fr ty tx vb nxz nums) {v : Nat} (hvv : v < nv) : zCt K yX6_placeOf cX6_placeOf 3 zr_X6_placeOf 2 [.ref c, .ref (c + 1 + 21 + v)] M nx 0 0 (zI (fun x M' => x = zGoal s n v ∧ M' = M)) := by
  refine z_enter [some (.ref c), some (.ref (c + 1 + 21 + v)), none] (by decide +kernel) (Nat.le_of_ble_eq_true rfl) rfl (fun Bω okω hzω => ?_)
  obtain ⟨κω, πω, hmHω, hrω, hwω⟩ := hm.H
  have hn16ω := hrω.1.2.1
  have hn4ω := hrω.1.2.2.2.1
  have hn10ω := hrω.1.2.2.2.2.2
  have hkvω := hrω.2.2.2.2.1 v hvv
  refine z_aload_n okω dX6_placeOf_0 rfl ?_
  refine z_getf okω dX6_placeOf_1 zin_X5 rfl 3 (by decide) zw_121 (hmHω.2.2.2.2.2.1 v (by omega)).1 rfl ?_
  refine z_if_ne (tgt := 18) okω dX6_placeOf_4 (by decide) (fun cz4ω => ?_) (fun cz4ω => ?_)
  · have hstω : ¬ vd s v 2 = 0 := fun z9ω => cz4ω (hkvω.2.2.1.trans z9ω)
    have h34ω := (hkvω.2.2.2.2.2 hstω).1
    refine z_aload_n okω dX6_placeOf_18 rfl ?_
    refine z_getf okω dX6_placeOf_19 zin_X5 rfl 4 (by decide) zw_124 (hmHω.2.2.2.2.2.1 v (by omega)).1 rfl ?_
    refine z_istore_n okω dX6_placeOf_22 (by decide) rfl ?_
    refine z_iload_n okω dX6_placeOf_23 rfl ?_
    refine z_if_ne (tgt := 32) okω dX6_placeOf_24 (by decide) (fun cz24ω => ?_) (fun cz24ω => ?_)
    · refine z_iload_n okω dX6_placeOf_32 rfl ?_
      exact z_iret okω dX6_placeOf_33 rfl rfl rfl (Nat.zero_le _) ⟨by first | exact (zGoal_none hkpω cz24ω hwω.P1 hstω).symm | exact (kPlace_goal2 hkpω cz24ω hstω (hwω.sm v hvv)).symm | exact absurd (h34ω.symm.trans cz24ω) (i_pos ((hwω.v v hvv).2.2.2.1 hstω).1).1 | exact h34ω.trans (zGoal_way hwω hvv hstω).symm, rfl⟩
    · refine z_ldc okω dX6_placeOf_27 zw_299 ?_
      refine z_goto (tgt := 33) okω dX6_placeOf_29 (by decide) ?_
      exact z_iret okω dX6_placeOf_33 rfl rfl rfl (Nat.zero_le _) ⟨by first | exact (zGoal_none hkpω cz24ω hwω.P1 hstω).symm | exact (kPlace_goal2 hkpω cz24ω hstω (hwω.sm v hvv)).symm | exact absurd (h34ω.symm.trans cz24ω) (i_pos ((hwω.v v hvv).2.2.2.1 hstω).1).1 | exact h34ω.trans (zGoal_way hwω hvv hstω).symm, rfl⟩
  · have hstω : vd s v 2 = 0 := hkvω.2.2.1.symm.trans cz4ω
    refine z_aload_n okω dX6_placeOf_7 rfl ?_
    refine z_getf okω dX6_placeOf_8 zin_X6 rfl 0 (by decide) zw_274 hm.F rfl ?_
    refine z_aload_n okω dX6_placeOf_11 rfl ?_
    refine z_callVi okω dX6_placeOf_12 zm_X1_loadPlace zw_621 zi_X1_loadPlace hmHω.1 rfl (ct_X1_loadPlace hmHω hrω (by omega)) rfl rfl (by decide) (by decide) (by decide) (Nat.le_of_ble_eq_true rfl) (fun xz1ω Mz2ω qz3ω => ?_)
    obtain ⟨hkpω, hMeω⟩ := qz3ω
    obtain rfl := hMeω.symm
    refine z_goto (tgt := 22) okω dX6_placeOf_15 (by decide) ?_
    refine z_istore_n okω dX6_placeOf_22 (by decide) rfl ?_
    refine z_iload_n okω dX6_placeOf_23 rfl ?_
    refine z_if_ne (tgt := 32) okω dX6_placeOf_24 (by decide) (fun cz24ω => ?_) (fun cz24ω => ?_)
    · refine z_iload_n okω dX6_placeOf_32 rfl ?_
      exact z_iret okω dX6_placeOf_33 rfl rfl rfl (Nat.zero_le _) ⟨by first | exact (zGoal_none hkpω cz24ω hwω.P1 hstω).symm | exact (kPlace_goal2 hkpω cz24ω hstω (hwω.sm v hvv)).symm | exact absurd (h34ω.symm.trans cz24ω) (i_pos ((hwω.v v hvv).2.2.2.1 hstω).1).1 | exact h34ω.trans (zGoal_way hwω hvv hstω).symm, rfl⟩
    · refine z_ldc okω dX6_placeOf_27 zw_299 ?_
      refine z_goto (tgt := 33) okω dX6_placeOf_29 (by decide) ?_
      exact z_iret okω dX6_placeOf_33 rfl rfl rfl (Nat.zero_le _) ⟨by first | exact (zGoal_none hkpω cz24ω hwω.P1 hstω).symm | exact (kPlace_goal2 hkpω cz24ω hstω (hwω.sm v hvv)).symm | exact absurd (h34ω.symm.trans cz24ω) (i_pos ((hwω.v v hvv).2.2.2.1 hstω).1).1 | exact h34ω.trans (zGoal_way hwω hvv hstω).symm, rfl⟩

theorem spVof_no {s : Nat → Int32} {n : Nat} {v w : Int32} (h : ¬ zVeh s v) : spVof s n v w = -1000001 := if_neg (fun zω => h zω.1)
theorem spVof_out {s : Nat → Int32} {n : Nat} {v w : Int32} (h : w.toInt < 0 ∨ 9 < w.toInt) : spVof s n v w = -1000001 := if_neg (fun zω => by omega)
theorem spVof_k {s : Nat → Int32} {n jz k : Nat} {v : Int32} (h : zVeh s v) (ht : tN v = jz) (hk : k ≤ 9) : spVof s n v (nI k) = zVo s n jz k := by
  unfold spVof
  rw [if_pos ⟨h, by rw [nI_toInt (by omega)]; omega, by rw [nI_toInt (by omega)]; omega⟩, ht, tN_nI (by omega)]
set_option maxRecDepth 20000 in
set_option maxHeartbeats 4000000 in
theorem ct_X6_vehicleOf {K : zK} {M : mM} {nx : Nat} {c : Nat} {s : Nat → Int32} {n nv no : Nat} {past : Nat → Int32} {p o : Nat} {fp fr : Int32} {ty : Nat} {tx : Nat → Int32} {vb nxz : Int32} {nums : Nat → Int32} (hm : cR M c s n nv no (fun j q => past (287 * j + q)) p p o fp fr ty tx vb nxz nums) {vq w : Int32} : zCt K yX6_vehicleOf cX6_vehicleOf 4 zr_X6_vehicleOf 3 [.ref c, .int vq, .int w] M nx 0 0 (zI (fun x M' => x = spVof s n vq w ∧ M' = M)) := by
  refine z_enter [some (.ref c), some (.int vq), some (.int w), none] (by decide +kernel) (Nat.le_of_ble_eq_true rfl) rfl (fun Bω okω hzω => ?_)
  obtain ⟨κω, πω, hmHω, hrω, hwω⟩ := hm.H
  have hn16ω := hrω.1.2.1
  have hn4ω := hrω.1.2.2.2.1
  have hn10ω := hrω.1.2.2.2.2.2
  refine z_aload_n okω dX6_vehicleOf_0 rfl ?_
  refine z_getf okω dX6_vehicleOf_1 zin_X6 rfl 0 (by decide) zw_274 hm.F rfl ?_
  refine z_iload_n okω dX6_vehicleOf_4 rfl ?_
  refine z_callVa okω dX6_vehicleOf_5 zm_X1_vehicleAt zw_610 zi_X1_vehicleAt hmHω.1 rfl (ct_X1_vehicleAt hmHω hrω) rfl rfl (by decide) (by decide) (by decide) (Nat.le_of_ble_eq_true rfl) (fun xz1ω Mz2ω qz3ω => ?_)
  obtain ⟨hMeω, hcsqω⟩ := qz3ω
  obtain rfl := hMeω.symm
  rcases hcsqω with ⟨hng5ω, rfl⟩ | ⟨jz5ω, hjz5ω, hcz5ω, hgd5ω, rfl⟩
  · have hnull5ω := hng5ω
    refine z_astore_nN okω dX6_vehicleOf_8 (by decide) rfl ?_
    refine z_aload_nN okω dX6_vehicleOf_9 rfl ?_
    refine z_ifnonnullN okω dX6_vehicleOf_10 ?_
    refine z_ldc okω dX6_vehicleOf_13 zw_298 ?_
    exact z_iret okω dX6_vehicleOf_15 rfl rfl rfl (Nat.zero_le _) ⟨(spVof_no hnull5ω).symm, rfl⟩
  · have hkvω := hrω.2.2.2.2.1 jz5ω hjz5ω
    have htcω : tN vq = jz5ω := by rw [hcz5ω]; exact tN_nI (by omega)
    refine z_astore_n okω dX6_vehicleOf_8 (by decide) rfl ?_
    refine z_aload_n okω dX6_vehicleOf_9 rfl ?_
    refine z_ifnonnull (tgt := 16) okω dX6_vehicleOf_10 (by decide) ?_
    refine z_iload_n okω dX6_vehicleOf_16 rfl ?_
    rcases zsw (w) 9 (by omega) with hsw17ω | ⟨kswω, hkswω, hsw17ω⟩
    · refine z_tableOut (tgt := 147) okω dX6_vehicleOf_17 hsw17ω (by decide) ?_
      refine z_ldc okω dX6_vehicleOf_147 zw_298 ?_
      exact z_iret okω dX6_vehicleOf_149 rfl rfl rfl (Nat.zero_le _) ⟨(spVof_out hsw17ω).symm, rfl⟩
    · rcases (by omega : kswω = 0 ∨ kswω = 1 ∨ kswω = 2 ∨ kswω = 3 ∨ kswω = 4 ∨ kswω = 5 ∨ kswω = 6 ∨ kswω = 7 ∨ kswω = 8 ∨ kswω = 9) with rfl | rfl | rfl | rfl | rfl | rfl | rfl | rfl | rfl | rfl
      · rw [hsw17ω]
        refine z_tableIn (off := 55) (tgt := 72) okω dX6_vehicleOf_17 (by decide) (by decide) rfl (by decide) ?_
        refine z_aload_n okω dX6_vehicleOf_72 rfl ?_
        refine z_getf okω dX6_vehicleOf_73 zin_X5 rfl 1 (by decide) zw_115 (hmHω.2.2.2.2.2.1 jz5ω (by omega)).1 rfl ?_
        exact z_iret okω dX6_vehicleOf_76 rfl rfl rfl (Nat.zero_le _) ⟨hkvω.1.trans (spVof_k hgd5ω htcω (k := 0) (by decide)).symm, rfl⟩
      · rw [hsw17ω]
        refine z_tableIn (off := 60) (tgt := 77) okω dX6_vehicleOf_17 (by decide) (by decide) rfl (by decide) ?_
        refine z_aload_n okω dX6_vehicleOf_77 rfl ?_
        refine z_getf okω dX6_vehicleOf_78 zin_X5 rfl 2 (by decide) zw_118 (hmHω.2.2.2.2.2.1 jz5ω (by omega)).1 rfl ?_
        exact z_iret okω dX6_vehicleOf_81 rfl rfl rfl (Nat.zero_le _) ⟨hkvω.2.1.trans (spVof_k hgd5ω htcω (k := 1) (by decide)).symm, rfl⟩
      · rw [hsw17ω]
        refine z_tableIn (off := 65) (tgt := 82) okω dX6_vehicleOf_17 (by decide) (by decide) rfl (by decide) ?_
        refine z_aload_n okω dX6_vehicleOf_82 rfl ?_
        refine z_getf okω dX6_vehicleOf_83 zin_X5 rfl 3 (by decide) zw_121 (hmHω.2.2.2.2.2.1 jz5ω (by omega)).1 rfl ?_
        exact z_iret okω dX6_vehicleOf_86 rfl rfl rfl (Nat.zero_le _) ⟨hkvω.2.2.1.trans (spVof_k hgd5ω htcω (k := 2) (by decide)).symm, rfl⟩
      · rw [hsw17ω]
        refine z_tableIn (off := 70) (tgt := 87) okω dX6_vehicleOf_17 (by decide) (by decide) rfl (by decide) ?_
        refine z_aload_n okω dX6_vehicleOf_87 rfl ?_
        refine z_getf okω dX6_vehicleOf_88 zin_X6 rfl 0 (by decide) zw_274 hm.F rfl ?_
        refine z_aload_n okω dX6_vehicleOf_91 rfl ?_
        refine z_callVi okω dX6_vehicleOf_92 zm_X1_loadSize zw_611 zi_X1_loadSize hmHω.1 rfl (ct_X1_loadSize hmHω hrω (by omega)) rfl rfl (by decide) (by decide) (by decide) (Nat.le_of_ble_eq_true rfl) (fun xz4ω Mz5ω qz6ω => ?_)
        obtain ⟨hpqω, hMeω⟩ := qz6ω
        obtain rfl := hMeω.symm
        exact z_iret okω dX6_vehicleOf_95 rfl rfl rfl (Nat.zero_le _) ⟨hpqω.trans (spVof_k hgd5ω htcω (k := 3) (by decide)).symm, rfl⟩
      · rw [hsw17ω]
        refine z_tableIn (off := 79) (tgt := 96) okω dX6_vehicleOf_17 (by decide) (by decide) rfl (by decide) ?_
        refine z_aload_n okω dX6_vehicleOf_96 rfl ?_
        refine z_getf okω dX6_vehicleOf_97 zin_X6 rfl 0 (by decide) zw_274 hm.F rfl ?_
        refine z_aload_n okω dX6_vehicleOf_100 rfl ?_
        refine z_callVi okω dX6_vehicleOf_101 zm_X1_loadWeight zw_612 zi_X1_loadWeight hmHω.1 rfl (ct_X1_loadWeight hmHω hrω (by omega)) rfl rfl (by decide) (by decide) (by decide) (Nat.le_of_ble_eq_true rfl) (fun xz7ω Mz8ω qz9ω => ?_)
        obtain ⟨hpqω, hMeω⟩ := qz9ω
        obtain rfl := hMeω.symm
        exact z_iret okω dX6_vehicleOf_104 rfl rfl rfl (Nat.zero_le _) ⟨hpqω.trans (spVof_k hgd5ω htcω (k := 4) (by decide)).symm, rfl⟩
      · rw [hsw17ω]
        refine z_tableIn (off := 88) (tgt := 105) okω dX6_vehicleOf_17 (by decide) (by decide) rfl (by decide) ?_
        refine z_aload_n okω dX6_vehicleOf_105 rfl ?_
        refine z_getf okω dX6_vehicleOf_106 zin_X6 rfl 0 (by decide) zw_274 hm.F rfl ?_
        refine z_aload_n okω dX6_vehicleOf_109 rfl ?_
        refine z_callVi okω dX6_vehicleOf_110 zm_X1_loadSet zw_613 zi_X1_loadSet hmHω.1 rfl (ct_X1_loadSet hmHω hrω (by omega)) rfl rfl (by decide) (by decide) (by decide) (Nat.le_of_ble_eq_true rfl) (fun xz10ω Mz11ω qz12ω => ?_)
        obtain ⟨hpqω, hMeω⟩ := qz12ω
        obtain rfl := hMeω.symm
        exact z_iret okω dX6_vehicleOf_113 rfl rfl rfl (Nat.zero_le _) ⟨hpqω.trans (spVof_k hgd5ω htcω (k := 5) (by decide)).symm, rfl⟩
      · rw [hsw17ω]
        refine z_tableIn (off := 97) (tgt := 114) okω dX6_vehicleOf_17 (by decide) (by decide) rfl (by decide) ?_
        refine z_aload_n okω dX6_vehicleOf_114 rfl ?_
        refine z_aload_n okω dX6_vehicleOf_115 rfl ?_
        refine z_callVi okω dX6_vehicleOf_116 zm_X6_placeOf zw_617 zi_X6_placeOf hm.F rfl (ct_X6_placeOf hm hjz5ω) rfl rfl (by decide) (by decide) (by decide) (Nat.le_of_ble_eq_true rfl) (fun xz13ω Mz14ω qz15ω => ?_)
        obtain ⟨hpqω, hMeω⟩ := qz15ω
        obtain rfl := hMeω.symm
        exact z_iret okω dX6_vehicleOf_119 rfl rfl rfl (Nat.zero_le _) ⟨hpqω.trans (spVof_k hgd5ω htcω (k := 6) (by decide)).symm, rfl⟩
      · rw [hsw17ω]
        refine z_tableIn (off := 103) (tgt := 120) okω dX6_vehicleOf_17 (by decide) (by decide) rfl (by decide) ?_
        refine z_aload_n okω dX6_vehicleOf_120 rfl ?_
        refine z_getf okω dX6_vehicleOf_121 zin_X5 rfl 3 (by decide) zw_121 (hmHω.2.2.2.2.2.1 jz5ω (by omega)).1 rfl ?_
        refine z_if_ne (tgt := 132) okω dX6_vehicleOf_124 (by decide) (fun cz124ω => ?_) (fun cz124ω => ?_)
        · have hstω : ¬ vd s jz5ω 2 = 0 := fun z9ω => cz124ω (hkvω.2.2.1.trans z9ω)
          refine z_aload_n okω dX6_vehicleOf_132 rfl ?_
          refine z_getf okω dX6_vehicleOf_133 zin_X5 rfl 6 (by decide) zw_129 (hmHω.2.2.2.2.2.1 jz5ω (by omega)).1 rfl ?_
          exact z_iret okω dX6_vehicleOf_136 rfl rfl rfl (Nat.zero_le _) ⟨by rw [spVof_k hgd5ω htcω (k := 7) (by decide)]; show _ = (if vd s jz5ω 2 = 0 then (-1000004 : Int32) else vd s jz5ω 4); first | rw [if_pos hstω] | (rw [if_neg hstω]; exact (hkvω.2.2.2.2.2 hstω).2.2), rfl⟩
        · have hstω : vd s jz5ω 2 = 0 := hkvω.2.2.1.symm.trans cz124ω
          refine z_ldc okω dX6_vehicleOf_127 zw_299 ?_
          refine z_goto (tgt := 136) okω dX6_vehicleOf_129 (by decide) ?_
          exact z_iret okω dX6_vehicleOf_136 rfl rfl rfl (Nat.zero_le _) ⟨by rw [spVof_k hgd5ω htcω (k := 7) (by decide)]; show _ = (if vd s jz5ω 2 = 0 then (-1000004 : Int32) else vd s jz5ω 4); first | rw [if_pos hstω] | (rw [if_neg hstω]; exact (hkvω.2.2.2.2.2 hstω).2.2), rfl⟩
      · rw [hsw17ω]
        refine z_tableIn (off := 120) (tgt := 137) okω dX6_vehicleOf_17 (by decide) (by decide) rfl (by decide) ?_
        refine z_aload_n okω dX6_vehicleOf_137 rfl ?_
        refine z_getf okω dX6_vehicleOf_138 zin_X5 rfl 7 (by decide) zw_132 (hmHω.2.2.2.2.2.1 jz5ω (by omega)).1 rfl ?_
        exact z_iret okω dX6_vehicleOf_141 rfl rfl rfl (Nat.zero_le _) ⟨hkvω.2.2.2.1.trans (spVof_k hgd5ω htcω (k := 8) (by decide)).symm, rfl⟩
      · rw [hsw17ω]
        refine z_tableIn (off := 125) (tgt := 142) okω dX6_vehicleOf_17 (by decide) (by decide) rfl (by decide) ?_
        refine z_aload_n okω dX6_vehicleOf_142 rfl ?_
        refine z_getf okω dX6_vehicleOf_143 zin_X5 rfl 8 (by decide) zw_135 (hmHω.2.2.2.2.2.1 jz5ω (by omega)).1 rfl ?_
        exact z_iret okω dX6_vehicleOf_146 rfl rfl rfl (Nat.zero_le _) ⟨hkvω.2.2.2.2.1.trans (spVof_k hgd5ω htcω (k := 9) (by decide)).symm, rfl⟩

set_option maxRecDepth 20000 in
set_option maxHeartbeats 4000000 in
theorem ct_X6_offerOf {K : zK} {M : mM} {nx : Nat} {c : Nat} {s : Nat → Int32} {n nv no : Nat} {past : Nat → Int32} {p o : Nat} {fp fr : Int32} {ty : Nat} {tx : Nat → Int32} {vb nxz : Int32} {nums : Nat → Int32} (hm : cR M c s n nv no (fun j q => past (287 * j + q)) p p o fp fr ty tx vb nxz nums) {iq w : Int32} : zCt K yX6_offerOf cX6_offerOf 4 zr_X6_offerOf 1 [.ref c, .int iq, .int w] M nx 0 0 (zI (fun x M' => x = spOof s iq w ∧ M' = M)) := by
  refine z_enter [some (.ref c), some (.int iq), some (.int w), none] (by decide +kernel) (Nat.le_of_ble_eq_true rfl) rfl (fun Bω okω hzω => ?_)
  obtain ⟨κω, πω, hmHω, hrω, hwω⟩ := hm.H
  have hn16ω := hrω.1.2.1
  have hn4ω := hrω.1.2.2.2.1
  have hn10ω := hrω.1.2.2.2.2.2
  have hofω := hrω.offs
  have h6ω := hrω.1.2.2.2.2.1
  refine z_iload_n okω dX6_offerOf_0 rfl ?_
  refine z_if_lt (tgt := 13) okω dX6_offerOf_1 (by decide) (fun cz1ω => ?_) (fun cz1ω => ?_)
  · refine z_ldc okω dX6_offerOf_13 zw_298 ?_
    exact z_iret okω dX6_offerOf_15 rfl rfl rfl (Nat.zero_le _) ⟨by unfold spOof; first | rw [if_neg (fun z9ω => hb10ω z9ω.2)] | rw [if_neg (fun z9ω => z9ω.1 cz1ω)], rfl⟩
  · refine z_iload_n okω dX6_offerOf_4 rfl ?_
    refine z_iconst (v := 0) okω dX6_offerOf_5 (by decide) ?_
    refine z_iconst (v := 4) okω dX6_offerOf_6 (by decide) ?_
    refine z_callSi okω dX6_offerOf_7 zm_X6_isWithin zw_295 zw_296 (ct_X6_isWithin) rfl rfl (by decide) (by decide) (by decide) (Nat.le_of_ble_eq_true rfl) (fun xz1ω Mz2ω qz3ω => ?_)
    obtain ⟨rfl, hMeω⟩ := qz3ω
    obtain rfl := hMeω.symm
    refine z_if_ne (tgt := 16) okω dX6_offerOf_10 (by decide) (fun cz10ω => ?_) (fun cz10ω => ?_)
    · have hb10ω := Decidable.not_not.mp (mt b2_0.mpr cz10ω)
      refine z_iload_n okω dX6_offerOf_16 rfl ?_
      refine z_aload_n okω dX6_offerOf_17 rfl ?_
      refine z_getf okω dX6_offerOf_18 zin_X6 rfl 0 (by decide) zw_274 hm.F rfl ?_
      refine z_getf okω dX6_offerOf_21 zin_X1 rfl 6 (by decide) zw_197 hmHω.1 rfl ?_
      refine z_icmp_ge (tgt := 33) okω dX6_offerOf_24 (by decide) (fun cz24ω => ?_) (fun cz24ω => ?_)
      · have hnoω : ¬ iq < s 6 := Int32.not_lt.mpr (by rw [h6ω, ← hofω]; exact cz24ω)
        refine z_ldc okω dX6_offerOf_33 zw_299 ?_
        exact z_iret okω dX6_offerOf_35 rfl rfl rfl (Nat.zero_le _) ⟨by unfold spOof; rw [if_pos ⟨cz1ω, hb10ω⟩, if_neg hnoω], rfl⟩
      · obtain ⟨jzω, hj31ω, hczω⟩ := nI_of cz1ω
        have hltω : iq < s 6 := by rw [h6ω, ← hofω]; exact Int32.not_le.mp cz24ω
        have hjzω : jzω < no := by have h9ω := Int32.lt_iff_toInt_lt.mp hltω; rw [h6ω, hczω, nI_toInt (by omega), nI_toInt (by omega)] at h9ω; omega
        have htcω : tN iq = jzω := by rw [hczω]; exact tN_nI (by omega)
        refine z_iload_n okω dX6_offerOf_27 rfl ?_
        refine z_bipush (v := 10) okω dX6_offerOf_28 (by decide) ?_
        refine z_icmp_lt (tgt := 36) okω dX6_offerOf_30 (by decide) (fun cz30ω => ?_) (fun cz30ω => ?_)
        · refine z_aload_n okω dX6_offerOf_36 rfl ?_
          refine z_getf okω dX6_offerOf_37 zin_X6 rfl 0 (by decide) zw_274 hm.F rfl ?_
          refine z_getf okω dX6_offerOf_40 zin_X1 rfl 2 (by decide) zw_189 hmHω.1 rfl ?_
          refine z_iload_n okω dX6_offerOf_43 rfl ?_
          refine h_ldO (j := jzω) okω dX6_offerOf_44 hmHω hczω (by omega) ?_
          refine z_astore_n okω dX6_offerOf_45 (by decide) rfl ?_
          refine z_iload_n okω dX6_offerOf_46 rfl ?_
          rcases zsw (w) 3 (by omega) with hsw47ω | ⟨kswω, hkswω, hsw47ω⟩
          · refine z_tableOut (tgt := 96) okω dX6_offerOf_47 hsw47ω (by decide) ?_
            have hw4ω : w = nI 4 := by have h9ω := Int32.le_iff_toInt_le.mp hb10ω.1; have h8ω := Int32.le_iff_toInt_le.mp hb10ω.2; have e0ω : (0 : Int32).toInt = 0 := rfl; have e4ω : (4 : Int32).toInt = 4 := rfl; exact Int32.toInt_inj.mp (by rw [nI_toInt (by decide)]; omega)
            refine z_aload_n okω dX6_offerOf_96 rfl ?_
            refine z_getf okω dX6_offerOf_97 zin_X3 rfl 4 (by decide) zw_174 (hmHω.2.2.2.2.2.2.2.2 jzω (by omega)) rfl ?_
            exact z_iret okω dX6_offerOf_100 rfl rfl rfl (Nat.zero_le _) ⟨by unfold spOof; rw [if_pos ⟨cz1ω, hb10ω⟩, if_pos hltω, htcω, hw4ω]; exact hrω.2.2.2.2.2 jzω hjzω 4 (by decide), rfl⟩
          · rcases (by omega : kswω = 0 ∨ kswω = 1 ∨ kswω = 2 ∨ kswω = 3) with rfl | rfl | rfl | rfl
            · rw [hsw47ω]
              refine z_tableIn (off := 29) (tgt := 76) okω dX6_offerOf_47 (by decide) (by decide) rfl (by decide) ?_
              refine z_aload_n okω dX6_offerOf_76 rfl ?_
              refine z_getf okω dX6_offerOf_77 zin_X3 rfl 0 (by decide) zw_162 (hmHω.2.2.2.2.2.2.2.2 jzω (by omega)) rfl ?_
              exact z_iret okω dX6_offerOf_80 rfl rfl rfl (Nat.zero_le _) ⟨by unfold spOof; rw [if_pos ⟨cz1ω, by decide⟩, if_pos hltω, htcω]; exact hrω.2.2.2.2.2 jzω hjzω 0 (by decide), rfl⟩
            · rw [hsw47ω]
              refine z_tableIn (off := 34) (tgt := 81) okω dX6_offerOf_47 (by decide) (by decide) rfl (by decide) ?_
              refine z_aload_n okω dX6_offerOf_81 rfl ?_
              refine z_getf okω dX6_offerOf_82 zin_X3 rfl 1 (by decide) zw_165 (hmHω.2.2.2.2.2.2.2.2 jzω (by omega)) rfl ?_
              exact z_iret okω dX6_offerOf_85 rfl rfl rfl (Nat.zero_le _) ⟨by unfold spOof; rw [if_pos ⟨cz1ω, by decide⟩, if_pos hltω, htcω]; exact hrω.2.2.2.2.2 jzω hjzω 1 (by decide), rfl⟩
            · rw [hsw47ω]
              refine z_tableIn (off := 39) (tgt := 86) okω dX6_offerOf_47 (by decide) (by decide) rfl (by decide) ?_
              refine z_aload_n okω dX6_offerOf_86 rfl ?_
              refine z_getf okω dX6_offerOf_87 zin_X3 rfl 2 (by decide) zw_168 (hmHω.2.2.2.2.2.2.2.2 jzω (by omega)) rfl ?_
              exact z_iret okω dX6_offerOf_90 rfl rfl rfl (Nat.zero_le _) ⟨by unfold spOof; rw [if_pos ⟨cz1ω, by decide⟩, if_pos hltω, htcω]; exact hrω.2.2.2.2.2 jzω hjzω 2 (by decide), rfl⟩
            · rw [hsw47ω]
              refine z_tableIn (off := 44) (tgt := 91) okω dX6_offerOf_47 (by decide) (by decide) rfl (by decide) ?_
              refine z_aload_n okω dX6_offerOf_91 rfl ?_
              refine z_getf okω dX6_offerOf_92 zin_X3 rfl 3 (by decide) zw_171 (hmHω.2.2.2.2.2.2.2.2 jzω (by omega)) rfl ?_
              exact z_iret okω dX6_offerOf_95 rfl rfl rfl (Nat.zero_le _) ⟨by unfold spOof; rw [if_pos ⟨cz1ω, by decide⟩, if_pos hltω, htcω]; exact hrω.2.2.2.2.2 jzω hjzω 3 (by decide), rfl⟩
        · exact absurd (by rw [hczω, Int32.lt_iff_toInt_lt, nI_toInt (by omega)]; show (jzω : Int) < 10; omega) cz30ω
    · have hb10ω := b2_0.mp cz10ω
      refine z_ldc okω dX6_offerOf_13 zw_298 ?_
      exact z_iret okω dX6_offerOf_15 rfl rfl rfl (Nat.zero_le _) ⟨by unfold spOof; first | rw [if_neg (fun z9ω => hb10ω z9ω.2)] | rw [if_neg (fun z9ω => z9ω.1 cz1ω)], rfl⟩

set_option maxRecDepth 20000 in
set_option maxHeartbeats 4000000 in
theorem ct_X6_settingCount {K : zK} {M : mM} {nx : Nat} {c : Nat} {s : Nat → Int32} {n nv no : Nat} {past : Nat → Int32} {p o : Nat} {fp fr : Int32} {ty : Nat} {tx : Nat → Int32} {vb nxz : Int32} {nums : Nat → Int32} (hm : cR M c s n nv no (fun j q => past (287 * j + q)) p p o fp fr ty tx vb nxz nums) {w : Int32} : zCt K yX6_settingCount cX6_settingCount 2 zr_X6_settingCount 1 [.ref c, .int w] M nx 0 0 (zI (fun x M' => x = (if zW 20 22 w then s (tN w - 20) else -1000001) ∧ M' = M)) := by
  refine z_enter [some (.ref c), some (.int w)] (by decide +kernel) (Nat.le_of_ble_eq_true rfl) rfl (fun Bω okω hzω => ?_)
  obtain ⟨κω, πω, hmHω, hrω, hwω⟩ := hm.H
  have hn16ω := hrω.1.2.1
  have hn4ω := hrω.1.2.2.2.1
  have hn10ω := hrω.1.2.2.2.2.2
  refine z_iload_n okω dX6_settingCount_0 rfl ?_
  refine z_bipush (v := 20) okω dX6_settingCount_1 (by decide) ?_
  refine z_bipush (v := 22) okω dX6_settingCount_3 (by decide) ?_
  refine z_callSi okω dX6_settingCount_5 zm_X6_isWithin zw_295 zw_296 (ct_X6_isWithin) rfl rfl (by decide) (by decide) (by decide) (Nat.le_of_ble_eq_true rfl) (fun xz1ω Mz2ω qz3ω => ?_)
  obtain ⟨rfl, hMeω⟩ := qz3ω
  obtain rfl := hMeω.symm
  refine z_if_ne (tgt := 14) okω dX6_settingCount_8 (by decide) (fun cz8ω => ?_) (fun cz8ω => ?_)
  · have hb8ω := Decidable.not_not.mp (mt b2_0.mpr cz8ω)
    obtain ⟨kw9ω, hk20ω, hk22ω, hkwω⟩ := zW_nat (a := 20) (b := 22) (by decide) (by decide) hb8ω
    have htnω : tN w = kw9ω := by rw [hkwω]; exact tN_nI (by omega)
    refine z_aload_n okω dX6_settingCount_14 rfl ?_
    refine z_getf okω dX6_settingCount_15 zin_X6 rfl 0 (by decide) zw_274 hm.F rfl ?_
    refine z_getf okω dX6_settingCount_18 zin_X1 rfl 3 (by decide) zw_191 hmHω.1 rfl ?_
    refine z_iload_n okω dX6_settingCount_21 rfl ?_
    refine z_bipush (v := 20) okω dX6_settingCount_22 (by decide) ?_
    refine z_isub okω dX6_settingCount_24 ?_
    refine h_ldT (j := (kw9ω - 20)) okω dX6_settingCount_25 hmHω (by rw [hkwω, show (20 : Int32) = nI 20 from rfl]; exact l_sub hk20ω (by omega)) (by omega) ?_
    exact z_iret okω dX6_settingCount_26 rfl rfl rfl (Nat.zero_le _) ⟨by rw [if_pos hb8ω, htnω]; exact hrω.2.2.1 (kw9ω - 20) (by omega), rfl⟩
  · have hb8ω := b2_0.mp cz8ω
    refine z_ldc okω dX6_settingCount_11 zw_298 ?_
    exact z_iret okω dX6_settingCount_13 rfl rfl rfl (Nat.zero_le _) ⟨(if_neg hb8ω).symm, rfl⟩

theorem spCount_k {s : Nat → Int32} {n k : Nat} {ps ty : Int32} (hk : k ≤ 12) : spCount s n ps ty (nI k) = zCo s n ps ty k := by
  unfold spCount
  rw [if_pos ⟨by rw [nI_toInt (by omega)]; omega, by rw [nI_toInt (by omega)]; omega⟩, tN_nI (by omega)]
theorem spCount_out {s : Nat → Int32} {n : Nat} {ps ty w : Int32} (h : w.toInt < 0 ∨ 12 < w.toInt) : spCount s n ps ty w = if zW 20 22 w then s (tN w - 20) else -1000001 := if_neg (fun zω => by omega)
set_option maxRecDepth 20000 in
set_option maxHeartbeats 4000000 in
theorem ct_X6_count {K : zK} {M : mM} {nx : Nat} {c : Nat} {s : Nat → Int32} {n nv no : Nat} {past : Nat → Int32} {p o : Nat} {fp fr : Int32} {ty : Nat} {tx : Nat → Int32} {vb nxz : Int32} {nums : Nat → Int32} (hm : cR M c s n nv no (fun j q => past (287 * j + q)) p p o fp fr ty tx vb nxz nums) {w : Int32} : zCt K yX6_count cX6_count 2 zr_X6_count 2 [.ref c, .int w] M nx 0 0 (zI (fun x M' => x = spCount s n (nI p) (nI ty) w ∧ M' = M)) := by
  refine z_enter [some (.ref c), some (.int w)] (by decide +kernel) (Nat.le_of_ble_eq_true rfl) rfl (fun Bω okω hzω => ?_)
  obtain ⟨κω, πω, hmHω, hrω, hwω⟩ := hm.H
  have hn16ω := hrω.1.2.1
  have hn4ω := hrω.1.2.2.2.1
  have hn10ω := hrω.1.2.2.2.2.2
  refine z_iload_n okω dX6_count_0 rfl ?_
  rcases zsw (w) 12 (by omega) with hsw1ω | ⟨kswω, hkswω, hsw1ω⟩
  · refine z_tableOut (tgt := 174) okω dX6_count_1 hsw1ω (by decide) ?_
    refine z_aload_n okω dX6_count_174 rfl ?_
    refine z_iload_n okω dX6_count_175 rfl ?_
    refine z_callVi okω dX6_count_176 zm_X6_settingCount zw_316 zi_X6_settingCount hm.F rfl (ct_X6_settingCount hm) rfl rfl (by decide) (by decide) (by decide) (Nat.le_of_ble_eq_true rfl) (fun xz1ω Mz2ω qz3ω => ?_)
    obtain ⟨hpqω, hMeω⟩ := qz3ω
    obtain rfl := hMeω.symm
    exact z_iret okω dX6_count_179 rfl rfl rfl (Nat.zero_le _) ⟨hpqω.trans (spCount_out hsw1ω).symm, rfl⟩
  · rcases (by omega : kswω = 0 ∨ kswω = 1 ∨ kswω = 2 ∨ kswω = 3 ∨ kswω = 4 ∨ kswω = 5 ∨ kswω = 6 ∨ kswω = 7 ∨ kswω = 8 ∨ kswω = 9 ∨ kswω = 10 ∨ kswω = 11 ∨ kswω = 12) with rfl | rfl | rfl | rfl | rfl | rfl | rfl | rfl | rfl | rfl | rfl | rfl | rfl
    · rw [hsw1ω]
      refine z_tableIn (off := 67) (tgt := 68) okω dX6_count_1 (by decide) (by decide) rfl (by decide) ?_
      refine z_aload_n okω dX6_count_68 rfl ?_
      refine z_getf okω dX6_count_69 zin_X6 rfl 0 (by decide) zw_274 hm.F rfl ?_
      refine z_getf okω dX6_count_72 zin_X1 rfl 4 (by decide) zw_193 hmHω.1 rfl ?_
      exact z_iret okω dX6_count_75 rfl rfl rfl (Nat.zero_le _) ⟨(hrω.2.1.1).trans (spCount_k (k := 0) (by decide)).symm, rfl⟩
    · rw [hsw1ω]
      refine z_tableIn (off := 75) (tgt := 76) okω dX6_count_1 (by decide) (by decide) rfl (by decide) ?_
      refine z_aload_n okω dX6_count_76 rfl ?_
      refine z_getf okω dX6_count_77 zin_X6 rfl 0 (by decide) zw_274 hm.F rfl ?_
      refine z_getf okω dX6_count_80 zin_X1 rfl 5 (by decide) zw_195 hmHω.1 rfl ?_
      exact z_iret okω dX6_count_83 rfl rfl rfl (Nat.zero_le _) ⟨(hrω.2.1.2.1).trans (spCount_k (k := 1) (by decide)).symm, rfl⟩
    · rw [hsw1ω]
      refine z_tableIn (off := 83) (tgt := 84) okω dX6_count_1 (by decide) (by decide) rfl (by decide) ?_
      refine z_aload_n okω dX6_count_84 rfl ?_
      refine z_getf okω dX6_count_85 zin_X6 rfl 0 (by decide) zw_274 hm.F rfl ?_
      refine z_getf okω dX6_count_88 zin_X1 rfl 7 (by decide) zw_199 hmHω.1 rfl ?_
      exact z_iret okω dX6_count_91 rfl rfl rfl (Nat.zero_le _) ⟨(hrω.2.1.2.2.2.1).trans (spCount_k (k := 2) (by decide)).symm, rfl⟩
    · rw [hsw1ω]
      refine z_tableIn (off := 91) (tgt := 92) okω dX6_count_1 (by decide) (by decide) rfl (by decide) ?_
      refine z_aload_n okω dX6_count_92 rfl ?_
      refine z_getf okω dX6_count_93 zin_X6 rfl 0 (by decide) zw_274 hm.F rfl ?_
      refine z_callVi okω dX6_count_96 zm_X1_hallSet zw_304 zi_X1_hallSet hmHω.1 rfl (ct_X1_hallSet hmHω hrω hwω.S0) rfl rfl (by decide) (by decide) (by decide) (Nat.le_of_ble_eq_true rfl) (fun xz4ω Mz5ω qz6ω => ?_)
      obtain ⟨hpqω, hMeω⟩ := qz6ω
      obtain rfl := hMeω.symm
      exact z_iret okω dX6_count_99 rfl rfl rfl (Nat.zero_le _) ⟨hpqω.trans (spCount_k (k := 3) (by decide)).symm, rfl⟩
    · rw [hsw1ω]
      refine z_tableIn (off := 99) (tgt := 100) okω dX6_count_1 (by decide) (by decide) rfl (by decide) ?_
      refine z_aload_n okω dX6_count_100 rfl ?_
      refine z_getf okω dX6_count_101 zin_X6 rfl 0 (by decide) zw_274 hm.F rfl ?_
      refine z_iconst (v := 3) okω dX6_count_104 (by decide) ?_
      refine z_callVi okω dX6_count_105 zm_X1_howManyAre zw_312 zi_X1_howManyAre hmHω.1 rfl (ct_X1_howManyAre hmHω hrω) rfl rfl (by decide) (by decide) (by decide) (Nat.le_of_ble_eq_true rfl) (fun xz7ω Mz8ω qz9ω => ?_)
      obtain ⟨hpqω, hMeω⟩ := qz9ω
      obtain rfl := hMeω.symm
      exact z_iret okω dX6_count_108 rfl rfl rfl (Nat.zero_le _) ⟨hpqω.trans (hwω.c3.symm.trans (spCount_k (k := 4) (by decide)).symm), rfl⟩
    · rw [hsw1ω]
      refine z_tableIn (off := 108) (tgt := 109) okω dX6_count_1 (by decide) (by decide) rfl (by decide) ?_
      refine z_aload_n okω dX6_count_109 rfl ?_
      refine z_getf okω dX6_count_110 zin_X6 rfl 0 (by decide) zw_274 hm.F rfl ?_
      refine z_iconst (v := 4) okω dX6_count_113 (by decide) ?_
      refine z_callVi okω dX6_count_114 zm_X1_howManyAre zw_312 zi_X1_howManyAre hmHω.1 rfl (ct_X1_howManyAre hmHω hrω) rfl rfl (by decide) (by decide) (by decide) (Nat.le_of_ble_eq_true rfl) (fun xz10ω Mz11ω qz12ω => ?_)
      obtain ⟨hpqω, hMeω⟩ := qz12ω
      obtain rfl := hMeω.symm
      exact z_iret okω dX6_count_117 rfl rfl rfl (Nat.zero_le _) ⟨hpqω.trans (hwω.c4.symm.trans (spCount_k (k := 5) (by decide)).symm), rfl⟩
    · rw [hsw1ω]
      refine z_tableIn (off := 117) (tgt := 118) okω dX6_count_1 (by decide) (by decide) rfl (by decide) ?_
      refine z_aload_n okω dX6_count_118 rfl ?_
      refine z_getf okω dX6_count_119 zin_X6 rfl 0 (by decide) zw_274 hm.F rfl ?_
      refine z_getf okω dX6_count_122 zin_X1 rfl 8 (by decide) zw_201 hmHω.1 rfl ?_
      exact z_iret okω dX6_count_125 rfl rfl rfl (Nat.zero_le _) ⟨(hrω.2.1.2.2.2.2.1).trans (spCount_k (k := 6) (by decide)).symm, rfl⟩
    · rw [hsw1ω]
      refine z_tableIn (off := 125) (tgt := 126) okω dX6_count_1 (by decide) (by decide) rfl (by decide) ?_
      refine z_aload_n okω dX6_count_126 rfl ?_
      refine z_getf okω dX6_count_127 zin_X6 rfl 0 (by decide) zw_274 hm.F rfl ?_
      refine z_getf okω dX6_count_130 zin_X1 rfl 9 (by decide) zw_203 hmHω.1 rfl ?_
      exact z_iret okω dX6_count_133 rfl rfl rfl (Nat.zero_le _) ⟨(hrω.2.1.2.2.2.2.2.1).trans (spCount_k (k := 7) (by decide)).symm, rfl⟩
    · rw [hsw1ω]
      refine z_tableIn (off := 133) (tgt := 134) okω dX6_count_1 (by decide) (by decide) rfl (by decide) ?_
      refine z_aload_n okω dX6_count_134 rfl ?_
      refine z_getf okω dX6_count_135 zin_X6 rfl 0 (by decide) zw_274 hm.F rfl ?_
      refine z_getf okω dX6_count_138 zin_X1 rfl 10 (by decide) zw_205 hmHω.1 rfl ?_
      exact z_iret okω dX6_count_141 rfl rfl rfl (Nat.zero_le _) ⟨(hrω.2.1.2.2.2.2.2.2.1).trans (spCount_k (k := 8) (by decide)).symm, rfl⟩
    · rw [hsw1ω]
      refine z_tableIn (off := 141) (tgt := 142) okω dX6_count_1 (by decide) (by decide) rfl (by decide) ?_
      refine z_aload_n okω dX6_count_142 rfl ?_
      refine z_getf okω dX6_count_143 zin_X6 rfl 0 (by decide) zw_274 hm.F rfl ?_
      refine z_getf okω dX6_count_146 zin_X1 rfl 11 (by decide) zw_207 hmHω.1 rfl ?_
      exact z_iret okω dX6_count_149 rfl rfl rfl (Nat.zero_le _) ⟨(hrω.2.1.2.2.2.2.2.2.2).trans (spCount_k (k := 9) (by decide)).symm, rfl⟩
    · rw [hsw1ω]
      refine z_tableIn (off := 149) (tgt := 150) okω dX6_count_1 (by decide) (by decide) rfl (by decide) ?_
      refine z_aload_n okω dX6_count_150 rfl ?_
      refine z_getf okω dX6_count_151 zin_X6 rfl 0 (by decide) zw_274 hm.F rfl ?_
      refine z_getf okω dX6_count_154 zin_X1 rfl 6 (by decide) zw_197 hmHω.1 rfl ?_
      exact z_iret okω dX6_count_157 rfl rfl rfl (Nat.zero_le _) ⟨(hrω.2.1.2.2.1).trans (spCount_k (k := 10) (by decide)).symm, rfl⟩
    · rw [hsw1ω]
      refine z_tableIn (off := 157) (tgt := 158) okω dX6_count_1 (by decide) (by decide) rfl (by decide) ?_
      refine z_aload_n okω dX6_count_158 rfl ?_
      refine z_getf okω dX6_count_159 zin_X6 rfl 2 (by decide) zw_276 hm.F rfl ?_
      refine z_getf okω dX6_count_162 zin_X2 rfl 2 (by decide) zw_245 hm.Y rfl ?_
      exact z_iret okω dX6_count_165 rfl rfl rfl (Nat.zero_le _) ⟨(spCount_k (k := 11) (by decide)).symm, rfl⟩
    · rw [hsw1ω]
      refine z_tableIn (off := 165) (tgt := 166) okω dX6_count_1 (by decide) (by decide) rfl (by decide) ?_
      refine z_aload_n okω dX6_count_166 rfl ?_
      refine z_getf okω dX6_count_167 zin_X6 rfl 3 (by decide) zw_277 hm.F rfl ?_
      refine z_getf okω dX6_count_170 zin_X4 rfl 2 (by decide) zw_261 hm.S rfl ?_
      exact z_iret okω dX6_count_173 rfl rfl rfl (Nat.zero_le _) ⟨(spCount_k (k := 12) (by decide)).symm, rfl⟩

