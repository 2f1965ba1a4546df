/-- a consignment more; another one may have changed too -/
theorem hRel.addC {κ κ' : hK} {s s' : Nat → Int32} {n nv no ic : Nat} (h : hRel κ s n nv no) (hn : n < 16) (hκ : ∀ a j, ¬ (a = 0 ∧ j = n) → ¬ (a = 0 ∧ j = ic) → a ≠ 4 → κ' a j = κ a j) (hκ4 : κ' 4 0 = upd (κ 4 0) 4 (nI (n + 1))) (hs : ∀ q, q ≠ 3 → (q < 13 + 12 * n ∨ 13 + 12 * n + 12 ≤ q) → (q < 13 + 12 * ic ∨ 13 + 12 * ic + 12 ≤ q) → s' q = s q) (hic : ic < 16) (hs3 : s' 3 = nI (n + 1)) (hc : kC (κ' 0 n) (gd s' n)) (hi : ic < n → kC (κ' 0 ic) (gd s' ic)) : hRel κ' s' (n + 1) nv no := by
  obtain ⟨h1ω, h2ω, h3ω, h4ω, h5ω, h6ω⟩ := h
  have hn4ω := h1ω.2.2.2.1
  refine ⟨⟨hs3, by omega, (hs _ (by omega) (by omega) (by omega)).trans h1ω.2.2.1, hn4ω, (hs _ (by omega) (by omega) (by omega)).trans h1ω.2.2.2.2.1, h1ω.2.2.2.2.2⟩, ?_, fun jω hjω => ?_, fun jω hjω => ?_, fun jω hjω => ?_, fun jω hjω kω hkω => ?_⟩
  · rw [hκ4, hs3, hs 4 (by omega) (by omega) (by omega), hs 6 (by omega) (by omega) (by omega), hs 5 (by omega) (by omega) (by omega), hs 9 (by omega) (by omega) (by omega), hs 10 (by omega) (by omega) (by omega), hs 11 (by omega) (by omega) (by omega), hs 12 (by omega) (by omega) (by omega)]
    exact ⟨rfl, h2ω.2⟩
  · rw [hκ 3 0 (by omega) (by omega) (by omega), hs jω (by omega) (by omega) (by omega)]
    exact h3ω jω hjω
  · by_cases hji : jω = n
    · rw [hji]
      exact hc
    · by_cases hjc : jω = ic
      · rw [hjc]
        exact hi (by omega)
      · rw [hκ 0 jω (by omega) (by omega) (by omega)]
        have hgω : ∀ kω, kω < 12 → gd s' jω kω = gd s jω kω := fun kω hkω => hs _ (by omega) (by omega) (by omega)
        have h9ω := h4ω jω (by omega)
        unfold kC at h9ω ⊢
        rw [hgω 0 (by decide), hgω 1 (by decide), hgω 2 (by decide), hgω 3 (by decide), hgω 4 (by decide), hgω 5 (by decide), hgω 6 (by decide), hgω 7 (by decide), hgω 8 (by decide), hgω 9 (by decide), hgω 10 (by decide), hgω 11 (by decide)]
        exact h9ω
  · rw [hκ 1 jω (by omega) (by omega) (by omega)]
    have hgω : ∀ kω, kω < 8 → vd s' jω kω = vd s jω kω := fun kω hkω => hs _ (by omega) (by omega) (by omega)
    have h9ω := h5ω jω hjω
    unfold kV at h9ω ⊢
    rw [hgω 0 (by decide), hgω 1 (by decide), hgω 2 (by decide), hgω 3 (by decide), hgω 4 (by decide), hgω 5 (by decide), hgω 6 (by decide), hgω 7 (by decide)]
    exact h9ω
  · rw [hκ 2 jω (by omega) (by omega) (by omega)]
    exact (h6ω jω hjω kω hkω).trans (hs _ (by omega) (by omega) (by omega)).symm
theorem zHal_0 {g : Nat → Int32} : zHal g 0 = g 0 := rfl
theorem zFrt_0 {g f : Nat → Int32} : zFrt g f 0 = g 0 := rfl
theorem zMk_o {s : Nat → Int32} {n q : Nat} {p b w f t wo : Int32} (h3 : q ≠ 3) (h : q < 13 + 12 * n ∨ 13 + 12 * n + 12 ≤ q) : zMk s n p b w f t wo q = s q := by
  unfold zMk
  rw [upd_n _ _ h3]
  iterate 12 rw [pg_o (by decide) h]
theorem zMk_3 {s : Nat → Int32} {n : Nat} {p b w f t wo : Int32} : zMk s n p b w f t wo 3 = s 3 + 1 := upd_s _ _ _
theorem zMk_g {s : Nat → Int32} {n k : Nat} {p b w f t wo : Int32} : gd (zMk s n p b w f t wo) n k = if k = 11 then 0 else if k = 10 then s 5 else if k = 9 then s 3 else if k = 8 then -1000004 else if k = 7 then -1000004 else if k = 6 then 0 else if k = 5 then wo else if k = 4 then t else if k = 3 then f else if k = 2 then w else if k = 1 then b else if k = 0 then p else gd s n k := by
  unfold zMk
  rw [gd_lo (by decide)]
  iterate 12 rw [gd_pg]
theorem zMk_g2 {s : Nat → Int32} {n j k : Nat} {p b w f t wo : Int32} (hj : j < n) (hk : k < 12) : gd (zMk s n p b w f t wo) j k = gd s j k := zMk_o (by omega) (by omega)
def spMake (s : Nat → Int32) (n : Nat) (p b w f t wo : Int32) : zRes := if n = 16 then .inl (-1000003) else .inr (zMk s n p b w f t wo, nI n)
set_option maxRecDepth 20000 in
set_option maxHeartbeats 4000000 in
theorem ct_X1_makeConsignment {K : zK} {M : mM} {nx : Nat} {b : Nat} {κ : hK} {π : Nat → Nat} (hm : hPicP M b κ π) {s : Nat → Int32} {n nv no : Nat} (hr : hRel κ s n nv no) {p1 sz w f t wo : Int32} : zCt K yX1_makeConsignment cX1_makeConsignment 8 zr_X1_makeConsignment 1 [.ref b, .int p1, .int sz, .int w, .int f, .int t, .int wo] M nx 0 0 (zI (kPost M b (spMake s n p1 sz w f t wo))) := by
  refine z_enter [some (.ref b), some (.int p1), some (.int sz), some (.int w), some (.int f), some (.int t), some (.int wo), none] (by decide +kernel) (Nat.le_of_ble_eq_true rfl) rfl (fun Bω okω hzω => ?_)
  have hmdω := hr.made
  have hn16ω := hr.1.2.1
  have hn4ω := hr.1.2.2.2.1
  have htmω := hr.tm
  have h30ω := hr.1.1
  refine z_aload_n okω dX1_makeConsignment_0 rfl ?_
  refine z_getf okω dX1_makeConsignment_1 zin_X1 rfl 4 (by decide) zw_192 hm.1 rfl ?_
  refine z_bipush (v := 16) okω dX1_makeConsignment_4 (by decide) ?_
  refine z_icmp_lt (tgt := 12) okω dX1_makeConsignment_6 (by decide) (fun cz6ω => ?_) (fun cz6ω => ?_)
  · have hcapω : n < 16 := by rw [hmdω] at cz6ω; have h9ω := Int32.lt_iff_toInt_lt.mp cz6ω; rw [nI_toInt (by omega)] at h9ω; have e4ω : (16 : Int32).toInt = 16 := rfl; omega
    refine z_aload_n okω dX1_makeConsignment_12 rfl ?_
    refine z_getf okω dX1_makeConsignment_13 zin_X1 rfl 0 (by decide) zw_186 hm.1 rfl ?_
    refine z_aload_n okω dX1_makeConsignment_16 rfl ?_
    refine z_getf okω dX1_makeConsignment_17 zin_X1 rfl 4 (by decide) zw_192 hm.1 rfl ?_
    refine h_ldC (j := n) okω dX1_makeConsignment_20 hm hmdω (by omega) ?_
    refine z_astore okω dX1_makeConsignment_21 (by decide) rfl ?_
    refine z_aload okω dX1_makeConsignment_23 rfl ?_
    refine z_iload_n okω dX1_makeConsignment_25 rfl ?_
    refine h_putC1 okω dX1_makeConsignment_26 zw_42 hm (by omega) (fun Mz2ω hm1ω frz3ω => ?_)
    refine z_aload okω dX1_makeConsignment_29 rfl ?_
    refine z_iload_n okω dX1_makeConsignment_31 rfl ?_
    refine h_putC2 okω dX1_makeConsignment_32 zw_45 hm1ω (by omega) (fun Mz5ω hm4ω frz6ω => ?_)
    refine z_aload okω dX1_makeConsignment_35 rfl ?_
    refine z_iload_n okω dX1_makeConsignment_37 rfl ?_
    refine h_putC3 okω dX1_makeConsignment_38 zw_48 hm4ω (by omega) (fun Mz8ω hm7ω frz9ω => ?_)
    refine z_aload okω dX1_makeConsignment_41 rfl ?_
    refine z_iload okω dX1_makeConsignment_43 rfl ?_
    refine h_putC4 okω dX1_makeConsignment_45 zw_51 hm7ω (by omega) (fun Mz11ω hm10ω frz12ω => ?_)
    refine z_aload okω dX1_makeConsignment_48 rfl ?_
    refine z_iload okω dX1_makeConsignment_50 rfl ?_
    refine h_putC5 okω dX1_makeConsignment_52 zw_54 hm10ω (by omega) (fun Mz14ω hm13ω frz15ω => ?_)
    refine z_aload okω dX1_makeConsignment_55 rfl ?_
    refine z_iload okω dX1_makeConsignment_57 rfl ?_
    refine h_putC6 okω dX1_makeConsignment_59 zw_57 hm13ω (by omega) (fun Mz17ω hm16ω frz18ω => ?_)
    refine z_aload okω dX1_makeConsignment_62 rfl ?_
    refine z_aload_n okω dX1_makeConsignment_64 rfl ?_
    refine z_getf okω dX1_makeConsignment_65 zin_X1 rfl 7 (by decide) zw_198 hm16ω.1 rfl ?_
    refine h_putC8 okω dX1_makeConsignment_68 zw_63 hm16ω (by omega) (fun Mz20ω hm19ω frz21ω => ?_)
    refine z_aload okω dX1_makeConsignment_71 rfl ?_
    refine z_aload okω dX1_makeConsignment_73 rfl ?_
    refine z_getf okω dX1_makeConsignment_75 zin_X0 rfl 0 (by decide) zw_40 (hm19ω.2.2.2.2.1 n (by omega)).1 rfl ?_
    refine h_putC9 okω dX1_makeConsignment_78 zw_66 hm19ω (by omega) (fun Mz23ω hm22ω frz24ω => ?_)
    refine z_aload okω dX1_makeConsignment_81 rfl ?_
    refine z_callVv okω dX1_makeConsignment_83 zm_X0_startInHall zw_371 zi_X0_startInHall (hm22ω.2.2.2.2.1 n (by omega)).1 rfl (ct_X0_startInHall (a := 0) (f := fun _ => 0) (hm22ω.2.2.2.2.1 n (by omega)).1) rfl rfl (by decide) (by decide) (by decide) (Nat.le_of_ble_eq_true rfl) (fun Mz26ω qz27ω => ?_)
    obtain ⟨hobω, hqbω⟩ := qz27ω
    have hm28ω := hPicP.newC hm22ω (by omega) (zHal_0.trans (hm22ω.2.2.2.2.1 n (by omega)).2) hobω hqbω
    have fz83ω : zFr _ Mz26ω b 35 := fun q9ω h9ω => hqbω q9ω (by omega)
    refine z_aload_n okω dX1_makeConsignment_86 rfl ?_
    refine z_dup okω dX1_makeConsignment_87 rfl ?_
    refine z_getf okω dX1_makeConsignment_88 zin_X1 rfl 4 (by decide) zw_192 hm28ω.1 rfl ?_
    refine z_iconst (v := 1) okω dX1_makeConsignment_91 (by decide) ?_
    refine z_iadd okω dX1_makeConsignment_92 ?_
    refine h_putH4 okω dX1_makeConsignment_93 zw_192 hm28ω (fun Mz30ω hm29ω frz31ω => ?_)
    refine z_aload okω dX1_makeConsignment_96 rfl ?_
    refine z_getf okω dX1_makeConsignment_98 zin_X0 rfl 0 (by decide) zw_40 (hm29ω.2.2.2.2.1 n (by omega)).1 rfl ?_
    exact z_iret okω dX1_makeConsignment_101 rfl rfl rfl (Nat.zero_le _) (kPost_ok hm29ω (hr.addC (ic := n) (s' := zMk s n p1 sz w f t wo) hcapω (fun a9ω j9ω h9ω h8ω h7ω => by simp only [kU_o h9ω, kU_o (show ¬ (a9ω = 4 ∧ j9ω = 0) from fun z8ω => h7ω z8ω.1), kR_n h9ω]) (by simp only [kU_u, kU_a (show (4 : Nat) ≠ 0 by decide), kR_a (show (4 : Nat) ≠ 0 by decide)]; rw [hmdω, nI_1]) (fun q9ω h9ω h8ω h7ω => zMk_o h9ω h8ω) hcapω (by rw [zMk_3, h30ω, nI_1]) (by unfold kC; simp only [zMk_g]; have hnnω := (hm.2.2.2.2.1 n (by omega)).2; simp [kU, kR, zHal, upd, zEn, htmω, h30ω, hnnω]) (fun z9ω => absurd z9ω (Nat.lt_irrefl n))) (by repeat (first | assumption | exact zFr.rf | refine zFr.tr (by assumption) ?_)) (by unfold spMake; rw [if_neg (by omega)]; exact congrArg (fun z9ω => Sum.inr (zMk s n p1 sz w f t wo, z9ω)) (hm29ω.2.2.2.2.1 n (by omega)).2.symm))
  · have hcapω : n = 16 := by rw [hmdω] at cz6ω; have h9ω := mt Int32.lt_iff_toInt_lt.mpr cz6ω; rw [nI_toInt (by omega)] at h9ω; have e4ω : (16 : Int32).toInt = 16 := rfl; omega
    refine z_ldc okω dX1_makeConsignment_9 zw_370 ?_
    exact z_iret okω dX1_makeConsignment_11 rfl rfl rfl (Nat.zero_le _) (kPost_e (by unfold spMake; rw [if_pos hcapω]))

theorem zSp_o {s : Nat → Int32} {n c q : Nat} {b w : Int32} (h3 : q ≠ 3) (h : q < 13 + 12 * n ∨ 13 + 12 * n + 12 ≤ q) (h2 : q < 13 + 12 * c ∨ 13 + 12 * c + 12 ≤ q) : zSp s n c b w q = s q := by
  simp only [zSp]
  rw [pg_o (by decide) h2, pg_o (by decide) h2, pg_o (by decide) h2, pg_o (by decide) h, pg_o (by decide) h, zMk_o h3 h]
theorem zSp_3 {s : Nat → Int32} {n c : Nat} {b w : Int32} : zSp s n c b w 3 = s 3 + 1 := by
  simp only [zSp]
  rw [pg_lo (by decide), pg_lo (by decide), pg_lo (by decide), pg_lo (by decide), pg_lo (by decide), zMk_3]
theorem gd_pg2 {s : Nat → Int32} {c j k k' : Nat} {x : Int32} (h : j ≠ c) (hk : k < 12) (hk' : k' < 12) : gd (pg s c k x) j k' = gd s j k' := pg_o hk (by omega)
theorem zSp_n {s : Nat → Int32} {n c k : Nat} {b w : Int32} (hc : c < n) (hk : k < 12) : gd (zSp s n c b w) n k = if k = 11 then 0 else if k = 10 then gd s c 10 else if k = 9 then gd s c 9 else if k = 8 then -1000004 else if k = 7 then -1000004 else if k = 6 then 0 else if k = 5 then gd s c 5 * b / gd s c 1 else if k = 4 then gd s c 4 else if k = 3 then gd s c 3 else if k = 2 then w else if k = 1 then b else gd s c 0 := by
  have hneω : n ≠ c := by omega
  simp only [zSp]
  rw [gd_pg2 hneω (by decide) hk, gd_pg2 hneω (by decide) hk, gd_pg2 hneω (by decide) hk, gd_pg, gd_pg, gd_pg2 (Ne.symm hneω) (by decide) (by decide), zMk_g2 hc (by decide), zMk_g2 hc (by decide), zMk_g]
  rcases (by omega : k = 0 ∨ k = 1 ∨ k = 2 ∨ k = 3 ∨ k = 4 ∨ k = 5 ∨ k = 6 ∨ k = 7 ∨ k = 8 ∨ k = 9 ∨ k = 10 ∨ k = 11) with h9ω | h9ω | h9ω | h9ω | h9ω | h9ω | h9ω | h9ω | h9ω | h9ω | h9ω | h9ω <;> rw [h9ω] <;> simp
theorem zSp_c {s : Nat → Int32} {n c k : Nat} {b w : Int32} (hc : c < n) (hk : k < 12) : gd (zSp s n c b w) c k = if k = 5 then gd s c 5 - gd s c 5 * b / gd s c 1 else if k = 2 then gd s c 2 - w else if k = 1 then gd s c 1 - b else gd s c k := by
  have hneω : c ≠ n := by omega
  simp only [zSp]
  rw [gd_pg, gd_pg, gd_pg, gd_pg, gd_pg, gd_pg, gd_pg2 hneω (by decide) hk, gd_pg2 hneω (by decide) hk, zMk_g2 hc hk]
  rcases (by omega : k = 0 ∨ k = 1 ∨ k = 2 ∨ k = 3 ∨ k = 4 ∨ k = 5 ∨ k = 6 ∨ k = 7 ∨ k = 8 ∨ k = 9 ∨ k = 10 ∨ k = 11) with h9ω | h9ω | h9ω | h9ω | h9ω | h9ω | h9ω | h9ω | h9ω | h9ω | h9ω | h9ω <;> rw [h9ω] <;> simp [gd_pg2 hneω, zMk_g2 hc]
theorem zW_pos {x b : Int32} (h : zW 1 (x - 1) b) : ¬ x = 0 := fun zω => by
  rw [zω] at h
  exact absurd (Int32.le_trans h.1 h.2) (by decide)
set_option maxRecDepth 20000 in
set_option maxHeartbeats 4000000 in
theorem ct_X1_splitOff {K : zK} {M : mM} {nx : Nat} {b : Nat} {κ : hK} {π : Nat → Nat} (hm : hPicP M b κ π) {s : Nat → Int32} {n nv no : Nat} (hr : hRel κ s n nv no) {c b1 w1 : Int32} : zCt K yX1_splitOff cX1_splitOff 6 zr_X1_splitOff 1 [.ref b, .int c, .int b1, .int w1] M nx 0 0 (zI (kPost M b (spSplit s n c b1 w1))) := by
  refine z_enter [some (.ref b), some (.int c), some (.int b1), some (.int w1), none, none] (by decide +kernel) (Nat.le_of_ble_eq_true rfl) rfl (fun Bω okω hzω => ?_)
  have hmdω := hr.made
  have hn16ω := hr.1.2.1
  have hn4ω := hr.1.2.2.2.1
  have htmω := hr.tm
  have h30ω := hr.1.1
  refine z_aload_n okω dX1_splitOff_0 rfl ?_
  refine z_iload_n okω dX1_splitOff_1 rfl ?_
  refine z_callVa okω dX1_splitOff_2 zm_X1_consignmentAt zw_401 zi_X1_consignmentAt hm.1 rfl (ct_X1_consignmentAt hm hr) rfl rfl (by decide) (by decide) (by decide) (Nat.le_of_ble_eq_true rfl) (fun xz1ω Mz2ω qz3ω => ?_)
  obtain ⟨hMeω, hcsqω⟩ := qz3ω
  obtain rfl := hMeω.symm
  rcases hcsqω with ⟨hng2ω, rfl⟩ | ⟨jz2ω, hjz2ω, hcz2ω, hgd2ω, rfl⟩
  · have hnull2ω := hng2ω
    refine z_astoreN okω dX1_splitOff_5 (by decide) rfl ?_
    refine z_aloadN okω dX1_splitOff_7 rfl ?_
    refine z_ifnullN (tgt := 42) okω dX1_splitOff_9 (by decide) ?_
    refine z_ldc okω dX1_splitOff_42 zw_406 ?_
    exact z_iret okω dX1_splitOff_44 rfl rfl rfl (Nat.zero_le _) (kPost_e (by unfold spSplit; first | rw [if_neg (fun z9ω => hnull2ω z9ω.1)] | rw [if_neg (fun z9ω => hb24ω (by rw [hcc2ω.2.1, ← htcω]; exact z9ω.2.1))] | rw [if_neg (fun z9ω => hb39ω (by rw [hcc2ω.2.2.1, ← htcω]; exact z9ω.2.2))]))
  · have hcc2ω := hr.c hjz2ω
    have htcω : tN c = jz2ω := by rw [hcz2ω]; exact tN_nI (by omega)
    refine z_astore okω dX1_splitOff_5 (by decide) rfl ?_
    refine z_aload okω dX1_splitOff_7 rfl ?_
    refine z_ifnull okω dX1_splitOff_9 ?_
    refine z_iload_n okω dX1_splitOff_12 rfl ?_
    refine z_iconst (v := 1) okω dX1_splitOff_13 (by decide) ?_
    refine z_aload okω dX1_splitOff_14 rfl ?_
    refine z_getf okω dX1_splitOff_16 zin_X0 rfl 2 (by decide) zw_45 (hm.2.2.2.2.1 jz2ω (by omega)).1 rfl ?_
    refine z_iconst (v := 1) okω dX1_splitOff_19 (by decide) ?_
    refine z_isub okω dX1_splitOff_20 ?_
    refine z_callSNi okω dX1_splitOff_21 zm_X6_isWithin (fun _ hω => hω.2.2.2.2.2.2.1) zw_296 (ct_X6_isWithin) rfl rfl (by decide) (by decide) (by decide) (Nat.le_of_ble_eq_true rfl) (fun xz4ω Mz5ω qz6ω => ?_)
    obtain ⟨rfl, hMeω⟩ := qz6ω
    obtain rfl := hMeω.symm
    refine z_if_eq (tgt := 42) okω dX1_splitOff_24 (by decide) (fun cz24ω => ?_) (fun cz24ω => ?_)
    · have hb24ω := b2_0.mp cz24ω
      refine z_ldc okω dX1_splitOff_42 zw_406 ?_
      exact z_iret okω dX1_splitOff_44 rfl rfl rfl (Nat.zero_le _) (kPost_e (by unfold spSplit; first | rw [if_neg (fun z9ω => hnull2ω z9ω.1)] | rw [if_neg (fun z9ω => hb24ω (by rw [hcc2ω.2.1, ← htcω]; exact z9ω.2.1))] | rw [if_neg (fun z9ω => hb39ω (by rw [hcc2ω.2.2.1, ← htcω]; exact z9ω.2.2))]))
    · have hb24ω := Decidable.not_not.mp (mt b2_0.mpr cz24ω)
      refine z_iload_n okω dX1_splitOff_27 rfl ?_
      refine z_iconst (v := 1) okω dX1_splitOff_28 (by decide) ?_
      refine z_aload okω dX1_splitOff_29 rfl ?_
      refine z_getf okω dX1_splitOff_31 zin_X0 rfl 3 (by decide) zw_48 (hm.2.2.2.2.1 jz2ω (by omega)).1 rfl ?_
      refine z_iconst (v := 1) okω dX1_splitOff_34 (by decide) ?_
      refine z_isub okω dX1_splitOff_35 ?_
      refine z_callSNi okω dX1_splitOff_36 zm_X6_isWithin (fun _ hω => hω.2.2.2.2.2.2.1) zw_296 (ct_X6_isWithin) rfl rfl (by decide) (by decide) (by decide) (Nat.le_of_ble_eq_true rfl) (fun xz7ω Mz8ω qz9ω => ?_)
      obtain ⟨rfl, hMeω⟩ := qz9ω
      obtain rfl := hMeω.symm
      refine z_if_ne (tgt := 45) okω dX1_splitOff_39 (by decide) (fun cz39ω => ?_) (fun cz39ω => ?_)
      · have hb39ω := Decidable.not_not.mp (mt b2_0.mpr cz39ω)
        refine z_aload okω dX1_splitOff_45 rfl ?_
        refine z_getf okω dX1_splitOff_47 zin_X0 rfl 7 (by decide) zw_60 (hm.2.2.2.2.1 jz2ω (by omega)).1 rfl ?_
        refine z_if_eq (tgt := 56) okω dX1_splitOff_50 (by decide) (fun cz50ω => ?_) (fun cz50ω => ?_)
        · have hstω : gd s jz2ω 6 = 0 := by rw [← hcc2ω.2.2.2.2.2.2.1]; exact cz50ω
          refine z_aload_n okω dX1_splitOff_56 rfl ?_
          refine z_getf okω dX1_splitOff_57 zin_X1 rfl 4 (by decide) zw_192 hm.1 rfl ?_
          refine z_bipush (v := 16) okω dX1_splitOff_60 (by decide) ?_
          refine z_icmp_lt (tgt := 68) okω dX1_splitOff_62 (by decide) (fun cz62ω => ?_) (fun cz62ω => ?_)
          · have hcapω : n < 16 := by rw [hmdω] at cz62ω; have h9ω := Int32.lt_iff_toInt_lt.mp cz62ω; rw [nI_toInt (by omega)] at h9ω; have e4ω : (16 : Int32).toInt = 16 := rfl; omega
            have hnjω : ¬ n = jz2ω := by omega
            have hjnω : ¬ jz2ω = n := by omega
            refine z_aload_n okω dX1_splitOff_68 rfl ?_
            refine z_getf okω dX1_splitOff_69 zin_X1 rfl 0 (by decide) zw_186 hm.1 rfl ?_
            refine z_aload_n okω dX1_splitOff_72 rfl ?_
            refine z_getf okω dX1_splitOff_73 zin_X1 rfl 4 (by decide) zw_192 hm.1 rfl ?_
            refine h_ldC (j := n) okω dX1_splitOff_76 hm hmdω (by omega) ?_
            refine z_astore okω dX1_splitOff_77 (by decide) rfl ?_
            refine z_aload okω dX1_splitOff_79 rfl ?_
            refine z_aload okω dX1_splitOff_81 rfl ?_
            refine z_callVv okω dX1_splitOff_83 zm_X0_copyFreight zw_408 zi_X0_copyFreight (hm.2.2.2.2.1 n (by omega)).1 rfl (ct_X0_copyFreight (hm.2.2.2.2.1 n (by omega)).1 (hm.2.2.2.2.1 jz2ω (by omega)).1 (by omega)) rfl rfl (by decide) (by decide) (by decide) (Nat.le_of_ble_eq_true rfl) (fun Mz11ω qz12ω => ?_)
            obtain ⟨hob1ω, hqb1ω⟩ := qz12ω
            have hm13ω := hPicP.newC hm (by omega) (zFrt_0.trans (hm.2.2.2.2.1 n (by omega)).2) hob1ω hqb1ω
            have fz83ω : zFr _ Mz11ω b 35 := fun q9ω h9ω => hqb1ω q9ω (by omega)
            refine z_aload okω dX1_splitOff_86 rfl ?_
            refine z_callVv okω dX1_splitOff_88 zm_X0_startInHall zw_371 zi_X0_startInHall (hm13ω.2.2.2.2.1 n (by omega)).1 rfl (ct_X0_startInHall (a := 0) (f := fun _ => 0) (hm13ω.2.2.2.2.1 n (by omega)).1) rfl rfl (by decide) (by decide) (by decide) (Nat.le_of_ble_eq_true rfl) (fun Mz15ω qz16ω => ?_)
            obtain ⟨hobω, hqbω⟩ := qz16ω
            have hm17ω := hPicP.newC hm13ω (by omega) (zHal_0.trans (hm13ω.2.2.2.2.1 n (by omega)).2) hobω hqbω
            have fz88ω : zFr _ Mz15ω b 35 := fun q9ω h9ω => hqbω q9ω (by omega)
            refine z_aload okω dX1_splitOff_91 rfl ?_
            refine z_iload_n okω dX1_splitOff_93 rfl ?_
            refine h_putC2 okω dX1_splitOff_94 zw_45 hm17ω (by omega) (fun Mz19ω hm18ω frz20ω => ?_)
            refine z_aload okω dX1_splitOff_97 rfl ?_
            refine z_iload_n okω dX1_splitOff_99 rfl ?_
            refine h_putC3 okω dX1_splitOff_100 zw_48 hm18ω (by omega) (fun Mz22ω hm21ω frz23ω => ?_)
            refine z_aload okω dX1_splitOff_103 rfl ?_
            refine z_aload okω dX1_splitOff_105 rfl ?_
            refine z_getf okω dX1_splitOff_107 zin_X0 rfl 6 (by decide) zw_57 (hm21ω.2.2.2.2.1 jz2ω (by omega)).1 rfl ?_
            refine z_iload_n okω dX1_splitOff_110 rfl ?_
            refine z_imul okω dX1_splitOff_111 ?_
            refine z_aload okω dX1_splitOff_112 rfl ?_
            refine z_getf okω dX1_splitOff_114 zin_X0 rfl 2 (by decide) zw_45 (hm21ω.2.2.2.2.1 jz2ω (by omega)).1 rfl ?_
            refine z_idiv okω dX1_splitOff_117 (by simp [kU, kR, zHal, zFrt, upd, hnjω, hjnω]; rw [hcc2ω.2.1]; exact zW_pos (by rw [← hcc2ω.2.1]; exact hb24ω)) ?_
            refine h_putC6 okω dX1_splitOff_118 zw_57 hm21ω (by omega) (fun Mz25ω hm24ω frz26ω => ?_)
            refine z_aload okω dX1_splitOff_121 rfl ?_
            refine z_dup okω dX1_splitOff_123 rfl ?_
            refine z_getf okω dX1_splitOff_124 zin_X0 rfl 2 (by decide) zw_45 (hm24ω.2.2.2.2.1 jz2ω (by omega)).1 rfl ?_
            refine z_iload_n okω dX1_splitOff_127 rfl ?_
            refine z_isub okω dX1_splitOff_128 ?_
            refine h_putC2 okω dX1_splitOff_129 zw_45 hm24ω (by omega) (fun Mz28ω hm27ω frz29ω => ?_)
            refine z_aload okω dX1_splitOff_132 rfl ?_
            refine z_dup okω dX1_splitOff_134 rfl ?_
            refine z_getf okω dX1_splitOff_135 zin_X0 rfl 3 (by decide) zw_48 (hm27ω.2.2.2.2.1 jz2ω (by omega)).1 rfl ?_
            refine z_iload_n okω dX1_splitOff_138 rfl ?_
            refine z_isub okω dX1_splitOff_139 ?_
            refine h_putC3 okω dX1_splitOff_140 zw_48 hm27ω (by omega) (fun Mz31ω hm30ω frz32ω => ?_)
            refine z_aload okω dX1_splitOff_143 rfl ?_
            refine z_dup okω dX1_splitOff_145 rfl ?_
            refine z_getf okω dX1_splitOff_146 zin_X0 rfl 6 (by decide) zw_57 (hm30ω.2.2.2.2.1 jz2ω (by omega)).1 rfl ?_
            refine z_aload okω dX1_splitOff_149 rfl ?_
            refine z_getf okω dX1_splitOff_151 zin_X0 rfl 6 (by decide) zw_57 (hm30ω.2.2.2.2.1 n (by omega)).1 rfl ?_
            refine z_isub okω dX1_splitOff_154 ?_
            refine h_putC6 okω dX1_splitOff_155 zw_57 hm30ω (by omega) (fun Mz34ω hm33ω frz35ω => ?_)
            refine z_aload_n okω dX1_splitOff_158 rfl ?_
            refine z_dup okω dX1_splitOff_159 rfl ?_
            refine z_getf okω dX1_splitOff_160 zin_X1 rfl 4 (by decide) zw_192 hm33ω.1 rfl ?_
            refine z_iconst (v := 1) okω dX1_splitOff_163 (by decide) ?_
            refine z_iadd okω dX1_splitOff_164 ?_
            refine h_putH4 okω dX1_splitOff_165 zw_192 hm33ω (fun Mz37ω hm36ω frz38ω => ?_)
            refine z_aload okω dX1_splitOff_168 rfl ?_
            refine z_getf okω dX1_splitOff_170 zin_X0 rfl 0 (by decide) zw_40 (hm36ω.2.2.2.2.1 n (by omega)).1 rfl ?_
            exact z_iret okω dX1_splitOff_173 rfl rfl rfl (Nat.zero_le _) (kPost_ok hm36ω (hr.addC (ic := jz2ω) (s' := zSp s n jz2ω b1 w1) (by omega) (fun a9ω j9ω h9ω h8ω h7ω => by simp only [kU_o h9ω, kU_o h8ω, kU_o (show ¬ (a9ω = 4 ∧ j9ω = 0) from fun z8ω => h7ω z8ω.1), kR_n h9ω]) (by simp only [kU_u, kU_a (show (4 : Nat) ≠ 0 by decide), kR_a (show (4 : Nat) ≠ 0 by decide)]; rw [hmdω, nI_1]) (fun q9ω h9ω h8ω h7ω => zSp_o h9ω h8ω h7ω) (by omega) (by rw [zSp_3, h30ω, nI_1]) (by unfold kC; have hgnω := fun (kzω : Nat) (hkzω : kzω < 12) => zSp_n (s := s) (b := b1) (w := w1) hjz2ω hkzω; simp only [hgnω 0 (by decide), hgnω 1 (by decide), hgnω 2 (by decide), hgnω 3 (by decide), hgnω 4 (by decide), hgnω 5 (by decide), hgnω 6 (by decide), hgnω 7 (by decide), hgnω 8 (by decide), hgnω 9 (by decide), hgnω 10 (by decide), hgnω 11 (by decide)]; have h9ω := hcc2ω; unfold kC at h9ω; simp [kU, kR, zHal, zFrt, upd, zEn, hnjω, hjnω, h9ω]) (fun _ => by unfold kC; have hgnω := fun (kzω : Nat) (hkzω : kzω < 12) => zSp_c (s := s) (b := b1) (w := w1) hjz2ω hkzω; simp only [hgnω 0 (by decide), hgnω 1 (by decide), hgnω 2 (by decide), hgnω 3 (by decide), hgnω 4 (by decide), hgnω 5 (by decide), hgnω 6 (by decide), hgnω 7 (by decide), hgnω 8 (by decide), hgnω 9 (by decide), hgnω 10 (by decide), hgnω 11 (by decide)]; have h9ω := hcc2ω; unfold kC at h9ω; simp [kU, kR, zHal, zFrt, upd, zEn, hnjω, hjnω, h9ω]; exact h9ω.2.2.2.2.2.2.2.2.2.2.2)) (by repeat (first | assumption | exact zFr.rf | refine zFr.tr (by assumption) ?_)) (by unfold spSplit; rw [if_pos ⟨hgd2ω, by rw [htcω, ← hcc2ω.2.1]; exact hb24ω, by rw [htcω, ← hcc2ω.2.2.1]; exact hb39ω⟩, htcω, if_pos hstω, if_neg (by omega)]; exact congrArg (fun z9ω => Sum.inr (zSp s n jz2ω b1 w1, z9ω)) (hm36ω.2.2.2.2.1 n (by omega)).2.symm))
          · have hcapω : n = 16 := by rw [hmdω] at cz62ω; have h9ω := mt Int32.lt_iff_toInt_lt.mpr cz62ω; rw [nI_toInt (by omega)] at h9ω; have e4ω : (16 : Int32).toInt = 16 := rfl; omega
            refine z_ldc okω dX1_splitOff_65 zw_370 ?_
            exact z_iret okω dX1_splitOff_67 rfl rfl rfl (Nat.zero_le _) (kPost_e (by unfold spSplit; rw [if_pos ⟨hgd2ω, by rw [htcω, ← hcc2ω.2.1]; exact hb24ω, by rw [htcω, ← hcc2ω.2.2.1]; exact hb39ω⟩, htcω, if_pos hstω, if_pos hcapω]))
        · have hstω : ¬ gd s jz2ω 6 = 0 := by rw [← hcc2ω.2.2.2.2.2.2.1]; exact cz50ω
          refine z_ldc okω dX1_splitOff_53 zw_407 ?_
          exact z_iret okω dX1_splitOff_55 rfl rfl rfl (Nat.zero_le _) (kPost_e (by unfold spSplit; rw [if_pos ⟨hgd2ω, by rw [htcω, ← hcc2ω.2.1]; exact hb24ω, by rw [htcω, ← hcc2ω.2.2.1]; exact hb39ω⟩, htcω, if_neg hstω]))
      · have hb39ω := b2_0.mp cz39ω
        refine z_ldc okω dX1_splitOff_42 zw_406 ?_
        exact z_iret okω dX1_splitOff_44 rfl rfl rfl (Nat.zero_le _) (kPost_e (by unfold spSplit; first | rw [if_neg (fun z9ω => hnull2ω z9ω.1)] | rw [if_neg (fun z9ω => hb24ω (by rw [hcc2ω.2.1, ← htcω]; exact z9ω.2.1))] | rw [if_neg (fun z9ω => hb39ω (by rw [hcc2ω.2.2.1, ← htcω]; exact z9ω.2.2))]))


