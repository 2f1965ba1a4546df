def cPerf (M : mM) (c : Nat) (r : zRes) (x : Int32) (M' : mM) : Prop := match r with
  | .inl e => e < 0 ∧ x = e ∧ M' = M
  | .inr q => 0 ≤ q.2 ∧ 0 ≤ x ∧ (∃ n nv no, cHall M' (c + 36) q.1 n nv no) ∧ zFr M M' (c + 36) 35
theorem cPerf_of {M M' : mM} {c : Nat} {r : zRes} {x : Int32} (h : kPost M (c + 36) r x M') (hok : zOKr r) : cPerf M c r x M' := by
  cases r with
  | inl eω => exact ⟨hok, h.1, h.2⟩
  | inr qω =>
    obtain ⟨hxω, ⟨κω, πω, nω, nvω, noω, hmω, hrω⟩, hfω⟩ := h
    obtain ⟨h0ω, n2ω, nv2ω, no2ω, hwω⟩ := hok
    exact ⟨h0ω, by rw [hxω]; exact h0ω, ⟨nω, nvω, noω, κω, πω, hmω, hrω, hwω.same hrω.1⟩, hfω⟩
theorem pcN_le (m : Nat) : ∀ k, pcN m k ≤ k
  | 0 => Nat.le_refl _
  | kω + 1 => by
    have h1ω := pcN_le m kω
    have h2ω : m >>> kω &&& 1 ≤ 1 := Nat.and_le_right
    rw [pcN]
    omega
theorem cPerf_fill {M M' : mM} {c : Nat} {s : Nat → Int32} {n nv no : Nat} {v p r x : Int32} (h : kPost M (c + 36) (spFillS s n v p r) x M') (hw : zWF s n nv no) : cPerf M c (spFill s n v p r) x M' := by
  have hokω := ok_fillS (v := v) (p := p) (r := r) hw
  have h2ω := cPerf_of h hokω
  rw [spFill_S]
  cases hr : spFillS s n v p r with
  | inl eω =>
    rw [hr] at h2ω
    exact h2ω
  | inr qω =>
    rw [hr] at h2ω
    obtain ⟨mω, hmω, heω⟩ := fillS_nat hw hr
    refine ⟨?_, h2ω.2.1, h2ω.2.2.1, h2ω.2.2.2⟩
    show 0 ≤ zBits qω.2 16
    rw [heω, zBits_nI hmω 16 (Nat.le_refl _)]
    exact nI_nn (by have := pcN_le mω 16; omega)
set_option maxRecDepth 20000 in
set_option maxHeartbeats 4000000 in
theorem ct_X6_perform {K : zK} {M : mM} {nx : Nat} {c : Nat} {s : Nat → Int32} {n nv no : Nat} {rows : Nat → Nat → Int32} {kk p o : Nat} {fp fr : Int32} {ty : Nat} {tx : Nat → Int32} {vb nxz : Int32} {w : Nat} {nums : Nat → Int32} (hm : cR M c s n nv no rows kk p o fp fr ty tx vb nxz nums) (hw7 : w < 7) (hvb : vb = nI w) {sT : Nat → Int32} {nT nvT noT : Nat} (hT : cHall M (c + 36) sT nT nvT noT) : zCt K yX6_perform cX6_perform 2 zr_X6_perform 4 [.ref c] M nx 0 0 (zI (fun x M' => cPerf M c (spCall sT nT nvT noT w nums) x M')) := by
  refine z_enter [some (.ref c), none] (by decide +kernel) (Nat.le_of_ble_eq_true rfl) rfl (fun Bω okω hzω => ?_)
  obtain ⟨κTω, πTω, hmTω, hrTω, hwTω⟩ := hT
  refine z_aload_n okω dX6_perform_0 rfl ?_
  refine z_getf okω dX6_perform_1 zin_X6 rfl 3 (by decide) zw_322 hm.F rfl ?_
  refine z_getf okω dX6_perform_4 zin_X4 rfl 1 (by decide) zw_300 hm.S rfl ?_
  refine z_astore_n okω dX6_perform_7 (by decide) rfl ?_
  refine z_aload_n okω dX6_perform_8 rfl ?_
  refine z_getf okω dX6_perform_9 zin_X6 rfl 3 (by decide) zw_322 hm.F rfl ?_
  refine z_getf okω dX6_perform_12 zin_X4 rfl 3 (by decide) zw_304 hm.S rfl ?_
  rcases zsw (vb) 6 (by omega) with hsw15ω | ⟨kswω, hkswω, hsw15ω⟩
  · refine z_tableOut (tgt := 163) okω dX6_perform_15 hsw15ω (by decide) ?_
    refine z_ldc okω dX6_perform_163 zw_345 ?_
    exact z_iret okω dX6_perform_165 rfl rfl rfl (Nat.zero_le _) (absurd hsw15ω (by rw [hvb, nI_toInt (by omega)]; omega))
  · rcases (by omega : kswω = 0 ∨ kswω = 1 ∨ kswω = 2 ∨ kswω = 3 ∨ kswω = 4 ∨ kswω = 5 ∨ kswω = 6) with rfl | rfl | rfl | rfl | rfl | rfl | rfl
    · rw [hsw15ω]
      refine z_tableIn (off := 41) (tgt := 56) okω dX6_perform_15 (by decide) (by decide) rfl (by decide) ?_
      have hwkω : w = 0 := (nI_eq (a := w) (b := 0) (by omega) (by decide)).mp (hvb.symm.trans hsw15ω)
      rw [hwkω]
      refine z_aload_n okω dX6_perform_56 rfl ?_
      refine z_getf okω dX6_perform_57 zin_X6 rfl 1 (by decide) zw_320 hm.F rfl ?_
      refine z_aload_n okω dX6_perform_60 rfl ?_
      refine z_iconst (v := 0) okω dX6_perform_61 (by decide) ?_
      refine z_ald (j := 0) okω dX6_perform_62 hm.U rfl (by decide) (by decide) ?_
      refine z_aload_n okω dX6_perform_63 rfl ?_
      refine z_iconst (v := 1) okω dX6_perform_64 (by decide) ?_
      refine z_ald (j := 1) okω dX6_perform_65 hm.U rfl (by decide) (by decide) ?_
      refine z_callVi okω dX6_perform_66 zm_X1_putInto zw_432 zi_X1_putInto hmTω.1 rfl (ct_X1_putInto hmTω hrTω hwTω.sm hwTω.P1) rfl rfl (by decide) (by decide) (by decide) (Nat.le_of_ble_eq_true rfl) (fun xz1ω Mz2ω qz3ω => ?_)
      have hkpω := qz3ω
      exact z_iret okω dX6_perform_69 rfl rfl rfl (Nat.zero_le _) (cPerf_of hkpω (ok_load hwTω))
    · rw [hsw15ω]
      refine z_tableIn (off := 55) (tgt := 70) okω dX6_perform_15 (by decide) (by decide) rfl (by decide) ?_
      have hwkω : w = 1 := (nI_eq (a := w) (b := 1) (by omega) (by decide)).mp (hvb.symm.trans hsw15ω)
      rw [hwkω]
      refine z_aload_n okω dX6_perform_70 rfl ?_
      refine z_getf okω dX6_perform_71 zin_X6 rfl 1 (by decide) zw_320 hm.F rfl ?_
      refine z_aload_n okω dX6_perform_74 rfl ?_
      refine z_iconst (v := 0) okω dX6_perform_75 (by decide) ?_
      refine z_ald (j := 0) okω dX6_perform_76 hm.U rfl (by decide) (by decide) ?_
      refine z_aload_n okω dX6_perform_77 rfl ?_
      refine z_iconst (v := 1) okω dX6_perform_78 (by decide) ?_
      refine z_ald (j := 1) okω dX6_perform_79 hm.U rfl (by decide) (by decide) ?_
      refine z_aload_n okω dX6_perform_80 rfl ?_
      refine z_iconst (v := 2) okω dX6_perform_81 (by decide) ?_
      refine z_ald (j := 2) okω dX6_perform_82 hm.U rfl (by decide) (by decide) ?_
      refine z_callVi okω dX6_perform_83 zm_X1_loadByRule zw_472 zi_X1_loadByRule hmTω.1 rfl (ct_X1_loadByRule hmTω hrTω hwTω) rfl rfl (by decide) (by decide) (by decide) (Nat.le_of_ble_eq_true rfl) (fun xz4ω Mz5ω qz6ω => ?_)
      have hkpω := qz6ω
      exact z_iret okω dX6_perform_86 rfl rfl rfl (Nat.zero_le _) (cPerf_fill hkpω hwTω)
    · rw [hsw15ω]
      refine z_tableIn (off := 72) (tgt := 87) okω dX6_perform_15 (by decide) (by decide) rfl (by decide) ?_
      have hwkω : w = 2 := (nI_eq (a := w) (b := 2) (by omega) (by decide)).mp (hvb.symm.trans hsw15ω)
      rw [hwkω]
      refine z_aload_n okω dX6_perform_87 rfl ?_
      refine z_getf okω dX6_perform_88 zin_X6 rfl 1 (by decide) zw_320 hm.F rfl ?_
      refine z_aload_n okω dX6_perform_91 rfl ?_
      refine z_iconst (v := 0) okω dX6_perform_92 (by decide) ?_
      refine z_ald (j := 0) okω dX6_perform_93 hm.U rfl (by decide) (by decide) ?_
      refine z_callVi okω dX6_perform_94 zm_X1_sendOff zw_494 zi_X1_sendOff hmTω.1 rfl (ct_X1_sendOff hmTω hrTω hwTω.sm hwTω.P1 (fun u9ω hu9ω => (hwTω.v u9ω hu9ω).2.2.1.1)) rfl rfl (by decide) (by decide) (by decide) (Nat.le_of_ble_eq_true rfl) (fun xz7ω Mz8ω qz9ω => ?_)
      have hkpω := qz9ω
      exact z_iret okω dX6_perform_97 rfl rfl rfl (Nat.zero_le _) (cPerf_of hkpω (ok_depart hwTω))
    · rw [hsw15ω]
      refine z_tableIn (off := 83) (tgt := 98) okω dX6_perform_15 (by decide) (by decide) rfl (by decide) ?_
      have hwkω : w = 3 := (nI_eq (a := w) (b := 3) (by omega) (by decide)).mp (hvb.symm.trans hsw15ω)
      rw [hwkω]
      refine z_aload_n okω dX6_perform_98 rfl ?_
      refine z_getf okω dX6_perform_99 zin_X6 rfl 1 (by decide) zw_320 hm.F rfl ?_
      refine z_aload_n okω dX6_perform_102 rfl ?_
      refine z_iconst (v := 0) okω dX6_perform_103 (by decide) ?_
      refine z_ald (j := 0) okω dX6_perform_104 hm.U rfl (by decide) (by decide) ?_
      refine z_aload_n okω dX6_perform_105 rfl ?_
      refine z_iconst (v := 1) okω dX6_perform_106 (by decide) ?_
      refine z_ald (j := 1) okω dX6_perform_107 hm.U rfl (by decide) (by decide) ?_
      refine z_aload_n okω dX6_perform_108 rfl ?_
      refine z_iconst (v := 2) okω dX6_perform_109 (by decide) ?_
      refine z_ald (j := 2) okω dX6_perform_110 hm.U rfl (by decide) (by decide) ?_
      refine z_callVi okω dX6_perform_111 zm_X1_splitOff zw_394 zi_X1_splitOff hmTω.1 rfl (ct_X1_splitOff hmTω hrTω) rfl rfl (by decide) (by decide) (by decide) (Nat.le_of_ble_eq_true rfl) (fun xz10ω Mz11ω qz12ω => ?_)
      have hkpω := qz12ω
      exact z_iret okω dX6_perform_114 rfl rfl rfl (Nat.zero_le _) (cPerf_of hkpω (ok_split hwTω))
    · rw [hsw15ω]
      refine z_tableIn (off := 100) (tgt := 115) okω dX6_perform_15 (by decide) (by decide) rfl (by decide) ?_
      have hwkω : w = 4 := (nI_eq (a := w) (b := 4) (by omega) (by decide)).mp (hvb.symm.trans hsw15ω)
      rw [hwkω]
      refine z_aload_n okω dX6_perform_115 rfl ?_
      refine z_getf okω dX6_perform_116 zin_X6 rfl 1 (by decide) zw_320 hm.F rfl ?_
      refine z_aload_n okω dX6_perform_119 rfl ?_
      refine z_iconst (v := 0) okω dX6_perform_120 (by decide) ?_
      refine z_ald (j := 0) okω dX6_perform_121 hm.U rfl (by decide) (by decide) ?_
      refine z_aload_n okω dX6_perform_122 rfl ?_
      refine z_iconst (v := 1) okω dX6_perform_123 (by decide) ?_
      refine z_ald (j := 1) okω dX6_perform_124 hm.U rfl (by decide) (by decide) ?_
      refine z_callVi okω dX6_perform_125 zm_X1_joinParts zw_410 zi_X1_joinParts hmTω.1 rfl (ct_X1_joinParts hmTω hrTω) rfl rfl (by decide) (by decide) (by decide) (Nat.le_of_ble_eq_true rfl) (fun xz13ω Mz14ω qz15ω => ?_)
      have hkpω := qz15ω
      exact z_iret okω dX6_perform_128 rfl rfl rfl (Nat.zero_le _) (cPerf_of hkpω (ok_join hwTω))
    · rw [hsw15ω]
      refine z_tableIn (off := 114) (tgt := 129) okω dX6_perform_15 (by decide) (by decide) rfl (by decide) ?_
      have hwkω : w = 5 := (nI_eq (a := w) (b := 5) (by omega) (by decide)).mp (hvb.symm.trans hsw15ω)
      rw [hwkω]
      refine z_aload_n okω dX6_perform_129 rfl ?_
      refine z_getf okω dX6_perform_130 zin_X6 rfl 1 (by decide) zw_320 hm.F rfl ?_
      refine z_aload_n okω dX6_perform_133 rfl ?_
      refine z_iconst (v := 0) okω dX6_perform_134 (by decide) ?_
      refine z_ald (j := 0) okω dX6_perform_135 hm.U rfl (by decide) (by decide) ?_
      refine z_aload_n okω dX6_perform_136 rfl ?_
      refine z_iconst (v := 1) okω dX6_perform_137 (by decide) ?_
      refine z_ald (j := 1) okω dX6_perform_138 hm.U rfl (by decide) (by decide) ?_
      refine z_aload_n okω dX6_perform_139 rfl ?_
      refine z_iconst (v := 2) okω dX6_perform_140 (by decide) ?_
      refine z_ald (j := 2) okω dX6_perform_141 hm.U rfl (by decide) (by decide) ?_
      refine z_aload_n okω dX6_perform_142 rfl ?_
      refine z_iconst (v := 3) okω dX6_perform_143 (by decide) ?_
      refine z_ald (j := 3) okω dX6_perform_144 hm.U rfl (by decide) (by decide) ?_
      refine z_aload_n okω dX6_perform_145 rfl ?_
      refine z_iconst (v := 4) okω dX6_perform_146 (by decide) ?_
      refine z_ald (j := 4) okω dX6_perform_147 hm.U rfl (by decide) (by decide) ?_
      refine z_callVi okω dX6_perform_148 zm_X1_makeOffer zw_502 zi_X1_makeOffer hmTω.1 rfl (ct_X1_makeOffer hmTω hrTω) rfl rfl (by decide) (by decide) (by decide) (Nat.le_of_ble_eq_true rfl) (fun xz16ω Mz17ω qz18ω => ?_)
      have hkpω := qz18ω
      exact z_iret okω dX6_perform_151 rfl rfl rfl (Nat.zero_le _) (cPerf_of hkpω (ok_offer hwTω))
    · rw [hsw15ω]
      refine z_tableIn (off := 137) (tgt := 152) okω dX6_perform_15 (by decide) (by decide) rfl (by decide) ?_
      have hwkω : w = 6 := (nI_eq (a := w) (b := 6) (by omega) (by decide)).mp (hvb.symm.trans hsw15ω)
      rw [hwkω]
      refine z_aload_n okω dX6_perform_152 rfl ?_
      refine z_getf okω dX6_perform_153 zin_X6 rfl 1 (by decide) zw_320 hm.F rfl ?_
      refine z_aload_n okω dX6_perform_156 rfl ?_
      refine z_iconst (v := 0) okω dX6_perform_157 (by decide) ?_
      refine z_ald (j := 0) okω dX6_perform_158 hm.U rfl (by decide) (by decide) ?_
      refine z_callVi okω dX6_perform_159 zm_X1_letPass zw_510 zi_X1_letPass hmTω.1 rfl (ct_X1_letPass hmTω hrTω hwTω) rfl rfl (by decide) (by decide) (by decide) (Nat.le_of_ble_eq_true rfl) (fun xz19ω Mz20ω qz21ω => ?_)
      have hkpω := qz21ω
      exact z_iret okω dX6_perform_162 rfl rfl rfl (Nat.zero_le _) (cPerf_of hkpω (ok_pass hwTω))

set_option maxRecDepth 20000 in
set_option maxHeartbeats 4000000 in
theorem ct_X6_reasonOf {K : zK} {M : mM} {nx : Nat} {x1 : Int32} : zCt K yX6_reasonOf cX6_reasonOf 1 zr_X6_reasonOf 0 [.int x1] M nx 0 0 (zI (fun x M' => x = (if 0 ≤ x1 then 0 else if x1 = -1000001 then 2 else 3) ∧ M' = M)) := by
  refine z_enter [some (.int x1)] (by decide +kernel) (Nat.le_of_ble_eq_true rfl) rfl (fun Bω okω hzω => ?_)
  refine z_iload_n okω dX6_reasonOf_0 rfl ?_
  refine z_if_lt (tgt := 6) okω dX6_reasonOf_1 (by decide) (fun cz1ω => ?_) (fun cz1ω => ?_)
  · refine z_iload_n okω dX6_reasonOf_6 rfl ?_
    refine z_ldc okω dX6_reasonOf_7 zw_345 ?_
    refine z_icmp_ne (tgt := 16) okω dX6_reasonOf_9 (by decide) (fun cz9ω => ?_) (fun cz9ω => ?_)
    · refine z_iconst (v := 3) okω dX6_reasonOf_16 (by decide) ?_
      exact z_iret okω dX6_reasonOf_17 rfl rfl rfl (Nat.zero_le _) ⟨by first | rw [if_pos cz1ω] | (rw [if_neg cz1ω]; first | rw [if_pos cz9ω] | rw [if_neg cz9ω]) | (rw [if_pos (Int32.not_lt.mp cz1ω)]) | (rw [if_neg (Int32.not_le.mpr cz1ω)]; first | rw [if_pos cz9ω] | rw [if_neg cz9ω]), rfl⟩
    · refine z_iconst (v := 2) okω dX6_reasonOf_12 (by decide) ?_
      refine z_goto (tgt := 17) okω dX6_reasonOf_13 (by decide) ?_
      exact z_iret okω dX6_reasonOf_17 rfl rfl rfl (Nat.zero_le _) ⟨by first | rw [if_pos cz1ω] | (rw [if_neg cz1ω]; first | rw [if_pos cz9ω] | rw [if_neg cz9ω]) | (rw [if_pos (Int32.not_lt.mp cz1ω)]) | (rw [if_neg (Int32.not_le.mpr cz1ω)]; first | rw [if_pos cz9ω] | rw [if_neg cz9ω]), rfl⟩
  · refine z_iconst (v := 0) okω dX6_reasonOf_4 (by decide) ?_
    exact z_iret okω dX6_reasonOf_5 rfl rfl rfl (Nat.zero_le _) ⟨by first | rw [if_pos cz1ω] | (rw [if_neg cz1ω]; first | rw [if_pos cz9ω] | rw [if_neg cz9ω]) | (rw [if_pos (Int32.not_lt.mp cz1ω)]) | (rw [if_neg (Int32.not_le.mpr cz1ω)]; first | rw [if_pos cz9ω] | rw [if_neg cz9ω]), rfl⟩

theorem cR.fpr {M M' : mM} {c : Nat} {s : Nat → Int32} {n nv no : Nat} {rows : Nat → Nat → Int32} {kk p o : Nat} {fp fr fp2 fr2 : Int32} {ty : Nat} {tx : Nat → Int32} {vb nxz : Int32} {nums : Nat → Int32} (h : cR M c s n nv no rows kk p o fp fr ty tx vb nxz nums) (hF : M' c = some (.inr (6, [.ref (c + 1), .ref (c + 36), .ref (c + 71), .ref (c + 248), .int fp2, .int fr2]))) (hf : ∀ q, q ≠ c → M' q = M q) : cR M' c s n nv no rows kk p o fp2 fr2 ty tx vb nxz nums := cR.mk hF ((hf _ (by omega)).trans h.Y) (h.A.kept (hf _ (by omega))) ((hf _ (by omega)).trans h.S) (h.C.kept (hf _ (by omega))) (h.U.kept (hf _ (by omega))) h.B (h.H.kept (fun qω h1ω h2ω => hf _ (by omega))) (h.T.kept (fun qω h1ω h2ω => hf _ (by omega))) (fun iω hiω => (h.R iω hiω).kept (fun qω h1ω h2ω => hf _ (by omega))) (fun jω hjω => (h.W jω hjω).kept (fun qω h1ω h2ω => hf _ (by have := Nat.mod_lt (o + jω) (show 5 > 0 by decide); omega)))
theorem tN_3 {s : Nat → Int32} {n nv no : Nat} (h : zN s n nv no) : tN (s 3) = n ∧ tN (s 4) = nv ∧ tN (s 6) = no := ⟨by rw [h.1]; exact tN_nI (by have := h.2.1; omega), by rw [h.2.2.1]; exact tN_nI (by have := h.2.2.2.1; omega), by rw [h.2.2.2.2.1]; exact tN_nI (by have := h.2.2.2.2.2; omega)⟩
/-- what a try of the text tells -/
def cTry (M : mM) (c : Nat) (s : Nat → Int32) (n nv no : Nat) (rows : Nat → Nat → Int32) (kk p o ty : Nat) (tx : Nat → Int32) (R : (Nat → Int32) × Int32 × Int32 × Int32) (x : Int32) (M' : mM) : Prop := ∃ fp fr vb nxz nums, cR M' c s n nv no rows kk p o fp fr ty tx vb nxz nums ∧ (∃ nT nvT noT, cHall M' (c + 36) R.1 nT nvT noT) ∧ fr = R.2.1 ∧ (fr = 0 → x = R.2.2.2 ∧ ∃ i, i ≤ 80 ∧ x = nI i) ∧ (¬ fr = 0 → fp = R.2.2.1 ∧ ∃ i, i ≤ 80 ∧ fp = nI i) ∧ zFr M M' c 251
