theorem zsw (x : Int32) (h : Nat) (hh : h < 2 ^ 31) : (x.toInt < 0 ∨ (h : Int) < x.toInt) ∨ ∃ k, k ≤ h ∧ x = nI k := by
  by_cases h0 : x < 0
  · exact Or.inl (Or.inl (by have := Int32.lt_iff_toInt_lt.mp h0; simpa using this))
  · obtain ⟨j, hj, rfl⟩ := nI_of h0
    by_cases h1 : j ≤ h
    · exact Or.inr ⟨j, h1, rfl⟩
    · exact Or.inl (Or.inr (by rw [nI_toInt hj]; omega))
theorem zhi (a b : Int32) : a + b - a = b := by grind
theorem zhi2 (a b : Int32) : a + b - b = a := by grind
set_option maxRecDepth 20000 in
set_option maxHeartbeats 4000000 in
theorem ct_X7_split {K : zK} {M : mM} {nx : Nat} {m : Nat} {μ : zMS} (hm : mPic M m μ) {n nv no : Nat} (hN : zN (μ.1 1) n nv no) {p : Nat} (hr : zRuns μ p) {c b w : Int32} : zCt K yX7_split cX7_split 6 zr_X7_split 2 [.ref m, .int c, .int b, .int w] M nx 0 0 (zI (zPost M m μ p (spSplit (μ.1 1) n c b w))) := by
  refine z_enter [some (.ref m), some (.int c), some (.int b), some (.int w), none, none] (by decide +kernel) (Nat.le_of_ble_eq_true rfl) rfl (fun B ok hz => ?_)
  have hn16 := hN.2.1
  refine z_aload_n ok dX7_split_0 rfl ?_
  refine z_iload_n ok dX7_split_1 rfl ?_
  refine z_callVi ok dX7_split_2 zm_X7_isGoods zw_841 zi_X7_isGoods hm.1 rfl (ct_X7_isGoods hm hN) rfl rfl (by decide) (by decide) (by decide) (Nat.le_of_ble_eq_true rfl) (fun xz1 Mz2 qz3 => ?_)
  obtain ⟨rfl, hMe⟩ := qz3
  obtain rfl := hMe.symm
  refine z_if_eq (tgt := 40) ok dX7_split_5 (by decide) (fun cz5 => ?_) (fun cz5 => ?_)
  · have hb5 := b2_0.mp cz5
    refine z_ldc ok dX7_split_40 zw_822 ?_
    exact z_iret ok dX7_split_42 rfl rfl rfl (Nat.zero_le _) (zPost_e (by unfold spSplit; grind))
  · have hb5 := Decidable.not_not.mp (mt b2_0.mpr cz5)
    obtain ⟨jz, hjz, hcjjz, hg5jz⟩ := zGoods_in hN hb5
    have htcjz : tN c = jz := by rw [hcjjz]; exact tN_nI (by omega)
    refine z_iload_n ok dX7_split_8 rfl ?_
    refine z_iconst (v := 1) ok dX7_split_9 (by decide) ?_
    refine z_aload_n ok dX7_split_10 rfl ?_
    refine z_iload_n ok dX7_split_11 rfl ?_
    refine z_iconst (v := 1) ok dX7_split_12 (by decide) ?_
    refine z_callVi ok dX7_split_13 zm_X7_of zw_845 zi_X7_of hm.1 rfl (ct_X7_of hm (i := jz) (k := 1) hcjjz rfl (by omega)) rfl rfl (by decide) (by decide) (by decide) (Nat.le_of_ble_eq_true rfl) (fun xz4 Mz5 qz6 => ?_)
    obtain ⟨rfl, hMe⟩ := qz6
    obtain rfl := hMe.symm
    refine z_iconst (v := 1) ok dX7_split_16 (by decide) ?_
    refine z_isub ok dX7_split_17 ?_
    refine z_callSi ok dX7_split_18 zm_X7_in zw_819 zw_820 (ct_X7_in) rfl rfl (by decide) (by decide) (by decide) (Nat.le_of_ble_eq_true rfl) (fun xz7 Mz8 qz9 => ?_)
    obtain ⟨rfl, hMe⟩ := qz9
    obtain rfl := hMe.symm
    refine z_if_eq (tgt := 40) ok dX7_split_21 (by decide) (fun cz21 => ?_) (fun cz21 => ?_)
    · have hb21 := b2_0.mp cz21
      refine z_ldc ok dX7_split_40 zw_822 ?_
      exact z_iret ok dX7_split_42 rfl rfl rfl (Nat.zero_le _) (zPost_e (by unfold spSplit; grind))
    · have hb21 := Decidable.not_not.mp (mt b2_0.mpr cz21)
      refine z_iload_n ok dX7_split_24 rfl ?_
      refine z_iconst (v := 1) ok dX7_split_25 (by decide) ?_
      refine z_aload_n ok dX7_split_26 rfl ?_
      refine z_iload_n ok dX7_split_27 rfl ?_
      refine z_iconst (v := 2) ok dX7_split_28 (by decide) ?_
      refine z_callVi ok dX7_split_29 zm_X7_of zw_845 zi_X7_of hm.1 rfl (ct_X7_of hm (i := jz) (k := 2) hcjjz rfl (by omega)) rfl rfl (by decide) (by decide) (by decide) (Nat.le_of_ble_eq_true rfl) (fun xz10 Mz11 qz12 => ?_)
      obtain ⟨rfl, hMe⟩ := qz12
      obtain rfl := hMe.symm
      refine z_iconst (v := 1) ok dX7_split_32 (by decide) ?_
      refine z_isub ok dX7_split_33 ?_
      refine z_callSi ok dX7_split_34 zm_X7_in zw_819 zw_820 (ct_X7_in) rfl rfl (by decide) (by decide) (by decide) (Nat.le_of_ble_eq_true rfl) (fun xz13 Mz14 qz15 => ?_)
      obtain ⟨rfl, hMe⟩ := qz15
      obtain rfl := hMe.symm
      refine z_if_ne (tgt := 43) ok dX7_split_37 (by decide) (fun cz37 => ?_) (fun cz37 => ?_)
      · have hb37 := Decidable.not_not.mp (mt b2_0.mpr cz37)
        refine z_aload_n ok dX7_split_43 rfl ?_
        refine z_iload_n ok dX7_split_44 rfl ?_
        refine z_bipush (v := 6) ok dX7_split_45 (by decide) ?_
        refine z_callVi ok dX7_split_47 zm_X7_of zw_845 zi_X7_of hm.1 rfl (ct_X7_of hm (i := jz) (k := 6) hcjjz rfl (by omega)) rfl rfl (by decide) (by decide) (by decide) (Nat.le_of_ble_eq_true rfl) (fun xz16 Mz17 qz18 => ?_)
        obtain ⟨rfl, hMe⟩ := qz18
        obtain rfl := hMe.symm
        refine z_if_eq (tgt := 56) ok dX7_split_50 (by decide) (fun cz50 => ?_) (fun cz50 => ?_)
        · refine z_aload_n ok dX7_split_56 rfl ?_
          refine z_getf ok dX7_split_57 zin_X7 rfl 0 (by decide) zw_771 hm.1 rfl ?_
          refine z_iconst (v := 3) ok dX7_split_60 (by decide) ?_
          refine m_ald1 ok dX7_split_61 hm rfl (by decide) ?_
          refine z_bipush (v := 16) ok dX7_split_62 (by decide) ?_
          refine z_icmp_ne (tgt := 70) ok dX7_split_64 (by decide) (fun cz64 => ?_) (fun cz64 => ?_)
          · have hn9 : ¬ n = 16 := fun z9 => cz64 (hN.1.trans (congrArg nI z9))
            refine z_aload_n ok dX7_split_70 rfl ?_
            refine z_callVv ok dX7_split_71 zm_X7_changes zw_824 zi_X7_changes hm.1 rfl (ct_X7_changesC hm hr) rfl rfl (by decide) (by decide) (by decide) (Nat.le_of_ble_eq_true rfl) (fun Mz20 qz21 => ?_)
            obtain ⟨hm22, fzqxz19⟩ := qz21
            have hNC : zN ((zCC μ p).1 1) n nv no := zN_CC hN
            refine z_aload_n ok dX7_split_74 rfl ?_
            refine z_iload_n ok dX7_split_75 rfl ?_
            refine z_iconst (v := 5) ok dX7_split_76 (by decide) ?_
            refine z_callVi ok dX7_split_77 zm_X7_of zw_845 zi_X7_of hm22.1 rfl (ct_X7_of hm22 (i := jz) (k := 5) hcjjz rfl (by omega)) rfl rfl (by decide) (by decide) (by decide) (Nat.le_of_ble_eq_true rfl) (fun xz23 Mz24 qz25 => ?_)
            obtain ⟨rfl, hMe⟩ := qz25
            obtain rfl := hMe.symm
            refine z_iload_n ok dX7_split_80 rfl ?_
            refine z_imul ok dX7_split_81 ?_
            refine z_aload_n ok dX7_split_82 rfl ?_
            refine z_iload_n ok dX7_split_83 rfl ?_
            refine z_iconst (v := 1) ok dX7_split_84 (by decide) ?_
            refine z_callVi ok dX7_split_85 zm_X7_of zw_845 zi_X7_of hm22.1 rfl (ct_X7_of hm22 (i := jz) (k := 1) hcjjz rfl (by omega)) rfl rfl (by decide) (by decide) (by decide) (Nat.le_of_ble_eq_true rfl) (fun xz26 Mz27 qz28 => ?_)
            obtain ⟨rfl, hMe⟩ := qz28
            obtain rfl := hMe.symm
            refine z_idiv ok dX7_split_88 (by rw [zCC_1]; intro z9; have h9 := hb21.2; rw [z9] at h9; exact absurd (Int32.le_trans hb21.1 h9) (by decide)) ?_
            refine z_istore ok dX7_split_89 (by decide) rfl ?_
            refine z_aload_n ok dX7_split_91 rfl ?_
            refine z_aload_n ok dX7_split_92 rfl ?_
            refine z_iload_n ok dX7_split_93 rfl ?_
            refine z_iconst (v := 0) ok dX7_split_94 (by decide) ?_
            refine z_callVi ok dX7_split_95 zm_X7_of zw_845 zi_X7_of hm22.1 rfl (ct_X7_of hm22 (i := jz) (k := 0) hcjjz rfl (by omega)) rfl rfl (by decide) (by decide) (by decide) (Nat.le_of_ble_eq_true rfl) (fun xz29 Mz30 qz31 => ?_)
            obtain ⟨rfl, hMe⟩ := qz31
            obtain rfl := hMe.symm
            refine z_iload_n ok dX7_split_98 rfl ?_
            refine z_iload_n ok dX7_split_99 rfl ?_
            refine z_aload_n ok dX7_split_100 rfl ?_
            refine z_iload_n ok dX7_split_101 rfl ?_
            refine z_iconst (v := 3) ok dX7_split_102 (by decide) ?_
            refine z_callVi ok dX7_split_103 zm_X7_of zw_845 zi_X7_of hm22.1 rfl (ct_X7_of hm22 (i := jz) (k := 3) hcjjz rfl (by omega)) rfl rfl (by decide) (by decide) (by decide) (Nat.le_of_ble_eq_true rfl) (fun xz32 Mz33 qz34 => ?_)
            obtain ⟨rfl, hMe⟩ := qz34
            obtain rfl := hMe.symm
            refine z_aload_n ok dX7_split_106 rfl ?_
            refine z_iload_n ok dX7_split_107 rfl ?_
            refine z_iconst (v := 4) ok dX7_split_108 (by decide) ?_
            refine z_callVi ok dX7_split_109 zm_X7_of zw_845 zi_X7_of hm22.1 rfl (ct_X7_of hm22 (i := jz) (k := 4) hcjjz rfl (by omega)) rfl rfl (by decide) (by decide) (by decide) (Nat.le_of_ble_eq_true rfl) (fun xz35 Mz36 qz37 => ?_)
            obtain ⟨rfl, hMe⟩ := qz37
            obtain rfl := hMe.symm
            refine z_iload ok dX7_split_112 rfl ?_
            refine z_callVi ok dX7_split_114 zm_X7_makes zw_828 zi_X7_makes hm22.1 rfl (ct_X7_makes hm22 hNC (by omega)) rfl rfl (by decide) (by decide) (by decide) (Nat.le_of_ble_eq_true rfl) (fun xz38 Mz39 qz40 => ?_)
            obtain ⟨rfl, hm41, fzqxz38⟩ := qz40
            refine z_istore ok dX7_split_117 (by decide) rfl ?_
            refine z_aload_n ok dX7_split_119 rfl ?_
            refine z_iload ok dX7_split_120 rfl ?_
            refine z_bipush (v := 9) ok dX7_split_122 (by decide) ?_
            refine z_aload_n ok dX7_split_124 rfl ?_
            refine z_iload_n ok dX7_split_125 rfl ?_
            refine z_bipush (v := 9) ok dX7_split_126 (by decide) ?_
            refine z_callVi ok dX7_split_128 zm_X7_of zw_845 zi_X7_of hm41.1 rfl (ct_X7_of hm41 (i := jz) (k := 9) hcjjz rfl (by omega)) rfl rfl (by decide) (by decide) (by decide) (Nat.le_of_ble_eq_true rfl) (fun xz42 Mz43 qz44 => ?_)
            obtain ⟨rfl, hMe⟩ := qz44
            obtain rfl := hMe.symm
            refine z_callVv ok dX7_split_131 zm_X7_puts zw_832 zi_X7_puts hm41.1 rfl (ct_X7_puts hm41 (i := n) (k := 9) rfl rfl (by omega)) rfl rfl (by decide) (by decide) (by decide) (Nat.le_of_ble_eq_true rfl) (fun Mz46 qz47 => ?_)
            obtain ⟨hm48, fzqxz45⟩ := qz47
            refine z_aload_n ok dX7_split_134 rfl ?_
            refine z_iload ok dX7_split_135 rfl ?_
            refine z_bipush (v := 10) ok dX7_split_137 (by decide) ?_
            refine z_aload_n ok dX7_split_139 rfl ?_
            refine z_iload_n ok dX7_split_140 rfl ?_
            refine z_bipush (v := 10) ok dX7_split_141 (by decide) ?_
            refine z_callVi ok dX7_split_143 zm_X7_of zw_845 zi_X7_of hm48.1 rfl (ct_X7_of hm48 (i := jz) (k := 10) hcjjz rfl (by omega)) rfl rfl (by decide) (by decide) (by decide) (Nat.le_of_ble_eq_true rfl) (fun xz49 Mz50 qz51 => ?_)
            obtain ⟨rfl, hMe⟩ := qz51
            obtain rfl := hMe.symm
            refine z_callVv ok dX7_split_146 zm_X7_puts zw_832 zi_X7_puts hm48.1 rfl (ct_X7_puts hm48 (i := n) (k := 10) rfl rfl (by omega)) rfl rfl (by decide) (by decide) (by decide) (Nat.le_of_ble_eq_true rfl) (fun Mz53 qz54 => ?_)
            obtain ⟨hm55, fzqxz52⟩ := qz54
            refine z_aload_n ok dX7_split_149 rfl ?_
            refine z_iload_n ok dX7_split_150 rfl ?_
            refine z_iconst (v := 1) ok dX7_split_151 (by decide) ?_
            refine z_aload_n ok dX7_split_152 rfl ?_
            refine z_iload_n ok dX7_split_153 rfl ?_
            refine z_iconst (v := 1) ok dX7_split_154 (by decide) ?_
            refine z_callVi ok dX7_split_155 zm_X7_of zw_845 zi_X7_of hm55.1 rfl (ct_X7_of hm55 (i := jz) (k := 1) hcjjz rfl (by omega)) rfl rfl (by decide) (by decide) (by decide) (Nat.le_of_ble_eq_true rfl) (fun xz56 Mz57 qz58 => ?_)
            obtain ⟨rfl, hMe⟩ := qz58
            obtain rfl := hMe.symm
            refine z_iload_n ok dX7_split_158 rfl ?_
            refine z_isub ok dX7_split_159 ?_
            refine z_callVv ok dX7_split_160 zm_X7_puts zw_832 zi_X7_puts hm55.1 rfl (ct_X7_puts hm55 (i := jz) (k := 1) hcjjz rfl (by omega)) rfl rfl (by decide) (by decide) (by decide) (Nat.le_of_ble_eq_true rfl) (fun Mz60 qz61 => ?_)
            obtain ⟨hm62, fzqxz59⟩ := qz61
            refine z_aload_n ok dX7_split_163 rfl ?_
            refine z_iload_n ok dX7_split_164 rfl ?_
            refine z_iconst (v := 2) ok dX7_split_165 (by decide) ?_
            refine z_aload_n ok dX7_split_166 rfl ?_
            refine z_iload_n ok dX7_split_167 rfl ?_
            refine z_iconst (v := 2) ok dX7_split_168 (by decide) ?_
            refine z_callVi ok dX7_split_169 zm_X7_of zw_845 zi_X7_of hm62.1 rfl (ct_X7_of hm62 (i := jz) (k := 2) hcjjz rfl (by omega)) rfl rfl (by decide) (by decide) (by decide) (Nat.le_of_ble_eq_true rfl) (fun xz63 Mz64 qz65 => ?_)
            obtain ⟨rfl, hMe⟩ := qz65
            obtain rfl := hMe.symm
            refine z_iload_n ok dX7_split_172 rfl ?_
            refine z_isub ok dX7_split_173 ?_
            refine z_callVv ok dX7_split_174 zm_X7_puts zw_832 zi_X7_puts hm62.1 rfl (ct_X7_puts hm62 (i := jz) (k := 2) hcjjz rfl (by omega)) rfl rfl (by decide) (by decide) (by decide) (Nat.le_of_ble_eq_true rfl) (fun Mz67 qz68 => ?_)
            obtain ⟨hm69, fzqxz66⟩ := qz68
            refine z_aload_n ok dX7_split_177 rfl ?_
            refine z_iload_n ok dX7_split_178 rfl ?_
            refine z_iconst (v := 5) ok dX7_split_179 (by decide) ?_
            refine z_aload_n ok dX7_split_180 rfl ?_
            refine z_iload_n ok dX7_split_181 rfl ?_
            refine z_iconst (v := 5) ok dX7_split_182 (by decide) ?_
            refine z_callVi ok dX7_split_183 zm_X7_of zw_845 zi_X7_of hm69.1 rfl (ct_X7_of hm69 (i := jz) (k := 5) hcjjz rfl (by omega)) rfl rfl (by decide) (by decide) (by decide) (Nat.le_of_ble_eq_true rfl) (fun xz70 Mz71 qz72 => ?_)
            obtain ⟨rfl, hMe⟩ := qz72
            obtain rfl := hMe.symm
            refine z_iload ok dX7_split_186 rfl ?_
            refine z_isub ok dX7_split_188 ?_
            refine z_callVv ok dX7_split_189 zm_X7_puts zw_832 zi_X7_puts hm69.1 rfl (ct_X7_puts hm69 (i := jz) (k := 5) hcjjz rfl (by omega)) rfl rfl (by decide) (by decide) (by decide) (Nat.le_of_ble_eq_true rfl) (fun Mz74 qz75 => ?_)
            obtain ⟨hm76, fzqxz73⟩ := qz75
            refine z_iload ok dX7_split_192 rfl ?_
            exact z_iret ok dX7_split_194 rfl rfl rfl (Nat.zero_le _) (zPost_ok (by (have h9 := hm76; (try simp only [mA_s, mA_mA, zCC_1] at h9); exact h9)) (by repeat (first | assumption | exact zFr.rf | refine zFr.tr (by assumption) ?_)) (by simp only [spSplit, zSp, htcjz]; rw [if_pos (by grind), if_pos (by grind), if_neg (by grind)]))
          · have hn9 : n = 16 := (nI_eq (b := 16) (by omega) (by omega)).mp (hN.1.symm.trans cz64)
            refine z_ldc ok dX7_split_67 zw_823 ?_
            exact z_iret ok dX7_split_69 rfl rfl rfl (Nat.zero_le _) (zPost_e (by unfold spSplit; grind))
        · refine z_ldc ok dX7_split_53 zw_849 ?_
          exact z_iret ok dX7_split_55 rfl rfl rfl (Nat.zero_le _) (zPost_e (by unfold spSplit; grind))
      · have hb37 := b2_0.mp cz37
        refine z_ldc ok dX7_split_40 zw_822 ?_
        exact z_iret ok dX7_split_42 rfl rfl rfl (Nat.zero_le _) (zPost_e (by unfold spSplit; grind))

set_option maxRecDepth 20000 in
set_option maxHeartbeats 4000000 in
theorem ct_X7_join {K : zK} {M : mM} {nx : Nat} {m : Nat} {μ : zMS} (hm : mPic M m μ) {n nv no : Nat} (hN : zN (μ.1 1) n nv no) {p : Nat} (hr : zRuns μ p) {a b : Int32} : zCt K yX7_join cX7_join 5 zr_X7_join 2 [.ref m, .int a, .int b] M nx 0 0 (zI (zPost M m μ p (spJoin (μ.1 1) a b))) := by
  refine z_enter [some (.ref m), some (.int a), some (.int b), none, none] (by decide +kernel) (Nat.le_of_ble_eq_true rfl) rfl (fun B ok hz => ?_)
  have hn16 := hN.2.1
  refine z_aload_n ok dX7_join_0 rfl ?_
  refine z_iload_n ok dX7_join_1 rfl ?_
  refine z_callVi ok dX7_join_2 zm_X7_isGoods zw_841 zi_X7_isGoods hm.1 rfl (ct_X7_isGoods hm hN) rfl rfl (by decide) (by decide) (by decide) (Nat.le_of_ble_eq_true rfl) (fun xz1 Mz2 qz3 => ?_)
  obtain ⟨rfl, hMe⟩ := qz3
  obtain rfl := hMe.symm
  refine z_if_eq (tgt := 21) ok dX7_join_5 (by decide) (fun cz5 => ?_) (fun cz5 => ?_)
  · have hb5 := b2_0.mp cz5
    refine z_ldc ok dX7_join_21 zw_822 ?_
    exact z_iret ok dX7_join_23 rfl rfl rfl (Nat.zero_le _) (zPost_e (by unfold spJoin; grind))
  · have hb5 := Decidable.not_not.mp (mt b2_0.mpr cz5)
    obtain ⟨jz, hjz, hcjjz, hg5jz⟩ := zGoods_in hN hb5
    have htcjz : tN a = jz := by rw [hcjjz]; exact tN_nI (by omega)
    refine z_aload_n ok dX7_join_8 rfl ?_
    refine z_iload_n ok dX7_join_9 rfl ?_
    refine z_callVi ok dX7_join_10 zm_X7_isGoods zw_841 zi_X7_isGoods hm.1 rfl (ct_X7_isGoods hm hN) rfl rfl (by decide) (by decide) (by decide) (Nat.le_of_ble_eq_true rfl) (fun xz4 Mz5 qz6 => ?_)
    obtain ⟨rfl, hMe⟩ := qz6
    obtain rfl := hMe.symm
    refine z_if_eq (tgt := 21) ok dX7_join_13 (by decide) (fun cz13 => ?_) (fun cz13 => ?_)
    · have hb13 := b2_0.mp cz13
      refine z_ldc ok dX7_join_21 zw_822 ?_
      exact z_iret ok dX7_join_23 rfl rfl rfl (Nat.zero_le _) (zPost_e (by unfold spJoin; grind))
    · have hb13 := Decidable.not_not.mp (mt b2_0.mpr cz13)
      obtain ⟨kz, hkz, hcjkz, hg5kz⟩ := zGoods_in hN hb13
      have htckz : tN b = kz := by rw [hcjkz]; exact tN_nI (by omega)
      refine z_iload_n ok dX7_join_16 rfl ?_
      refine z_iload_n ok dX7_join_17 rfl ?_
      refine z_icmp_ne (tgt := 24) ok dX7_join_18 (by decide) (fun cz18 => ?_) (fun cz18 => ?_)
      · refine z_aload_n ok dX7_join_24 rfl ?_
        refine z_iload_n ok dX7_join_25 rfl ?_
        refine z_bipush (v := 9) ok dX7_join_26 (by decide) ?_
        refine z_callVi ok dX7_join_28 zm_X7_of zw_845 zi_X7_of hm.1 rfl (ct_X7_of hm (i := jz) (k := 9) hcjjz rfl (by omega)) rfl rfl (by decide) (by decide) (by decide) (Nat.le_of_ble_eq_true rfl) (fun xz7 Mz8 qz9 => ?_)
        obtain ⟨rfl, hMe⟩ := qz9
        obtain rfl := hMe.symm
        refine z_aload_n ok dX7_join_31 rfl ?_
        refine z_iload_n ok dX7_join_32 rfl ?_
        refine z_bipush (v := 9) ok dX7_join_33 (by decide) ?_
        refine z_callVi ok dX7_join_35 zm_X7_of zw_845 zi_X7_of hm.1 rfl (ct_X7_of hm (i := kz) (k := 9) hcjkz rfl (by omega)) rfl rfl (by decide) (by decide) (by decide) (Nat.le_of_ble_eq_true rfl) (fun xz10 Mz11 qz12 => ?_)
        obtain ⟨rfl, hMe⟩ := qz12
        obtain rfl := hMe.symm
        refine z_icmp_ne (tgt := 61) ok dX7_join_38 (by decide) (fun cz38 => ?_) (fun cz38 => ?_)
        · refine z_ldc ok dX7_join_61 zw_849 ?_
          exact z_iret ok dX7_join_63 rfl rfl rfl (Nat.zero_le _) (zPost_e (by unfold spJoin; grind))
        · refine z_aload_n ok dX7_join_41 rfl ?_
          refine z_iload_n ok dX7_join_42 rfl ?_
          refine z_bipush (v := 6) ok dX7_join_43 (by decide) ?_
          refine z_callVi ok dX7_join_45 zm_X7_of zw_845 zi_X7_of hm.1 rfl (ct_X7_of hm (i := jz) (k := 6) hcjjz rfl (by omega)) rfl rfl (by decide) (by decide) (by decide) (Nat.le_of_ble_eq_true rfl) (fun xz13 Mz14 qz15 => ?_)
          obtain ⟨rfl, hMe⟩ := qz15
          obtain rfl := hMe.symm
          refine z_if_ne (tgt := 61) ok dX7_join_48 (by decide) (fun cz48 => ?_) (fun cz48 => ?_)
          · refine z_ldc ok dX7_join_61 zw_849 ?_
            exact z_iret ok dX7_join_63 rfl rfl rfl (Nat.zero_le _) (zPost_e (by unfold spJoin; grind))
          · refine z_aload_n ok dX7_join_51 rfl ?_
            refine z_iload_n ok dX7_join_52 rfl ?_
            refine z_bipush (v := 6) ok dX7_join_53 (by decide) ?_
            refine z_callVi ok dX7_join_55 zm_X7_of zw_845 zi_X7_of hm.1 rfl (ct_X7_of hm (i := kz) (k := 6) hcjkz rfl (by omega)) rfl rfl (by decide) (by decide) (by decide) (Nat.le_of_ble_eq_true rfl) (fun xz16 Mz17 qz18 => ?_)
            obtain ⟨rfl, hMe⟩ := qz18
            obtain rfl := hMe.symm
            refine z_if_eq (tgt := 64) ok dX7_join_58 (by decide) (fun cz58 => ?_) (fun cz58 => ?_)
            · refine z_aload_n ok dX7_join_64 rfl ?_
              refine z_callVv ok dX7_join_65 zm_X7_changes zw_824 zi_X7_changes hm.1 rfl (ct_X7_changesC hm hr) rfl rfl (by decide) (by decide) (by decide) (Nat.le_of_ble_eq_true rfl) (fun Mz20 qz21 => ?_)
              obtain ⟨hm22, fzqxz19⟩ := qz21
              have hNC : zN ((zCC μ p).1 1) n nv no := zN_CC hN
              refine z_iload_n ok dX7_join_68 rfl ?_
              refine z_iload_n ok dX7_join_69 rfl ?_
              refine z_icmp_ge (tgt := 77) ok dX7_join_70 (by decide) (fun cz70 => ?_) (fun cz70 => ?_)
              · have cz70 := Int32.not_lt.mpr cz70
                refine z_iload_n ok dX7_join_77 rfl ?_
                refine z_istore_n ok dX7_join_78 (by decide) rfl ?_
                refine z_iload_n ok dX7_join_79 rfl ?_
                refine z_iload_n ok dX7_join_80 rfl ?_
                refine z_iadd ok dX7_join_81 ?_
                refine z_iload_n ok dX7_join_82 rfl ?_
                refine z_isub ok dX7_join_83 ?_
                refine z_istore ok dX7_join_84 (by decide) rfl ?_
                refine z_aload_n ok dX7_join_86 rfl ?_
                refine z_iload_n ok dX7_join_87 rfl ?_
                refine z_iconst (v := 1) ok dX7_join_88 (by decide) ?_
                refine z_aload_n ok dX7_join_89 rfl ?_
                refine z_iload_n ok dX7_join_90 rfl ?_
                refine z_iconst (v := 1) ok dX7_join_91 (by decide) ?_
                refine z_callVi ok dX7_join_92 zm_X7_of zw_845 zi_X7_of hm22.1 rfl (ct_X7_of hm22 (i := kz) (k := 1) hcjkz rfl (by omega)) rfl rfl (by decide) (by decide) (by decide) (Nat.le_of_ble_eq_true rfl) (fun xz23 Mz24 qz25 => ?_)
                obtain ⟨rfl, hMe⟩ := qz25
                obtain rfl := hMe.symm
                refine z_aload_n ok dX7_join_95 rfl ?_
                refine z_iload ok dX7_join_96 rfl ?_
                refine z_iconst (v := 1) ok dX7_join_98 (by decide) ?_
                refine z_callVi ok dX7_join_99 zm_X7_of zw_845 zi_X7_of hm22.1 rfl (ct_X7_of hm22 (i := jz) (k := 1) (by rw [zhi2]; exact hcjjz) rfl (by omega)) rfl rfl (by decide) (by decide) (by decide) (Nat.le_of_ble_eq_true rfl) (fun xz26 Mz27 qz28 => ?_)
                obtain ⟨rfl, hMe⟩ := qz28
                obtain rfl := hMe.symm
                refine z_iadd ok dX7_join_102 ?_
                refine z_callVv ok dX7_join_103 zm_X7_puts zw_832 zi_X7_puts hm22.1 rfl (ct_X7_puts hm22 (i := kz) (k := 1) hcjkz rfl (by omega)) rfl rfl (by decide) (by decide) (by decide) (Nat.le_of_ble_eq_true rfl) (fun Mz30 qz31 => ?_)
                obtain ⟨hm32, fzqxz29⟩ := qz31
                refine z_aload_n ok dX7_join_106 rfl ?_
                refine z_iload_n ok dX7_join_107 rfl ?_
                refine z_iconst (v := 2) ok dX7_join_108 (by decide) ?_
                refine z_aload_n ok dX7_join_109 rfl ?_
                refine z_iload_n ok dX7_join_110 rfl ?_
                refine z_iconst (v := 2) ok dX7_join_111 (by decide) ?_
                refine z_callVi ok dX7_join_112 zm_X7_of zw_845 zi_X7_of hm32.1 rfl (ct_X7_of hm32 (i := kz) (k := 2) hcjkz rfl (by omega)) rfl rfl (by decide) (by decide) (by decide) (Nat.le_of_ble_eq_true rfl) (fun xz33 Mz34 qz35 => ?_)
                obtain ⟨rfl, hMe⟩ := qz35
                obtain rfl := hMe.symm
                refine z_aload_n ok dX7_join_115 rfl ?_
                refine z_iload ok dX7_join_116 rfl ?_
                refine z_iconst (v := 2) ok dX7_join_118 (by decide) ?_
                refine z_callVi ok dX7_join_119 zm_X7_of zw_845 zi_X7_of hm32.1 rfl (ct_X7_of hm32 (i := jz) (k := 2) (by rw [zhi2]; exact hcjjz) rfl (by omega)) rfl rfl (by decide) (by decide) (by decide) (Nat.le_of_ble_eq_true rfl) (fun xz36 Mz37 qz38 => ?_)
                obtain ⟨rfl, hMe⟩ := qz38
                obtain rfl := hMe.symm
                refine z_iadd ok dX7_join_122 ?_
                refine z_callVv ok dX7_join_123 zm_X7_puts zw_832 zi_X7_puts hm32.1 rfl (ct_X7_puts hm32 (i := kz) (k := 2) hcjkz rfl (by omega)) rfl rfl (by decide) (by decide) (by decide) (Nat.le_of_ble_eq_true rfl) (fun Mz40 qz41 => ?_)
                obtain ⟨hm42, fzqxz39⟩ := qz41
                refine z_aload_n ok dX7_join_126 rfl ?_
                refine z_iload_n ok dX7_join_127 rfl ?_
                refine z_iconst (v := 5) ok dX7_join_128 (by decide) ?_
                refine z_aload_n ok dX7_join_129 rfl ?_
                refine z_iload_n ok dX7_join_130 rfl ?_
                refine z_iconst (v := 5) ok dX7_join_131 (by decide) ?_
                refine z_callVi ok dX7_join_132 zm_X7_of zw_845 zi_X7_of hm42.1 rfl (ct_X7_of hm42 (i := kz) (k := 5) hcjkz rfl (by omega)) rfl rfl (by decide) (by decide) (by decide) (Nat.le_of_ble_eq_true rfl) (fun xz43 Mz44 qz45 => ?_)
                obtain ⟨rfl, hMe⟩ := qz45
                obtain rfl := hMe.symm
                refine z_aload_n ok dX7_join_135 rfl ?_
                refine z_iload ok dX7_join_136 rfl ?_
                refine z_iconst (v := 5) ok dX7_join_138 (by decide) ?_
                refine z_callVi ok dX7_join_139 zm_X7_of zw_845 zi_X7_of hm42.1 rfl (ct_X7_of hm42 (i := jz) (k := 5) (by rw [zhi2]; exact hcjjz) rfl (by omega)) rfl rfl (by decide) (by decide) (by decide) (Nat.le_of_ble_eq_true rfl) (fun xz46 Mz47 qz48 => ?_)
                obtain ⟨rfl, hMe⟩ := qz48
                obtain rfl := hMe.symm
                refine z_iadd ok dX7_join_142 ?_
                refine z_callVv ok dX7_join_143 zm_X7_puts zw_832 zi_X7_puts hm42.1 rfl (ct_X7_puts hm42 (i := kz) (k := 5) hcjkz rfl (by omega)) rfl rfl (by decide) (by decide) (by decide) (Nat.le_of_ble_eq_true rfl) (fun Mz50 qz51 => ?_)
                obtain ⟨hm52, fzqxz49⟩ := qz51
                refine z_aload_n ok dX7_join_146 rfl ?_
                refine z_iload_n ok dX7_join_147 rfl ?_
                refine z_bipush (v := 10) ok dX7_join_148 (by decide) ?_
                refine z_aload_n ok dX7_join_150 rfl ?_
                refine z_iload ok dX7_join_151 rfl ?_
                refine z_bipush (v := 10) ok dX7_join_153 (by decide) ?_
                refine z_callVi ok dX7_join_155 zm_X7_of zw_845 zi_X7_of hm52.1 rfl (ct_X7_of hm52 (i := jz) (k := 10) (by rw [zhi2]; exact hcjjz) rfl (by omega)) rfl rfl (by decide) (by decide) (by decide) (Nat.le_of_ble_eq_true rfl) (fun xz53 Mz54 qz55 => ?_)
                obtain ⟨rfl, hMe⟩ := qz55
                obtain rfl := hMe.symm
                refine z_aload_n ok dX7_join_158 rfl ?_
                refine z_iload_n ok dX7_join_159 rfl ?_
                refine z_bipush (v := 10) ok dX7_join_160 (by decide) ?_
                refine z_callVi ok dX7_join_162 zm_X7_of zw_845 zi_X7_of hm52.1 rfl (ct_X7_of hm52 (i := kz) (k := 10) hcjkz rfl (by omega)) rfl rfl (by decide) (by decide) (by decide) (Nat.le_of_ble_eq_true rfl) (fun xz56 Mz57 qz58 => ?_)
                obtain ⟨rfl, hMe⟩ := qz58
                obtain rfl := hMe.symm
                refine z_icmp_ge (tgt := 179) ok dX7_join_165 (by decide) (fun cz165 => ?_) (fun cz165 => ?_)
                · have cz165 := Int32.not_lt.mpr cz165
                  refine z_aload_n ok dX7_join_179 rfl ?_
                  refine z_iload_n ok dX7_join_180 rfl ?_
                  refine z_bipush (v := 10) ok dX7_join_181 (by decide) ?_
                  refine z_callVi ok dX7_join_183 zm_X7_of zw_845 zi_X7_of hm52.1 rfl (ct_X7_of hm52 (i := kz) (k := 10) hcjkz rfl (by omega)) rfl rfl (by decide) (by decide) (by decide) (Nat.le_of_ble_eq_true rfl) (fun xz59 Mz60 qz61 => ?_)
                  obtain ⟨rfl, hMe⟩ := qz61
                  obtain rfl := hMe.symm
                  refine z_callVv ok dX7_join_186 zm_X7_puts zw_832 zi_X7_puts hm52.1 rfl (ct_X7_puts hm52 (i := kz) (k := 10) hcjkz rfl (by omega)) rfl rfl (by decide) (by decide) (by decide) (Nat.le_of_ble_eq_true rfl) (fun Mz63 qz64 => ?_)
                  obtain ⟨hm65, fzqxz62⟩ := qz64
                  refine z_aload_n ok dX7_join_189 rfl ?_
                  refine z_iload ok dX7_join_190 rfl ?_
                  refine z_bipush (v := 6) ok dX7_join_192 (by decide) ?_
                  refine z_iconst (v := 5) ok dX7_join_194 (by decide) ?_
                  refine z_callVv ok dX7_join_195 zm_X7_puts zw_832 zi_X7_puts hm65.1 rfl (ct_X7_puts hm65 (i := jz) (k := 6) (by rw [zhi2]; exact hcjjz) rfl (by omega)) rfl rfl (by decide) (by decide) (by decide) (Nat.le_of_ble_eq_true rfl) (fun Mz67 qz68 => ?_)
                  obtain ⟨hm69, fzqxz66⟩ := qz68
                  refine z_iload_n ok dX7_join_198 rfl ?_
                  exact z_iret ok dX7_join_199 rfl rfl rfl (Nat.zero_le _) (zPost_ok (by (have h9 := hm69; (try simp only [mA_s, mA_mA, zCC_1] at h9); exact h9)) (by repeat (first | assumption | exact zFr.rf | refine zFr.tr (by assumption) ?_)) (by simp only [spJoin, zJn, htcjz, htckz]; rw [if_pos ⟨hb5, hb13, cz18⟩, if_pos (by simp only [zCC_1] at *; exact ⟨cz38, cz48, cz58⟩)]; first | (rw [if_pos cz70]; simp only [mA_s, mA_mA, zCC_1] at cz165; rw [if_pos cz165]) | (rw [if_neg cz70]; simp only [mA_s, mA_mA, zCC_1] at cz165; rw [if_pos cz165]) | (rw [if_pos cz70]; simp only [mA_s, mA_mA, zCC_1] at cz165; rw [if_neg cz165]) | (rw [if_neg cz70]; simp only [mA_s, mA_mA, zCC_1] at cz165; rw [if_neg cz165])))
                · have cz165 := i_nle cz165
                  refine z_aload_n ok dX7_join_168 rfl ?_
                  refine z_iload ok dX7_join_169 rfl ?_
                  refine z_bipush (v := 10) ok dX7_join_171 (by decide) ?_
                  refine z_callVi ok dX7_join_173 zm_X7_of zw_845 zi_X7_of hm52.1 rfl (ct_X7_of hm52 (i := jz) (k := 10) (by rw [zhi2]; exact hcjjz) rfl (by omega)) rfl rfl (by decide) (by decide) (by decide) (Nat.le_of_ble_eq_true rfl) (fun xz70 Mz71 qz72 => ?_)
                  obtain ⟨rfl, hMe⟩ := qz72
                  obtain rfl := hMe.symm
                  refine z_goto (tgt := 186) ok dX7_join_176 (by decide) ?_
                  refine z_callVv ok dX7_join_186 zm_X7_puts zw_832 zi_X7_puts hm52.1 rfl (ct_X7_puts hm52 (i := kz) (k := 10) hcjkz rfl (by omega)) rfl rfl (by decide) (by decide) (by decide) (Nat.le_of_ble_eq_true rfl) (fun Mz74 qz75 => ?_)
                  obtain ⟨hm76, fzqxz73⟩ := qz75
                  refine z_aload_n ok dX7_join_189 rfl ?_
                  refine z_iload ok dX7_join_190 rfl ?_
                  refine z_bipush (v := 6) ok dX7_join_192 (by decide) ?_
                  refine z_iconst (v := 5) ok dX7_join_194 (by decide) ?_
                  refine z_callVv ok dX7_join_195 zm_X7_puts zw_832 zi_X7_puts hm76.1 rfl (ct_X7_puts hm76 (i := jz) (k := 6) (by rw [zhi2]; exact hcjjz) rfl (by omega)) rfl rfl (by decide) (by decide) (by decide) (Nat.le_of_ble_eq_true rfl) (fun Mz78 qz79 => ?_)
                  obtain ⟨hm80, fzqxz77⟩ := qz79
                  refine z_iload_n ok dX7_join_198 rfl ?_
                  exact z_iret ok dX7_join_199 rfl rfl rfl (Nat.zero_le _) (zPost_ok (by (have h9 := hm80; (try simp only [mA_s, mA_mA, zCC_1] at h9); exact h9)) (by repeat (first | assumption | exact zFr.rf | refine zFr.tr (by assumption) ?_)) (by simp only [spJoin, zJn, htcjz, htckz]; rw [if_pos ⟨hb5, hb13, cz18⟩, if_pos (by simp only [zCC_1] at *; exact ⟨cz38, cz48, cz58⟩)]; first | (rw [if_pos cz70]; simp only [mA_s, mA_mA, zCC_1] at cz165; rw [if_pos cz165]) | (rw [if_neg cz70]; simp only [mA_s, mA_mA, zCC_1] at cz165; rw [if_pos cz165]) | (rw [if_pos cz70]; simp only [mA_s, mA_mA, zCC_1] at cz165; rw [if_neg cz165]) | (rw [if_neg cz70]; simp only [mA_s, mA_mA, zCC_1] at cz165; rw [if_neg cz165])))
              · have cz70 := i_nle cz70
                refine z_iload_n ok dX7_join_73 rfl ?_
                refine z_goto (tgt := 78) ok dX7_join_74 (by decide) ?_
                refine z_istore_n ok dX7_join_78 (by decide) rfl ?_
                refine z_iload_n ok dX7_join_79 rfl ?_
                refine z_iload_n ok dX7_join_80 rfl ?_
                refine z_iadd ok dX7_join_81 ?_
                refine z_iload_n ok dX7_join_82 rfl ?_
                refine z_isub ok dX7_join_83 ?_
                refine z_istore ok dX7_join_84 (by decide) rfl ?_
                refine z_aload_n ok dX7_join_86 rfl ?_
                refine z_iload_n ok dX7_join_87 rfl ?_
                refine z_iconst (v := 1) ok dX7_join_88 (by decide) ?_
                refine z_aload_n ok dX7_join_89 rfl ?_
                refine z_iload_n ok dX7_join_90 rfl ?_
                refine z_iconst (v := 1) ok dX7_join_91 (by decide) ?_
                refine z_callVi ok dX7_join_92 zm_X7_of zw_845 zi_X7_of hm22.1 rfl (ct_X7_of hm22 (i := jz) (k := 1) hcjjz rfl (by omega)) rfl rfl (by decide) (by decide) (by decide) (Nat.le_of_ble_eq_true rfl) (fun xz81 Mz82 qz83 => ?_)
                obtain ⟨rfl, hMe⟩ := qz83
                obtain rfl := hMe.symm
                refine z_aload_n ok dX7_join_95 rfl ?_
                refine z_iload ok dX7_join_96 rfl ?_
                refine z_iconst (v := 1) ok dX7_join_98 (by decide) ?_
                refine z_callVi ok dX7_join_99 zm_X7_of zw_845 zi_X7_of hm22.1 rfl (ct_X7_of hm22 (i := kz) (k := 1) (by rw [zhi]; exact hcjkz) rfl (by omega)) rfl rfl (by decide) (by decide) (by decide) (Nat.le_of_ble_eq_true rfl) (fun xz84 Mz85 qz86 => ?_)
                obtain ⟨rfl, hMe⟩ := qz86
                obtain rfl := hMe.symm
                refine z_iadd ok dX7_join_102 ?_
                refine z_callVv ok dX7_join_103 zm_X7_puts zw_832 zi_X7_puts hm22.1 rfl (ct_X7_puts hm22 (i := jz) (k := 1) hcjjz rfl (by omega)) rfl rfl (by decide) (by decide) (by decide) (Nat.le_of_ble_eq_true rfl) (fun Mz88 qz89 => ?_)
                obtain ⟨hm90, fzqxz87⟩ := qz89
                refine z_aload_n ok dX7_join_106 rfl ?_
                refine z_iload_n ok dX7_join_107 rfl ?_
                refine z_iconst (v := 2) ok dX7_join_108 (by decide) ?_
                refine z_aload_n ok dX7_join_109 rfl ?_
                refine z_iload_n ok dX7_join_110 rfl ?_
                refine z_iconst (v := 2) ok dX7_join_111 (by decide) ?_
                refine z_callVi ok dX7_join_112 zm_X7_of zw_845 zi_X7_of hm90.1 rfl (ct_X7_of hm90 (i := jz) (k := 2) hcjjz rfl (by omega)) rfl rfl (by decide) (by decide) (by decide) (Nat.le_of_ble_eq_true rfl) (fun xz91 Mz92 qz93 => ?_)
                obtain ⟨rfl, hMe⟩ := qz93
                obtain rfl := hMe.symm
                refine z_aload_n ok dX7_join_115 rfl ?_
                refine z_iload ok dX7_join_116 rfl ?_
                refine z_iconst (v := 2) ok dX7_join_118 (by decide) ?_
                refine z_callVi ok dX7_join_119 zm_X7_of zw_845 zi_X7_of hm90.1 rfl (ct_X7_of hm90 (i := kz) (k := 2) (by rw [zhi]; exact hcjkz) rfl (by omega)) rfl rfl (by decide) (by decide) (by decide) (Nat.le_of_ble_eq_true rfl) (fun xz94 Mz95 qz96 => ?_)
                obtain ⟨rfl, hMe⟩ := qz96
                obtain rfl := hMe.symm
                refine z_iadd ok dX7_join_122 ?_
                refine z_callVv ok dX7_join_123 zm_X7_puts zw_832 zi_X7_puts hm90.1 rfl (ct_X7_puts hm90 (i := jz) (k := 2) hcjjz rfl (by omega)) rfl rfl (by decide) (by decide) (by decide) (Nat.le_of_ble_eq_true rfl) (fun Mz98 qz99 => ?_)
                obtain ⟨hm100, fzqxz97⟩ := qz99
                refine z_aload_n ok dX7_join_126 rfl ?_
                refine z_iload_n ok dX7_join_127 rfl ?_
                refine z_iconst (v := 5) ok dX7_join_128 (by decide) ?_
                refine z_aload_n ok dX7_join_129 rfl ?_
                refine z_iload_n ok dX7_join_130 rfl ?_
                refine z_iconst (v := 5) ok dX7_join_131 (by decide) ?_
                refine z_callVi ok dX7_join_132 zm_X7_of zw_845 zi_X7_of hm100.1 rfl (ct_X7_of hm100 (i := jz) (k := 5) hcjjz rfl (by omega)) rfl rfl (by decide) (by decide) (by decide) (Nat.le_of_ble_eq_true rfl) (fun xz101 Mz102 qz103 => ?_)
                obtain ⟨rfl, hMe⟩ := qz103
                obtain rfl := hMe.symm
                refine z_aload_n ok dX7_join_135 rfl ?_
                refine z_iload ok dX7_join_136 rfl ?_
                refine z_iconst (v := 5) ok dX7_join_138 (by decide) ?_
                refine z_callVi ok dX7_join_139 zm_X7_of zw_845 zi_X7_of hm100.1 rfl (ct_X7_of hm100 (i := kz) (k := 5) (by rw [zhi]; exact hcjkz) rfl (by omega)) rfl rfl (by decide) (by decide) (by decide) (Nat.le_of_ble_eq_true rfl) (fun xz104 Mz105 qz106 => ?_)
                obtain ⟨rfl, hMe⟩ := qz106
                obtain rfl := hMe.symm
                refine z_iadd ok dX7_join_142 ?_
                refine z_callVv ok dX7_join_143 zm_X7_puts zw_832 zi_X7_puts hm100.1 rfl (ct_X7_puts hm100 (i := jz) (k := 5) hcjjz rfl (by omega)) rfl rfl (by decide) (by decide) (by decide) (Nat.le_of_ble_eq_true rfl) (fun Mz108 qz109 => ?_)
                obtain ⟨hm110, fzqxz107⟩ := qz109
                refine z_aload_n ok dX7_join_146 rfl ?_
                refine z_iload_n ok dX7_join_147 rfl ?_
                refine z_bipush (v := 10) ok dX7_join_148 (by decide) ?_
                refine z_aload_n ok dX7_join_150 rfl ?_
                refine z_iload ok dX7_join_151 rfl ?_
                refine z_bipush (v := 10) ok dX7_join_153 (by decide) ?_
                refine z_callVi ok dX7_join_155 zm_X7_of zw_845 zi_X7_of hm110.1 rfl (ct_X7_of hm110 (i := kz) (k := 10) (by rw [zhi]; exact hcjkz) rfl (by omega)) rfl rfl (by decide) (by decide) (by decide) (Nat.le_of_ble_eq_true rfl) (fun xz111 Mz112 qz113 => ?_)
                obtain ⟨rfl, hMe⟩ := qz113
                obtain rfl := hMe.symm
                refine z_aload_n ok dX7_join_158 rfl ?_
                refine z_iload_n ok dX7_join_159 rfl ?_
                refine z_bipush (v := 10) ok dX7_join_160 (by decide) ?_
                refine z_callVi ok dX7_join_162 zm_X7_of zw_845 zi_X7_of hm110.1 rfl (ct_X7_of hm110 (i := jz) (k := 10) hcjjz rfl (by omega)) rfl rfl (by decide) (by decide) (by decide) (Nat.le_of_ble_eq_true rfl) (fun xz114 Mz115 qz116 => ?_)
                obtain ⟨rfl, hMe⟩ := qz116
                obtain rfl := hMe.symm
                refine z_icmp_ge (tgt := 179) ok dX7_join_165 (by decide) (fun cz165 => ?_) (fun cz165 => ?_)
                · have cz165 := Int32.not_lt.mpr cz165
                  refine z_aload_n ok dX7_join_179 rfl ?_
                  refine z_iload_n ok dX7_join_180 rfl ?_
                  refine z_bipush (v := 10) ok dX7_join_181 (by decide) ?_
                  refine z_callVi ok dX7_join_183 zm_X7_of zw_845 zi_X7_of hm110.1 rfl (ct_X7_of hm110 (i := jz) (k := 10) hcjjz rfl (by omega)) rfl rfl (by decide) (by decide) (by decide) (Nat.le_of_ble_eq_true rfl) (fun xz117 Mz118 qz119 => ?_)
                  obtain ⟨rfl, hMe⟩ := qz119
                  obtain rfl := hMe.symm
                  refine z_callVv ok dX7_join_186 zm_X7_puts zw_832 zi_X7_puts hm110.1 rfl (ct_X7_puts hm110 (i := jz) (k := 10) hcjjz rfl (by omega)) rfl rfl (by decide) (by decide) (by decide) (Nat.le_of_ble_eq_true rfl) (fun Mz121 qz122 => ?_)
                  obtain ⟨hm123, fzqxz120⟩ := qz122
                  refine z_aload_n ok dX7_join_189 rfl ?_
                  refine z_iload ok dX7_join_190 rfl ?_
                  refine z_bipush (v := 6) ok dX7_join_192 (by decide) ?_
                  refine z_iconst (v := 5) ok dX7_join_194 (by decide) ?_
                  refine z_callVv ok dX7_join_195 zm_X7_puts zw_832 zi_X7_puts hm123.1 rfl (ct_X7_puts hm123 (i := kz) (k := 6) (by rw [zhi]; exact hcjkz) rfl (by omega)) rfl rfl (by decide) (by decide) (by decide) (Nat.le_of_ble_eq_true rfl) (fun Mz125 qz126 => ?_)
                  obtain ⟨hm127, fzqxz124⟩ := qz126
                  refine z_iload_n ok dX7_join_198 rfl ?_
                  exact z_iret ok dX7_join_199 rfl rfl rfl (Nat.zero_le _) (zPost_ok (by (have h9 := hm127; (try simp only [mA_s, mA_mA, zCC_1] at h9); exact h9)) (by repeat (first | assumption | exact zFr.rf | refine zFr.tr (by assumption) ?_)) (by simp only [spJoin, zJn, htcjz, htckz]; rw [if_pos ⟨hb5, hb13, cz18⟩, if_pos (by simp only [zCC_1] at *; exact ⟨cz38, cz48, cz58⟩)]; first | (rw [if_pos cz70]; simp only [mA_s, mA_mA, zCC_1] at cz165; rw [if_pos cz165]) | (rw [if_neg cz70]; simp only [mA_s, mA_mA, zCC_1] at cz165; rw [if_pos cz165]) | (rw [if_pos cz70]; simp only [mA_s, mA_mA, zCC_1] at cz165; rw [if_neg cz165]) | (rw [if_neg cz70]; simp only [mA_s, mA_mA, zCC_1] at cz165; rw [if_neg cz165])))
                · have cz165 := i_nle cz165
                  refine z_aload_n ok dX7_join_168 rfl ?_
                  refine z_iload ok dX7_join_169 rfl ?_
                  refine z_bipush (v := 10) ok dX7_join_171 (by decide) ?_
                  refine z_callVi ok dX7_join_173 zm_X7_of zw_845 zi_X7_of hm110.1 rfl (ct_X7_of hm110 (i := kz) (k := 10) (by rw [zhi]; exact hcjkz) rfl (by omega)) rfl rfl (by decide) (by decide) (by decide) (Nat.le_of_ble_eq_true rfl) (fun xz128 Mz129 qz130 => ?_)
                  obtain ⟨rfl, hMe⟩ := qz130
                  obtain rfl := hMe.symm
                  refine z_goto (tgt := 186) ok dX7_join_176 (by decide) ?_
                  refine z_callVv ok dX7_join_186 zm_X7_puts zw_832 zi_X7_puts hm110.1 rfl (ct_X7_puts hm110 (i := jz) (k := 10) hcjjz rfl (by omega)) rfl rfl (by decide) (by decide) (by decide) (Nat.le_of_ble_eq_true rfl) (fun Mz132 qz133 => ?_)
                  obtain ⟨hm134, fzqxz131⟩ := qz133
                  refine z_aload_n ok dX7_join_189 rfl ?_
                  refine z_iload ok dX7_join_190 rfl ?_
                  refine z_bipush (v := 6) ok dX7_join_192 (by decide) ?_
                  refine z_iconst (v := 5) ok dX7_join_194 (by decide) ?_
                  refine z_callVv ok dX7_join_195 zm_X7_puts zw_832 zi_X7_puts hm134.1 rfl (ct_X7_puts hm134 (i := kz) (k := 6) (by rw [zhi]; exact hcjkz) rfl (by omega)) rfl rfl (by decide) (by decide) (by decide) (Nat.le_of_ble_eq_true rfl) (fun Mz136 qz137 => ?_)
                  obtain ⟨hm138, fzqxz135⟩ := qz137
                  refine z_iload_n ok dX7_join_198 rfl ?_
                  exact z_iret ok dX7_join_199 rfl rfl rfl (Nat.zero_le _) (zPost_ok (by (have h9 := hm138; (try simp only [mA_s, mA_mA, zCC_1] at h9); exact h9)) (by repeat (first | assumption | exact zFr.rf | refine zFr.tr (by assumption) ?_)) (by simp only [spJoin, zJn, htcjz, htckz]; rw [if_pos ⟨hb5, hb13, cz18⟩, if_pos (by simp only [zCC_1] at *; exact ⟨cz38, cz48, cz58⟩)]; first | (rw [if_pos cz70]; simp only [mA_s, mA_mA, zCC_1] at cz165; rw [if_pos cz165]) | (rw [if_neg cz70]; simp only [mA_s, mA_mA, zCC_1] at cz165; rw [if_pos cz165]) | (rw [if_pos cz70]; simp only [mA_s, mA_mA, zCC_1] at cz165; rw [if_neg cz165]) | (rw [if_neg cz70]; simp only [mA_s, mA_mA, zCC_1] at cz165; rw [if_neg cz165])))
            · refine z_ldc ok dX7_join_61 zw_849 ?_
              exact z_iret ok dX7_join_63 rfl rfl rfl (Nat.zero_le _) (zPost_e (by unfold spJoin; grind))
      · refine z_ldc ok dX7_join_21 zw_822 ?_
        exact z_iret ok dX7_join_23 rfl rfl rfl (Nat.zero_le _) (zPost_e (by unfold spJoin; grind))

