def spCall (s : Nat → Int32) (n nv no w : Nat) (t : Nat → Int32) : zRes := match w with
  | 0 => spLoad s n (t 0) (t 1)
  | 1 => spFill s n (t 0) (t 1) (t 2)
  | 2 => spDepart s n (t 0)
  | 3 => spSplit s n (t 0) (t 1) (t 2)
  | 4 => spJoin s (t 0) (t 1)
  | 5 => spOffer s no (t 0) (t 1) (t 2) (t 3) (t 4)
  | _ => spPass s n nv (t 0)
theorem spCall_t {s : Nat → Int32} {n nv no w : Nat} {t t' : Nat → Int32} (h : ∀ j, j < zCnt w → t j = t' j) : spCall s n nv no w t = spCall s n nv no w t' := by
  unfold zCnt at h
  unfold spCall
  split <;> simp only at h
  · rw [h 0 (by decide), h 1 (by decide)]
  · rw [h 0 (by decide), h 1 (by decide), h 2 (by decide)]
  · rw [h 0 (by decide)]
  · rw [h 0 (by decide), h 1 (by decide), h 2 (by decide)]
  · rw [h 0 (by decide), h 1 (by decide)]
  · rw [h 0 (by decide), h 1 (by decide), h 2 (by decide), h 3 (by decide), h 4 (by decide)]
  · rw [h 0 (by decide)]
def zSt (r : zRes) (s : Nat → Int32) : Nat → Int32 := match r with | .inl _ => s | .inr q => q.1
def zVal (r : zRes) : Int32 := match r with | .inl e => e | .inr q => q.2
theorem zCC_r {μ : zMS} {p : Nat} (h : μ.2 5 = 1) : zCC μ p = μ := by
  unfold zCC
  rw [if_neg (by rw [h]; decide)]
theorem zPost_st {M M' : mM} {m : Nat} {μ : zMS} {p : Nat} {r : zRes} {x : Int32} (h : zPost M m μ p r x M') (hm : mPic M m μ) (h5 : μ.2 5 = 1) : x = zVal r ∧ mPic M' m (mA μ 1 (zSt r (μ.1 1))) ∧ zFr M M' m 9 := by
  cases r with
  | inl e =>
    obtain ⟨h1, h2⟩ := h
    rw [h2]
    exact ⟨h1, mPic.self1 hm, zFr.rf⟩
  | inr q =>
    obtain ⟨h1, h2, h3⟩ := h
    rw [zCC_r h5] at h2
    exact ⟨h1, h2, h3⟩
theorem zMk_N {s : Nat → Int32} {n nv no : Nat} {p b w f t wo : Int32} (h : zN s n nv no) (hn : ¬ n = 16) : zN (zMk s n p b w f t wo) (n + 1) nv no := by
  have h16 := h.2.1
  refine ⟨?_, by omega, ?_, h.2.2.2.1, ?_, h.2.2.2.2.2⟩
  · unfold zMk
    rw [upd_s]
    simp only [pg_3, h.1]
    exact nI_1 _
  · unfold zMk
    rw [upd_n _ _ (by decide)]
    iterate 12 rw [pg_lo (by omega)]
    exact h.2.2.1
  · unfold zMk
    rw [upd_n _ _ (by decide)]
    iterate 12 rw [pg_lo (by omega)]
    exact h.2.2.2.2.1
def zEx (s : Nat → Int32) : Prop := ∃ n nv no, zN s n nv no
theorem zEx_tN {s : Nat → Int32} (h : zEx s) : zN s (tN (s 3)) (tN (s 4)) (tN (s 6)) := by
  obtain ⟨n, nv, no, h⟩ := h
  rw [h.1, h.2.2.1, h.2.2.2.2.1, tN_nI (by have := h.2.1; omega), tN_nI (by have := h.2.2.2.1; omega), tN_nI (by have := h.2.2.2.2.2; omega)]
  exact h
theorem zFill_N {n iv nv no : Nat} {place rule : Int32} : ∀ (f : Nat) (s : Nat → Int32) (L t : Int32), zN s n nv no → zN (zFill n iv place rule f s L t).1 n nv no
  | 0, _, _, _, h => h
  | f + 1, s, L, t, h => by
    unfold zFill
    split
    · exact h
    · split
      · exact zFill_N f _ _ _ (zN_pg (zN_pg h))
      · exact zFill_N f _ _ _ h
theorem zJn_N {s : Nat → Int32} {n nv no l h : Nat} (hN : zN s n nv no) : zN (zJn s l h) n nv no := zN_pg (zN_pg (zN_pg (zN_pg (zN_pg hN))))
theorem zSp_N {s : Nat → Int32} {n nv no ic : Nat} {b w : Int32} (hN : zN s n nv no) (hn : ¬ n = 16) : zN (zSp s n ic b w) (n + 1) nv no := zN_pg (zN_pg (zN_pg (zN_pg (zN_pg (zMk_N hN hn)))))
theorem zOf_N {s : Nat → Int32} {n nv no : Nat} {p b w pr h : Int32} (hN : zN s n nv no) (hn : ¬ no = 10) : zN (zOf s no p b w pr h) n nv (no + 1) := by
  have h10 := hN.2.2.2.2.2
  refine ⟨?_, hN.2.1, ?_, hN.2.2.2.1, ?_, by omega⟩
  · simp only [zOf]
    rw [upd_n _ _ (by decide)]
    iterate 5 rw [upd_n _ _ (by omega)]
    exact hN.1
  · simp only [zOf]
    rw [upd_n _ _ (by decide)]
    iterate 5 rw [upd_n _ _ (by omega)]
    exact hN.2.2.1
  · simp only [zOf]
    rw [upd_s]
    iterate 5 rw [upd_n _ _ (by omega)]
    rw [hN.2.2.2.2.1]
    exact nI_1 _
theorem spCall_N {s : Nat → Int32} {n nv no w : Nat} {t : Nat → Int32} (h : zN s n nv no) : zEx (zSt (spCall s n nv no w t) s) := by
  have h0 : zEx s := ⟨n, nv, no, h⟩
  unfold spCall
  split
  · unfold spLoad
    split
    · split
      · exact ⟨n, nv, no, zN_pg (zN_pg h)⟩
      · exact h0
    · exact h0
  · unfold spFill
    split
    · split
      · exact h0
      · exact ⟨n, nv, no, zFill_N _ _ _ _ h⟩
    · exact h0
  · unfold spDepart
    split
    · split
      · exact h0
      · exact ⟨n, nv, no, zDe_N h _⟩
    · exact h0
  · unfold spSplit
    split
    · split
      · split
        · exact h0
        · next h9 => exact ⟨n + 1, nv, no, zSp_N h h9⟩
      · exact h0
    · exact h0
  · unfold spJoin
    split
    · split
      · split
        · exact ⟨n, nv, no, zJn_N h⟩
        · exact ⟨n, nv, no, zJn_N h⟩
      · exact h0
    · exact h0
  · unfold spOffer
    split
    · split
      · exact h0
      · next h9 => exact ⟨n, nv, no + 1, zOf_N h h9⟩
    · exact h0
  · unfold spPass
    split
    · split
      · exact h0
      · obtain ⟨o1, _, h2⟩ := zPass_N h (tN (t 0))
        exact ⟨n, nv, o1, h2⟩
    · exact h0
set_option maxRecDepth 20000 in
set_option maxHeartbeats 4000000 in
theorem ct_X7_calls {K : zK} {M : mM} {nx : Nat} {m : Nat} {μ : zMS} (hm : mPic M m μ) {n nv no : Nat} (hN : zN (μ.1 1) n nv no) {p : Nat} (hr : zRuns μ p) {w : Nat} (hw7 : w < 7) : zCt K yX7_calls cX7_calls 2 zr_X7_calls 7 [.ref m, .int (nI w)] M nx 0 0 (zI (zPost M m μ p (spCall (μ.1 1) n nv no w (μ.1 8)))) := by
  refine z_enter [some (.ref m), some (.int (nI w))] (by decide +kernel) (Nat.le_of_ble_eq_true rfl) rfl (fun B ok hz => ?_)
  refine z_iload_n ok dX7_calls_0 rfl ?_
  rcases zsw (nI w) 5 (by omega) with hsw1 | ⟨ksw, hksw, hsw1⟩
  · refine z_tableOut (tgt := 166) ok dX7_calls_1 hsw1 (by decide) ?_
    have hwk : w = 6 := by rw [nI_toInt (by omega)] at hsw1; omega
    refine z_aload_n ok dX7_calls_166 rfl ?_
    refine z_aload_n ok dX7_calls_167 rfl ?_
    refine z_getf ok dX7_calls_168 zin_X7 rfl 13 (by decide) zw_784 hm.1 rfl ?_
    refine z_iconst (v := 0) ok dX7_calls_171 (by decide) ?_
    refine m_ald8 ok dX7_calls_172 hm rfl (by decide) ?_
    refine z_callVi ok dX7_calls_173 zm_X7_pass zw_1052 zi_X7_pass hm.1 rfl (ct_X7_pass hm hN hr) rfl rfl (by decide) (by decide) (by decide) (Nat.le_of_ble_eq_true rfl) (fun xz1 Mz2 qz3 => ?_)
    have hq9 := qz3
    exact z_iret ok dX7_calls_176 rfl rfl rfl (Nat.zero_le _) (by rw [hwk]; exact hq9)
  · rcases (by omega : ksw = 0 ∨ ksw = 1 ∨ ksw = 2 ∨ ksw = 3 ∨ ksw = 4 ∨ ksw = 5) with rfl | rfl | rfl | rfl | rfl | rfl
    · rw [hsw1]
      refine z_tableIn (off := 39) (tgt := 40) ok dX7_calls_1 (by decide) (by decide) rfl (by decide) ?_
      have hwk : w = 0 := (nI_eq (b := 0) (by omega) (by omega)).mp hsw1
      refine z_aload_n ok dX7_calls_40 rfl ?_
      refine z_aload_n ok dX7_calls_41 rfl ?_
      refine z_getf ok dX7_calls_42 zin_X7 rfl 13 (by decide) zw_784 hm.1 rfl ?_
      refine z_iconst (v := 0) ok dX7_calls_45 (by decide) ?_
      refine m_ald8 ok dX7_calls_46 hm rfl (by decide) ?_
      refine z_aload_n ok dX7_calls_47 rfl ?_
      refine z_getf ok dX7_calls_48 zin_X7 rfl 13 (by decide) zw_784 hm.1 rfl ?_
      refine z_iconst (v := 1) ok dX7_calls_51 (by decide) ?_
      refine m_ald8 ok dX7_calls_52 hm rfl (by decide) ?_
      refine z_callVi ok dX7_calls_53 zm_X7_load zw_1046 zi_X7_load hm.1 rfl (ct_X7_load hm hN hr) rfl rfl (by decide) (by decide) (by decide) (Nat.le_of_ble_eq_true rfl) (fun xz4 Mz5 qz6 => ?_)
      have hq9 := qz6
      exact z_iret ok dX7_calls_56 rfl rfl rfl (Nat.zero_le _) (by rw [hwk]; exact hq9)
    · rw [hsw1]
      refine z_tableIn (off := 56) (tgt := 57) ok dX7_calls_1 (by decide) (by decide) rfl (by decide) ?_
      have hwk : w = 1 := (nI_eq (b := 1) (by omega) (by omega)).mp hsw1
      refine z_aload_n ok dX7_calls_57 rfl ?_
      refine z_aload_n ok dX7_calls_58 rfl ?_
      refine z_getf ok dX7_calls_59 zin_X7 rfl 13 (by decide) zw_784 hm.1 rfl ?_
      refine z_iconst (v := 0) ok dX7_calls_62 (by decide) ?_
      refine m_ald8 ok dX7_calls_63 hm rfl (by decide) ?_
      refine z_aload_n ok dX7_calls_64 rfl ?_
      refine z_getf ok dX7_calls_65 zin_X7 rfl 13 (by decide) zw_784 hm.1 rfl ?_
      refine z_iconst (v := 1) ok dX7_calls_68 (by decide) ?_
      refine m_ald8 ok dX7_calls_69 hm rfl (by decide) ?_
      refine z_aload_n ok dX7_calls_70 rfl ?_
      refine z_getf ok dX7_calls_71 zin_X7 rfl 13 (by decide) zw_784 hm.1 rfl ?_
      refine z_iconst (v := 2) ok dX7_calls_74 (by decide) ?_
      refine m_ald8 ok dX7_calls_75 hm rfl (by decide) ?_
      refine z_callVi ok dX7_calls_76 zm_X7_fill zw_1047 zi_X7_fill hm.1 rfl (ct_X7_fill hm hN hr) rfl rfl (by decide) (by decide) (by decide) (Nat.le_of_ble_eq_true rfl) (fun xz7 Mz8 qz9 => ?_)
      have hq9 := qz9
      exact z_iret ok dX7_calls_79 rfl rfl rfl (Nat.zero_le _) (by rw [hwk]; exact hq9)
    · rw [hsw1]
      refine z_tableIn (off := 79) (tgt := 80) ok dX7_calls_1 (by decide) (by decide) rfl (by decide) ?_
      have hwk : w = 2 := (nI_eq (b := 2) (by omega) (by omega)).mp hsw1
      refine z_aload_n ok dX7_calls_80 rfl ?_
      refine z_aload_n ok dX7_calls_81 rfl ?_
      refine z_getf ok dX7_calls_82 zin_X7 rfl 13 (by decide) zw_784 hm.1 rfl ?_
      refine z_iconst (v := 0) ok dX7_calls_85 (by decide) ?_
      refine m_ald8 ok dX7_calls_86 hm rfl (by decide) ?_
      refine z_callVi ok dX7_calls_87 zm_X7_depart zw_1048 zi_X7_depart hm.1 rfl (ct_X7_depart hm hN hr) rfl rfl (by decide) (by decide) (by decide) (Nat.le_of_ble_eq_true rfl) (fun xz10 Mz11 qz12 => ?_)
      have hq9 := qz12
      exact z_iret ok dX7_calls_90 rfl rfl rfl (Nat.zero_le _) (by rw [hwk]; exact hq9)
    · rw [hsw1]
      refine z_tableIn (off := 90) (tgt := 91) ok dX7_calls_1 (by decide) (by decide) rfl (by decide) ?_
      have hwk : w = 3 := (nI_eq (b := 3) (by omega) (by omega)).mp hsw1
      refine z_aload_n ok dX7_calls_91 rfl ?_
      refine z_aload_n ok dX7_calls_92 rfl ?_
      refine z_getf ok dX7_calls_93 zin_X7 rfl 13 (by decide) zw_784 hm.1 rfl ?_
      refine z_iconst (v := 0) ok dX7_calls_96 (by decide) ?_
      refine m_ald8 ok dX7_calls_97 hm rfl (by decide) ?_
      refine z_aload_n ok dX7_calls_98 rfl ?_
      refine z_getf ok dX7_calls_99 zin_X7 rfl 13 (by decide) zw_784 hm.1 rfl ?_
      refine z_iconst (v := 1) ok dX7_calls_102 (by decide) ?_
      refine m_ald8 ok dX7_calls_103 hm rfl (by decide) ?_
      refine z_aload_n ok dX7_calls_104 rfl ?_
      refine z_getf ok dX7_calls_105 zin_X7 rfl 13 (by decide) zw_784 hm.1 rfl ?_
      refine z_iconst (v := 2) ok dX7_calls_108 (by decide) ?_
      refine m_ald8 ok dX7_calls_109 hm rfl (by decide) ?_
      refine z_callVi ok dX7_calls_110 zm_X7_split zw_1049 zi_X7_split hm.1 rfl (ct_X7_split hm hN hr) rfl rfl (by decide) (by decide) (by decide) (Nat.le_of_ble_eq_true rfl) (fun xz13 Mz14 qz15 => ?_)
      have hq9 := qz15
      exact z_iret ok dX7_calls_113 rfl rfl rfl (Nat.zero_le _) (by rw [hwk]; exact hq9)
    · rw [hsw1]
      refine z_tableIn (off := 113) (tgt := 114) ok dX7_calls_1 (by decide) (by decide) rfl (by decide) ?_
      have hwk : w = 4 := (nI_eq (b := 4) (by omega) (by omega)).mp hsw1
      refine z_aload_n ok dX7_calls_114 rfl ?_
      refine z_aload_n ok dX7_calls_115 rfl ?_
      refine z_getf ok dX7_calls_116 zin_X7 rfl 13 (by decide) zw_784 hm.1 rfl ?_
      refine z_iconst (v := 0) ok dX7_calls_119 (by decide) ?_
      refine m_ald8 ok dX7_calls_120 hm rfl (by decide) ?_
      refine z_aload_n ok dX7_calls_121 rfl ?_
      refine z_getf ok dX7_calls_122 zin_X7 rfl 13 (by decide) zw_784 hm.1 rfl ?_
      refine z_iconst (v := 1) ok dX7_calls_125 (by decide) ?_
      refine m_ald8 ok dX7_calls_126 hm rfl (by decide) ?_
      refine z_callVi ok dX7_calls_127 zm_X7_join zw_1050 zi_X7_join hm.1 rfl (ct_X7_join hm hN hr) rfl rfl (by decide) (by decide) (by decide) (Nat.le_of_ble_eq_true rfl) (fun xz16 Mz17 qz18 => ?_)
      have hq9 := qz18
      exact z_iret ok dX7_calls_130 rfl rfl rfl (Nat.zero_le _) (by rw [hwk]; exact hq9)
    · rw [hsw1]
      refine z_tableIn (off := 130) (tgt := 131) ok dX7_calls_1 (by decide) (by decide) rfl (by decide) ?_
      have hwk : w = 5 := (nI_eq (b := 5) (by omega) (by omega)).mp hsw1
      refine z_aload_n ok dX7_calls_131 rfl ?_
      refine z_aload_n ok dX7_calls_132 rfl ?_
      refine z_getf ok dX7_calls_133 zin_X7 rfl 13 (by decide) zw_784 hm.1 rfl ?_
      refine z_iconst (v := 0) ok dX7_calls_136 (by decide) ?_
      refine m_ald8 ok dX7_calls_137 hm rfl (by decide) ?_
      refine z_aload_n ok dX7_calls_138 rfl ?_
      refine z_getf ok dX7_calls_139 zin_X7 rfl 13 (by decide) zw_784 hm.1 rfl ?_
      refine z_iconst (v := 1) ok dX7_calls_142 (by decide) ?_
      refine m_ald8 ok dX7_calls_143 hm rfl (by decide) ?_
      refine z_aload_n ok dX7_calls_144 rfl ?_
      refine z_getf ok dX7_calls_145 zin_X7 rfl 13 (by decide) zw_784 hm.1 rfl ?_
      refine z_iconst (v := 2) ok dX7_calls_148 (by decide) ?_
      refine m_ald8 ok dX7_calls_149 hm rfl (by decide) ?_
      refine z_aload_n ok dX7_calls_150 rfl ?_
      refine z_getf ok dX7_calls_151 zin_X7 rfl 13 (by decide) zw_784 hm.1 rfl ?_
      refine z_iconst (v := 3) ok dX7_calls_154 (by decide) ?_
      refine m_ald8 ok dX7_calls_155 hm rfl (by decide) ?_
      refine z_aload_n ok dX7_calls_156 rfl ?_
      refine z_getf ok dX7_calls_157 zin_X7 rfl 13 (by decide) zw_784 hm.1 rfl ?_
      refine z_iconst (v := 4) ok dX7_calls_160 (by decide) ?_
      refine m_ald8 ok dX7_calls_161 hm rfl (by decide) ?_
      refine z_callVi ok dX7_calls_162 zm_X7_offer zw_1051 zi_X7_offer hm.1 rfl (ct_X7_offer hm hN hr) rfl rfl (by decide) (by decide) (by decide) (Nat.le_of_ble_eq_true rfl) (fun xz19 Mz20 qz21 => ?_)
      have hq9 := qz21
      exact z_iret ok dX7_calls_165 rfl rfl rfl (Nat.zero_le _) (by rw [hwk]; exact hq9)

