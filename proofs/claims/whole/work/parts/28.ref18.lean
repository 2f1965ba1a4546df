def mQ (μ : zMS) (s t : Nat → Int32) (ru sp ca cm : Int32) : zMS := (fun j => if j = 1 then s else if j = 8 then t else μ.1 j, fun j => if j = 5 then ru else if j = 10 then sp else if j = 11 then ca else if j = 12 then cm else μ.2 j)
theorem mQ_a1 {μ : zMS} {s t x : Nat → Int32} {ru sp ca cm : Int32} : mA (mQ μ s t ru sp ca cm) 1 x = mQ μ x t ru sp ca cm := by
  unfold mA mQ
  congr 1
  funext j
  by_cases h : j = 1 <;> simp [h]
theorem mQ_a8 {μ : zMS} {s t x : Nat → Int32} {ru sp ca cm : Int32} : mA (mQ μ s t ru sp ca cm) 8 x = mQ μ s x ru sp ca cm := by
  unfold mA mQ
  congr 1
  funext j
  by_cases h : j = 8
  · simp [h]
  · by_cases h1 : j = 1 <;> simp [h, h1]
theorem mQ_s5 {μ : zMS} {s t : Nat → Int32} {ru sp ca cm x : Int32} : mS (mQ μ s t ru sp ca cm) 5 x = mQ μ s t x sp ca cm := by
  unfold mS mQ
  congr 1
  funext j
  by_cases h : j = 5 <;> simp [h]
theorem mQ_s10 {μ : zMS} {s t : Nat → Int32} {ru sp ca cm x : Int32} : mS (mQ μ s t ru sp ca cm) 10 x = mQ μ s t ru x ca cm := by
  unfold mS mQ
  congr 1
  funext j
  by_cases h : j = 10
  · simp [h]
  · by_cases h1 : j = 5 <;> simp [h, h1]
theorem mQ_s11 {μ : zMS} {s t : Nat → Int32} {ru sp ca cm x : Int32} : mS (mQ μ s t ru sp ca cm) 11 x = mQ μ s t ru sp x cm := by
  unfold mS mQ
  congr 1
  funext j
  by_cases h : j = 11
  · simp [h]
  · by_cases h1 : j = 5 <;> by_cases h2 : j = 10 <;> simp [h, h1, h2]
theorem mQ_s12 {μ : zMS} {s t : Nat → Int32} {ru sp ca cm x : Int32} : mS (mQ μ s t ru sp ca cm) 12 x = mQ μ s t ru sp ca x := by
  unfold mS mQ
  congr 1
  funext j
  by_cases h : j = 12
  · simp [h]
  · by_cases h1 : j = 5 <;> by_cases h2 : j = 10 <;> by_cases h3 : j = 11 <;> simp [h, h1, h2, h3]
theorem mQ_self (μ : zMS) : mQ μ (μ.1 1) (μ.1 8) (μ.2 5) (μ.2 10) (μ.2 11) (μ.2 12) = μ := by
  obtain ⟨f, g⟩ := μ
  unfold mQ
  congr 1
  · funext j
    by_cases h1 : j = 1
    · simp [h1]
    · by_cases h2 : j = 8 <;> simp [h1, h2]
  · funext j
    by_cases h1 : j = 5
    · simp [h1]
    · by_cases h2 : j = 10
      · simp [h2]
      · by_cases h3 : j = 11
        · simp [h3]
        · by_cases h4 : j = 12 <;> simp [h1, h2, h3, h4]
def zCause (v : Int32) : Int32 := if v = -1000001 then 2 else 3
/-- the text played from i on: the numbers after it, the cause of its end (0: none), the last start, the commands so far -/
def zPl (tx : Nat → Int32) (ty : Nat) : Nat → Nat → (Nat → Int32) → Int32 → Int32 → (Nat → Int32) × Int32 × Int32 × Int32
  | 0, _, s, a, c => (s, 0, a, c)
  | f + 1, i, s, a, c => if i < ty then (match zRd tx ty i with
      | none => (s, 1, nI i, c + 1)
      | some q => if 0 ≤ zVal (spCall s (tN (s 3)) (tN (s 4)) (tN (s 6)) q.1 q.2.2) then zPl tx ty f q.2.1 (zSt (spCall s (tN (s 3)) (tN (s 4)) (tN (s 6)) q.1 q.2.2) s) (nI i) (c + 1) else (zSt (spCall s (tN (s 3)) (tN (s 4)) (tN (s 6)) q.1 q.2.2) s, zCause (zVal (spCall s (tN (s 3)) (tN (s 4)) (tN (s 6)) q.1 q.2.2)), nI i, c + 1))
    else (s, 0, a, c)
theorem zPl_o {tx : Nat → Int32} {ty f i : Nat} {s : Nat → Int32} {a c : Int32} (h : ¬ i < ty) : zPl tx ty f i s a c = (s, 0, a, c) := by
  cases f with
  | zero => rfl
  | succ f => exact if_neg h
theorem zPl_n {tx : Nat → Int32} {ty f i : Nat} {s : Nat → Int32} {a c : Int32} (h : i < ty) (hr : zRd tx ty i = none) : zPl tx ty (f + 1) i s a c = (s, 1, nI i, c + 1) := by
  rw [zPl, if_pos h, hr]
theorem zPl_s {tx : Nat → Int32} {ty f i : Nat} {s : Nat → Int32} {a c : Int32} {q : Nat × Nat × (Nat → Int32)} {r : zRes} (h : i < ty) (hr : zRd tx ty i = some q) (hc : spCall s (tN (s 3)) (tN (s 4)) (tN (s 6)) q.1 q.2.2 = r) : zPl tx ty (f + 1) i s a c = if 0 ≤ zVal r then zPl tx ty f q.2.1 (zSt r s) (nI i) (c + 1) else (zSt r s, zCause (zVal r), nI i, c + 1) := by
  rw [zPl, if_pos h, hr]
  simp only [hc]
theorem nI_nn {k : Nat} (h : k < 2 ^ 31) : 0 ≤ nI k := by
  rw [Int32.le_iff_toInt_le, nI_toInt h]
  show (0 : Int) ≤ ((k : Nat) : Int)
  omega
theorem zRdP_n {tx : Nat → Int32} {ty i i' : Nat} {x : Int32} {t : Nat → Int32} (h : zRdP tx ty i x i' t) (hx : ¬ 0 ≤ x) : zRd tx ty i = none := by
  unfold zRdP at h
  split at h
  · assumption
  · next q hq =>
    exact absurd (by rw [h.1]; exact nI_nn (by omega)) hx
theorem zRdP_s {tx : Nat → Int32} {ty i i' : Nat} {x : Int32} {t : Nat → Int32} (h : zRdP tx ty i x i' t) (hx : 0 ≤ x) : ∃ q, zRd tx ty i = some q ∧ x = nI q.1 ∧ q.1 < 7 ∧ i' = q.2.1 ∧ i < i' ∧ ∀ j, j < zCnt q.1 → t j = q.2.2 j := by
  unfold zRdP at h
  split at h
  · rw [h] at hx; exact absurd hx (by decide)
  · next q hq => exact ⟨q, hq, h⟩
set_option maxRecDepth 20000 in
set_option maxHeartbeats 4000000 in
theorem ct_X7_plays {K : zK} {M : mM} {nx : Nat} {m : Nat} {μ : zMS} (hm : mPic M m μ) {ty : Nat} (ht : μ.2 7 = nI ty) (ht8 : ty ≤ 80) (hE : zEx (μ.1 1)) : zCt K yX7_plays cX7_plays 4 zr_X7_plays 8 [.ref m] M nx 0 0 (zI (fun x M' => x = (if (zPl (μ.1 5) ty (ty + 1) 0 (μ.1 1) 0 0).2.1 = 0 then -1000004 else (zPl (μ.1 5) ty (ty + 1) 0 (μ.1 1) 0 0).2.2.1) ∧ ∃ (tt : Nat → Int32) (sp : Int32), mPic M' m (mQ μ (zPl (μ.1 5) ty (ty + 1) 0 (μ.1 1) 0 0).1 tt 0 sp (zPl (μ.1 5) ty (ty + 1) 0 (μ.1 1) 0 0).2.1 (zPl (μ.1 5) ty (ty + 1) 0 (μ.1 1) 0 0).2.2.2) ∧ zFr M M' m 9)) := by
  refine z_enter [some (.ref m), none, none, none] (by decide +kernel) (Nat.le_of_ble_eq_true rfl) rfl (fun B ok hz => ?_)
  have J108 : ∀ (M1 : mM) (s9 tt : Nat → Int32) (sp ca cm st : Int32) (v2 v3 : Option Value), zPl (μ.1 5) ty (ty + 1) 0 (μ.1 1) 0 0 = (s9, ca, st, cm) → mPic M1 m (mQ μ s9 tt 1 sp ca cm) → zFr M M1 m 9 → zV 4 B (zE B (zI (fun x M' => x = (if (zPl (μ.1 5) ty (ty + 1) 0 (μ.1 1) 0 0).2.1 = 0 then -1000004 else (zPl (μ.1 5) ty (ty + 1) 0 (μ.1 1) 0 0).2.2.1) ∧ ∃ (tt : Nat → Int32) (sp : Int32), mPic M' m (mQ μ (zPl (μ.1 5) ty (ty + 1) 0 (μ.1 1) 0 0).1 tt 0 sp (zPl (μ.1 5) ty (ty + 1) 0 (μ.1 1) 0 0).2.1 (zPl (μ.1 5) ty (ty + 1) 0 (μ.1 1) 0 0).2.2.2) ∧ zFr M M' m 9)) 0 0) 108 [some (.ref m), some (.int st), v2, v3] [] M1 0 0 := by
    intro M1 s9 tt sp ca cm st v2 v3 hw hm1 hf1
    refine z_aload_n ok dX7_plays_108 rfl ?_
    refine z_iconst (v := 0) ok dX7_plays_109 (by decide) ?_
    refine m_put5 ok dX7_plays_110 zw_776 hm1 (Or.inl rfl) (fun Mz2 hm1 frz3 => ?_)
    refine z_aload_n ok dX7_plays_113 rfl ?_
    refine z_getf ok dX7_plays_114 zin_X7 rfl 11 (by decide) zw_782 hm1.1 rfl ?_
    refine z_if_ne (tgt := 125) ok dX7_plays_117 (by decide) (fun cz117 => ?_) (fun cz117 => ?_)
    · have hcz : ¬ (zPl (μ.1 5) ty (ty + 1) 0 (μ.1 1) 0 0).2.1 = 0 := by rw [hw]; exact cz117
      refine z_iload_n ok dX7_plays_125 rfl ?_
      exact z_iret ok dX7_plays_126 rfl rfl rfl (Nat.zero_le _) ⟨by first | (rw [if_neg hcz, hw]) | (rw [if_pos hcz]), tt, sp, (by rw [hw]; have h9 := hm1; simp only [mQ_s5, mQ_s10, mQ_s11, mQ_s12, mQ_a1, mQ_a8] at h9; exact h9), (by repeat (first | assumption | exact zFr.rf | refine zFr.tr (by assumption) ?_))⟩
    · have hcz : (zPl (μ.1 5) ty (ty + 1) 0 (μ.1 1) 0 0).2.1 = 0 := by rw [hw]; exact cz117
      refine z_ldc ok dX7_plays_120 zw_836 ?_
      refine z_goto (tgt := 126) ok dX7_plays_122 (by decide) ?_
      exact z_iret ok dX7_plays_126 rfl rfl rfl (Nat.zero_le _) ⟨by first | (rw [if_neg hcz, hw]) | (rw [if_pos hcz]), tt, sp, (by rw [hw]; have h9 := hm1; simp only [mQ_s5, mQ_s10, mQ_s11, mQ_s12, mQ_a1, mQ_a8] at h9; exact h9), (by repeat (first | assumption | exact zFr.rf | refine zFr.tr (by assumption) ?_))⟩
  have J22 : ∀ (M1 : mM) (s9 tt : Nat → Int32) (sp ca cm st : Int32) (v2 v3 : Option Value), ¬ ca = 0 → zPl (μ.1 5) ty (ty + 1) 0 (μ.1 1) 0 0 = (s9, ca, st, cm) → mPic M1 m (mQ μ s9 tt 1 sp ca cm) → zFr M M1 m 9 → zV 4 B (zE B (zI (fun x M' => x = (if (zPl (μ.1 5) ty (ty + 1) 0 (μ.1 1) 0 0).2.1 = 0 then -1000004 else (zPl (μ.1 5) ty (ty + 1) 0 (μ.1 1) 0 0).2.2.1) ∧ ∃ (tt : Nat → Int32) (sp : Int32), mPic M' m (mQ μ (zPl (μ.1 5) ty (ty + 1) 0 (μ.1 1) 0 0).1 tt 0 sp (zPl (μ.1 5) ty (ty + 1) 0 (μ.1 1) 0 0).2.1 (zPl (μ.1 5) ty (ty + 1) 0 (μ.1 1) 0 0).2.2.2) ∧ zFr M M' m 9)) 0 0) 22 [some (.ref m), some (.int st), v2, v3] [] M1 0 0 := by
    intro M1 s9 tt sp ca cm st v2 v3 hca hw hm1 hf1
    refine z_aload_n ok dX7_plays_22 rfl ?_
    refine z_getf ok dX7_plays_23 zin_X7 rfl 10 (by decide) zw_781 hm1.1 rfl ?_
    refine z_aload_n ok dX7_plays_26 rfl ?_
    refine z_getf ok dX7_plays_27 zin_X7 rfl 7 (by decide) zw_778 hm1.1 rfl ?_
    refine z_icmp_ge (tgt := 108) ok dX7_plays_30 (by decide) (fun cz30 => ?_) (fun cz30 => ?_)
    · exact J108 _ _ _ _ _ _ _ _ _ hw hm1 hf1
    · refine z_aload_n ok dX7_plays_33 rfl ?_
      refine z_getf ok dX7_plays_34 zin_X7 rfl 11 (by decide) zw_782 hm1.1 rfl ?_
      refine z_if_ne (tgt := 108) ok dX7_plays_37 (by decide) (fun _ => ?_) (fun q9 => absurd q9 hca)
      exact J108 _ _ _ _ _ _ _ _ _ hw hm1 hf1
  have loop22 : ∀ (t9 f9 i9 : Nat) (s9 tt : Nat → Int32) (cm st : Int32) (v2 v3 : Option Value) (M1 : mM), f9 < t9 → ty < i9 + f9 → i9 ≤ ty → zPl (μ.1 5) ty (ty + 1) 0 (μ.1 1) 0 0 = zPl (μ.1 5) ty f9 i9 s9 st cm → zEx s9 → mPic M1 m (mQ μ s9 tt 1 (nI i9) 0 cm) → zFr M M1 m 9 → zV 4 B (zE B (zI (fun x M' => x = (if (zPl (μ.1 5) ty (ty + 1) 0 (μ.1 1) 0 0).2.1 = 0 then -1000004 else (zPl (μ.1 5) ty (ty + 1) 0 (μ.1 1) 0 0).2.2.1) ∧ ∃ (tt : Nat → Int32) (sp : Int32), mPic M' m (mQ μ (zPl (μ.1 5) ty (ty + 1) 0 (μ.1 1) 0 0).1 tt 0 sp (zPl (μ.1 5) ty (ty + 1) 0 (μ.1 1) 0 0).2.1 (zPl (μ.1 5) ty (ty + 1) 0 (μ.1 1) 0 0).2.2.2) ∧ zFr M M' m 9)) 0 0) 22 [some (.ref m), some (.int st), v2, v3] [] M1 0 0 := by
    intro t9
    induction t9 with
    | zero => intro f9 i9 s9 tt cm st v2 v3 M1 h1; exact absurd h1 (by omega)
    | succ t9 ih9 =>
      intro f9 i9 s9 tt cm st v2 v3 M1 h1 h2 hi8 hw hE9 hm1 hf1
      have hi1 : (mQ μ s9 tt 1 (nI i9) 0 cm).2 10 = nI i9 := rfl
      have ht1 : (mQ μ s9 tt 1 (nI i9) 0 cm).2 7 = nI ty := ht
      refine z_aload_n ok dX7_plays_22 rfl ?_
      refine z_getf ok dX7_plays_23 zin_X7 rfl 10 (by decide) zw_781 hm1.1 rfl ?_
      refine z_aload_n ok dX7_plays_26 rfl ?_
      refine z_getf ok dX7_plays_27 zin_X7 rfl 7 (by decide) zw_778 hm1.1 rfl ?_
      refine z_icmp_ge (tgt := 108) ok dX7_plays_30 (by decide) (fun cz30 => ?_) (fun cz30 => ?_)
      · have hz30 : ¬ i9 < ty := by rw [hi1, ht1, nI_leI (by omega) (by omega)] at cz30; omega
        exact J108 _ _ _ _ _ _ _ _ _ (hw.trans (zPl_o hz30)) hm1 hf1
      · have hz30 : i9 < ty := by rw [hi1, ht1, nI_leI (by omega) (by omega)] at cz30; omega
        obtain ⟨ff, hff⟩ : ∃ z9, f9 = z9 + 1 := ⟨f9 - 1, by omega⟩
        rw [hff] at hw
        refine z_aload_n ok dX7_plays_33 rfl ?_
        refine z_getf ok dX7_plays_34 zin_X7 rfl 11 (by decide) zw_782 hm1.1 rfl ?_
        refine z_if_ne (tgt := 108) ok dX7_plays_37 (by decide) (fun q9 => absurd q9 (fun h9 => h9 rfl)) (fun _ => ?_)
        refine z_aload_n ok dX7_plays_40 rfl ?_
        refine z_getf ok dX7_plays_41 zin_X7 rfl 10 (by decide) zw_781 hm1.1 rfl ?_
        refine z_istore_n ok dX7_plays_44 (by decide) rfl ?_
        refine z_aload_n ok dX7_plays_45 rfl ?_
        refine z_callVi ok dX7_plays_46 zm_X7_reads zw_1021 zi_X7_reads hm1.1 rfl (ct_X7_reads hm1 hi1 hi8 ht1 ht8) rfl rfl (by decide) (by decide) (by decide) (Nat.le_of_ble_eq_true rfl) (fun xz32 Mz33 qz34 => ?_)
        obtain ⟨t9r, j9, hm35, hj9, frxz32, hrd⟩ := qz34
        have hrd2 : zRdP (μ.1 5) ty i9 xz32 j9 t9r := hrd
        simp only [mQ_a8, mQ_s10] at hm35
        refine z_istore_n ok dX7_plays_49 (by decide) rfl ?_
        refine z_iload_n ok dX7_plays_50 rfl ?_
        refine z_if_ge (tgt := 58) ok dX7_plays_51 (by decide) (fun cz51 => ?_) (fun cz51 => ?_)
        · obtain ⟨q9q, hq1, hq2, hq7, hq3, hq4, hq5⟩ := zRdP_s hrd2 cz51
          rw [hq2] at cz51
          rw [hq2]
          refine z_aload_n ok dX7_plays_58 rfl ?_
          refine z_iload_n ok dX7_plays_59 rfl ?_
          refine z_callVi ok dX7_plays_60 zm_X7_calls zw_1042 zi_X7_calls hm35.1 rfl (ct_X7_calls hm35 (zEx_tN hE9) (p := 0) (Or.inr rfl) hq7) rfl rfl (by decide) (by decide) (by decide) (Nat.le_of_ble_eq_true rfl) (fun xz28 Mz29 qz30 => ?_)
          obtain ⟨hxv, hmr, fcxz28⟩ := zPost_st qz30 hm35 rfl
          have hcw := spCall_t (s := s9) (n := tN (s9 3)) (nv := tN (s9 4)) (no := tN (s9 6)) (w := q9q.1) hq5
          obtain ⟨rr9, hrr⟩ : ∃ r9, spCall s9 (tN (s9 3)) (tN (s9 4)) (tN (s9 6)) q9q.1 q9q.2.2 = r9 := ⟨_, rfl⟩
          have hcv := hcw.trans hrr
          have hxw : xz28 = zVal rr9 := hxv.trans (congrArg zVal hcv)
          have hm31 : mPic Mz29 m (mQ μ (zSt rr9 s9) t9r 1 (nI j9) 0 cm) := by
            rw [mQ_a1] at hmr
            exact Eq.mp (congrArg (fun z9 => mPic Mz29 m (mQ μ (zSt z9 s9) t9r 1 (nI j9) 0 cm)) hcv) hmr
          have hwp := hw.trans (zPl_s hz30 hq1 hrr)
          refine z_istore_n ok dX7_plays_63 (by decide) rfl ?_
          refine z_aload_n ok dX7_plays_64 rfl ?_
          refine z_iload_n ok dX7_plays_65 rfl ?_
          refine z_if_ge (tgt := 73) ok dX7_plays_66 (by decide) (fun _ => ?_) (fun q9 => absurd cz51 q9)
          refine z_iload_n ok dX7_plays_73 rfl ?_
          refine z_if_lt (tgt := 81) ok dX7_plays_74 (by decide) (fun cz74 => ?_) (fun cz74 => ?_)
          · have hvl : ¬ 0 ≤ zVal rr9 := by rw [← hxw]; exact Int32.not_le.mpr cz74
            refine z_iload_n ok dX7_plays_81 rfl ?_
            refine z_ldc ok dX7_plays_82 zw_822 ?_
            refine z_icmp_ne (tgt := 91) ok dX7_plays_84 (by decide) (fun cz84 => ?_) (fun cz84 => ?_)
            · have hca : zCause (zVal rr9) = 3 := by rw [← hxw]; exact if_neg cz84
              refine z_iconst (v := 3) ok dX7_plays_91 (by decide) ?_
              refine m_put11 ok dX7_plays_92 zw_782 hm31 (fun Mz11 hm10 frz12 => ?_)
              refine z_aload_n ok dX7_plays_95 rfl ?_
              refine z_dup ok dX7_plays_96 rfl ?_
              refine z_getf ok dX7_plays_97 zin_X7 rfl 12 (by decide) zw_783 hm10.1 rfl ?_
              refine z_iconst (v := 1) ok dX7_plays_100 (by decide) ?_
              refine z_iadd ok dX7_plays_101 ?_
              refine m_put12 ok dX7_plays_102 zw_783 hm10 (fun Mz14 hm13 frz15 => ?_)
              refine z_goto (tgt := 22) ok dX7_plays_105 (by decide) ?_
              exact J22 _ (zSt rr9 s9) t9r _ 3 (cm + 1) _ _ _ (by decide) (by rw [← hca]; exact hwp.trans (if_neg hvl)) (by have h9 := hm13; simp only [mQ_s5, mQ_s10, mQ_s11, mQ_s12, mQ_a1, mQ_a8] at h9; exact h9) (by repeat (first | assumption | exact zFr.rf | refine zFr.tr (by assumption) ?_))
            · have hca : zCause (zVal rr9) = 2 := by rw [← hxw]; exact if_pos cz84
              refine z_iconst (v := 2) ok dX7_plays_87 (by decide) ?_
              refine z_goto (tgt := 92) ok dX7_plays_88 (by decide) ?_
              refine m_put11 ok dX7_plays_92 zw_782 hm31 (fun Mz17 hm16 frz18 => ?_)
              refine z_aload_n ok dX7_plays_95 rfl ?_
              refine z_dup ok dX7_plays_96 rfl ?_
              refine z_getf ok dX7_plays_97 zin_X7 rfl 12 (by decide) zw_783 hm16.1 rfl ?_
              refine z_iconst (v := 1) ok dX7_plays_100 (by decide) ?_
              refine z_iadd ok dX7_plays_101 ?_
              refine m_put12 ok dX7_plays_102 zw_783 hm16 (fun Mz20 hm19 frz21 => ?_)
              refine z_goto (tgt := 22) ok dX7_plays_105 (by decide) ?_
              exact J22 _ (zSt rr9 s9) t9r _ 2 (cm + 1) _ _ _ (by decide) (by rw [← hca]; exact hwp.trans (if_neg hvl)) (by have h9 := hm19; simp only [mQ_s5, mQ_s10, mQ_s11, mQ_s12, mQ_a1, mQ_a8] at h9; exact h9) (by repeat (first | assumption | exact zFr.rf | refine zFr.tr (by assumption) ?_))
          · have hvl : 0 ≤ zVal rr9 := by rw [← hxw]; exact Int32.not_lt.mp cz74
            refine z_iconst (v := 0) ok dX7_plays_77 (by decide) ?_
            refine z_goto (tgt := 92) ok dX7_plays_78 (by decide) ?_
            refine m_put11 ok dX7_plays_92 zw_782 hm31 (fun Mz23 hm22 frz24 => ?_)
            refine z_aload_n ok dX7_plays_95 rfl ?_
            refine z_dup ok dX7_plays_96 rfl ?_
            refine z_getf ok dX7_plays_97 zin_X7 rfl 12 (by decide) zw_783 hm22.1 rfl ?_
            refine z_iconst (v := 1) ok dX7_plays_100 (by decide) ?_
            refine z_iadd ok dX7_plays_101 ?_
            refine m_put12 ok dX7_plays_102 zw_783 hm22 (fun Mz26 hm25 frz27 => ?_)
            refine z_goto (tgt := 22) ok dX7_plays_105 (by decide) ?_
            exact ih9 ff j9 (zSt rr9 s9) t9r (cm + 1) _ _ _ _ (by omega) (by omega) hj9 (by rw [hq3]; exact hwp.trans (if_pos hvl)) (by rw [← hrr]; exact spCall_N (zEx_tN hE9)) (by have h9 := hm25; simp only [mQ_s5, mQ_s10, mQ_s11, mQ_s12, mQ_a1, mQ_a8] at h9; exact h9) (by repeat (first | assumption | exact zFr.rf | refine zFr.tr (by assumption) ?_))
        · have hnn := zRdP_n hrd2 cz51
          refine z_iconst (v := 0) ok dX7_plays_54 (by decide) ?_
          refine z_goto (tgt := 63) ok dX7_plays_55 (by decide) ?_
          refine z_istore_n ok dX7_plays_63 (by decide) rfl ?_
          refine z_aload_n ok dX7_plays_64 rfl ?_
          refine z_iload_n ok dX7_plays_65 rfl ?_
          refine z_if_ge (tgt := 73) ok dX7_plays_66 (by decide) (fun q9 => absurd q9 cz51) (fun _ => ?_)
          refine z_iconst (v := 1) ok dX7_plays_69 (by decide) ?_
          refine z_goto (tgt := 92) ok dX7_plays_70 (by decide) ?_
          refine m_put11 ok dX7_plays_92 zw_782 hm35 (fun Mz5 hm4 frz6 => ?_)
          refine z_aload_n ok dX7_plays_95 rfl ?_
          refine z_dup ok dX7_plays_96 rfl ?_
          refine z_getf ok dX7_plays_97 zin_X7 rfl 12 (by decide) zw_783 hm4.1 rfl ?_
          refine z_iconst (v := 1) ok dX7_plays_100 (by decide) ?_
          refine z_iadd ok dX7_plays_101 ?_
          refine m_put12 ok dX7_plays_102 zw_783 hm4 (fun Mz8 hm7 frz9 => ?_)
          refine z_goto (tgt := 22) ok dX7_plays_105 (by decide) ?_
          exact J22 _ s9 t9r _ 1 (cm + 1) _ _ _ (by decide) (hw.trans (zPl_n hz30 hnn)) (by have h9 := hm7; simp only [mQ_s5, mQ_s10, mQ_s11, mQ_s12, mQ_a1, mQ_a8] at h9; exact h9) (by repeat (first | assumption | exact zFr.rf | refine zFr.tr (by assumption) ?_))
  refine z_aload_n ok dX7_plays_0 rfl ?_
  refine z_iconst (v := 1) ok dX7_plays_1 (by decide) ?_
  refine m_put5 ok dX7_plays_2 zw_776 hm (Or.inr rfl) (fun Mz37 hm36 frz38 => ?_)
  refine z_aload_n ok dX7_plays_5 rfl ?_
  refine z_iconst (v := 0) ok dX7_plays_6 (by decide) ?_
  refine m_put10 ok dX7_plays_7 zw_781 hm36 (fun Mz40 hm39 frz41 => ?_)
  refine z_aload_n ok dX7_plays_10 rfl ?_
  refine z_iconst (v := 0) ok dX7_plays_11 (by decide) ?_
  refine m_put12 ok dX7_plays_12 zw_783 hm39 (fun Mz43 hm42 frz44 => ?_)
  refine z_aload_n ok dX7_plays_15 rfl ?_
  refine z_iconst (v := 0) ok dX7_plays_16 (by decide) ?_
  refine m_put11 ok dX7_plays_17 zw_782 hm42 (fun Mz46 hm45 frz47 => ?_)
  refine z_iconst (v := 0) ok dX7_plays_20 (by decide) ?_
  refine z_istore_n ok dX7_plays_21 (by decide) rfl ?_
  exact loop22 (ty + 2) (ty + 1) 0 _ (μ.1 8) 0 0 _ _ _ (by omega) (by omega) (by omega) rfl hE (by have h9 := hm45; rw [← mQ_self μ] at h9; simp only [mQ_s5, mQ_s10, mQ_s11, mQ_s12] at h9; exact h9) (by repeat (first | assumption | exact zFr.rf | refine zFr.tr (by assumption) ?_))

