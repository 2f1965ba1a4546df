theorem zRet_N {s : Nat → Int32} {n nv no iv : Nat} (h : zN s n nv no) : zN (zRet s iv) n nv no := by
  unfold zRet
  exact zN_pv (zN_pv (zN_pv (zN_upd h (by decide) (by decide) (by decide))))
def zHv (n : Nat) (s : Nat → Int32) : Nat → (Nat → Int32) × Int32
  | 0 => (s, 0)
  | v + 1 => if 0 < vd (zHv n s v).1 v 2 ∧ vd (zHv n s v).1 v 4 = (zHv n s v).1 5 then (if vd (zHv n s v).1 v 2 = 1 then ((zArr1 (zHv n s v).1 n v).1, (zHv n s v).2 + (zArr1 (zHv n s v).1 n v).2) else (zRet (zHv n s v).1 v, (zHv n s v).2)) else zHv n s v
theorem zHv_no {n v : Nat} {s : Nat → Int32} (h : ¬ (0 < vd (zHv n s v).1 v 2 ∧ vd (zHv n s v).1 v 4 = (zHv n s v).1 5)) : zHv n s (v + 1) = zHv n s v := if_neg h
theorem zHv_arr {n v : Nat} {s : Nat → Int32} (h : 0 < vd (zHv n s v).1 v 2 ∧ vd (zHv n s v).1 v 4 = (zHv n s v).1 5) (h1 : vd (zHv n s v).1 v 2 = 1) : zHv n s (v + 1) = ((zArr1 (zHv n s v).1 n v).1, (zHv n s v).2 + (zArr1 (zHv n s v).1 n v).2) := (if_pos h).trans (if_pos h1)
theorem zHv_ret {n v : Nat} {s : Nat → Int32} (h : 0 < vd (zHv n s v).1 v 2 ∧ vd (zHv n s v).1 v 4 = (zHv n s v).1 5) (h1 : ¬ vd (zHv n s v).1 v 2 = 1) : zHv n s (v + 1) = (zRet (zHv n s v).1 v, (zHv n s v).2) := (if_pos h).trans (if_neg h1)
theorem zHv_N {s : Nat → Int32} {n nv no : Nat} (h : zN s n nv no) : ∀ v, ∃ no', no' ≤ no ∧ zN (zHv n s v).1 n nv no'
  | 0 => ⟨no, Nat.le_refl _, h⟩
  | v + 1 => by
    obtain ⟨o1, h1, h2⟩ := zHv_N h v
    by_cases hc : 0 < vd (zHv n s v).1 v 2 ∧ vd (zHv n s v).1 v 4 = (zHv n s v).1 5
    · by_cases h3 : vd (zHv n s v).1 v 2 = 1
      · rw [zHv_arr hc h3]
        obtain ⟨o2, g1, g2⟩ := zArr1_N (iv := v) h2
        exact ⟨o2, by omega, g2⟩
      · rw [zHv_ret hc h3]
        exact ⟨o1, h1, zRet_N h2⟩
    · rw [zHv_no hc]
      exact ⟨o1, h1, h2⟩
def zOld : Nat → (Nat → Int32) → (Nat → Int32)
  | 0, s => s
  | k + 1, s => zOld k (if od s k 4 < s 5 then zDrop s (cO s) k else s)
theorem zOld_N {n nv : Nat} : ∀ {k no : Nat} {s : Nat → Int32}, zN s n nv no → ∃ no', no' ≤ no ∧ zN (zOld k s) n nv no'
  | 0, no, _, h => ⟨no, Nat.le_refl _, h⟩
  | k + 1, no, s, h => by
    rw [zOld]
    split
    · rw [cO_N h]
      obtain ⟨o2, g1, g2⟩ := zOld_N (k := k) (zDrop_N (k := k) h)
      exact ⟨o2, by omega, g2⟩
    · exact zOld_N h
def zFee (s : Nat → Int32) : Nat → (Nat → Int32)
  | 0 => s
  | c + 1 => upd (zFee s c) 11 (zFee s c 11 + if zHere (zFee s c) c ∧ zFee s c 1 < zFee s c 5 - gd (zFee s c) c 10 then (gd (zFee s c) c 1 + 9) / 10 else 0)
theorem zFee_N {s : Nat → Int32} {n nv no : Nat} (h : zN s n nv no) : ∀ c, zN (zFee s c) n nv no
  | 0 => h
  | c + 1 => zN_upd (zFee_N h c) (by decide) (by decide) (by decide)
theorem zFee_t {s : Nat → Int32} {c : Nat} (h : zHere (zFee s c) c ∧ zFee s c 1 < zFee s c 5 - gd (zFee s c) c 10) : zFee s (c + 1) = upd (zFee s c) 11 (zFee s c 11 + (gd (zFee s c) c 1 + 9) / 10) := by rw [zFee, if_pos h]
theorem zFee_f {s : Nat → Int32} {c : Nat} (h : ¬ (zHere (zFee s c) c ∧ zFee s c 1 < zFee s c 5 - gd (zFee s c) c 10)) : zFee s (c + 1) = upd (zFee s c) 11 (zFee s c 11 + 0) := by rw [zFee, if_neg h]
def zTick (s : Nat → Int32) : Nat → Int32 := upd s 5 (s 5 + 1)
def zHour (s : Nat → Int32) (n nv : Nat) : (Nat → Int32) × Int32 := (zFee (zOld (cO (zHv n (zTick s) nv).1) (zHv n (zTick s) nv).1) n, (zHv n (zTick s) nv).2)
theorem zTick_N {s : Nat → Int32} {n nv no : Nat} (h : zN s n nv no) : zN (zTick s) n nv no := zN_upd h (by decide) (by decide) (by decide)
theorem zHour_N {s : Nat → Int32} {n nv no : Nat} (h : zN s n nv no) : ∃ no', no' ≤ no ∧ zN (zHour s n nv).1 n nv no' := by
  obtain ⟨o1, h1, h2⟩ := zHv_N (zTick_N h) nv
  obtain ⟨o2, h3, h4⟩ := zOld_N (k := cO (zHv n (zTick s) nv).1) h2
  exact ⟨o2, by omega, zFee_N h4 n⟩
def zPass (n nv : Nat) (s : Nat → Int32) : Nat → (Nat → Int32) × Int32
  | 0 => (s, 0)
  | h + 1 => ((zHour (zPass n nv s h).1 n nv).1, (zPass n nv s h).2 + (zHour (zPass n nv s h).1 n nv).2)
theorem zPass_N {s : Nat → Int32} {n nv no : Nat} (h : zN s n nv no) : ∀ k, ∃ no', no' ≤ no ∧ zN (zPass n nv s k).1 n nv no'
  | 0 => ⟨no, Nat.le_refl _, h⟩
  | k + 1 => by
    obtain ⟨o1, h1, h2⟩ := zPass_N h k
    obtain ⟨o2, h3, h4⟩ := zHour_N h2
    exact ⟨o2, by omega, h4⟩
theorem zdec (x : Int32) : x + Int32.ofInt (-1) = x - 1 := by
  rw [Int32.sub_eq_add_neg]
  rfl
set_option maxRecDepth 20000 in
set_option maxHeartbeats 4000000 in
theorem ct_X7_hour {K : zK} {M : mM} {nx : Nat} {m : Nat} {μ : zMS} (hm : mPic M m μ) {n nv no : Nat} (hN : zN (μ.1 1) n nv no) : zCt K yX7_hour cX7_hour 4 zr_X7_hour 4 [.ref m] M nx 0 0 (zI (fun x M' => x = (zHour (μ.1 1) n nv).2 ∧ mPic M' m (mA μ 1 (zHour (μ.1 1) n nv).1) ∧ zFr M M' m 9)) := by
  refine z_enter [some (.ref m), none, none, none] (by decide +kernel) (Nat.le_of_ble_eq_true rfl) rfl (fun B ok hz => ?_)
  have hn16 := hN.2.1
  have hnv4 := hN.2.2.2.1
  refine z_aload_n ok dX7_hour_0 rfl ?_
  refine z_getf ok dX7_hour_1 zin_X7 rfl 0 (by decide) zw_771 hm.1 rfl ?_
  refine z_iconst (v := 5) ok dX7_hour_4 (by decide) ?_
  refine z_dup2 ok dX7_hour_5 rfl rfl ?_
  refine m_ald1 ok dX7_hour_6 hm rfl (by decide) ?_
  refine z_iconst (v := 1) ok dX7_hour_7 (by decide) ?_
  refine z_iadd ok dX7_hour_8 ?_
  refine m_ast1 ok dX7_hour_9 hm rfl (by decide) (fun Mz27 hm26 frz28 => ?_)
  refine z_iconst (v := 0) ok dX7_hour_10 (by decide) ?_
  refine z_istore_n ok dX7_hour_11 (by decide) rfl ?_
  refine z_iconst (v := 0) ok dX7_hour_12 (by decide) ?_
  refine z_istore_n ok dX7_hour_13 (by decide) rfl ?_
  have loop14 : ∀ (t i : Nat) (y : Int32) (M1 : mM) (w3 : Option Value), nv < i + t → i ≤ nv → y = (zHv n (zTick (μ.1 1)) i).2 → mPic M1 m (mA μ 1 (zHv n (zTick (μ.1 1)) i).1) → zFr M M1 m 9 → zV 4 B (zE B (zI (fun x M' => x = (zHour (μ.1 1) n nv).2 ∧ mPic M' m (mA μ 1 (zHour (μ.1 1) n nv).1) ∧ zFr M M' m 9)) 0 0) 14 [some (.ref m), some (.int y), some (.int (nI i)), w3] [] M1 0 0 := by
    intro t
    induction t with
    | zero => intro i y M1 w3 h1 h2; exact absurd h1 (by omega)
    | succ t ih =>
      intro i y M1 w3 h1 h2 hy hm1 hf1
      obtain ⟨o1, ho1, hN0⟩ := zHv_N (zTick_N hN) i
      have hno9 := hN0.2.2.2.2.2
      have hN1 : zN ((mA μ 1 (zHv n (zTick (μ.1 1)) i).1).1 1) n nv o1 := by rw [mA_s]; exact hN0
      refine z_iload_n ok dX7_hour_14 rfl ?_
      refine z_aload_n ok dX7_hour_15 rfl ?_
      refine z_getf ok dX7_hour_16 zin_X7 rfl 0 (by decide) zw_771 hm1.1 rfl ?_
      refine z_iconst (v := 4) ok dX7_hour_19 (by decide) ?_
      refine m_ald1 ok dX7_hour_20 hm1 rfl (by decide) ?_
      refine z_icmp_ge (tgt := 94) ok dX7_hour_21 (by decide) (fun cz21 => ?_) (fun cz21 => ?_)
      · have hin : i = nv := by rw [mA_s, hN0.2.2.1, nI_leI (by omega) (by omega)] at cz21; omega
        rw [hin] at hy hm1 hN0
        subst hy
        have hNV := hN0
        obtain ⟨o2, ho2, hNO⟩ := zOld_N (k := cO (zHv n (zTick (μ.1 1)) nv).1) hNV
        have J134 : ∀ (M2 : mM) (w2 w3 : Option Value), mPic M2 m (mA μ 1 (zOld (cO (zHv n (zTick (μ.1 1)) nv).1) (zHv n (zTick (μ.1 1)) nv).1)) → zFr M M2 m 9 → zV 4 B (zE B (zI (fun x M' => x = (zHour (μ.1 1) n nv).2 ∧ mPic M' m (mA μ 1 (zHour (μ.1 1) n nv).1) ∧ zFr M M' m 9)) 0 0) 134 [some (.ref m), some (.int (zHv n (zTick (μ.1 1)) nv).2), w2, w3] [] M2 0 0 := by
          intro M2 w2 w3 hm2 hf2
          refine z_iconst (v := 0) ok dX7_hour_134 (by decide) ?_
          refine z_istore_n ok dX7_hour_135 (by decide) rfl ?_
          have loop136 : ∀ (t i : Nat) (M3 : mM), n < i + t → i ≤ n → mPic M3 m (mA μ 1 (zFee (zOld (cO (zHv n (zTick (μ.1 1)) nv).1) (zHv n (zTick (μ.1 1)) nv).1) i)) → zFr M M3 m 9 → zV 4 B (zE B (zI (fun x M' => x = (zHour (μ.1 1) n nv).2 ∧ mPic M' m (mA μ 1 (zHour (μ.1 1) n nv).1) ∧ zFr M M' m 9)) 0 0) 136 [some (.ref m), some (.int (zHv n (zTick (μ.1 1)) nv).2), some (.int (nI i)), w3] [] M3 0 0 := by
            intro t
            induction t with
            | zero => intro i M3 h1 h2; exact absurd h1 (by omega)
            | succ t ih =>
              intro i M3 h1 h2 hm3 hf3
              have hN0 := zFee_N hNO i
              have hN1 : zN ((mA μ 1 (zFee (zOld (cO (zHv n (zTick (μ.1 1)) nv).1) (zHv n (zTick (μ.1 1)) nv).1) i)).1 1) n nv o2 := by rw [mA_s]; exact hN0
              refine z_iload_n ok dX7_hour_136 rfl ?_
              refine z_aload_n ok dX7_hour_137 rfl ?_
              refine z_getf ok dX7_hour_138 zin_X7 rfl 0 (by decide) zw_771 hm3.1 rfl ?_
              refine z_iconst (v := 3) ok dX7_hour_141 (by decide) ?_
              refine m_ald1 ok dX7_hour_142 hm3 rfl (by decide) ?_
              refine z_icmp_ge (tgt := 209) ok dX7_hour_143 (by decide) (fun cz143 => ?_) (fun cz143 => ?_)
              · have hin : i = n := by rw [mA_s, hN0.1, nI_leI (by omega) (by omega)] at cz143; omega
                rw [hin] at hm3
                refine z_iload_n ok dX7_hour_209 rfl ?_
                exact z_iret ok dX7_hour_210 rfl rfl rfl (Nat.zero_le _) ⟨rfl, hm3, hf3⟩
              · have hin : i < n := by rw [mA_s, hN0.1, nI_leI (by omega) (by omega)] at cz143; omega
                refine z_aload_n ok dX7_hour_146 rfl ?_
                refine z_getf ok dX7_hour_147 zin_X7 rfl 0 (by decide) zw_771 hm3.1 rfl ?_
                refine z_bipush (v := 11) ok dX7_hour_150 (by decide) ?_
                refine z_dup2 ok dX7_hour_152 rfl rfl ?_
                refine m_ald1 ok dX7_hour_153 hm3 rfl (by decide) ?_
                refine z_aload_n ok dX7_hour_154 rfl ?_
                refine z_iload_n ok dX7_hour_155 rfl ?_
                refine z_callVi ok dX7_hour_156 zm_X7_isHere zw_953 zi_X7_isHere hm3.1 rfl (ct_X7_isHere hm3 hN1 hin rfl) rfl rfl (by decide) (by decide) (by decide) (Nat.le_of_ble_eq_true rfl) (fun xz1 Mz2 qz3 => ?_)
                obtain ⟨rfl, hMe⟩ := qz3
                obtain rfl := hMe.symm
                refine z_if_eq (tgt := 200) ok dX7_hour_159 (by decide) (fun cz159 => ?_) (fun cz159 => ?_)
                · have hb0 := b2_0.mp cz159
                  rw [mA_s] at hb0
                  have hb : ¬ (zHere (zFee (zOld (cO (zHv n (zTick (μ.1 1)) nv).1) (zHv n (zTick (μ.1 1)) nv).1) i) i ∧ zFee (zOld (cO (zHv n (zTick (μ.1 1)) nv).1) (zHv n (zTick (μ.1 1)) nv).1) i 1 < zFee (zOld (cO (zHv n (zTick (μ.1 1)) nv).1) (zHv n (zTick (μ.1 1)) nv).1) i 5 - gd (zFee (zOld (cO (zHv n (zTick (μ.1 1)) nv).1) (zHv n (zTick (μ.1 1)) nv).1) i) i 10) := fun z9 => hb0 z9.1
                  refine z_iconst (v := 0) ok dX7_hour_200 (by decide) ?_
                  refine z_iadd ok dX7_hour_201 ?_
                  refine m_ast1 ok dX7_hour_202 hm3 rfl (by decide) (fun Mz5 hm4 frz6 => ?_)
                  refine z_iinc ok dX7_hour_203 rfl (zinc _) (by decide) rfl ?_
                  refine z_goto (tgt := 136) ok dX7_hour_206 (by decide) ?_
                  first | exact ih (i + 1) _ (by omega) (by omega) (by rw [zFee_f hb]; have h9 := hm4; simp only [mA_s, mA_mA] at h9; exact h9) (by repeat (first | assumption | exact zFr.rf | refine zFr.tr (by assumption) ?_)) | exact ih (i + 1) _ (by omega) (by omega) (by rw [zFee_t hb]; have h9 := hm4; simp only [mA_s, mA_mA] at h9; exact h9) (by repeat (first | assumption | exact zFr.rf | refine zFr.tr (by assumption) ?_))
                · have hb0 := Decidable.not_not.mp (mt b2_0.mpr cz159)
                  rw [mA_s] at hb0
                  refine z_aload_n ok dX7_hour_162 rfl ?_
                  refine z_getf ok dX7_hour_163 zin_X7 rfl 0 (by decide) zw_771 hm3.1 rfl ?_
                  refine z_iconst (v := 5) ok dX7_hour_166 (by decide) ?_
                  refine m_ald1 ok dX7_hour_167 hm3 rfl (by decide) ?_
                  refine z_aload_n ok dX7_hour_168 rfl ?_
                  refine z_iload_n ok dX7_hour_169 rfl ?_
                  refine z_bipush (v := 10) ok dX7_hour_170 (by decide) ?_
                  refine z_callVi ok dX7_hour_172 zm_X7_of zw_845 zi_X7_of hm3.1 rfl (ct_X7_of hm3 (i := i) (k := 10) rfl rfl (by omega)) rfl rfl (by decide) (by decide) (by decide) (Nat.le_of_ble_eq_true rfl) (fun xz7 Mz8 qz9 => ?_)
                  obtain ⟨rfl, hMe⟩ := qz9
                  obtain rfl := hMe.symm
                  refine z_isub ok dX7_hour_175 ?_
                  refine z_aload_n ok dX7_hour_176 rfl ?_
                  refine z_getf ok dX7_hour_177 zin_X7 rfl 0 (by decide) zw_771 hm3.1 rfl ?_
                  refine z_iconst (v := 1) ok dX7_hour_180 (by decide) ?_
                  refine m_ald1 ok dX7_hour_181 hm3 rfl (by decide) ?_
                  refine z_icmp_le (tgt := 200) ok dX7_hour_182 (by decide) (fun cz182 => ?_) (fun cz182 => ?_)
                  · have hb : ¬ (zHere (zFee (zOld (cO (zHv n (zTick (μ.1 1)) nv).1) (zHv n (zTick (μ.1 1)) nv).1) i) i ∧ zFee (zOld (cO (zHv n (zTick (μ.1 1)) nv).1) (zHv n (zTick (μ.1 1)) nv).1) i 1 < zFee (zOld (cO (zHv n (zTick (μ.1 1)) nv).1) (zHv n (zTick (μ.1 1)) nv).1) i 5 - gd (zFee (zOld (cO (zHv n (zTick (μ.1 1)) nv).1) (zHv n (zTick (μ.1 1)) nv).1) i) i 10) := fun z9 => absurd z9.2 (Int32.not_lt.mpr (by simpa only [mA_s] using cz182))
                    refine z_iconst (v := 0) ok dX7_hour_200 (by decide) ?_
                    refine z_iadd ok dX7_hour_201 ?_
                    refine m_ast1 ok dX7_hour_202 hm3 rfl (by decide) (fun Mz11 hm10 frz12 => ?_)
                    refine z_iinc ok dX7_hour_203 rfl (zinc _) (by decide) rfl ?_
                    refine z_goto (tgt := 136) ok dX7_hour_206 (by decide) ?_
                    first | exact ih (i + 1) _ (by omega) (by omega) (by rw [zFee_f hb]; have h9 := hm10; simp only [mA_s, mA_mA] at h9; exact h9) (by repeat (first | assumption | exact zFr.rf | refine zFr.tr (by assumption) ?_)) | exact ih (i + 1) _ (by omega) (by omega) (by rw [zFee_t hb]; have h9 := hm10; simp only [mA_s, mA_mA] at h9; exact h9) (by repeat (first | assumption | exact zFr.rf | refine zFr.tr (by assumption) ?_))
                  · have hb : (zHere (zFee (zOld (cO (zHv n (zTick (μ.1 1)) nv).1) (zHv n (zTick (μ.1 1)) nv).1) i) i ∧ zFee (zOld (cO (zHv n (zTick (μ.1 1)) nv).1) (zHv n (zTick (μ.1 1)) nv).1) i 1 < zFee (zOld (cO (zHv n (zTick (μ.1 1)) nv).1) (zHv n (zTick (μ.1 1)) nv).1) i 5 - gd (zFee (zOld (cO (zHv n (zTick (μ.1 1)) nv).1) (zHv n (zTick (μ.1 1)) nv).1) i) i 10) := ⟨hb0, by simpa only [mA_s] using i_nle cz182⟩
                    refine z_aload_n ok dX7_hour_185 rfl ?_
                    refine z_iload_n ok dX7_hour_186 rfl ?_
                    refine z_iconst (v := 1) ok dX7_hour_187 (by decide) ?_
                    refine z_callVi ok dX7_hour_188 zm_X7_of zw_845 zi_X7_of hm3.1 rfl (ct_X7_of hm3 (i := i) (k := 1) rfl rfl (by omega)) rfl rfl (by decide) (by decide) (by decide) (Nat.le_of_ble_eq_true rfl) (fun xz13 Mz14 qz15 => ?_)
                    obtain ⟨rfl, hMe⟩ := qz15
                    obtain rfl := hMe.symm
                    refine z_bipush (v := 9) ok dX7_hour_191 (by decide) ?_
                    refine z_iadd ok dX7_hour_193 ?_
                    refine z_bipush (v := 10) ok dX7_hour_194 (by decide) ?_
                    refine z_idiv ok dX7_hour_196 (by decide) ?_
                    refine z_goto (tgt := 201) ok dX7_hour_197 (by decide) ?_
                    refine z_iadd ok dX7_hour_201 ?_
                    refine m_ast1 ok dX7_hour_202 hm3 rfl (by decide) (fun Mz17 hm16 frz18 => ?_)
                    refine z_iinc ok dX7_hour_203 rfl (zinc _) (by decide) rfl ?_
                    refine z_goto (tgt := 136) ok dX7_hour_206 (by decide) ?_
                    first | exact ih (i + 1) _ (by omega) (by omega) (by rw [zFee_f hb]; have h9 := hm16; simp only [mA_s, mA_mA] at h9; exact h9) (by repeat (first | assumption | exact zFr.rf | refine zFr.tr (by assumption) ?_)) | exact ih (i + 1) _ (by omega) (by omega) (by rw [zFee_t hb]; have h9 := hm16; simp only [mA_s, mA_mA] at h9; exact h9) (by repeat (first | assumption | exact zFr.rf | refine zFr.tr (by assumption) ?_))
          exact loop136 (n + 1) 0 _ (by omega) (by omega) hm2 hf2
        have L104 : ∀ (j : Nat) (ss : Nat → Int32) (M1 : mM) (x : Int32) (w3 : Option Value) (o9 : Nat), x = nI j - 1 → j ≤ o9 → mPic M1 m (mA μ 1 ss) → zFr M M1 m 9 → zN ss n nv o9 → zOld j ss = (zOld (cO (zHv n (zTick (μ.1 1)) nv).1) (zHv n (zTick (μ.1 1)) nv).1) → zV 4 B (zE B (zI (fun x M' => x = (zHour (μ.1 1) n nv).2 ∧ mPic M' m (mA μ 1 (zHour (μ.1 1) n nv).1) ∧ zFr M M' m 9)) 0 0) 104 [some (.ref m), some (.int (zHv n (zTick (μ.1 1)) nv).2), some (.int x), w3] [] M1 0 0 := by
          intro j
          induction j with
          | zero =>
            intro ss M1 x w3 o9 hx hj hm1 hf1 hN0 hEq
            subst hx
            refine z_iload_n ok dX7_hour_104 rfl ?_
            refine z_if_lt (tgt := 134) ok dX7_hour_105 (by decide) (fun _ => ?_) (fun q9 => absurd (by decide) q9)
            exact J134 _ _ _ (by rw [← hEq]; exact hm1) hf1
          | succ j ihj =>
            intro ss M1 x w3 o9 hx hj hm1 hf1 hN0 hEq
            have hno9 := hN0.2.2.2.2.2
            rw [nI_pred] at hx
            subst hx
            have hN1 : zN ((mA μ 1 ss).1 1) n nv o9 := by rw [mA_s]; exact hN0
            refine z_iload_n ok dX7_hour_104 rfl ?_
            refine z_if_lt (tgt := 134) ok dX7_hour_105 (by decide) (fun q9 => absurd q9 (nI_pos (by omega))) (fun _ => ?_)
            refine z_aload_n ok dX7_hour_108 rfl ?_
            refine z_iload_n ok dX7_hour_109 rfl ?_
            refine z_iconst (v := 4) ok dX7_hour_110 (by decide) ?_
            refine z_callVi ok dX7_hour_111 zm_X7_ofOffer zw_941 zi_X7_ofOffer hm1.1 rfl (ct_X7_ofOffer hm1 (i := j) (k := 4) rfl rfl (by omega)) rfl rfl (by decide) (by decide) (by decide) (Nat.le_of_ble_eq_true rfl) (fun xz19 Mz20 qz21 => ?_)
            obtain ⟨rfl, hMe⟩ := qz21
            obtain rfl := hMe.symm
            refine z_aload_n ok dX7_hour_114 rfl ?_
            refine z_getf ok dX7_hour_115 zin_X7 rfl 0 (by decide) zw_771 hm1.1 rfl ?_
            refine z_iconst (v := 5) ok dX7_hour_118 (by decide) ?_
            refine m_ald1 ok dX7_hour_119 hm1 rfl (by decide) ?_
            refine z_icmp_ge (tgt := 128) ok dX7_hour_120 (by decide) (fun cz120 => ?_) (fun cz120 => ?_)
            · have hb : ¬ od ss j 4 < ss 5 := Int32.not_lt.mpr (by simpa only [mA_s] using cz120)
              have hfK := hf1
              have hNK := hN0
              refine z_iinc ok dX7_hour_128 rfl (zdec _) (by decide) rfl ?_
              refine z_goto (tgt := 104) ok dX7_hour_131 (by decide) ?_
              exact ihj _ _ _ _ _ rfl (by omega) hm1 hfK hNK (by rw [← hEq, zOld]; first | rw [if_neg hb] | rw [if_pos hb, cO_N hN0])
            · have hb : od ss j 4 < ss 5 := by simpa only [mA_s] using i_nle cz120
              refine z_aload_n ok dX7_hour_123 rfl ?_
              refine z_iload_n ok dX7_hour_124 rfl ?_
              refine z_callVv ok dX7_hour_125 zm_X7_dropsOffer zw_945 zi_X7_dropsOffer hm1.1 rfl (ct_X7_dropsOffer hm1 hN1 rfl (by omega)) rfl rfl (by decide) (by decide) (by decide) (Nat.le_of_ble_eq_true rfl) (fun Mz23 qz24 => ?_)
              obtain ⟨hm25, fzqxz22⟩ := qz24
              try simp only [mA_s, mA_mA] at hm25
              have hfK := hf1.tr fzqxz22
              have hNK := zDrop_N (k := j) hN0
              refine z_iinc ok dX7_hour_128 rfl (zdec _) (by decide) rfl ?_
              refine z_goto (tgt := 104) ok dX7_hour_131 (by decide) ?_
              exact ihj _ _ _ _ _ rfl (by omega) hm25 hfK hNK (by rw [← hEq, zOld]; first | rw [if_neg hb] | rw [if_pos hb, cO_N hN0])
        refine z_aload_n ok dX7_hour_94 rfl ?_
        refine z_getf ok dX7_hour_95 zin_X7 rfl 0 (by decide) zw_771 hm1.1 rfl ?_
        refine z_bipush (v := 6) ok dX7_hour_98 (by decide) ?_
        refine m_ald1 ok dX7_hour_100 hm1 rfl (by decide) ?_
        refine z_iconst (v := 1) ok dX7_hour_101 (by decide) ?_
        refine z_isub ok dX7_hour_102 ?_
        refine z_istore_n ok dX7_hour_103 (by decide) rfl ?_
        exact L104 _ _ _ _ _ _ (by rw [mA_s, hNV.2.2.2.2.1]) (Nat.le_refl _) hm1 hf1 hNV (by rw [cO_N hNV])
      · have hin : i < nv := by rw [mA_s, hN0.2.2.1, nI_leI (by omega) (by omega)] at cz21; omega
        refine z_aload_n ok dX7_hour_24 rfl ?_
        refine z_iload_n ok dX7_hour_25 rfl ?_
        refine z_iconst (v := 2) ok dX7_hour_26 (by decide) ?_
        refine z_callVi ok dX7_hour_27 zm_X7_ofVehicle zw_874 zi_X7_ofVehicle hm1.1 rfl (ct_X7_ofVehicle hm1 (i := i) (k := 2) rfl rfl (by omega)) rfl rfl (by decide) (by decide) (by decide) (Nat.le_of_ble_eq_true rfl) (fun xz29 Mz30 qz31 => ?_)
        obtain ⟨rfl, hMe⟩ := qz31
        obtain rfl := hMe.symm
        refine z_if_le (tgt := 52) ok dX7_hour_30 (by decide) (fun cz30 => ?_) (fun cz30 => ?_)
        · have hb : ¬ (0 < vd (zHv n (zTick (μ.1 1)) i).1 i 2 ∧ vd (zHv n (zTick (μ.1 1)) i).1 i 4 = (zHv n (zTick (μ.1 1)) i).1 5) := fun z9 => absurd z9.1 (Int32.not_lt.mpr (by simpa only [mA_s] using cz30))
          refine z_iconst (v := 0) ok dX7_hour_52 (by decide) ?_
          refine z_istore_n ok dX7_hour_53 (by decide) rfl ?_
          refine z_iload_n ok dX7_hour_54 rfl ?_
          refine z_if_eq (tgt := 79) ok dX7_hour_55 (by decide) (fun _ => ?_) (fun q9 => absurd (by decide) q9)
          refine z_iload_n ok dX7_hour_79 rfl ?_
          refine z_if_eq (tgt := 88) ok dX7_hour_80 (by decide) (fun _ => ?_) (fun q9 => absurd (by decide) q9)
          refine z_iinc ok dX7_hour_88 rfl (zinc _) (by decide) rfl ?_
          refine z_goto (tgt := 14) ok dX7_hour_91 (by decide) ?_
          first | exact ih (i + 1) _ _ _ (by omega) (by omega) (by rw [zHv_no hb]; exact hy) (by rw [zHv_no hb]; exact hm1) hf1 | exact ih (i + 1) _ _ _ (by omega) (by omega) (by rw [zHv_arr hb hw1, hy, mA_s]) (by rw [zHv_arr hb hw1]; exact hm1) (by repeat (first | assumption | exact zFr.rf | refine zFr.tr (by assumption) ?_)) | exact ih (i + 1) _ _ _ (by omega) (by omega) (by rw [zHv_ret hb hw1]; exact hy) (by rw [zHv_ret hb hw1]; exact hm1) (by repeat (first | assumption | exact zFr.rf | refine zFr.tr (by assumption) ?_))
        · refine z_aload_n ok dX7_hour_33 rfl ?_
          refine z_iload_n ok dX7_hour_34 rfl ?_
          refine z_iconst (v := 4) ok dX7_hour_35 (by decide) ?_
          refine z_callVi ok dX7_hour_36 zm_X7_ofVehicle zw_874 zi_X7_ofVehicle hm1.1 rfl (ct_X7_ofVehicle hm1 (i := i) (k := 4) rfl rfl (by omega)) rfl rfl (by decide) (by decide) (by decide) (Nat.le_of_ble_eq_true rfl) (fun xz32 Mz33 qz34 => ?_)
          obtain ⟨rfl, hMe⟩ := qz34
          obtain rfl := hMe.symm
          refine z_aload_n ok dX7_hour_39 rfl ?_
          refine z_getf ok dX7_hour_40 zin_X7 rfl 0 (by decide) zw_771 hm1.1 rfl ?_
          refine z_iconst (v := 5) ok dX7_hour_43 (by decide) ?_
          refine m_ald1 ok dX7_hour_44 hm1 rfl (by decide) ?_
          refine z_icmp_ne (tgt := 52) ok dX7_hour_45 (by decide) (fun cz45 => ?_) (fun cz45 => ?_)
          · have hb : ¬ (0 < vd (zHv n (zTick (μ.1 1)) i).1 i 2 ∧ vd (zHv n (zTick (μ.1 1)) i).1 i 4 = (zHv n (zTick (μ.1 1)) i).1 5) := fun z9 => cz45 (by simpa only [mA_s] using z9.2)
            refine z_iconst (v := 0) ok dX7_hour_52 (by decide) ?_
            refine z_istore_n ok dX7_hour_53 (by decide) rfl ?_
            refine z_iload_n ok dX7_hour_54 rfl ?_
            refine z_if_eq (tgt := 79) ok dX7_hour_55 (by decide) (fun _ => ?_) (fun q9 => absurd (by decide) q9)
            refine z_iload_n ok dX7_hour_79 rfl ?_
            refine z_if_eq (tgt := 88) ok dX7_hour_80 (by decide) (fun _ => ?_) (fun q9 => absurd (by decide) q9)
            refine z_iinc ok dX7_hour_88 rfl (zinc _) (by decide) rfl ?_
            refine z_goto (tgt := 14) ok dX7_hour_91 (by decide) ?_
            first | exact ih (i + 1) _ _ _ (by omega) (by omega) (by rw [zHv_no hb]; exact hy) (by rw [zHv_no hb]; exact hm1) hf1 | exact ih (i + 1) _ _ _ (by omega) (by omega) (by rw [zHv_arr hb hw1, hy, mA_s]) (by rw [zHv_arr hb hw1]; exact hm1) (by repeat (first | assumption | exact zFr.rf | refine zFr.tr (by assumption) ?_)) | exact ih (i + 1) _ _ _ (by omega) (by omega) (by rw [zHv_ret hb hw1]; exact hy) (by rw [zHv_ret hb hw1]; exact hm1) (by repeat (first | assumption | exact zFr.rf | refine zFr.tr (by assumption) ?_))
          · have hb : (0 < vd (zHv n (zTick (μ.1 1)) i).1 i 2 ∧ vd (zHv n (zTick (μ.1 1)) i).1 i 4 = (zHv n (zTick (μ.1 1)) i).1 5) := ⟨by simpa only [mA_s] using i_nle cz30, by simpa only [mA_s] using cz45⟩
            refine z_iconst (v := 1) ok dX7_hour_48 (by decide) ?_
            refine z_goto (tgt := 53) ok dX7_hour_49 (by decide) ?_
            refine z_istore_n ok dX7_hour_53 (by decide) rfl ?_
            refine z_iload_n ok dX7_hour_54 rfl ?_
            refine z_if_eq (tgt := 79) ok dX7_hour_55 (by decide) (fun q9 => absurd q9 (by decide)) (fun _ => ?_)
            refine z_aload_n ok dX7_hour_58 rfl ?_
            refine z_iload_n ok dX7_hour_59 rfl ?_
            refine z_iconst (v := 2) ok dX7_hour_60 (by decide) ?_
            refine z_callVi ok dX7_hour_61 zm_X7_ofVehicle zw_874 zi_X7_ofVehicle hm1.1 rfl (ct_X7_ofVehicle hm1 (i := i) (k := 2) rfl rfl (by omega)) rfl rfl (by decide) (by decide) (by decide) (Nat.le_of_ble_eq_true rfl) (fun xz35 Mz36 qz37 => ?_)
            obtain ⟨rfl, hMe⟩ := qz37
            obtain rfl := hMe.symm
            refine z_iconst (v := 1) ok dX7_hour_64 (by decide) ?_
            refine z_icmp_ne (tgt := 79) ok dX7_hour_65 (by decide) (fun cz65 => ?_) (fun cz65 => ?_)
            · have hw1 : ¬ vd (zHv n (zTick (μ.1 1)) i).1 i 2 = 1 := by simpa only [mA_s] using cz65
              refine z_iload_n ok dX7_hour_79 rfl ?_
              refine z_if_eq (tgt := 88) ok dX7_hour_80 (by decide) (fun q9 => absurd q9 (by decide)) (fun _ => ?_)
              refine z_aload_n ok dX7_hour_83 rfl ?_
              refine z_iload_n ok dX7_hour_84 rfl ?_
              refine z_callVv ok dX7_hour_85 zm_X7_returns zw_949 zi_X7_returns hm1.1 rfl (ct_X7_returns hm1 rfl (by omega)) rfl rfl (by decide) (by decide) (by decide) (Nat.le_of_ble_eq_true rfl) (fun Mz39 qz40 => ?_)
              obtain ⟨hm41, fzqxz38⟩ := qz40
              try simp only [mA_s, mA_mA] at hm41
              refine z_iinc ok dX7_hour_88 rfl (zinc _) (by decide) rfl ?_
              refine z_goto (tgt := 14) ok dX7_hour_91 (by decide) ?_
              first | exact ih (i + 1) _ _ _ (by omega) (by omega) (by rw [zHv_no hb]; exact hy) (by rw [zHv_no hb]; exact hm41) hf1 | exact ih (i + 1) _ _ _ (by omega) (by omega) (by rw [zHv_arr hb hw1, hy, mA_s]) (by rw [zHv_arr hb hw1]; exact hm41) (by repeat (first | assumption | exact zFr.rf | refine zFr.tr (by assumption) ?_)) | exact ih (i + 1) _ _ _ (by omega) (by omega) (by rw [zHv_ret hb hw1]; exact hy) (by rw [zHv_ret hb hw1]; exact hm41) (by repeat (first | assumption | exact zFr.rf | refine zFr.tr (by assumption) ?_))
            · have hw1 : vd (zHv n (zTick (μ.1 1)) i).1 i 2 = 1 := by simpa only [mA_s] using cz65
              refine z_iload_n ok dX7_hour_68 rfl ?_
              refine z_aload_n ok dX7_hour_69 rfl ?_
              refine z_iload_n ok dX7_hour_70 rfl ?_
              refine z_callVi ok dX7_hour_71 zm_X7_arrives zw_933 zi_X7_arrives hm1.1 rfl (ct_X7_arrives hm1 hN1 rfl (by omega)) rfl rfl (by decide) (by decide) (by decide) (Nat.le_of_ble_eq_true rfl) (fun xz42 Mz43 qz44 => ?_)
              obtain ⟨rfl, hm45, fzqxz42⟩ := qz44
              try simp only [mA_s, mA_mA] at hm45
              refine z_iadd ok dX7_hour_74 ?_
              refine z_istore_n ok dX7_hour_75 (by decide) rfl ?_
              refine z_goto (tgt := 88) ok dX7_hour_76 (by decide) ?_
              refine z_iinc ok dX7_hour_88 rfl (zinc _) (by decide) rfl ?_
              refine z_goto (tgt := 14) ok dX7_hour_91 (by decide) ?_
              first | exact ih (i + 1) _ _ _ (by omega) (by omega) (by rw [zHv_no hb]; exact hy) (by rw [zHv_no hb]; exact hm45) hf1 | exact ih (i + 1) _ _ _ (by omega) (by omega) (by rw [zHv_arr hb hw1, hy, mA_s]) (by rw [zHv_arr hb hw1]; exact hm45) (by repeat (first | assumption | exact zFr.rf | refine zFr.tr (by assumption) ?_)) | exact ih (i + 1) _ _ _ (by omega) (by omega) (by rw [zHv_ret hb hw1]; exact hy) (by rw [zHv_ret hb hw1]; exact hm45) (by repeat (first | assumption | exact zFr.rf | refine zFr.tr (by assumption) ?_))
  exact loop14 (nv + 1) 0 _ _ _ (by omega) (by omega) rfl hm26 (by repeat (first | assumption | exact zFr.rf | refine zFr.tr (by assumption) ?_))

