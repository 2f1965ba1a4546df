/-! the text: tx holds its signs, ty its length; a place in it is a Nat -/
abbrev zAt (tx : Nat → Int32) (ty i : Nat) (a b : Int32) : Prop := i < ty ∧ a ≤ tx i ∧ tx i ≤ b
/-- a word of small letters from i on, at most f of them: its value by bytes, and where it ends -/
def zWl (tx : Nat → Int32) (ty : Nat) : Nat → Nat → Int64 → Int64 × Nat
  | 0, i, a => (a, i)
  | f + 1, i, a => if zAt tx ty i 97 122 then zWl tx ty f (i + 1) (a * 256 + (tx i).toInt64) else (a, i)
def zFind (a : Int64) : Int32 := zLast (fun k => zWd k = a) (fun k => nI k) (-1000004) 7
/-- a number from i on, at most f signs -/
def zNm (tx : Nat → Int32) (ty : Nat) : Nat → Nat → Int32 → Int32 × Nat
  | 0, i, v => (v, i)
  | f + 1, i, v => if zAt tx ty i 48 57 then zNm tx ty f (i + 1) (10 * v + tx i - 48) else (v, i)
theorem zWl_le (tx : Nat → Int32) (ty : Nat) : ∀ f i a, i ≤ (zWl tx ty f i a).2 ∧ (i ≤ ty → (zWl tx ty f i a).2 ≤ ty)
  | 0, i, a => ⟨Nat.le_refl _, id⟩
  | f + 1, i, a => by
    rw [zWl]
    split
    · next h =>
      have := zWl_le tx ty f (i + 1) (a * 256 + (tx i).toInt64)
      exact ⟨by omega, fun _ => this.2 (by omega)⟩
    · exact ⟨Nat.le_refl _, id⟩
theorem zNm_le (tx : Nat → Int32) (ty : Nat) : ∀ f i v, i ≤ (zNm tx ty f i v).2 ∧ (i ≤ ty → (zNm tx ty f i v).2 ≤ ty)
  | 0, i, a => ⟨Nat.le_refl _, id⟩
  | f + 1, i, a => by
    rw [zNm]
    split
    · next h =>
      have := zNm_le tx ty f (i + 1) (10 * a + tx i - 48)
      exact ⟨by omega, fun _ => this.2 (by omega)⟩
    · exact ⟨Nat.le_refl _, id⟩
set_option maxRecDepth 20000 in
set_option maxHeartbeats 4000000 in
theorem ct_X7_isAt {K : zK} {M : mM} {nx : Nat} {m : Nat} {μ : zMS} (hm : mPic M m μ) {i ty : Nat} (hi : μ.2 10 = nI i) (hi8 : i ≤ ty) (ht : μ.2 7 = nI ty) (ht8 : ty ≤ 80) {a b : Int32} : zCt K yX7_isAt cX7_isAt 3 zr_X7_isAt 1 [.ref m, .int a, .int b] M nx 0 0 (zI (fun x M' => x = b2 (zAt (μ.1 5) ty i a b) ∧ M' = M)) := by
  refine z_enter [some (.ref m), some (.int a), some (.int b)] (by decide +kernel) (Nat.le_of_ble_eq_true rfl) rfl (fun B ok hz => ?_)
  refine z_aload_n ok dX7_isAt_0 rfl ?_
  refine z_getf ok dX7_isAt_1 zin_X7 rfl 10 (by decide) zw_781 hm.1 rfl ?_
  refine z_aload_n ok dX7_isAt_4 rfl ?_
  refine z_getf ok dX7_isAt_5 zin_X7 rfl 7 (by decide) zw_778 hm.1 rfl ?_
  refine z_icmp_ge (tgt := 32) ok dX7_isAt_8 (by decide) (fun cz8 => ?_) (fun cz8 => ?_)
  · have hz8 : ¬ i < ty := by rw [hi, ht, nI_leI (by omega) (by omega)] at cz8; omega
    refine z_iconst (v := 0) ok dX7_isAt_32 (by decide) ?_
    exact z_iret ok dX7_isAt_33 rfl rfl rfl (Nat.zero_le _) ⟨by first | (exact b2_t (by grind)) | (exact b2_f (by grind)), rfl⟩
  · have hz8 : i < ty := by rw [hi, ht, nI_leI (by omega) (by omega)] at cz8; omega
    refine z_aload_n ok dX7_isAt_11 rfl ?_
    refine z_getf ok dX7_isAt_12 zin_X7 rfl 6 (by decide) zw_777 hm.1 rfl ?_
    refine z_aload_n ok dX7_isAt_15 rfl ?_
    refine z_getf ok dX7_isAt_16 zin_X7 rfl 10 (by decide) zw_781 hm.1 rfl ?_
    refine m_ald5 ok dX7_isAt_19 hm hi (by omega) ?_
    refine z_iload_n ok dX7_isAt_20 rfl ?_
    refine z_iload_n ok dX7_isAt_21 rfl ?_
    refine z_callSi ok dX7_isAt_22 zm_X7_in zw_819 zw_820 (ct_X7_in) rfl rfl (by decide) (by decide) (by decide) (Nat.le_of_ble_eq_true rfl) (fun xz1 Mz2 qz3 => ?_)
    obtain ⟨rfl, hMe⟩ := qz3
    obtain rfl := hMe.symm
    refine z_if_eq (tgt := 32) ok dX7_isAt_25 (by decide) (fun cz25 => ?_) (fun cz25 => ?_)
    · have hb25 := b2_0.mp cz25
      refine z_iconst (v := 0) ok dX7_isAt_32 (by decide) ?_
      exact z_iret ok dX7_isAt_33 rfl rfl rfl (Nat.zero_le _) ⟨by first | (exact b2_t (by grind)) | (exact b2_f (by grind)), rfl⟩
    · have hb25 := Decidable.not_not.mp (mt b2_0.mpr cz25)
      refine z_iconst (v := 1) ok dX7_isAt_28 (by decide) ?_
      refine z_goto (tgt := 33) ok dX7_isAt_29 (by decide) ?_
      exact z_iret ok dX7_isAt_33 rfl rfl rfl (Nat.zero_le _) ⟨by first | (exact b2_t (by grind)) | (exact b2_f (by grind)), rfl⟩

set_option maxRecDepth 20000 in
set_option maxHeartbeats 4000000 in
theorem ct_X7_passes {K : zK} {M : mM} {nx : Nat} {m : Nat} {μ : zMS} (hm : mPic M m μ) {i ty : Nat} (hi : μ.2 10 = nI i) (hi8 : i ≤ ty) (ht : μ.2 7 = nI ty) (ht8 : ty ≤ 80) {c : Int32} : zCt K yX7_passes cX7_passes 3 zr_X7_passes 2 [.ref m, .int c] M nx 0 0 (zI (fun x M' => x = b2 (zAt (μ.1 5) ty i c c) ∧ mPic M' m (mS μ 10 (nI (if zAt (μ.1 5) ty i c c then i + 1 else i))) ∧ zFr M M' m 9)) := by
  refine z_enter [some (.ref m), some (.int c), none] (by decide +kernel) (Nat.le_of_ble_eq_true rfl) rfl (fun B ok hz => ?_)
  refine z_aload_n ok dX7_passes_0 rfl ?_
  refine z_iload_n ok dX7_passes_1 rfl ?_
  refine z_iload_n ok dX7_passes_2 rfl ?_
  refine z_callVi ok dX7_passes_3 zm_X7_isAt zw_1029 zi_X7_isAt hm.1 rfl (ct_X7_isAt hm hi hi8 ht ht8) rfl rfl (by decide) (by decide) (by decide) (Nat.le_of_ble_eq_true rfl) (fun xz1 Mz2 qz3 => ?_)
  obtain ⟨rfl, hMe⟩ := qz3
  obtain rfl := hMe.symm
  refine z_istore_n ok dX7_passes_6 (by decide) rfl ?_
  refine z_aload_n ok dX7_passes_7 rfl ?_
  refine z_dup ok dX7_passes_8 rfl ?_
  refine z_getf ok dX7_passes_9 zin_X7 rfl 10 (by decide) zw_781 hm.1 rfl ?_
  refine z_iload_n ok dX7_passes_12 rfl ?_
  refine z_if_eq (tgt := 20) ok dX7_passes_13 (by decide) (fun cz13 => ?_) (fun cz13 => ?_)
  · have hb13 := b2_0.mp cz13
    refine z_iconst (v := 0) ok dX7_passes_20 (by decide) ?_
    refine z_iadd ok dX7_passes_21 ?_
    refine m_put10 ok dX7_passes_22 zw_781 hm (fun Mz5 hm4 frz6 => ?_)
    refine z_iload_n ok dX7_passes_25 rfl ?_
    exact z_iret ok dX7_passes_26 rfl b2_nar rfl (Nat.zero_le _) ⟨rfl, by first | (rw [if_pos hb13]; have h9 := hm4; rw [hi, nI_1] at h9; exact h9) | (rw [if_neg hb13]; have h9 := hm4; rw [hi, show nI i + 0 = nI i from Int32.add_zero _] at h9; exact h9), (by repeat (first | assumption | exact zFr.rf | refine zFr.tr (by assumption) ?_))⟩
  · have hb13 := Decidable.not_not.mp (mt b2_0.mpr cz13)
    refine z_iconst (v := 1) ok dX7_passes_16 (by decide) ?_
    refine z_goto (tgt := 21) ok dX7_passes_17 (by decide) ?_
    refine z_iadd ok dX7_passes_21 ?_
    refine m_put10 ok dX7_passes_22 zw_781 hm (fun Mz8 hm7 frz9 => ?_)
    refine z_iload_n ok dX7_passes_25 rfl ?_
    exact z_iret ok dX7_passes_26 rfl b2_nar rfl (Nat.zero_le _) ⟨rfl, by first | (rw [if_pos hb13]; have h9 := hm7; rw [hi, nI_1] at h9; exact h9) | (rw [if_neg hb13]; have h9 := hm7; rw [hi, show nI i + 0 = nI i from Int32.add_zero _] at h9; exact h9), (by repeat (first | assumption | exact zFr.rf | refine zFr.tr (by assumption) ?_))⟩

theorem lg_cmp_0 (x y : Int64) : lg_cmp x y = 0 ↔ x = y := by
  unfold lg_cmp
  constructor
  · intro h
    split at h
    · exact absurd h (by decide)
    · split at h
      · assumption
      · exact absurd h (by decide)
  · rintro rfl
    simp
theorem mS_self (μ : zMS) (k : Nat) : mS μ k (μ.2 k) = μ := by
  unfold mS
  obtain ⟨a, b⟩ := μ
  congr 1
  funext j
  by_cases h : j = k
  · simp [h]
  · simp [h]
set_option maxRecDepth 20000 in
set_option maxHeartbeats 4000000 in
theorem ct_X7_word {K : zK} {M : mM} {nx : Nat} {m : Nat} {μ : zMS} (hm : mPic M m μ) {ip ty : Nat} (hi : μ.2 10 = nI ip) (hi8 : ip ≤ ty) (ht : μ.2 7 = nI ty) (ht8 : ty ≤ 80) : zCt K yX7_word cX7_word 6 zr_X7_word 2 [.ref m] M nx 0 0 (zI (fun x M' => x = zFind (zWl (μ.1 5) ty 6 ip 0).1 ∧ mPic M' m (mS μ 10 (nI (zWl (μ.1 5) ty 6 ip 0).2)) ∧ zFr M M' m 9)) := by
  refine z_enter [some (.ref m), none, none, none, none, none] (by decide +kernel) (Nat.le_of_ble_eq_true rfl) rfl (fun B ok hz => ?_)
  have J59 : ∀ (M1 : mM) (ww : Int64) (k9 : Nat) (w3 : Int32), (ww, k9) = zWl (μ.1 5) ty 6 ip 0 → mPic M1 m (mS μ 10 (nI k9)) → zFr M M1 m 9 → zV 6 B (zE B (zI (fun x M' => x = zFind (zWl (μ.1 5) ty 6 ip 0).1 ∧ mPic M' m (mS μ 10 (nI (zWl (μ.1 5) ty 6 ip 0).2)) ∧ zFr M M' m 9)) 0 0) 59 [some (.ref m), some (.long ww), none, some (.int w3), none, none] [] M1 0 0 := by
    intro M1 ww k9 w3 hw hm1 hf1
    refine z_ldc ok dX7_word_59 zw_836 ?_
    refine z_istore ok dX7_word_61 (by decide) rfl ?_
    refine z_iconst (v := 0) ok dX7_word_63 (by decide) ?_
    refine z_istore ok dX7_word_64 (by decide) rfl ?_
    have loop66 : ∀ (t i : Nat) (y : Int32), 7 < i + t → i ≤ 7 → y = zLast (fun k9 => zWd k9 = ww) (fun k9 => nI k9) (-1000004) i → zV 6 B (zE B (zI (fun x M' => x = zFind (zWl (μ.1 5) ty 6 ip 0).1 ∧ mPic M' m (mS μ 10 (nI (zWl (μ.1 5) ty 6 ip 0).2)) ∧ zFr M M' m 9)) 0 0) 66 [some (.ref m), some (.long ww), none, some (.int w3), some (.int y), some (.int (nI i))] [] M1 0 0 := by
      intro t
      induction t with
      | zero => intro i y h1 h2; exact absurd h1 (by omega)
      | succ t ih =>
        intro i y h1 h2 hy
        refine z_iload ok dX7_word_66 rfl ?_
        refine z_bipush (v := 7) ok dX7_word_68 (by decide) ?_
        refine z_icmp_ge (tgt := 100) ok dX7_word_70 (by decide) (fun cz70 => ?_) (fun cz70 => ?_)
        · have hin : i = 7 := by have := (nI_leI (a := 7) (by omega) (by omega)).mp cz70; omega
          rw [hin] at hy
          refine z_iload ok dX7_word_100 rfl ?_
          exact z_iret ok dX7_word_102 rfl rfl rfl (Nat.zero_le _) ⟨by rw [hy, ← hw]; rfl, by rw [← hw]; exact hm1, hf1⟩
        · have hin : i < 7 := by have := mt (nI_leI (a := 7) (b := i) (by omega) (by omega)).mpr cz70; omega
          refine z_aload_n ok dX7_word_73 rfl ?_
          refine z_getf ok dX7_word_74 zin_X7 rfl 8 (by decide) zw_779 hm1.1 rfl ?_
          refine z_iload ok dX7_word_77 rfl ?_
          refine m_ald6 ok dX7_word_79 hm1 rfl hin ?_
          refine z_lload_n ok dX7_word_80 rfl ?_
          refine z_lcmp ok dX7_word_81 ?_
          refine z_if_ne (tgt := 90) ok dX7_word_82 (by decide) (fun cz82 => ?_) (fun cz82 => ?_)
          · have hb : ¬ zWd i = ww := fun z9 => cz82 ((lg_cmp_0 _ _).mpr z9)
            refine z_iload ok dX7_word_90 rfl ?_
            refine z_istore ok dX7_word_92 (by decide) rfl ?_
            refine z_iinc ok dX7_word_94 rfl (zinc _) (by decide) rfl ?_
            refine z_goto (tgt := 66) ok dX7_word_97 (by decide) ?_
            exact ih (i + 1) _ (by omega) (by omega) (by first | exact hy.trans (zLast_f (p := fun k9 => zWd k9 = ww) (f := fun k9 => nI k9) hb) | exact zLast_t (p := fun k9 => zWd k9 = ww) (f := fun k9 => nI k9) hb)
          · have hb : zWd i = ww := (lg_cmp_0 _ _).mp cz82
            refine z_iload ok dX7_word_85 rfl ?_
            refine z_goto (tgt := 92) ok dX7_word_87 (by decide) ?_
            refine z_istore ok dX7_word_92 (by decide) rfl ?_
            refine z_iinc ok dX7_word_94 rfl (zinc _) (by decide) rfl ?_
            refine z_goto (tgt := 66) ok dX7_word_97 (by decide) ?_
            exact ih (i + 1) _ (by omega) (by omega) (by first | exact hy.trans (zLast_f (p := fun k9 => zWd k9 = ww) (f := fun k9 => nI k9) hb) | exact zLast_t (p := fun k9 => zWd k9 = ww) (f := fun k9 => nI k9) hb)
    exact loop66 8 0 _ (by omega) (by omega) rfl
  have loop7 : ∀ (t9 ff k : Nat) (aa : Int64) (M1 : mM), ff < t9 → k + ff = ip + 6 → ip ≤ k → k ≤ ty → zWl (μ.1 5) ty ff k aa = zWl (μ.1 5) ty 6 ip 0 → mPic M1 m (mS μ 10 (nI k)) → zFr M M1 m 9 → zV 6 B (zE B (zI (fun x M' => x = zFind (zWl (μ.1 5) ty 6 ip 0).1 ∧ mPic M' m (mS μ 10 (nI (zWl (μ.1 5) ty 6 ip 0).2)) ∧ zFr M M' m 9)) 0 0) 7 [some (.ref m), some (.long aa), none, some (.int (nI ip)), none, none] [] M1 0 0 := by
    intro t9
    induction t9 with
    | zero => intro ff k aa M1 h1; exact absurd h1 (by omega)
    | succ t9 ih9 =>
      intro ff k aa M1 h1 h2 h3 h4 hEq hm1 hf1
      have hi1 : (mS μ 10 (nI k)).2 10 = nI k := mS_s _ _ _
      have ht1 : (mS μ 10 (nI k)).2 7 = nI ty := by rw [mS_n _ _ (by decide)]; exact ht
      have hk8 : k ≤ ty := h4
      refine z_aload_n ok dX7_word_7 rfl ?_
      refine z_bipush (v := 97) ok dX7_word_8 (by decide) ?_
      refine z_bipush (v := 122) ok dX7_word_10 (by decide) ?_
      refine z_callVi ok dX7_word_12 zm_X7_isAt zw_1029 zi_X7_isAt hm1.1 rfl (ct_X7_isAt hm1 hi1 hk8 ht1 ht8) rfl rfl (by decide) (by decide) (by decide) (Nat.le_of_ble_eq_true rfl) (fun xz1 Mz2 qz3 => ?_)
      obtain ⟨rfl, hMe⟩ := qz3
      obtain rfl := hMe.symm
      refine z_if_eq (tgt := 59) ok dX7_word_15 (by decide) (fun cz15 => ?_) (fun cz15 => ?_)
      · have hb15 := b2_0.mp cz15
        have hb16 : ¬ zAt (μ.1 5) ty k 97 122 := hb15
        exact J59 _ _ _ _ (by rw [← hEq]; cases ff with | zero => rfl | succ f9 => rw [zWl, if_neg hb16]) hm1 hf1
      · have hb15 := Decidable.not_not.mp (mt b2_0.mpr cz15)
        refine z_aload_n ok dX7_word_18 rfl ?_
        refine z_getf ok dX7_word_19 zin_X7 rfl 10 (by decide) zw_781 hm1.1 rfl ?_
        refine z_iload_n ok dX7_word_22 rfl ?_
        refine z_isub ok dX7_word_23 ?_
        refine z_bipush (v := 6) ok dX7_word_24 (by decide) ?_
        refine z_icmp_ge (tgt := 59) ok dX7_word_26 (by decide) (fun cz26 => ?_) (fun cz26 => ?_)
        · have hff : ff = 0 := by rw [mS_s, pk_sub (by omega), show (6 : Int32) = nI 6 from rfl, nI_leI (by omega) (by omega)] at cz26; omega
          exact J59 _ _ _ _ (by rw [← hEq, hff]; rfl) hm1 hf1
        · obtain ⟨ff2, hff⟩ : ∃ z, ff = z + 1 := ⟨ff - 1, by rw [mS_s, pk_sub (by omega), show (6 : Int32) = nI 6 from rfl, nI_leI (by omega) (by omega)] at cz26; omega⟩
          subst hff
          refine z_lload_n ok dX7_word_29 rfl ?_
          refine z_ldc2 ok dX7_word_30 zw_1033 ?_
          refine z_lmul ok dX7_word_33 ?_
          refine z_aload_n ok dX7_word_34 rfl ?_
          refine z_getf ok dX7_word_35 zin_X7 rfl 6 (by decide) zw_777 hm1.1 rfl ?_
          refine z_aload_n ok dX7_word_38 rfl ?_
          refine z_getf ok dX7_word_39 zin_X7 rfl 10 (by decide) zw_781 hm1.1 rfl ?_
          refine m_ald5 ok dX7_word_42 hm1 hi1 (by have := hb15.1; omega) ?_
          refine z_i2l ok dX7_word_43 ?_
          refine z_ladd ok dX7_word_44 ?_
          refine z_lstore_n ok dX7_word_45 (by decide) rfl ?_
          refine z_aload_n ok dX7_word_46 rfl ?_
          refine z_dup ok dX7_word_47 rfl ?_
          refine z_getf ok dX7_word_48 zin_X7 rfl 10 (by decide) zw_781 hm1.1 rfl ?_
          refine z_iconst (v := 1) ok dX7_word_51 (by decide) ?_
          refine z_iadd ok dX7_word_52 ?_
          refine m_put10 ok dX7_word_53 zw_781 hm1 (fun Mz5 hm4 frz6 => ?_)
          refine z_goto (tgt := 7) ok dX7_word_56 (by decide) ?_
          exact ih9 ff2 (k + 1) _ _ (by omega) (by omega) (by omega) (by have := hb15.1; omega) (by rw [← hEq, zWl, if_pos (show zAt (μ.1 5) ty k 97 122 from hb15), mS_1]) (by have h9 := hm4; rw [mS_mS, mS_s, nI_1] at h9; exact h9) (by repeat (first | assumption | exact zFr.rf | refine zFr.tr (by assumption) ?_))
  refine z_lconst (v := 0) ok dX7_word_0 (by decide) ?_
  refine z_lstore_n ok dX7_word_1 (by decide) rfl ?_
  refine z_aload_n ok dX7_word_2 rfl ?_
  refine z_getf ok dX7_word_3 zin_X7 rfl 10 (by decide) zw_781 hm.1 rfl ?_
  refine z_istore_n ok dX7_word_6 (by decide) rfl ?_
  rw [hi]
  exact loop7 7 6 ip 0 _ (by omega) rfl (Nat.le_refl _) hi8 rfl (by have h9 := hm; rw [← mS_self μ 10, hi] at h9; exact h9) zFr.rf

