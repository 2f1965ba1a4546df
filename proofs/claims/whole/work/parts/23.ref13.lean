theorem zW_nat {x : Int32} {a b : Nat} (ha : a < 2 ^ 31) (hb : b < 2 ^ 31) (h : nI a ≤ x ∧ x ≤ nI b) : ∃ k, a ≤ k ∧ k ≤ b ∧ x = nI k := by
  have h0 : ¬ x < 0 := fun z => by
    have h9 := Int32.lt_of_le_of_lt h.1 z
    exact nI_pos ha h9
  obtain ⟨j, hj, rfl⟩ := nI_of h0
  exact ⟨j, (nI_leI ha hj).mp h.1, (nI_leI hj hb).mp h.2, rfl⟩
theorem zsw_out {x : Int32} {h : Nat} (hh : h < 2 ^ 31) (hs : x.toInt < 0 ∨ (h : Int) < x.toInt) : ¬ ∃ k, k ≤ h ∧ x = nI k := by
  rintro ⟨k, hk, rfl⟩
  rw [nI_toInt (by omega)] at hs
  omega
set_option maxRecDepth 20000 in
set_option maxHeartbeats 4000000 in
theorem ct_X7_set {K : zK} {M : mM} {nx : Nat} {m : Nat} {μ : zMS} (hm : mPic M m μ) {n nv no : Nat} (hN : zN (μ.1 1) n nv no) {p : Nat} (hr : zRuns μ p) {w x : Int32} : zCt K yX7_set cX7_set 4 zr_X7_set 1 [.ref m, .int w, .int x] M nx 0 0 (zI (zPost M m μ p (spSet (μ.1 1) w x))) := by
  refine z_enter [some (.ref m), some (.int w), some (.int x), none] (by decide +kernel) (Nat.le_of_ble_eq_true rfl) rfl (fun B ok hz => ?_)
  refine z_iload_n ok dX7_set_0 rfl ?_
  refine z_iconst (v := 0) ok dX7_set_1 (by decide) ?_
  refine z_iconst (v := 2) ok dX7_set_2 (by decide) ?_
  refine z_callSi ok dX7_set_3 zm_X7_in zw_819 zw_820 (ct_X7_in) rfl rfl (by decide) (by decide) (by decide) (Nat.le_of_ble_eq_true rfl) (fun xz1 Mz2 qz3 => ?_)
  obtain ⟨rfl, hMe⟩ := qz3
  obtain rfl := hMe.symm
  refine z_if_eq (tgt := 46) ok dX7_set_6 (by decide) (fun cz6 => ?_) (fun cz6 => ?_)
  · have hb6 := b2_0.mp cz6
    refine z_ldc ok dX7_set_46 zw_822 ?_
    exact z_iret ok dX7_set_48 rfl rfl rfl (Nat.zero_le _) (zPost_e (by unfold spSet; grind))
  · have hb6 := Decidable.not_not.mp (mt b2_0.mpr cz6)
    obtain ⟨k9, hk0, hk9, hwk⟩ := zW_nat (a := 0) (b := 2) (by omega) (by omega) hb6
    have htc : tN w = k9 := by rw [hwk]; exact tN_nI (by omega)
    refine z_iload_n ok dX7_set_9 rfl ?_
    refine z_iload_n ok dX7_set_10 rfl ?_
    refine z_if_ne (tgt := 18) ok dX7_set_11 (by decide) (fun cz11 => ?_) (fun cz11 => ?_)
    · refine z_iconst (v := 0) ok dX7_set_18 (by decide) ?_
      refine z_iload_n ok dX7_set_19 rfl ?_
      refine z_if_ne (tgt := 28) ok dX7_set_20 (by decide) (fun _ => ?_) (fun q9 => absurd q9 cz11)
      refine z_iload_n ok dX7_set_28 rfl ?_
      refine z_iconst (v := 1) ok dX7_set_29 (by decide) ?_
      refine z_icmp_ne (tgt := 38) ok dX7_set_30 (by decide) (fun cz30 => ?_) (fun cz30 => ?_)
      · refine z_bipush (v := 20) ok dX7_set_38 (by decide) ?_
        refine z_callSi ok dX7_set_40 zm_X7_in zw_819 zw_820 (ct_X7_in) rfl rfl (by decide) (by decide) (by decide) (Nat.le_of_ble_eq_true rfl) (fun xz4 Mz5 qz6 => ?_)
        obtain ⟨rfl, hMe⟩ := qz6
        obtain rfl := hMe.symm
        refine z_if_ne (tgt := 49) ok dX7_set_43 (by decide) (fun cz43 => ?_) (fun cz43 => ?_)
        · have hb43 := Decidable.not_not.mp (mt b2_0.mpr cz43)
          refine z_aload_n ok dX7_set_49 rfl ?_
          refine z_callVv ok dX7_set_50 zm_X7_changes zw_824 zi_X7_changes hm.1 rfl (ct_X7_changesC hm hr) rfl rfl (by decide) (by decide) (by decide) (Nat.le_of_ble_eq_true rfl) (fun Mz8 qz9 => ?_)
          obtain ⟨hm10, fzqxz7⟩ := qz9
          have hNC : zN ((zCC μ p).1 1) n nv no := zN_CC hN
          refine z_aload_n ok dX7_set_53 rfl ?_
          refine z_getf ok dX7_set_54 zin_X7 rfl 0 (by decide) zw_771 hm10.1 rfl ?_
          refine z_iload_n ok dX7_set_57 rfl ?_
          refine m_ald1 ok dX7_set_58 hm10 hwk (by omega) ?_
          refine z_istore_n ok dX7_set_59 (by decide) rfl ?_
          refine z_aload_n ok dX7_set_60 rfl ?_
          refine z_getf ok dX7_set_61 zin_X7 rfl 0 (by decide) zw_771 hm10.1 rfl ?_
          refine z_iload_n ok dX7_set_64 rfl ?_
          refine z_iload_n ok dX7_set_65 rfl ?_
          refine m_ast1 ok dX7_set_66 hm10 hwk (by omega) (fun Mz12 hm11 frz13 => ?_)
          refine z_iload_n ok dX7_set_67 rfl ?_
          exact z_iret ok dX7_set_68 rfl rfl rfl (Nat.zero_le _) (zPost_ok (by (have h9 := hm11; (try simp only [mA_s, mA_mA, zCC_1] at h9); exact h9)) (by repeat (first | assumption | exact zFr.rf | refine zFr.tr (by assumption) ?_)) (by simp only [spSet, htc, zCC_1]; rw [if_pos (by grind)]))
        · have hb43 := b2_0.mp cz43
          refine z_ldc ok dX7_set_46 zw_822 ?_
          exact z_iret ok dX7_set_48 rfl rfl rfl (Nat.zero_le _) (zPost_e (by unfold spSet; grind))
      · refine z_bipush (v := 99) ok dX7_set_33 (by decide) ?_
        refine z_goto (tgt := 40) ok dX7_set_35 (by decide) ?_
        refine z_callSi ok dX7_set_40 zm_X7_in zw_819 zw_820 (ct_X7_in) rfl rfl (by decide) (by decide) (by decide) (Nat.le_of_ble_eq_true rfl) (fun xz14 Mz15 qz16 => ?_)
        obtain ⟨rfl, hMe⟩ := qz16
        obtain rfl := hMe.symm
        refine z_if_ne (tgt := 49) ok dX7_set_43 (by decide) (fun cz43 => ?_) (fun cz43 => ?_)
        · have hb43 := Decidable.not_not.mp (mt b2_0.mpr cz43)
          refine z_aload_n ok dX7_set_49 rfl ?_
          refine z_callVv ok dX7_set_50 zm_X7_changes zw_824 zi_X7_changes hm.1 rfl (ct_X7_changesC hm hr) rfl rfl (by decide) (by decide) (by decide) (Nat.le_of_ble_eq_true rfl) (fun Mz18 qz19 => ?_)
          obtain ⟨hm20, fzqxz17⟩ := qz19
          have hNC : zN ((zCC μ p).1 1) n nv no := zN_CC hN
          refine z_aload_n ok dX7_set_53 rfl ?_
          refine z_getf ok dX7_set_54 zin_X7 rfl 0 (by decide) zw_771 hm20.1 rfl ?_
          refine z_iload_n ok dX7_set_57 rfl ?_
          refine m_ald1 ok dX7_set_58 hm20 hwk (by omega) ?_
          refine z_istore_n ok dX7_set_59 (by decide) rfl ?_
          refine z_aload_n ok dX7_set_60 rfl ?_
          refine z_getf ok dX7_set_61 zin_X7 rfl 0 (by decide) zw_771 hm20.1 rfl ?_
          refine z_iload_n ok dX7_set_64 rfl ?_
          refine z_iload_n ok dX7_set_65 rfl ?_
          refine m_ast1 ok dX7_set_66 hm20 hwk (by omega) (fun Mz22 hm21 frz23 => ?_)
          refine z_iload_n ok dX7_set_67 rfl ?_
          exact z_iret ok dX7_set_68 rfl rfl rfl (Nat.zero_le _) (zPost_ok (by (have h9 := hm21; (try simp only [mA_s, mA_mA, zCC_1] at h9); exact h9)) (by repeat (first | assumption | exact zFr.rf | refine zFr.tr (by assumption) ?_)) (by simp only [spSet, htc, zCC_1]; rw [if_pos (by grind)]))
        · have hb43 := b2_0.mp cz43
          refine z_ldc ok dX7_set_46 zw_822 ?_
          exact z_iret ok dX7_set_48 rfl rfl rfl (Nat.zero_le _) (zPost_e (by unfold spSet; grind))
    · refine z_iconst (v := 1) ok dX7_set_14 (by decide) ?_
      refine z_goto (tgt := 19) ok dX7_set_15 (by decide) ?_
      refine z_iload_n ok dX7_set_19 rfl ?_
      refine z_if_ne (tgt := 28) ok dX7_set_20 (by decide) (fun q9 => absurd cz11 q9) (fun _ => ?_)
      refine z_bipush (v := 24) ok dX7_set_23 (by decide) ?_
      refine z_goto (tgt := 40) ok dX7_set_25 (by decide) ?_
      refine z_callSi ok dX7_set_40 zm_X7_in zw_819 zw_820 (ct_X7_in) rfl rfl (by decide) (by decide) (by decide) (Nat.le_of_ble_eq_true rfl) (fun xz24 Mz25 qz26 => ?_)
      obtain ⟨rfl, hMe⟩ := qz26
      obtain rfl := hMe.symm
      refine z_if_ne (tgt := 49) ok dX7_set_43 (by decide) (fun cz43 => ?_) (fun cz43 => ?_)
      · have hb43 := Decidable.not_not.mp (mt b2_0.mpr cz43)
        refine z_aload_n ok dX7_set_49 rfl ?_
        refine z_callVv ok dX7_set_50 zm_X7_changes zw_824 zi_X7_changes hm.1 rfl (ct_X7_changesC hm hr) rfl rfl (by decide) (by decide) (by decide) (Nat.le_of_ble_eq_true rfl) (fun Mz28 qz29 => ?_)
        obtain ⟨hm30, fzqxz27⟩ := qz29
        have hNC : zN ((zCC μ p).1 1) n nv no := zN_CC hN
        refine z_aload_n ok dX7_set_53 rfl ?_
        refine z_getf ok dX7_set_54 zin_X7 rfl 0 (by decide) zw_771 hm30.1 rfl ?_
        refine z_iload_n ok dX7_set_57 rfl ?_
        refine m_ald1 ok dX7_set_58 hm30 hwk (by omega) ?_
        refine z_istore_n ok dX7_set_59 (by decide) rfl ?_
        refine z_aload_n ok dX7_set_60 rfl ?_
        refine z_getf ok dX7_set_61 zin_X7 rfl 0 (by decide) zw_771 hm30.1 rfl ?_
        refine z_iload_n ok dX7_set_64 rfl ?_
        refine z_iload_n ok dX7_set_65 rfl ?_
        refine m_ast1 ok dX7_set_66 hm30 hwk (by omega) (fun Mz32 hm31 frz33 => ?_)
        refine z_iload_n ok dX7_set_67 rfl ?_
        exact z_iret ok dX7_set_68 rfl rfl rfl (Nat.zero_le _) (zPost_ok (by (have h9 := hm31; (try simp only [mA_s, mA_mA, zCC_1] at h9); exact h9)) (by repeat (first | assumption | exact zFr.rf | refine zFr.tr (by assumption) ?_)) (by simp only [spSet, htc, zCC_1]; rw [if_pos (by grind)]))
      · have hb43 := b2_0.mp cz43
        refine z_ldc ok dX7_set_46 zw_822 ?_
        exact z_iret ok dX7_set_48 rfl rfl rfl (Nat.zero_le _) (zPost_e (by unfold spSet; grind))

def zRe (s p : Nat → Int32) (q i : Nat) : Nat → Int32 := fun j => if j < i then p (287 * q + j) else s j
theorem zRe_step (s p : Nat → Int32) (q i : Nat) : upd (zRe s p q i) i (p (287 * q + i)) = zRe s p q (i + 1) := by
  funext j
  unfold upd zRe
  by_cases h : j = i
  · subst h; simp
  · rw [if_neg h]
    have e1 : j < i + 1 ↔ j < i := by omega
    simp only [e1]
def zUndo (μ : zMS) (p : Nat) : zMS := mS (mA μ 1 (fun j => μ.1 2 (287 * (p - 1) + j))) 4 (nI (p - 1))
set_option maxRecDepth 20000 in
set_option maxHeartbeats 4000000 in
theorem ct_X7_undo {K : zK} {M : mM} {nx : Nat} {m : Nat} {μ : zMS} (hm : mPic M m μ) {p : Nat} (hp : μ.2 4 = nI p) (hp4 : p ≤ 4) : zCt K yX7_undo cX7_undo 2 zr_X7_undo 0 [.ref m] M nx 0 0 (zI (fun x M' => (p = 0 ∧ x = -1000002 ∧ M' = M) ∨ (¬ p = 0 ∧ x = nI (p - 1) ∧ mPic M' m (zUndo μ p) ∧ zFr M M' m 9))) := by
  refine z_enter [some (.ref m), none] (by decide +kernel) (Nat.le_of_ble_eq_true rfl) rfl (fun B ok hz => ?_)
  refine z_aload_n ok dX7_undo_0 rfl ?_
  refine z_getf ok dX7_undo_1 zin_X7 rfl 4 (by decide) zw_775 hm.1 rfl ?_
  refine z_if_ne (tgt := 10) ok dX7_undo_4 (by decide) (fun cz4 => ?_) (fun cz4 => ?_)
  · have hp0 : ¬ p = 0 := fun z9 => cz4 (by rw [hp, z9]; rfl)
    have hpp : nI p - 1 = nI (p - 1) := by obtain ⟨z9, hz9⟩ : ∃ z, p = z + 1 := ⟨p - 1, by omega⟩; rw [hz9]; exact nI_pred z9
    refine z_aload_n ok dX7_undo_10 rfl ?_
    refine z_dup ok dX7_undo_11 rfl ?_
    refine z_getf ok dX7_undo_12 zin_X7 rfl 4 (by decide) zw_775 hm.1 rfl ?_
    refine z_iconst (v := 1) ok dX7_undo_15 (by decide) ?_
    refine z_isub ok dX7_undo_16 ?_
    refine m_put4 ok dX7_undo_17 zw_775 hm (fun Mz2 hm1 frz3 => ?_)
    refine z_iconst (v := 0) ok dX7_undo_20 (by decide) ?_
    refine z_istore_n ok dX7_undo_21 (by decide) rfl ?_
    have loop22 : ∀ (t i : Nat) (M1 : mM), 287 < i + t → i ≤ 287 → mPic M1 m (mS (mA μ 1 (zRe (μ.1 1) (μ.1 2) (p - 1) i)) 4 (nI (p - 1))) → zFr M M1 m 9 → zV 2 B (zE B (zI (fun x M' => (p = 0 ∧ x = -1000002 ∧ M' = M) ∨ (¬ p = 0 ∧ x = nI (p - 1) ∧ mPic M' m (zUndo μ p) ∧ zFr M M' m 9))) 0 0) 22 [some (.ref m), some (.int (nI i))] [] M1 0 0 := by
      intro t
      induction t with
      | zero => intro i M1 h1 h2; exact absurd h1 (by omega)
      | succ t ih =>
        intro i M1 h1 h2 hm1 hf1
        refine z_iload_n ok dX7_undo_22 rfl ?_
        refine z_sipush (v := 287) ok dX7_undo_23 (by decide) ?_
        refine z_icmp_ge (tgt := 56) ok dX7_undo_26 (by decide) (fun cz26 => ?_) (fun cz26 => ?_)
        · have hin : i = 287 := by have := (nI_leI (a := 287) (by omega) (by omega)).mp cz26; omega
          rw [hin] at hm1
          refine z_aload_n ok dX7_undo_56 rfl ?_
          refine z_getf ok dX7_undo_57 zin_X7 rfl 4 (by decide) zw_775 hm1.1 rfl ?_
          exact z_iret ok dX7_undo_60 rfl rfl rfl (Nat.zero_le _) (Or.inr ⟨hp0, mS_s _ _ _, by (have h9 := hm1; rw [← mA_mS] at h9; have h8 := mPic.cong1 h9 (g := fun j => μ.1 2 (287 * (p - 1) + j)) (fun j hj => if_pos hj); exact h8), hf1⟩)
        · have hin : i < 287 := by have := mt (nI_leI (a := 287) (b := i) (by omega) (by omega)).mpr cz26; omega
          refine z_aload_n ok dX7_undo_29 rfl ?_
          refine z_getf ok dX7_undo_30 zin_X7 rfl 0 (by decide) zw_771 hm1.1 rfl ?_
          refine z_iload_n ok dX7_undo_33 rfl ?_
          refine z_aload_n ok dX7_undo_34 rfl ?_
          refine z_getf ok dX7_undo_35 zin_X7 rfl 1 (by decide) zw_772 hm1.1 rfl ?_
          refine z_sipush (v := 287) ok dX7_undo_38 (by decide) ?_
          refine z_aload_n ok dX7_undo_41 rfl ?_
          refine z_getf ok dX7_undo_42 zin_X7 rfl 4 (by decide) zw_775 hm1.1 rfl ?_
          refine z_imul ok dX7_undo_45 ?_
          refine z_iload_n ok dX7_undo_46 rfl ?_
          refine z_iadd ok dX7_undo_47 ?_
          refine m_ald2 ok dX7_undo_48 hm1 (by rw [mS_s, show (287 : Int32) = nI 287 from rfl, pk_mul, nI_add]) (by omega) ?_
          refine m_ast1 ok dX7_undo_49 hm1 rfl (by omega) (fun Mz5 hm4 frz6 => ?_)
          refine z_iinc ok dX7_undo_50 rfl (zinc _) (by decide) rfl ?_
          refine z_goto (tgt := 22) ok dX7_undo_53 (by decide) ?_
          exact ih (i + 1) _ (by omega) (by omega) (by have h9 := hm4; rw [mA_mS, mA_mA, mS_1, mA_s, mA_n (k := 1) (j := 2) _ _ (by decide), zRe_step] at h9; exact h9) (by repeat (first | assumption | exact zFr.rf | refine zFr.tr (by assumption) ?_))
    exact loop22 288 0 _ (by omega) (by omega) (by have h9 := hm1; rw [hp, hpp] at h9; have h8 : zRe (μ.1 1) (μ.1 2) (p - 1) 0 = μ.1 1 := rfl; rw [h8, mA_self]; exact h9) (by repeat (first | assumption | exact zFr.rf | refine zFr.tr (by assumption) ?_))
  · have hp0 : p = 0 := by rw [hp] at cz4; exact (nI_eq (b := 0) (by omega) (by omega)).mp cz4
    refine z_ldc ok dX7_undo_7 zw_849 ?_
    exact z_iret ok dX7_undo_9 rfl rfl rfl (Nat.zero_le _) (Or.inl ⟨hp0, rfl, rfl⟩)

set_option maxRecDepth 20000 in
set_option maxHeartbeats 4000000 in
theorem ct_X7_type {K : zK} {M : mM} {nx : Nat} {m : Nat} {μ : zMS} (hm : mPic M m μ) {ty : Nat} (ht : μ.2 7 = nI ty) (ht8 : ty ≤ 80) {c : Int32} : zCt K yX7_type cX7_type 2 zr_X7_type 1 [.ref m, .int c] M nx 0 0 (zI (fun x M' => (¬ zW 32 126 c ∧ x = -1000001 ∧ M' = M) ∨ (zW 32 126 c ∧ ty = 80 ∧ x = -1000003 ∧ M' = M) ∨ (zW 32 126 c ∧ ¬ ty = 80 ∧ x = nI (ty + 1) ∧ mPic M' m (mS (mA μ 5 (upd (μ.1 5) ty c)) 7 (nI (ty + 1))) ∧ zFr M M' m 9))) := by
  refine z_enter [some (.ref m), some (.int c)] (by decide +kernel) (Nat.le_of_ble_eq_true rfl) rfl (fun B ok hz => ?_)
  refine z_iload_n ok dX7_type_0 rfl ?_
  refine z_bipush (v := 32) ok dX7_type_1 (by decide) ?_
  refine z_bipush (v := 126) ok dX7_type_3 (by decide) ?_
  refine z_callSi ok dX7_type_5 zm_X7_in zw_819 zw_820 (ct_X7_in) rfl rfl (by decide) (by decide) (by decide) (Nat.le_of_ble_eq_true rfl) (fun xz1 Mz2 qz3 => ?_)
  obtain ⟨rfl, hMe⟩ := qz3
  obtain rfl := hMe.symm
  refine z_if_ne (tgt := 14) ok dX7_type_8 (by decide) (fun cz8 => ?_) (fun cz8 => ?_)
  · have hb8 := Decidable.not_not.mp (mt b2_0.mpr cz8)
    refine z_aload_n ok dX7_type_14 rfl ?_
    refine z_getf ok dX7_type_15 zin_X7 rfl 7 (by decide) zw_778 hm.1 rfl ?_
    refine z_bipush (v := 80) ok dX7_type_18 (by decide) ?_
    refine z_icmp_ne (tgt := 26) ok dX7_type_20 (by decide) (fun cz20 => ?_) (fun cz20 => ?_)
    · have ht8 : ¬ ty = 80 := fun z9 => cz20 (by rw [ht, z9]; rfl)
      refine z_aload_n ok dX7_type_26 rfl ?_
      refine z_getf ok dX7_type_27 zin_X7 rfl 6 (by decide) zw_777 hm.1 rfl ?_
      refine z_aload_n ok dX7_type_30 rfl ?_
      refine z_getf ok dX7_type_31 zin_X7 rfl 7 (by decide) zw_778 hm.1 rfl ?_
      refine z_iload_n ok dX7_type_34 rfl ?_
      refine m_ast5 ok dX7_type_35 hm ht (by omega) (fun Mz5 hm4 frz6 => ?_)
      refine z_aload_n ok dX7_type_36 rfl ?_
      refine z_dup ok dX7_type_37 rfl ?_
      refine z_getf ok dX7_type_38 zin_X7 rfl 7 (by decide) zw_778 hm4.1 rfl ?_
      refine z_iconst (v := 1) ok dX7_type_41 (by decide) ?_
      refine z_iadd ok dX7_type_42 ?_
      refine m_put7 ok dX7_type_43 zw_778 hm4 (fun Mz8 hm7 frz9 => ?_)
      refine z_aload_n ok dX7_type_46 rfl ?_
      refine z_getf ok dX7_type_47 zin_X7 rfl 7 (by decide) zw_778 hm7.1 rfl ?_
      exact z_iret ok dX7_type_50 rfl rfl rfl (Nat.zero_le _) (Or.inr (Or.inr ⟨hb8, ht8, by rw [mS_s, mA_2, ht]; exact nI_1 ty, by (have h9 := hm7; rw [mA_2, ht, nI_1] at h9; exact h9), (by repeat (first | assumption | exact zFr.rf | refine zFr.tr (by assumption) ?_))⟩))
    · have ht8 : ty = 80 := (nI_eq (b := 80) (by omega) (by omega)).mp (ht.symm.trans cz20)
      refine z_ldc ok dX7_type_23 zw_823 ?_
      exact z_iret ok dX7_type_25 rfl rfl rfl (Nat.zero_le _) (Or.inr (Or.inl ⟨hb8, ht8, rfl, rfl⟩))
  · have hb8 := b2_0.mp cz8
    refine z_ldc ok dX7_type_11 zw_822 ?_
    exact z_iret ok dX7_type_13 rfl rfl rfl (Nat.zero_le _) (Or.inl ⟨hb8, rfl, rfl⟩)

set_option maxRecDepth 20000 in
set_option maxHeartbeats 4000000 in
theorem ct_X7_clearText {K : zK} {M : mM} {nx : Nat} {m : Nat} {μ : zMS} (hm : mPic M m μ) : zCt K yX7_clearText cX7_clearText 2 zr_X7_clearText 0 [.ref m] M nx 0 0 (zI (fun x M' => x = μ.2 7 ∧ mPic M' m (mS μ 7 0) ∧ zFr M M' m 9)) := by
  refine z_enter [some (.ref m), none] (by decide +kernel) (Nat.le_of_ble_eq_true rfl) rfl (fun B ok hz => ?_)
  refine z_aload_n ok dX7_clearText_0 rfl ?_
  refine z_getf ok dX7_clearText_1 zin_X7 rfl 7 (by decide) zw_778 hm.1 rfl ?_
  refine z_istore_n ok dX7_clearText_4 (by decide) rfl ?_
  refine z_aload_n ok dX7_clearText_5 rfl ?_
  refine z_iconst (v := 0) ok dX7_clearText_6 (by decide) ?_
  refine m_put7 ok dX7_clearText_7 zw_778 hm (fun Mz2 hm1 frz3 => ?_)
  refine z_iload_n ok dX7_clearText_10 rfl ?_
  exact z_iret ok dX7_clearText_11 rfl rfl rfl (Nat.zero_le _) ⟨rfl, by assumption, (by repeat (first | assumption | exact zFr.rf | refine zFr.tr (by assumption) ?_))⟩

def spCof (s : Nat → Int32) (n : Nat) (c w : Int32) : Int32 := if zGoods s c ∧ zW 0 10 w then (if w < 9 then gd s (tN c) (tN w) else if w = 9 then zPt s n (gd s (tN c) 9) else (if zHere s (tN c) then s 5 else gd s (tN c) 11) - gd s (tN c) 10) else -1000001
def zVo (s : Nat → Int32) (n iv k : Nat) : Int32 := match k with
  | 0 => vd s iv 0
  | 1 => vd s iv 1
  | 2 => vd s iv 2
  | 3 => zLd s n (nI iv) 1
  | 4 => zLd s n (nI iv) 2
  | 5 => zLs s n (nI iv)
  | 6 => zGoal s n iv
  | 7 => if vd s iv 2 = 0 then -1000004 else vd s iv 4
  | 8 => vd s iv 6
  | _ => vd s iv 7
def spVof (s : Nat → Int32) (n : Nat) (v w : Int32) : Int32 := if zVeh s v ∧ 0 ≤ w.toInt ∧ w.toInt ≤ 9 then zVo s n (tN v) (tN w) else -1000001
def spOof (s : Nat → Int32) (i w : Int32) : Int32 := if ¬ i < 0 ∧ zW 0 4 w then (if i < s 6 then od s (tN i) (tN w) else -1000004) else -1000001
def zCo (s : Nat → Int32) (n : Nat) (ps ty : Int32) (k : Nat) : Int32 := match k with
  | 0 => s 3
  | 1 => s 4
  | 2 => s 5
  | 3 => zHr s n
  | 4 => s 7
  | 5 => s 8
  | 6 => s 9
  | 7 => s 10
  | 8 => s 11
  | 9 => s 12
  | 10 => s 6
  | 11 => ps
  | _ => ty
def spCount (s : Nat → Int32) (n : Nat) (ps ty : Int32) (w : Int32) : Int32 := if 0 ≤ w.toInt ∧ w.toInt ≤ 12 then zCo s n ps ty (tN w) else if zW 20 22 w then s (tN w - 20) else -1000001
set_option maxRecDepth 20000 in
set_option maxHeartbeats 4000000 in
theorem ct_X7_consignmentOf {K : zK} {M : mM} {nx : Nat} {m : Nat} {μ : zMS} (hm : mPic M m μ) {n nv no : Nat} (hN : zN (μ.1 1) n nv no) {c w : Int32} : zCt K yX7_consignmentOf cX7_consignmentOf 3 zr_X7_consignmentOf 4 [.ref m, .int c, .int w] M nx 0 0 (zI (fun x M' => x = spCof (μ.1 1) n c w ∧ M' = M)) := by
  refine z_enter [some (.ref m), some (.int c), some (.int w)] (by decide +kernel) (Nat.le_of_ble_eq_true rfl) rfl (fun B ok hz => ?_)
  have hn16 := hN.2.1
  refine z_aload_n ok dX7_consignmentOf_0 rfl ?_
  refine z_iload_n ok dX7_consignmentOf_1 rfl ?_
  refine z_callVi ok dX7_consignmentOf_2 zm_X7_isGoods zw_841 zi_X7_isGoods hm.1 rfl (ct_X7_isGoods hm hN) rfl rfl (by decide) (by decide) (by decide) (Nat.le_of_ble_eq_true rfl) (fun xz1 Mz2 qz3 => ?_)
  obtain ⟨rfl, hMe⟩ := qz3
  obtain rfl := hMe.symm
  refine z_if_eq (tgt := 18) ok dX7_consignmentOf_5 (by decide) (fun cz5 => ?_) (fun cz5 => ?_)
  · have hb5 := b2_0.mp cz5
    refine z_ldc ok dX7_consignmentOf_18 zw_822 ?_
    exact z_iret ok dX7_consignmentOf_20 rfl rfl rfl (Nat.zero_le _) ⟨by first | (unfold spCof; grind) | (unfold spCof; rw [htcjz, htw]; grind), rfl⟩
  · have hb5 := Decidable.not_not.mp (mt b2_0.mpr cz5)
    obtain ⟨jz, hjz, hcjjz, hg5jz⟩ := zGoods_in hN hb5
    have htcjz : tN c = jz := by rw [hcjjz]; exact tN_nI (by omega)
    refine z_iload_n ok dX7_consignmentOf_8 rfl ?_
    refine z_iconst (v := 0) ok dX7_consignmentOf_9 (by decide) ?_
    refine z_bipush (v := 10) ok dX7_consignmentOf_10 (by decide) ?_
    refine z_callSi ok dX7_consignmentOf_12 zm_X7_in zw_819 zw_820 (ct_X7_in) rfl rfl (by decide) (by decide) (by decide) (Nat.le_of_ble_eq_true rfl) (fun xz4 Mz5 qz6 => ?_)
    obtain ⟨rfl, hMe⟩ := qz6
    obtain rfl := hMe.symm
    refine z_if_ne (tgt := 21) ok dX7_consignmentOf_15 (by decide) (fun cz15 => ?_) (fun cz15 => ?_)
    · have hb15 := Decidable.not_not.mp (mt b2_0.mpr cz15)
      obtain ⟨k9, hk0, hk9, hwk⟩ := zW_nat (a := 0) (b := 10) (by omega) (by omega) hb15
      have htw : tN w = k9 := by rw [hwk]; exact tN_nI (by omega)
      refine z_iload_n ok dX7_consignmentOf_21 rfl ?_
      refine z_bipush (v := 9) ok dX7_consignmentOf_22 (by decide) ?_
      refine z_icmp_ge (tgt := 36) ok dX7_consignmentOf_24 (by decide) (fun cz24 => ?_) (fun cz24 => ?_)
      · refine z_iload_n ok dX7_consignmentOf_36 rfl ?_
        refine z_bipush (v := 9) ok dX7_consignmentOf_37 (by decide) ?_
        refine z_icmp_ne (tgt := 50) ok dX7_consignmentOf_39 (by decide) (fun cz39 => ?_) (fun cz39 => ?_)
        · refine z_aload_n ok dX7_consignmentOf_50 rfl ?_
          refine z_iload_n ok dX7_consignmentOf_51 rfl ?_
          refine z_callVi ok dX7_consignmentOf_52 zm_X7_isHere zw_953 zi_X7_isHere hm.1 rfl (ct_X7_isHere hm hN hjz hcjjz) rfl rfl (by decide) (by decide) (by decide) (Nat.le_of_ble_eq_true rfl) (fun xz7 Mz8 qz9 => ?_)
          obtain ⟨rfl, hMe⟩ := qz9
          obtain rfl := hMe.symm
          refine z_if_eq (tgt := 67) ok dX7_consignmentOf_55 (by decide) (fun cz55 => ?_) (fun cz55 => ?_)
          · have hb55 := b2_0.mp cz55
            refine z_aload_n ok dX7_consignmentOf_67 rfl ?_
            refine z_iload_n ok dX7_consignmentOf_68 rfl ?_
            refine z_bipush (v := 11) ok dX7_consignmentOf_69 (by decide) ?_
            refine z_callVi ok dX7_consignmentOf_71 zm_X7_of zw_845 zi_X7_of hm.1 rfl (ct_X7_of hm (i := jz) (k := 11) hcjjz rfl (by omega)) rfl rfl (by decide) (by decide) (by decide) (Nat.le_of_ble_eq_true rfl) (fun xz10 Mz11 qz12 => ?_)
            obtain ⟨rfl, hMe⟩ := qz12
            obtain rfl := hMe.symm
            refine z_aload_n ok dX7_consignmentOf_74 rfl ?_
            refine z_iload_n ok dX7_consignmentOf_75 rfl ?_
            refine z_bipush (v := 10) ok dX7_consignmentOf_76 (by decide) ?_
            refine z_callVi ok dX7_consignmentOf_78 zm_X7_of zw_845 zi_X7_of hm.1 rfl (ct_X7_of hm (i := jz) (k := 10) hcjjz rfl (by omega)) rfl rfl (by decide) (by decide) (by decide) (Nat.le_of_ble_eq_true rfl) (fun xz13 Mz14 qz15 => ?_)
            obtain ⟨rfl, hMe⟩ := qz15
            obtain rfl := hMe.symm
            refine z_isub ok dX7_consignmentOf_81 ?_
            exact z_iret ok dX7_consignmentOf_82 rfl rfl rfl (Nat.zero_le _) ⟨by first | (unfold spCof; grind) | (unfold spCof; rw [htcjz, htw]; grind), rfl⟩
          · have hb55 := Decidable.not_not.mp (mt b2_0.mpr cz55)
            refine z_aload_n ok dX7_consignmentOf_58 rfl ?_
            refine z_getf ok dX7_consignmentOf_59 zin_X7 rfl 0 (by decide) zw_771 hm.1 rfl ?_
            refine z_iconst (v := 5) ok dX7_consignmentOf_62 (by decide) ?_
            refine m_ald1 ok dX7_consignmentOf_63 hm rfl (by decide) ?_
            refine z_goto (tgt := 74) ok dX7_consignmentOf_64 (by decide) ?_
            refine z_aload_n ok dX7_consignmentOf_74 rfl ?_
            refine z_iload_n ok dX7_consignmentOf_75 rfl ?_
            refine z_bipush (v := 10) ok dX7_consignmentOf_76 (by decide) ?_
            refine z_callVi ok dX7_consignmentOf_78 zm_X7_of zw_845 zi_X7_of hm.1 rfl (ct_X7_of hm (i := jz) (k := 10) hcjjz rfl (by omega)) rfl rfl (by decide) (by decide) (by decide) (Nat.le_of_ble_eq_true rfl) (fun xz16 Mz17 qz18 => ?_)
            obtain ⟨rfl, hMe⟩ := qz18
            obtain rfl := hMe.symm
            refine z_isub ok dX7_consignmentOf_81 ?_
            exact z_iret ok dX7_consignmentOf_82 rfl rfl rfl (Nat.zero_le _) ⟨by first | (unfold spCof; grind) | (unfold spCof; rw [htcjz, htw]; grind), rfl⟩
        · refine z_aload_n ok dX7_consignmentOf_42 rfl ?_
          refine z_iload_n ok dX7_consignmentOf_43 rfl ?_
          refine z_callVi ok dX7_consignmentOf_44 zm_X7_parts zw_965 zi_X7_parts hm.1 rfl (ct_X7_parts hm hN hcjjz hjz) rfl rfl (by decide) (by decide) (by decide) (Nat.le_of_ble_eq_true rfl) (fun xz19 Mz20 qz21 => ?_)
          obtain ⟨rfl, hMe⟩ := qz21
          obtain rfl := hMe.symm
          refine z_goto (tgt := 82) ok dX7_consignmentOf_47 (by decide) ?_
          exact z_iret ok dX7_consignmentOf_82 rfl rfl rfl (Nat.zero_le _) ⟨by first | (unfold spCof; grind) | (unfold spCof; rw [htcjz, htw]; grind), rfl⟩
      · refine z_aload_n ok dX7_consignmentOf_27 rfl ?_
        refine z_iload_n ok dX7_consignmentOf_28 rfl ?_
        refine z_iload_n ok dX7_consignmentOf_29 rfl ?_
        refine z_callVi ok dX7_consignmentOf_30 zm_X7_of zw_845 zi_X7_of hm.1 rfl (ct_X7_of hm (i := jz) (k := k9) hcjjz hwk (by omega)) rfl rfl (by decide) (by decide) (by decide) (Nat.le_of_ble_eq_true rfl) (fun xz22 Mz23 qz24 => ?_)
        obtain ⟨rfl, hMe⟩ := qz24
        obtain rfl := hMe.symm
        refine z_goto (tgt := 82) ok dX7_consignmentOf_33 (by decide) ?_
        exact z_iret ok dX7_consignmentOf_82 rfl rfl rfl (Nat.zero_le _) ⟨by first | (unfold spCof; grind) | (unfold spCof; rw [htcjz, htw]; grind), rfl⟩
    · have hb15 := b2_0.mp cz15
      refine z_ldc ok dX7_consignmentOf_18 zw_822 ?_
      exact z_iret ok dX7_consignmentOf_20 rfl rfl rfl (Nat.zero_le _) ⟨by first | (unfold spCof; grind) | (unfold spCof; rw [htcjz, htw]; grind), rfl⟩

set_option maxRecDepth 20000 in
set_option maxHeartbeats 4000000 in
theorem ct_X7_vehicleOf {K : zK} {M : mM} {nx : Nat} {m : Nat} {μ : zMS} (hm : mPic M m μ) {n nv no : Nat} (hN : zN (μ.1 1) n nv no) {v w : Int32} : zCt K yX7_vehicleOf cX7_vehicleOf 3 zr_X7_vehicleOf 4 [.ref m, .int v, .int w] M nx 0 0 (zI (fun x M' => x = spVof (μ.1 1) n v w ∧ M' = M)) := by
  refine z_enter [some (.ref m), some (.int v), some (.int w)] (by decide +kernel) (Nat.le_of_ble_eq_true rfl) rfl (fun B ok hz => ?_)
  have hn16 := hN.2.1
  have hnv4 := hN.2.2.2.1
  refine z_aload_n ok dX7_vehicleOf_0 rfl ?_
  refine z_iload_n ok dX7_vehicleOf_1 rfl ?_
  refine z_callVi ok dX7_vehicleOf_2 zm_X7_isVehicle zw_866 zi_X7_isVehicle hm.1 rfl (ct_X7_isVehicle hm) rfl rfl (by decide) (by decide) (by decide) (Nat.le_of_ble_eq_true rfl) (fun xz1 Mz2 qz3 => ?_)
  obtain ⟨rfl, hMe⟩ := qz3
  obtain rfl := hMe.symm
  refine z_if_ne (tgt := 11) ok dX7_vehicleOf_5 (by decide) (fun cz5 => ?_) (fun cz5 => ?_)
  · have hb5 := Decidable.not_not.mp (mt b2_0.mpr cz5)
    obtain ⟨iv, hiv, hcjiv⟩ := zVeh_nat hN hb5.1 hb5.2
    have htciv : tN v = iv := by rw [hcjiv]; exact tN_nI (by omega)
    refine z_iload_n ok dX7_vehicleOf_11 rfl ?_
    rcases zsw (w) 9 (by omega) with hsw12 | ⟨ksw, hksw, hsw12⟩
    · refine z_tableOut (tgt := 138) ok dX7_vehicleOf_12 hsw12 (by decide) ?_
      refine z_ldc ok dX7_vehicleOf_138 zw_822 ?_
      exact z_iret ok dX7_vehicleOf_140 rfl rfl rfl (Nat.zero_le _) ⟨by first | (unfold spVof; rw [if_neg (by grind)]) | (unfold spVof; rw [if_pos ⟨hb5, by decide, by decide⟩, htciv, tN_nI (by omega)]; first | rfl | (rw [hcjiv]; rfl) | (show _ = if _ then _ else _; first | rw [if_pos cz107] | rw [if_neg cz107])), rfl⟩
    · rcases (by omega : ksw = 0 ∨ ksw = 1 ∨ ksw = 2 ∨ ksw = 3 ∨ ksw = 4 ∨ ksw = 5 ∨ ksw = 6 ∨ ksw = 7 ∨ ksw = 8 ∨ ksw = 9) with rfl | rfl | rfl | rfl | rfl | rfl | rfl | rfl | rfl | rfl
      · rw [hsw12]
        refine z_tableIn (off := 56) (tgt := 68) ok dX7_vehicleOf_12 (by decide) (by decide) rfl (by decide) ?_
        refine z_aload_n ok dX7_vehicleOf_68 rfl ?_
        refine z_iload_n ok dX7_vehicleOf_69 rfl ?_
        refine z_iload_n ok dX7_vehicleOf_70 rfl ?_
        refine z_callVi ok dX7_vehicleOf_71 zm_X7_ofVehicle zw_874 zi_X7_ofVehicle hm.1 rfl (ct_X7_ofVehicle hm (i := iv) (k := _) hcjiv rfl (by omega)) rfl rfl (by decide) (by decide) (by decide) (Nat.le_of_ble_eq_true rfl) (fun xz4 Mz5 qz6 => ?_)
        obtain ⟨rfl, hMe⟩ := qz6
        obtain rfl := hMe.symm
        exact z_iret ok dX7_vehicleOf_74 rfl rfl rfl (Nat.zero_le _) ⟨by first | (unfold spVof; rw [if_neg (by grind)]) | (unfold spVof; rw [if_pos ⟨hb5, by decide, by decide⟩, htciv, tN_nI (by omega)]; first | rfl | (rw [hcjiv]; rfl) | (show _ = if _ then _ else _; first | rw [if_pos cz107] | rw [if_neg cz107])), rfl⟩
      · rw [hsw12]
        refine z_tableIn (off := 56) (tgt := 68) ok dX7_vehicleOf_12 (by decide) (by decide) rfl (by decide) ?_
        refine z_aload_n ok dX7_vehicleOf_68 rfl ?_
        refine z_iload_n ok dX7_vehicleOf_69 rfl ?_
        refine z_iload_n ok dX7_vehicleOf_70 rfl ?_
        refine z_callVi ok dX7_vehicleOf_71 zm_X7_ofVehicle zw_874 zi_X7_ofVehicle hm.1 rfl (ct_X7_ofVehicle hm (i := iv) (k := _) hcjiv rfl (by omega)) rfl rfl (by decide) (by decide) (by decide) (Nat.le_of_ble_eq_true rfl) (fun xz7 Mz8 qz9 => ?_)
        obtain ⟨rfl, hMe⟩ := qz9
        obtain rfl := hMe.symm
        exact z_iret ok dX7_vehicleOf_74 rfl rfl rfl (Nat.zero_le _) ⟨by first | (unfold spVof; rw [if_neg (by grind)]) | (unfold spVof; rw [if_pos ⟨hb5, by decide, by decide⟩, htciv, tN_nI (by omega)]; first | rfl | (rw [hcjiv]; rfl) | (show _ = if _ then _ else _; first | rw [if_pos cz107] | rw [if_neg cz107])), rfl⟩
      · rw [hsw12]
        refine z_tableIn (off := 56) (tgt := 68) ok dX7_vehicleOf_12 (by decide) (by decide) rfl (by decide) ?_
        refine z_aload_n ok dX7_vehicleOf_68 rfl ?_
        refine z_iload_n ok dX7_vehicleOf_69 rfl ?_
        refine z_iload_n ok dX7_vehicleOf_70 rfl ?_
        refine z_callVi ok dX7_vehicleOf_71 zm_X7_ofVehicle zw_874 zi_X7_ofVehicle hm.1 rfl (ct_X7_ofVehicle hm (i := iv) (k := _) hcjiv rfl (by omega)) rfl rfl (by decide) (by decide) (by decide) (Nat.le_of_ble_eq_true rfl) (fun xz10 Mz11 qz12 => ?_)
        obtain ⟨rfl, hMe⟩ := qz12
        obtain rfl := hMe.symm
        exact z_iret ok dX7_vehicleOf_74 rfl rfl rfl (Nat.zero_le _) ⟨by first | (unfold spVof; rw [if_neg (by grind)]) | (unfold spVof; rw [if_pos ⟨hb5, by decide, by decide⟩, htciv, tN_nI (by omega)]; first | rfl | (rw [hcjiv]; rfl) | (show _ = if _ then _ else _; first | rw [if_pos cz107] | rw [if_neg cz107])), rfl⟩
      · rw [hsw12]
        refine z_tableIn (off := 63) (tgt := 75) ok dX7_vehicleOf_12 (by decide) (by decide) rfl (by decide) ?_
        refine z_aload_n ok dX7_vehicleOf_75 rfl ?_
        refine z_iload_n ok dX7_vehicleOf_76 rfl ?_
        refine z_iconst (v := 1) ok dX7_vehicleOf_77 (by decide) ?_
        refine z_callVi ok dX7_vehicleOf_78 zm_X7_loaded zw_886 zi_X7_loaded hm.1 rfl (ct_X7_loaded hm hN (k := 1) rfl (by omega)) rfl rfl (by decide) (by decide) (by decide) (Nat.le_of_ble_eq_true rfl) (fun xz13 Mz14 qz15 => ?_)
        obtain ⟨rfl, hMe⟩ := qz15
        obtain rfl := hMe.symm
        exact z_iret ok dX7_vehicleOf_81 rfl rfl rfl (Nat.zero_le _) ⟨by first | (unfold spVof; rw [if_neg (by grind)]) | (unfold spVof; rw [if_pos ⟨hb5, by decide, by decide⟩, htciv, tN_nI (by omega)]; first | rfl | (rw [hcjiv]; rfl) | (show _ = if _ then _ else _; first | rw [if_pos cz107] | rw [if_neg cz107])), rfl⟩
      · rw [hsw12]
        refine z_tableIn (off := 70) (tgt := 82) ok dX7_vehicleOf_12 (by decide) (by decide) rfl (by decide) ?_
        refine z_aload_n ok dX7_vehicleOf_82 rfl ?_
        refine z_iload_n ok dX7_vehicleOf_83 rfl ?_
        refine z_iconst (v := 2) ok dX7_vehicleOf_84 (by decide) ?_
        refine z_callVi ok dX7_vehicleOf_85 zm_X7_loaded zw_886 zi_X7_loaded hm.1 rfl (ct_X7_loaded hm hN (k := 2) rfl (by omega)) rfl rfl (by decide) (by decide) (by decide) (Nat.le_of_ble_eq_true rfl) (fun xz16 Mz17 qz18 => ?_)
        obtain ⟨rfl, hMe⟩ := qz18
        obtain rfl := hMe.symm
        exact z_iret ok dX7_vehicleOf_88 rfl rfl rfl (Nat.zero_le _) ⟨by first | (unfold spVof; rw [if_neg (by grind)]) | (unfold spVof; rw [if_pos ⟨hb5, by decide, by decide⟩, htciv, tN_nI (by omega)]; first | rfl | (rw [hcjiv]; rfl) | (show _ = if _ then _ else _; first | rw [if_pos cz107] | rw [if_neg cz107])), rfl⟩
      · rw [hsw12]
        refine z_tableIn (off := 77) (tgt := 89) ok dX7_vehicleOf_12 (by decide) (by decide) rfl (by decide) ?_
        refine z_aload_n ok dX7_vehicleOf_89 rfl ?_
        refine z_iload_n ok dX7_vehicleOf_90 rfl ?_
        refine z_callVi ok dX7_vehicleOf_91 zm_X7_loadSet zw_917 zi_X7_loadSet hm.1 rfl (ct_X7_loadSet hm hN) rfl rfl (by decide) (by decide) (by decide) (Nat.le_of_ble_eq_true rfl) (fun xz19 Mz20 qz21 => ?_)
        obtain ⟨rfl, hMe⟩ := qz21
        obtain rfl := hMe.symm
        exact z_iret ok dX7_vehicleOf_94 rfl rfl rfl (Nat.zero_le _) ⟨by first | (unfold spVof; rw [if_neg (by grind)]) | (unfold spVof; rw [if_pos ⟨hb5, by decide, by decide⟩, htciv, tN_nI (by omega)]; first | rfl | (rw [hcjiv]; rfl) | (show _ = if _ then _ else _; first | rw [if_pos cz107] | rw [if_neg cz107])), rfl⟩
      · rw [hsw12]
        refine z_tableIn (off := 83) (tgt := 95) ok dX7_vehicleOf_12 (by decide) (by decide) rfl (by decide) ?_
        refine z_aload_n ok dX7_vehicleOf_95 rfl ?_
        refine z_iload_n ok dX7_vehicleOf_96 rfl ?_
        refine z_callVi ok dX7_vehicleOf_97 zm_X7_goal zw_878 zi_X7_goal hm.1 rfl (ct_X7_goal hm hN hcjiv (by omega)) rfl rfl (by decide) (by decide) (by decide) (Nat.le_of_ble_eq_true rfl) (fun xz22 Mz23 qz24 => ?_)
        obtain ⟨rfl, hMe⟩ := qz24
        obtain rfl := hMe.symm
        exact z_iret ok dX7_vehicleOf_100 rfl rfl rfl (Nat.zero_le _) ⟨by first | (unfold spVof; rw [if_neg (by grind)]) | (unfold spVof; rw [if_pos ⟨hb5, by decide, by decide⟩, htciv, tN_nI (by omega)]; first | rfl | (rw [hcjiv]; rfl) | (show _ = if _ then _ else _; first | rw [if_pos cz107] | rw [if_neg cz107])), rfl⟩
      · rw [hsw12]
        refine z_tableIn (off := 89) (tgt := 101) ok dX7_vehicleOf_12 (by decide) (by decide) rfl (by decide) ?_
        refine z_aload_n ok dX7_vehicleOf_101 rfl ?_
        refine z_iload_n ok dX7_vehicleOf_102 rfl ?_
        refine z_iconst (v := 2) ok dX7_vehicleOf_103 (by decide) ?_
        refine z_callVi ok dX7_vehicleOf_104 zm_X7_ofVehicle zw_874 zi_X7_ofVehicle hm.1 rfl (ct_X7_ofVehicle hm (i := iv) (k := 2) hcjiv rfl (by omega)) rfl rfl (by decide) (by decide) (by decide) (Nat.le_of_ble_eq_true rfl) (fun xz25 Mz26 qz27 => ?_)
        obtain ⟨rfl, hMe⟩ := qz27
        obtain rfl := hMe.symm
        refine z_if_ne (tgt := 115) ok dX7_vehicleOf_107 (by decide) (fun cz107 => ?_) (fun cz107 => ?_)
        · refine z_aload_n ok dX7_vehicleOf_115 rfl ?_
          refine z_iload_n ok dX7_vehicleOf_116 rfl ?_
          refine z_iconst (v := 4) ok dX7_vehicleOf_117 (by decide) ?_
          refine z_callVi ok dX7_vehicleOf_118 zm_X7_ofVehicle zw_874 zi_X7_ofVehicle hm.1 rfl (ct_X7_ofVehicle hm (i := iv) (k := 4) hcjiv rfl (by omega)) rfl rfl (by decide) (by decide) (by decide) (Nat.le_of_ble_eq_true rfl) (fun xz28 Mz29 qz30 => ?_)
          obtain ⟨rfl, hMe⟩ := qz30
          obtain rfl := hMe.symm
          exact z_iret ok dX7_vehicleOf_121 rfl rfl rfl (Nat.zero_le _) ⟨by first | (unfold spVof; rw [if_neg (by grind)]) | (unfold spVof; rw [if_pos ⟨hb5, by decide, by decide⟩, htciv, tN_nI (by omega)]; first | rfl | (rw [hcjiv]; rfl) | (show _ = if _ then _ else _; first | rw [if_pos cz107] | rw [if_neg cz107])), rfl⟩
        · refine z_ldc ok dX7_vehicleOf_110 zw_836 ?_
          refine z_goto (tgt := 121) ok dX7_vehicleOf_112 (by decide) ?_
          exact z_iret ok dX7_vehicleOf_121 rfl rfl rfl (Nat.zero_le _) ⟨by first | (unfold spVof; rw [if_neg (by grind)]) | (unfold spVof; rw [if_pos ⟨hb5, by decide, by decide⟩, htciv, tN_nI (by omega)]; first | rfl | (rw [hcjiv]; rfl) | (show _ = if _ then _ else _; first | rw [if_pos cz107] | rw [if_neg cz107])), rfl⟩
      · rw [hsw12]
        refine z_tableIn (off := 110) (tgt := 122) ok dX7_vehicleOf_12 (by decide) (by decide) rfl (by decide) ?_
        refine z_aload_n ok dX7_vehicleOf_122 rfl ?_
        refine z_iload_n ok dX7_vehicleOf_123 rfl ?_
        refine z_bipush (v := 6) ok dX7_vehicleOf_124 (by decide) ?_
        refine z_callVi ok dX7_vehicleOf_126 zm_X7_ofVehicle zw_874 zi_X7_ofVehicle hm.1 rfl (ct_X7_ofVehicle hm (i := iv) (k := 6) hcjiv rfl (by omega)) rfl rfl (by decide) (by decide) (by decide) (Nat.le_of_ble_eq_true rfl) (fun xz31 Mz32 qz33 => ?_)
        obtain ⟨rfl, hMe⟩ := qz33
        obtain rfl := hMe.symm
        exact z_iret ok dX7_vehicleOf_129 rfl rfl rfl (Nat.zero_le _) ⟨by first | (unfold spVof; rw [if_neg (by grind)]) | (unfold spVof; rw [if_pos ⟨hb5, by decide, by decide⟩, htciv, tN_nI (by omega)]; first | rfl | (rw [hcjiv]; rfl) | (show _ = if _ then _ else _; first | rw [if_pos cz107] | rw [if_neg cz107])), rfl⟩
      · rw [hsw12]
        refine z_tableIn (off := 118) (tgt := 130) ok dX7_vehicleOf_12 (by decide) (by decide) rfl (by decide) ?_
        refine z_aload_n ok dX7_vehicleOf_130 rfl ?_
        refine z_iload_n ok dX7_vehicleOf_131 rfl ?_
        refine z_bipush (v := 7) ok dX7_vehicleOf_132 (by decide) ?_
        refine z_callVi ok dX7_vehicleOf_134 zm_X7_ofVehicle zw_874 zi_X7_ofVehicle hm.1 rfl (ct_X7_ofVehicle hm (i := iv) (k := 7) hcjiv rfl (by omega)) rfl rfl (by decide) (by decide) (by decide) (Nat.le_of_ble_eq_true rfl) (fun xz34 Mz35 qz36 => ?_)
        obtain ⟨rfl, hMe⟩ := qz36
        obtain rfl := hMe.symm
        exact z_iret ok dX7_vehicleOf_137 rfl rfl rfl (Nat.zero_le _) ⟨by first | (unfold spVof; rw [if_neg (by grind)]) | (unfold spVof; rw [if_pos ⟨hb5, by decide, by decide⟩, htciv, tN_nI (by omega)]; first | rfl | (rw [hcjiv]; rfl) | (show _ = if _ then _ else _; first | rw [if_pos cz107] | rw [if_neg cz107])), rfl⟩
  · have hb5 := b2_0.mp cz5
    refine z_ldc ok dX7_vehicleOf_8 zw_822 ?_
    exact z_iret ok dX7_vehicleOf_10 rfl rfl rfl (Nat.zero_le _) ⟨by first | (unfold spVof; rw [if_neg (by grind)]) | (unfold spVof; rw [if_pos ⟨hb5, by decide, by decide⟩, htciv, tN_nI (by omega)]; first | rfl | (rw [hcjiv]; rfl) | (show _ = if _ then _ else _; first | rw [if_pos cz107] | rw [if_neg cz107])), rfl⟩

set_option maxRecDepth 20000 in
set_option maxHeartbeats 4000000 in
theorem ct_X7_offerOf {K : zK} {M : mM} {nx : Nat} {m : Nat} {μ : zMS} (hm : mPic M m μ) {n nv no : Nat} (hN : zN (μ.1 1) n nv no) {i w : Int32} : zCt K yX7_offerOf cX7_offerOf 3 zr_X7_offerOf 1 [.ref m, .int i, .int w] M nx 0 0 (zI (fun x M' => x = spOof (μ.1 1) i w ∧ M' = M)) := by
  refine z_enter [some (.ref m), some (.int i), some (.int w)] (by decide +kernel) (Nat.le_of_ble_eq_true rfl) rfl (fun B ok hz => ?_)
  have hno9 := hN.2.2.2.2.2
  refine z_iload_n ok dX7_offerOf_0 rfl ?_
  refine z_if_lt (tgt := 13) ok dX7_offerOf_1 (by decide) (fun cz1 => ?_) (fun cz1 => ?_)
  · refine z_ldc ok dX7_offerOf_13 zw_822 ?_
    exact z_iret ok dX7_offerOf_15 rfl rfl rfl (Nat.zero_le _) ⟨by unfold spOof; grind, rfl⟩
  · refine z_iload_n ok dX7_offerOf_4 rfl ?_
    refine z_iconst (v := 0) ok dX7_offerOf_5 (by decide) ?_
    refine z_iconst (v := 4) ok dX7_offerOf_6 (by decide) ?_
    refine z_callSi ok dX7_offerOf_7 zm_X7_in zw_819 zw_820 (ct_X7_in) rfl rfl (by decide) (by decide) (by decide) (Nat.le_of_ble_eq_true rfl) (fun xz1 Mz2 qz3 => ?_)
    obtain ⟨rfl, hMe⟩ := qz3
    obtain rfl := hMe.symm
    refine z_if_ne (tgt := 16) ok dX7_offerOf_10 (by decide) (fun cz10 => ?_) (fun cz10 => ?_)
    · have hb10 := Decidable.not_not.mp (mt b2_0.mpr cz10)
      obtain ⟨k9, hk0, hk9, hwk⟩ := zW_nat (a := 0) (b := 4) (by omega) (by omega) hb10
      have htw : tN w = k9 := by rw [hwk]; exact tN_nI (by omega)
      refine z_iload_n ok dX7_offerOf_16 rfl ?_
      refine z_aload_n ok dX7_offerOf_17 rfl ?_
      refine z_getf ok dX7_offerOf_18 zin_X7 rfl 0 (by decide) zw_771 hm.1 rfl ?_
      refine z_bipush (v := 6) ok dX7_offerOf_21 (by decide) ?_
      refine m_ald1 ok dX7_offerOf_23 hm rfl (by decide) ?_
      refine z_icmp_lt (tgt := 32) ok dX7_offerOf_24 (by decide) (fun cz24 => ?_) (fun cz24 => ?_)
      · obtain ⟨iz, hiz, hcz⟩ := i_nat (x := i) (n := no) (by omega) cz1 (by rw [← hN.2.2.2.2.1]; exact i_lt_n cz24)
        have hti : tN i = iz := by rw [hcz]; exact tN_nI (by omega)
        refine z_aload_n ok dX7_offerOf_32 rfl ?_
        refine z_iload_n ok dX7_offerOf_33 rfl ?_
        refine z_iload_n ok dX7_offerOf_34 rfl ?_
        refine z_callVi ok dX7_offerOf_35 zm_X7_ofOffer zw_941 zi_X7_ofOffer hm.1 rfl (ct_X7_ofOffer hm (i := iz) (k := k9) hcz hwk (by omega)) rfl rfl (by decide) (by decide) (by decide) (Nat.le_of_ble_eq_true rfl) (fun xz4 Mz5 qz6 => ?_)
        obtain ⟨rfl, hMe⟩ := qz6
        obtain rfl := hMe.symm
        exact z_iret ok dX7_offerOf_38 rfl rfl rfl (Nat.zero_le _) ⟨by unfold spOof; grind, rfl⟩
      · refine z_ldc ok dX7_offerOf_27 zw_836 ?_
        refine z_goto (tgt := 38) ok dX7_offerOf_29 (by decide) ?_
        exact z_iret ok dX7_offerOf_38 rfl rfl rfl (Nat.zero_le _) ⟨by unfold spOof; grind, rfl⟩
    · have hb10 := b2_0.mp cz10
      refine z_ldc ok dX7_offerOf_13 zw_822 ?_
      exact z_iret ok dX7_offerOf_15 rfl rfl rfl (Nat.zero_le _) ⟨by unfold spOof; grind, rfl⟩

set_option maxRecDepth 20000 in
set_option maxHeartbeats 4000000 in
theorem ct_X7_count {K : zK} {M : mM} {nx : Nat} {m : Nat} {μ : zMS} (hm : mPic M m μ) {n nv no : Nat} (hN : zN (μ.1 1) n nv no) {w : Int32} : zCt K yX7_count cX7_count 2 zr_X7_count 4 [.ref m, .int w] M nx 0 0 (zI (fun x M' => x = spCount (μ.1 1) n (μ.2 4) (μ.2 7) w ∧ M' = M)) := by
  refine z_enter [some (.ref m), some (.int w)] (by decide +kernel) (Nat.le_of_ble_eq_true rfl) rfl (fun B ok hz => ?_)
  have hn16 := hN.2.1
  refine z_iload_n ok dX7_count_0 rfl ?_
  rcases zsw (w) 12 (by omega) with hsw1 | ⟨ksw, hksw, hsw1⟩
  · refine z_tableOut (tgt := 112) ok dX7_count_1 hsw1 (by decide) ?_
    have hso : ¬ (0 ≤ w.toInt ∧ w.toInt ≤ 12) := by omega
    refine z_iload_n ok dX7_count_112 rfl ?_
    refine z_bipush (v := 20) ok dX7_count_113 (by decide) ?_
    refine z_bipush (v := 22) ok dX7_count_115 (by decide) ?_
    refine z_callSi ok dX7_count_117 zm_X7_in zw_819 zw_820 (ct_X7_in) rfl rfl (by decide) (by decide) (by decide) (Nat.le_of_ble_eq_true rfl) (fun xz1 Mz2 qz3 => ?_)
    obtain ⟨rfl, hMe⟩ := qz3
    obtain rfl := hMe.symm
    refine z_if_eq (tgt := 135) ok dX7_count_120 (by decide) (fun cz120 => ?_) (fun cz120 => ?_)
    · have hb120 := b2_0.mp cz120
      refine z_ldc ok dX7_count_135 zw_822 ?_
      exact z_iret ok dX7_count_137 rfl rfl rfl (Nat.zero_le _) ⟨by first | (unfold spCount; rw [if_pos ⟨by decide, by decide⟩, tN_nI (by omega)]; rfl) | (unfold spCount; rw [if_neg hso]; grind), rfl⟩
    · have hb120 := Decidable.not_not.mp (mt b2_0.mpr cz120)
      obtain ⟨k9, hk0, hk9, hwk⟩ := zW_nat (a := 20) (b := 22) (by omega) (by omega) hb120
      have htw : tN w = k9 := by rw [hwk]; exact tN_nI (by omega)
      refine z_aload_n ok dX7_count_123 rfl ?_
      refine z_getf ok dX7_count_124 zin_X7 rfl 0 (by decide) zw_771 hm.1 rfl ?_
      refine z_iload_n ok dX7_count_127 rfl ?_
      refine z_bipush (v := 20) ok dX7_count_128 (by decide) ?_
      refine z_isub ok dX7_count_130 ?_
      refine m_ald1 ok dX7_count_131 hm (by rw [hwk, show (20 : Int32) = nI 20 from rfl, pk_sub hk0]) (by omega) ?_
      refine z_goto (tgt := 137) ok dX7_count_132 (by decide) ?_
      exact z_iret ok dX7_count_137 rfl rfl rfl (Nat.zero_le _) ⟨by first | (unfold spCount; rw [if_pos ⟨by decide, by decide⟩, tN_nI (by omega)]; rfl) | (unfold spCount; rw [if_neg hso]; grind), rfl⟩
  · rcases (by omega : ksw = 0 ∨ ksw = 1 ∨ ksw = 2 ∨ ksw = 3 ∨ ksw = 4 ∨ ksw = 5 ∨ ksw = 6 ∨ ksw = 7 ∨ ksw = 8 ∨ ksw = 9 ∨ ksw = 10 ∨ ksw = 11 ∨ ksw = 12) with rfl | rfl | rfl | rfl | rfl | rfl | rfl | rfl | rfl | rfl | rfl | rfl | rfl
    · rw [hsw1]
      refine z_tableIn (off := 67) (tgt := 68) ok dX7_count_1 (by decide) (by decide) rfl (by decide) ?_
      refine z_aload_n ok dX7_count_68 rfl ?_
      refine z_getf ok dX7_count_69 zin_X7 rfl 0 (by decide) zw_771 hm.1 rfl ?_
      refine z_iconst (v := 3) ok dX7_count_72 (by decide) ?_
      refine z_iload_n ok dX7_count_73 rfl ?_
      refine z_iadd ok dX7_count_74 ?_
      refine m_ald1 ok dX7_count_75 hm (by rw [show (3 : Int32) = nI 3 from rfl, nI_add]) (by omega) ?_
      exact z_iret ok dX7_count_76 rfl rfl rfl (Nat.zero_le _) ⟨by first | (unfold spCount; rw [if_pos ⟨by decide, by decide⟩, tN_nI (by omega)]; rfl) | (unfold spCount; rw [if_neg hso]; grind), rfl⟩
    · rw [hsw1]
      refine z_tableIn (off := 67) (tgt := 68) ok dX7_count_1 (by decide) (by decide) rfl (by decide) ?_
      refine z_aload_n ok dX7_count_68 rfl ?_
      refine z_getf ok dX7_count_69 zin_X7 rfl 0 (by decide) zw_771 hm.1 rfl ?_
      refine z_iconst (v := 3) ok dX7_count_72 (by decide) ?_
      refine z_iload_n ok dX7_count_73 rfl ?_
      refine z_iadd ok dX7_count_74 ?_
      refine m_ald1 ok dX7_count_75 hm (by rw [show (3 : Int32) = nI 3 from rfl, nI_add]) (by omega) ?_
      exact z_iret ok dX7_count_76 rfl rfl rfl (Nat.zero_le _) ⟨by first | (unfold spCount; rw [if_pos ⟨by decide, by decide⟩, tN_nI (by omega)]; rfl) | (unfold spCount; rw [if_neg hso]; grind), rfl⟩
    · rw [hsw1]
      refine z_tableIn (off := 67) (tgt := 68) ok dX7_count_1 (by decide) (by decide) rfl (by decide) ?_
      refine z_aload_n ok dX7_count_68 rfl ?_
      refine z_getf ok dX7_count_69 zin_X7 rfl 0 (by decide) zw_771 hm.1 rfl ?_
      refine z_iconst (v := 3) ok dX7_count_72 (by decide) ?_
      refine z_iload_n ok dX7_count_73 rfl ?_
      refine z_iadd ok dX7_count_74 ?_
      refine m_ald1 ok dX7_count_75 hm (by rw [show (3 : Int32) = nI 3 from rfl, nI_add]) (by omega) ?_
      exact z_iret ok dX7_count_76 rfl rfl rfl (Nat.zero_le _) ⟨by first | (unfold spCount; rw [if_pos ⟨by decide, by decide⟩, tN_nI (by omega)]; rfl) | (unfold spCount; rw [if_neg hso]; grind), rfl⟩
    · rw [hsw1]
      refine z_tableIn (off := 76) (tgt := 77) ok dX7_count_1 (by decide) (by decide) rfl (by decide) ?_
      refine z_aload_n ok dX7_count_77 rfl ?_
      refine z_callVi ok dX7_count_78 zm_X7_here zw_981 zi_X7_here hm.1 rfl (ct_X7_here hm hN) rfl rfl (by decide) (by decide) (by decide) (Nat.le_of_ble_eq_true rfl) (fun xz4 Mz5 qz6 => ?_)
      obtain ⟨rfl, hMe⟩ := qz6
      obtain rfl := hMe.symm
      exact z_iret ok dX7_count_81 rfl rfl rfl (Nat.zero_le _) ⟨by first | (unfold spCount; rw [if_pos ⟨by decide, by decide⟩, tN_nI (by omega)]; rfl) | (unfold spCount; rw [if_neg hso]; grind), rfl⟩
    · rw [hsw1]
      refine z_tableIn (off := 81) (tgt := 82) ok dX7_count_1 (by decide) (by decide) rfl (by decide) ?_
      refine z_aload_n ok dX7_count_82 rfl ?_
      refine z_getf ok dX7_count_83 zin_X7 rfl 0 (by decide) zw_771 hm.1 rfl ?_
      refine z_bipush (v := 7) ok dX7_count_86 (by decide) ?_
      refine z_iload_n ok dX7_count_88 rfl ?_
      refine z_iadd ok dX7_count_89 ?_
      refine z_iconst (v := 4) ok dX7_count_90 (by decide) ?_
      refine z_isub ok dX7_count_91 ?_
      refine m_ald1 ok dX7_count_92 hm (by rw [show (7 : Int32) = nI 7 from rfl, show (4 : Int32) = nI 4 from rfl, nI_add, pk_sub (by omega)]) (by omega) ?_
      exact z_iret ok dX7_count_93 rfl rfl rfl (Nat.zero_le _) ⟨by first | (unfold spCount; rw [if_pos ⟨by decide, by decide⟩, tN_nI (by omega)]; rfl) | (unfold spCount; rw [if_neg hso]; grind), rfl⟩
    · rw [hsw1]
      refine z_tableIn (off := 81) (tgt := 82) ok dX7_count_1 (by decide) (by decide) rfl (by decide) ?_
      refine z_aload_n ok dX7_count_82 rfl ?_
      refine z_getf ok dX7_count_83 zin_X7 rfl 0 (by decide) zw_771 hm.1 rfl ?_
      refine z_bipush (v := 7) ok dX7_count_86 (by decide) ?_
      refine z_iload_n ok dX7_count_88 rfl ?_
      refine z_iadd ok dX7_count_89 ?_
      refine z_iconst (v := 4) ok dX7_count_90 (by decide) ?_
      refine z_isub ok dX7_count_91 ?_
      refine m_ald1 ok dX7_count_92 hm (by rw [show (7 : Int32) = nI 7 from rfl, show (4 : Int32) = nI 4 from rfl, nI_add, pk_sub (by omega)]) (by omega) ?_
      exact z_iret ok dX7_count_93 rfl rfl rfl (Nat.zero_le _) ⟨by first | (unfold spCount; rw [if_pos ⟨by decide, by decide⟩, tN_nI (by omega)]; rfl) | (unfold spCount; rw [if_neg hso]; grind), rfl⟩
    · rw [hsw1]
      refine z_tableIn (off := 81) (tgt := 82) ok dX7_count_1 (by decide) (by decide) rfl (by decide) ?_
      refine z_aload_n ok dX7_count_82 rfl ?_
      refine z_getf ok dX7_count_83 zin_X7 rfl 0 (by decide) zw_771 hm.1 rfl ?_
      refine z_bipush (v := 7) ok dX7_count_86 (by decide) ?_
      refine z_iload_n ok dX7_count_88 rfl ?_
      refine z_iadd ok dX7_count_89 ?_
      refine z_iconst (v := 4) ok dX7_count_90 (by decide) ?_
      refine z_isub ok dX7_count_91 ?_
      refine m_ald1 ok dX7_count_92 hm (by rw [show (7 : Int32) = nI 7 from rfl, show (4 : Int32) = nI 4 from rfl, nI_add, pk_sub (by omega)]) (by omega) ?_
      exact z_iret ok dX7_count_93 rfl rfl rfl (Nat.zero_le _) ⟨by first | (unfold spCount; rw [if_pos ⟨by decide, by decide⟩, tN_nI (by omega)]; rfl) | (unfold spCount; rw [if_neg hso]; grind), rfl⟩
    · rw [hsw1]
      refine z_tableIn (off := 81) (tgt := 82) ok dX7_count_1 (by decide) (by decide) rfl (by decide) ?_
      refine z_aload_n ok dX7_count_82 rfl ?_
      refine z_getf ok dX7_count_83 zin_X7 rfl 0 (by decide) zw_771 hm.1 rfl ?_
      refine z_bipush (v := 7) ok dX7_count_86 (by decide) ?_
      refine z_iload_n ok dX7_count_88 rfl ?_
      refine z_iadd ok dX7_count_89 ?_
      refine z_iconst (v := 4) ok dX7_count_90 (by decide) ?_
      refine z_isub ok dX7_count_91 ?_
      refine m_ald1 ok dX7_count_92 hm (by rw [show (7 : Int32) = nI 7 from rfl, show (4 : Int32) = nI 4 from rfl, nI_add, pk_sub (by omega)]) (by omega) ?_
      exact z_iret ok dX7_count_93 rfl rfl rfl (Nat.zero_le _) ⟨by first | (unfold spCount; rw [if_pos ⟨by decide, by decide⟩, tN_nI (by omega)]; rfl) | (unfold spCount; rw [if_neg hso]; grind), rfl⟩
    · rw [hsw1]
      refine z_tableIn (off := 81) (tgt := 82) ok dX7_count_1 (by decide) (by decide) rfl (by decide) ?_
      refine z_aload_n ok dX7_count_82 rfl ?_
      refine z_getf ok dX7_count_83 zin_X7 rfl 0 (by decide) zw_771 hm.1 rfl ?_
      refine z_bipush (v := 7) ok dX7_count_86 (by decide) ?_
      refine z_iload_n ok dX7_count_88 rfl ?_
      refine z_iadd ok dX7_count_89 ?_
      refine z_iconst (v := 4) ok dX7_count_90 (by decide) ?_
      refine z_isub ok dX7_count_91 ?_
      refine m_ald1 ok dX7_count_92 hm (by rw [show (7 : Int32) = nI 7 from rfl, show (4 : Int32) = nI 4 from rfl, nI_add, pk_sub (by omega)]) (by omega) ?_
      exact z_iret ok dX7_count_93 rfl rfl rfl (Nat.zero_le _) ⟨by first | (unfold spCount; rw [if_pos ⟨by decide, by decide⟩, tN_nI (by omega)]; rfl) | (unfold spCount; rw [if_neg hso]; grind), rfl⟩
    · rw [hsw1]
      refine z_tableIn (off := 81) (tgt := 82) ok dX7_count_1 (by decide) (by decide) rfl (by decide) ?_
      refine z_aload_n ok dX7_count_82 rfl ?_
      refine z_getf ok dX7_count_83 zin_X7 rfl 0 (by decide) zw_771 hm.1 rfl ?_
      refine z_bipush (v := 7) ok dX7_count_86 (by decide) ?_
      refine z_iload_n ok dX7_count_88 rfl ?_
      refine z_iadd ok dX7_count_89 ?_
      refine z_iconst (v := 4) ok dX7_count_90 (by decide) ?_
      refine z_isub ok dX7_count_91 ?_
      refine m_ald1 ok dX7_count_92 hm (by rw [show (7 : Int32) = nI 7 from rfl, show (4 : Int32) = nI 4 from rfl, nI_add, pk_sub (by omega)]) (by omega) ?_
      exact z_iret ok dX7_count_93 rfl rfl rfl (Nat.zero_le _) ⟨by first | (unfold spCount; rw [if_pos ⟨by decide, by decide⟩, tN_nI (by omega)]; rfl) | (unfold spCount; rw [if_neg hso]; grind), rfl⟩
    · rw [hsw1]
      refine z_tableIn (off := 93) (tgt := 94) ok dX7_count_1 (by decide) (by decide) rfl (by decide) ?_
      refine z_aload_n ok dX7_count_94 rfl ?_
      refine z_getf ok dX7_count_95 zin_X7 rfl 0 (by decide) zw_771 hm.1 rfl ?_
      refine z_bipush (v := 6) ok dX7_count_98 (by decide) ?_
      refine m_ald1 ok dX7_count_100 hm rfl (by decide) ?_
      exact z_iret ok dX7_count_101 rfl rfl rfl (Nat.zero_le _) ⟨by first | (unfold spCount; rw [if_pos ⟨by decide, by decide⟩, tN_nI (by omega)]; rfl) | (unfold spCount; rw [if_neg hso]; grind), rfl⟩
    · rw [hsw1]
      refine z_tableIn (off := 101) (tgt := 102) ok dX7_count_1 (by decide) (by decide) rfl (by decide) ?_
      refine z_aload_n ok dX7_count_102 rfl ?_
      refine z_getf ok dX7_count_103 zin_X7 rfl 4 (by decide) zw_775 hm.1 rfl ?_
      exact z_iret ok dX7_count_106 rfl rfl rfl (Nat.zero_le _) ⟨by first | (unfold spCount; rw [if_pos ⟨by decide, by decide⟩, tN_nI (by omega)]; rfl) | (unfold spCount; rw [if_neg hso]; grind), rfl⟩
    · rw [hsw1]
      refine z_tableIn (off := 106) (tgt := 107) ok dX7_count_1 (by decide) (by decide) rfl (by decide) ?_
      refine z_aload_n ok dX7_count_107 rfl ?_
      refine z_getf ok dX7_count_108 zin_X7 rfl 7 (by decide) zw_778 hm.1 rfl ?_
      exact z_iret ok dX7_count_111 rfl rfl rfl (Nat.zero_le _) ⟨by first | (unfold spCount; rw [if_pos ⟨by decide, by decide⟩, tN_nI (by omega)]; rfl) | (unfold spCount; rw [if_neg hso]; grind), rfl⟩

