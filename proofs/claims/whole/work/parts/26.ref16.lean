theorem upd_upd (f : Nat → Int32) (j : Nat) (x y : Int32) : upd (upd f j x) j y = upd f j y := by
  funext k
  unfold upd
  split <;> rfl
theorem upd_s (f : Nat → Int32) (j : Nat) (x : Int32) : upd f j x j = x := if_pos rfl
theorem upd_n (f : Nat → Int32) {j k : Nat} (x : Int32) (h : k ≠ j) : upd f j x k = f k := if_neg h
theorem upd_cong {f g : Nat → Int32} {k : Nat} {x : Int32} (h : ∀ j, j < k → f j = g j) : ∀ j, j < k + 1 → upd f k x j = upd g k x j := by
  intro j hj
  unfold upd
  by_cases hjk : j = k
  · rw [if_pos hjk, if_pos hjk]
  · rw [if_neg hjk, if_neg hjk]
    exact h j (by omega)
def zCnt (w : Nat) : Nat := match w with | 0 => 2 | 1 => 3 | 2 => 1 | 3 => 3 | 4 => 2 | 5 => 5 | _ => 1
theorem zCnt_le (w : Nat) : zCnt w ≤ 5 := by
  unfold zCnt
  split <;> decide
theorem zNu_c (w : Nat) : zNu w = nI (zCnt w) := by
  match w with
  | 0 => rfl
  | 1 => rfl
  | 2 => rfl
  | 3 => rfl
  | 4 => rfl
  | 5 => rfl
  | _ + 6 => rfl
theorem zLast_c (p : Nat → Prop) [DecidablePred p] (f : Nat → Int32) (x : Int32) : ∀ n, zLast p f x n = x ∨ ∃ k, k < n ∧ zLast p f x n = f k ∧ p k
  | 0 => Or.inl rfl
  | n + 1 => by
    by_cases h : p n
    · exact Or.inr ⟨n, by omega, (zLast_t h).symm, h⟩
    · rw [← zLast_f h]
      rcases zLast_c p f x n with h2 | ⟨k, hk, h2⟩
      · exact Or.inl h2
      · exact Or.inr ⟨k, by omega, h2⟩
theorem zFind_c (a : Int64) : zFind a = -1000004 ∨ ∃ w, w < 7 ∧ zFind a = nI w := by
  rcases zLast_c (fun k => zWd k = a) (fun k => nI k) (-1000004) 7 with h | ⟨k, hk, h, _⟩
  · exact Or.inl h
  · exact Or.inr ⟨k, hk, h⟩
def zArgs (tx : Nat → Int32) (ty : Nat) : Nat → Nat → Nat → (Nat → Int32) → Option (Nat × (Nat → Int32))
  | 0, _, i, t => some (i, t)
  | f + 1, k, i, t => if zAt tx ty i 32 32 ∧ i + 1 < (zNm tx ty 3 (i + 1) 0).2 then zArgs tx ty f (k + 1) (zNm tx ty 3 (i + 1) 0).2 (upd t k (zNm tx ty 3 (i + 1) 0).1) else none
/-- a command of the text from i on: its word, where the next one starts, its numbers -/
def zRd (tx : Nat → Int32) (ty i : Nat) : Option (Nat × Nat × (Nat → Int32)) :=
  if zFind (zWl tx ty 6 i 0).1 = -1000004 then none else
    match zArgs tx ty (zCnt (tN (zFind (zWl tx ty 6 i 0).1))) 0 (zWl tx ty 6 i 0).2 (fun _ => 0) with
    | none => none
    | some q => if zAt tx ty q.1 59 59 then some (tN (zFind (zWl tx ty 6 i 0).1), q.1 + 1, q.2) else none
def zRdP (tx : Nat → Int32) (ty i : Nat) (x : Int32) (i' : Nat) (t : Nat → Int32) : Prop := match zRd tx ty i with
  | none => x = -1000004
  | some q => x = nI q.1 ∧ q.1 < 7 ∧ i' = q.2.1 ∧ i < i' ∧ ∀ j, j < zCnt q.1 → t j = q.2.2 j
set_option maxRecDepth 20000 in
set_option maxHeartbeats 4000000 in
theorem ct_X7_number {K : zK} {M : mM} {nx : Nat} {m : Nat} {μ : zMS} (hm : mPic M m μ) {ip ty kw : Nat} (hkw : kw < 5) (hi : μ.2 10 = nI ip) (hi8 : ip ≤ ty) (ht : μ.2 7 = nI ty) (ht8 : ty ≤ 80) : zCt K yX7_number cX7_number 3 zr_X7_number 2 [.ref m, .int (nI kw)] M nx 0 0 (zI (fun x M' => x = b2 (ip < (zNm (μ.1 5) ty 3 ip 0).2) ∧ mPic M' m (mS (mA μ 8 (upd (μ.1 8) kw (zNm (μ.1 5) ty 3 ip 0).1)) 10 (nI (zNm (μ.1 5) ty 3 ip 0).2)) ∧ zFr M M' m 9)) := by
  refine z_enter [some (.ref m), some (.int (nI kw)), none] (by decide +kernel) (Nat.le_of_ble_eq_true rfl) rfl (fun B ok hz => ?_)
  have J74 : ∀ (M1 : mM) (vv : Int32) (k9 : Nat), k9 ≤ 80 → (vv, k9) = zNm (μ.1 5) ty 3 ip 0 → mPic M1 m (mS (mA μ 8 (upd (μ.1 8) kw vv)) 10 (nI k9)) → zFr M M1 m 9 → zV 3 B (zE B (zI (fun x M' => x = b2 (ip < (zNm (μ.1 5) ty 3 ip 0).2) ∧ mPic M' m (mS (mA μ 8 (upd (μ.1 8) kw (zNm (μ.1 5) ty 3 ip 0).1)) 10 (nI (zNm (μ.1 5) ty 3 ip 0).2)) ∧ zFr M M' m 9)) 0 0) 74 [some (.ref m), some (.int (nI kw)), some (.int (nI ip))] [] M1 0 0 := by
    intro M1 vv k9 h80 hw hm1 hf1
    refine z_aload_n ok dX7_number_74 rfl ?_
    refine z_getf ok dX7_number_75 zin_X7 rfl 10 (by decide) zw_781 hm1.1 rfl ?_
    refine z_iload_n ok dX7_number_78 rfl ?_
    refine z_icmp_le (tgt := 86) ok dX7_number_79 (by decide) (fun cz79 => ?_) (fun cz79 => ?_)
    · have hz79 : k9 ≤ ip := (nI_leI (by omega) (by omega)).mp (by rw [mS_s] at cz79; exact cz79)
      have hle := zNm_le (μ.1 5) ty 3 ip 0
      rw [← hw] at hle
      have hz80 : ¬ ip < k9 := by omega
      refine z_iconst (v := 0) ok dX7_number_86 (by decide) ?_
      exact z_iret ok dX7_number_87 rfl (by rfl) rfl (Nat.zero_le _) ⟨by rw [← hw]; first | exact b2_t hz80 | exact b2_f hz80, by rw [← hw]; exact hm1, hf1⟩
    · have hz79 : ¬ k9 ≤ ip := mt (nI_leI (by omega) (by omega)).mpr (by rw [mS_s] at cz79; exact cz79)
      have hz80 : ip < k9 := by omega
      refine z_iconst (v := 1) ok dX7_number_82 (by decide) ?_
      refine z_goto (tgt := 87) ok dX7_number_83 (by decide) ?_
      exact z_iret ok dX7_number_87 rfl (by rfl) rfl (Nat.zero_le _) ⟨by rw [← hw]; first | exact b2_t hz80 | exact b2_f hz80, by rw [← hw]; exact hm1, hf1⟩
  have loop12 : ∀ (t9 ff k9 : Nat) (vv : Int32) (M1 : mM), ff < t9 → k9 + ff = ip + 3 → ip ≤ k9 → k9 ≤ ty → zNm (μ.1 5) ty ff k9 vv = zNm (μ.1 5) ty 3 ip 0 → mPic M1 m (mS (mA μ 8 (upd (μ.1 8) kw vv)) 10 (nI k9)) → zFr M M1 m 9 → zV 3 B (zE B (zI (fun x M' => x = b2 (ip < (zNm (μ.1 5) ty 3 ip 0).2) ∧ mPic M' m (mS (mA μ 8 (upd (μ.1 8) kw (zNm (μ.1 5) ty 3 ip 0).1)) 10 (nI (zNm (μ.1 5) ty 3 ip 0).2)) ∧ zFr M M' m 9)) 0 0) 12 [some (.ref m), some (.int (nI kw)), some (.int (nI ip))] [] M1 0 0 := by
    intro t9
    induction t9 with
    | zero => intro ff k9 vv M1 h1; exact absurd h1 (by omega)
    | succ t9 ih9 =>
      intro ff k9 vv M1 h1 h2 h3 h4 hEq hm1 hf1
      have hi1 : (mS (mA μ 8 (upd (μ.1 8) kw vv)) 10 (nI k9)).2 10 = nI k9 := mS_s _ _ _
      have ht1 : (mS (mA μ 8 (upd (μ.1 8) kw vv)) 10 (nI k9)).2 7 = nI ty := by rw [mS_n _ _ (by decide), mA_2]; exact ht
      have hk8 : k9 ≤ ty := h4
      refine z_aload_n ok dX7_number_12 rfl ?_
      refine z_bipush (v := 48) ok dX7_number_13 (by decide) ?_
      refine z_bipush (v := 57) ok dX7_number_15 (by decide) ?_
      refine z_callVi ok dX7_number_17 zm_X7_isAt zw_1029 zi_X7_isAt hm1.1 rfl (ct_X7_isAt hm1 hi1 hk8 ht1 ht8) rfl rfl (by decide) (by decide) (by decide) (Nat.le_of_ble_eq_true rfl) (fun xz1 Mz2 qz3 => ?_)
      obtain ⟨rfl, hMe⟩ := qz3
      obtain rfl := hMe.symm
      refine z_if_eq (tgt := 74) ok dX7_number_20 (by decide) (fun cz20 => ?_) (fun cz20 => ?_)
      · have hb20 := b2_0.mp cz20
        have hb21 : ¬ zAt (μ.1 5) ty k9 48 57 := hb20
        exact J74 _ _ _ (by omega) (by rw [← hEq]; cases ff with | zero => rfl | succ f9 => rw [zNm, if_neg hb21]) hm1 hf1
      · have hb20 := Decidable.not_not.mp (mt b2_0.mpr cz20)
        refine z_aload_n ok dX7_number_23 rfl ?_
        refine z_getf ok dX7_number_24 zin_X7 rfl 10 (by decide) zw_781 hm1.1 rfl ?_
        refine z_iload_n ok dX7_number_27 rfl ?_
        refine z_isub ok dX7_number_28 ?_
        refine z_iconst (v := 3) ok dX7_number_29 (by decide) ?_
        refine z_icmp_ge (tgt := 74) ok dX7_number_30 (by decide) (fun cz30 => ?_) (fun cz30 => ?_)
        · have hff : ff = 0 := by rw [mS_s, pk_sub (by omega), show (3 : Int32) = nI 3 from rfl, nI_leI (by omega) (by omega)] at cz30; omega
          exact J74 _ _ _ (by omega) (by rw [← hEq, hff]; rfl) hm1 hf1
        · obtain ⟨ff2, hff⟩ : ∃ z, ff = z + 1 := ⟨ff - 1, by rw [mS_s, pk_sub (by omega), show (3 : Int32) = nI 3 from rfl, nI_leI (by omega) (by omega)] at cz30; omega⟩
          subst hff
          refine z_aload_n ok dX7_number_33 rfl ?_
          refine z_getf ok dX7_number_34 zin_X7 rfl 13 (by decide) zw_784 hm1.1 rfl ?_
          refine z_iload_n ok dX7_number_37 rfl ?_
          refine z_bipush (v := 10) ok dX7_number_38 (by decide) ?_
          refine z_aload_n ok dX7_number_40 rfl ?_
          refine z_getf ok dX7_number_41 zin_X7 rfl 13 (by decide) zw_784 hm1.1 rfl ?_
          refine z_iload_n ok dX7_number_44 rfl ?_
          refine m_ald8 (j := kw) ok dX7_number_45 hm1 rfl hkw ?_
          refine z_imul ok dX7_number_46 ?_
          refine z_aload_n ok dX7_number_47 rfl ?_
          refine z_getf ok dX7_number_48 zin_X7 rfl 6 (by decide) zw_777 hm1.1 rfl ?_
          refine z_aload_n ok dX7_number_51 rfl ?_
          refine z_getf ok dX7_number_52 zin_X7 rfl 10 (by decide) zw_781 hm1.1 rfl ?_
          refine m_ald5 ok dX7_number_55 hm1 hi1 (by have := hb20.1; omega) ?_
          refine z_iadd ok dX7_number_56 ?_
          refine z_bipush (v := 48) ok dX7_number_57 (by decide) ?_
          refine z_isub ok dX7_number_59 ?_
          refine m_ast8 (j := kw) ok dX7_number_60 hm1 rfl hkw (fun Mz5 hm4 frz6 => ?_)
          refine z_aload_n ok dX7_number_61 rfl ?_
          refine z_dup ok dX7_number_62 rfl ?_
          refine z_getf ok dX7_number_63 zin_X7 rfl 10 (by decide) zw_781 hm4.1 rfl ?_
          refine z_iconst (v := 1) ok dX7_number_66 (by decide) ?_
          refine z_iadd ok dX7_number_67 ?_
          refine m_put10 ok dX7_number_68 zw_781 hm4 (fun Mz8 hm7 frz9 => ?_)
          refine z_goto (tgt := 12) ok dX7_number_71 (by decide) ?_
          exact ih9 ff2 (k9 + 1) _ _ (by omega) (by omega) (by omega) (by have := hb20.1; omega) (by rw [← hEq, zNm, if_pos (show zAt (μ.1 5) ty k9 48 57 from hb20)]) (by have h9 := hm7; simp only [mA_mS, mS_mS, mA_mA, mS_1, mS_s, mA_s, upd_s, upd_upd, nI_1] at h9; exact h9) (by repeat (first | assumption | exact zFr.rf | refine zFr.tr (by assumption) ?_))
  refine z_aload_n ok dX7_number_0 rfl ?_
  refine z_getf ok dX7_number_1 zin_X7 rfl 10 (by decide) zw_781 hm.1 rfl ?_
  refine z_istore_n ok dX7_number_4 (by decide) rfl ?_
  refine z_aload_n ok dX7_number_5 rfl ?_
  refine z_getf ok dX7_number_6 zin_X7 rfl 13 (by decide) zw_784 hm.1 rfl ?_
  refine z_iload_n ok dX7_number_9 rfl ?_
  refine z_iconst (v := 0) ok dX7_number_10 (by decide) ?_
  refine m_ast8 ok dX7_number_11 hm rfl hkw (fun Mz11 hm10 frz12 => ?_)
  rw [hi]
  exact loop12 4 3 ip 0 _ (by omega) rfl (Nat.le_refl _) hi8 rfl (by rw [← hi, ← mA_mS, mS_self]; exact hm10) (by repeat (first | assumption | exact zFr.rf | refine zFr.tr (by assumption) ?_))

theorem zRd_e {tx : Nat → Int32} {ty i : Nat} (h : zFind (zWl tx ty 6 i 0).1 = -1000004) : zRd tx ty i = none := if_pos h
theorem zRd_n {tx : Nat → Int32} {ty i w : Nat} (hw : w < 7) (h : zFind (zWl tx ty 6 i 0).1 = nI w) (ha : zArgs tx ty (zCnt w) 0 (zWl tx ty 6 i 0).2 (fun _ => 0) = none) : zRd tx ty i = none := by
  unfold zRd
  rw [h, tN_nI (by omega), ha]
  split <;> rfl
theorem zRd_q {tx : Nat → Int32} {ty i w : Nat} {q : Nat × (Nat → Int32)} (hw : w < 7) (h : zFind (zWl tx ty 6 i 0).1 = nI w) (ha : zArgs tx ty (zCnt w) 0 (zWl tx ty 6 i 0).2 (fun _ => 0) = some q) : zRd tx ty i = if zAt tx ty q.1 59 59 then some (w, q.1 + 1, q.2) else none := by
  unfold zRd
  have h4 : ¬ nI w = -1000004 := by
    intro h5
    have h6 := congrArg Int32.toInt h5
    rw [nI_toInt (by omega)] at h6
    exact absurd h6 (by rw [show ((-1000004 : Int32)).toInt = -1000004 from rfl]; omega)
  rw [h, tN_nI (by omega), ha, if_neg h4]
theorem ct_X7_passes2 {K : zK} {M : mM} {nx : Nat} {m : Nat} {μ : zMS} (hm : mPic M m μ) {tx : Nat → Int32} (htx : μ.1 5 = tx) {ip ty : Nat} (hi : μ.2 10 = nI ip) (hi8 : ip ≤ ty) (ht : μ.2 7 = nI ty) (ht8 : ty ≤ 80) {c : Int32} : zCt K yX7_passes cX7_passes 3 zr_X7_passes 2 [.ref m, .int c] M nx 0 0 (zI (fun x M' => x = b2 (zAt tx ty ip c c) ∧ ∃ i', (zAt tx ty ip c c → i' = ip + 1) ∧ (¬ zAt tx ty ip c c → i' = ip) ∧ mPic M' m (mS μ 10 (nI i')) ∧ zFr M M' m 9)) := by
  refine (ct_X7_passes hm hi hi8 ht ht8).mono (fun r M' h => ?_)
  obtain ⟨x, h1, h2, h3, h4⟩ := h
  rw [← htx]
  exact ⟨x, h1, h2, _, fun h => if_pos h, fun h => if_neg h, h3, h4⟩
theorem ct_X7_number2 {K : zK} {M : mM} {nx : Nat} {m : Nat} {μ : zMS} (hm : mPic M m μ) {tx t8 : Nat → Int32} (htx : μ.1 5 = tx) (ht8' : μ.1 8 = t8) {ip ty kw : Nat} (hkw : kw < 5) (hi : μ.2 10 = nI ip) (hi8 : ip ≤ ty) (ht : μ.2 7 = nI ty) (ht8 : ty ≤ 80) : zCt K yX7_number cX7_number 3 zr_X7_number 2 [.ref m, .int (nI kw)] M nx 0 0 (zI (fun x M' => x = b2 (ip < (zNm tx ty 3 ip 0).2) ∧ mPic M' m (mS (mA μ 8 (upd t8 kw (zNm tx ty 3 ip 0).1)) 10 (nI (zNm tx ty 3 ip 0).2)) ∧ zFr M M' m 9)) := by
  refine (ct_X7_number hm hkw hi hi8 ht ht8).mono (fun r M' h => ?_)
  obtain ⟨x, h1, h2, h3, h4⟩ := h
  rw [← htx, ← ht8']
  exact ⟨x, h1, h2, h3, h4⟩
set_option maxRecDepth 20000 in
set_option maxHeartbeats 4000000 in
theorem ct_X7_reads {K : zK} {M : mM} {nx : Nat} {m : Nat} {μ : zMS} (hm : mPic M m μ) {ip ty : Nat} (hi : μ.2 10 = nI ip) (hi8 : ip ≤ ty) (ht : μ.2 7 = nI ty) (ht8 : ty ≤ 80) : zCt K yX7_reads cX7_reads 4 zr_X7_reads 3 [.ref m] M nx 0 0 (zI (fun x M' => ∃ (tt : Nat → Int32) (ii : Nat), mPic M' m (mS (mA μ 8 tt) 10 (nI ii)) ∧ ii ≤ ty ∧ zFr M M' m 9 ∧ zRdP (μ.1 5) ty ip x ii tt)) := by
  refine z_enter [some (.ref m), none, none, none] (by decide +kernel) (Nat.le_of_ble_eq_true rfl) rfl (fun B ok hz => ?_)
  have J0 : ∀ (tt : Nat → Int32) (ii : Nat) (M1 : mM) (wv kv : Int32), zRd (μ.1 5) ty ip = none → ii ≤ ty → mPic M1 m (mS (mA μ 8 tt) 10 (nI ii)) → zFr M M1 m 9 → zV 4 B (zE B (zI (fun x M' => ∃ (tt : Nat → Int32) (ii : Nat), mPic M' m (mS (mA μ 8 tt) 10 (nI ii)) ∧ ii ≤ ty ∧ zFr M M' m 9 ∧ zRdP (μ.1 5) ty ip x ii tt)) 0 0) 17 [some (.ref m), some (.int wv), some (.int 0), some (.int kv)] [] M1 0 0 := by
    intro tt ii M1 wv kv hnn hii hm1 hf1
    refine z_iload_n ok dX7_reads_17 rfl ?_
    refine z_if_eq (tgt := 60) ok dX7_reads_18 (by decide) (fun _ => ?_) (fun q9 => absurd (by decide) q9)
    refine z_iload_n ok dX7_reads_60 rfl ?_
    refine z_if_eq (tgt := 77) ok dX7_reads_61 (by decide) (fun _ => ?_) (fun q9 => absurd (by decide) q9)
    refine z_ldc ok dX7_reads_77 zw_836 ?_
    exact z_iret ok dX7_reads_79 rfl rfl rfl (Nat.zero_le _) ⟨tt, ii, hm1, hii, hf1, by unfold zRdP; rw [hnn]⟩
  refine z_aload_n ok dX7_reads_0 rfl ?_
  refine z_callVi ok dX7_reads_1 zm_X7_word zw_1025 zi_X7_word hm.1 rfl (ct_X7_word hm hi hi8 ht ht8) rfl rfl (by decide) (by decide) (by decide) (Nat.le_of_ble_eq_true rfl) (fun xz13 Mz14 qz15 => ?_)
  obtain ⟨hxw, hm16, fwxz13⟩ := qz15
  have hle7 := zWl_le (μ.1 5) ty 6 ip 0
  have hle6 := hle7.2 hi8
  refine z_istore_n ok dX7_reads_4 (by decide) rfl ?_
  refine z_iload_n ok dX7_reads_5 rfl ?_
  refine z_if_lt (tgt := 13) ok dX7_reads_6 (by decide) (fun cz6 => ?_) (fun cz6 => ?_)
  · have hwe : zFind (zWl (μ.1 5) ty 6 ip 0).1 = -1000004 := by
      rcases zFind_c (zWl (μ.1 5) ty 6 ip 0).1 with h9 | ⟨w, hw7, h9⟩
      · exact h9
      · rw [hxw, h9] at cz6; exact absurd cz6 (by rw [Int32.lt_iff_toInt_lt, nI_toInt (by omega)]; show ¬ ((w : Nat) : Int) < 0; omega)
    refine z_iconst (v := 0) ok dX7_reads_13 (by decide) ?_
    refine z_istore_n ok dX7_reads_14 (by decide) rfl ?_
    refine z_iconst (v := 0) ok dX7_reads_15 (by decide) ?_
    refine z_istore_n ok dX7_reads_16 (by decide) rfl ?_
    exact J0 _ _ _ _ _ (zRd_e hwe) hle6 (by have h9 := hm16; rw [← mA_self μ 8] at h9; exact h9) (by repeat (first | assumption | exact zFr.rf | refine zFr.tr (by assumption) ?_))
  · obtain ⟨w, hw7, hwz⟩ : ∃ w, w < 7 ∧ zFind (zWl (μ.1 5) ty 6 ip 0).1 = nI w := by
      rcases zFind_c (zWl (μ.1 5) ty 6 ip 0).1 with h9 | h9
      · rw [hxw, h9] at cz6; exact absurd (by decide) cz6
      · exact h9
    have hxw2 := hxw.trans hwz
    rw [hxw2]
    have loop17 : ∀ (t9 kx ii : Nat) (tt ut : Nat → Int32) (M1 : mM), zCnt w < kx + t9 → kx ≤ zCnt w → ip ≤ ii → ii ≤ ty → zArgs (μ.1 5) ty (zCnt w - kx) kx ii ut = zArgs (μ.1 5) ty (zCnt w) 0 (zWl (μ.1 5) ty 6 ip 0).2 (fun _ => 0) → (∀ j, j < kx → tt j = ut j) → mPic M1 m (mS (mA μ 8 tt) 10 (nI ii)) → zFr M M1 m 9 → zV 4 B (zE B (zI (fun x M' => ∃ (tt : Nat → Int32) (ii : Nat), mPic M' m (mS (mA μ 8 tt) 10 (nI ii)) ∧ ii ≤ ty ∧ zFr M M' m 9 ∧ zRdP (μ.1 5) ty ip x ii tt)) 0 0) 17 [some (.ref m), some (.int (nI w)), some (.int 1), some (.int (nI kx))] [] M1 0 0 := by
      intro t9
      induction t9 with
      | zero => intro kx ii tt ut M1 h1 h2; exact absurd h1 (by omega)
      | succ t9 ih9 =>
        intro kx ii tt ut M1 h1 h2 h3 hk8 hEq hut hm1 hf1
        have hc5 := zCnt_le w
        have hi1 : (mS (mA μ 8 tt) 10 (nI ii)).2 10 = nI ii := mS_s _ _ _
        have htx : (mS (mA μ 8 tt) 10 (nI ii)).1 5 = μ.1 5 := by rw [mS_1, mA_n _ _ (by decide)]
        have ht8t : (mS (mA μ 8 tt) 10 (nI ii)).1 8 = tt := by rw [mS_1, mA_s]
        have ht1 : (mS (mA μ 8 tt) 10 (nI ii)).2 7 = nI ty := by rw [mS_n _ _ (by decide), mA_2]; exact ht
        refine z_iload_n ok dX7_reads_17 rfl ?_
        refine z_if_eq (tgt := 60) ok dX7_reads_18 (by decide) (fun q9 => absurd q9 (by decide)) (fun _ => ?_)
        refine z_iload_n ok dX7_reads_21 rfl ?_
        refine z_aload_n ok dX7_reads_22 rfl ?_
        refine z_getf ok dX7_reads_23 zin_X7 rfl 9 (by decide) zw_780 hm1.1 rfl ?_
        refine z_iload_n ok dX7_reads_26 rfl ?_
        refine m_ald7 (j := w) ok dX7_reads_27 hm1 rfl hw7 ?_
        refine z_icmp_ge (tgt := 60) ok dX7_reads_28 (by decide) (fun cz28 => ?_) (fun cz28 => ?_)
        · have hkc : kx = zCnt w := by have := (nI_leI (a := zCnt w) (b := kx) (by omega) (by omega)).mp (by rw [← zNu_c]; exact cz28); omega
          have hq9 := hEq
          rw [show zCnt w - kx = 0 by omega, zArgs] at hq9
          have hrd := zRd_q hw7 hwz hq9.symm
          refine z_iload_n ok dX7_reads_60 rfl ?_
          refine z_if_eq (tgt := 77) ok dX7_reads_61 (by decide) (fun q9 => absurd q9 (by decide)) (fun _ => ?_)
          refine z_aload_n ok dX7_reads_64 rfl ?_
          refine z_bipush (v := 59) ok dX7_reads_65 (by decide) ?_
          refine z_callVi ok dX7_reads_67 zm_X7_passes zw_1034 zi_X7_passes hm1.1 rfl (ct_X7_passes2 hm1 htx hi1 hk8 ht1 ht8) rfl rfl (by decide) (by decide) (by decide) (Nat.le_of_ble_eq_true rfl) (fun xz1 Mz2 qz3 => ?_)
          obtain ⟨rfl, ig, hg1, hg2, hm4, fpxz1⟩ := qz3
          refine z_if_eq (tgt := 77) ok dX7_reads_70 (by decide) (fun cz70 => ?_) (fun cz70 => ?_)
          · have hb70 := b2_0.mp cz70
            have hb71 := hb70
            have hnn : zRd (μ.1 5) ty ip = none := hrd.trans (if_neg hb71)
            refine z_ldc ok dX7_reads_77 zw_836 ?_
            exact z_iret ok dX7_reads_79 rfl rfl rfl (Nat.zero_le _) ⟨tt, _, (by have h9 := hm4; simp only [mA_mS, mS_mS, mA_mA, mS_1, mA_s] at h9; exact h9), (by first | (rw [hg2 hb70]; exact hk8) | (rw [hg1 hb70]; have := hb70.1; omega)), (by repeat (first | assumption | exact zFr.rf | refine zFr.tr (by assumption) ?_)), by unfold zRdP; first | rw [hnn] | (rw [hss]; exact ⟨rfl, hw7, hg1 hb70, by rw [hg1 hb70]; omega, fun jz hjz => hut jz (by have h9 : jz < zCnt w := hjz; omega)⟩)⟩
          · have hb70 := Decidable.not_not.mp (mt b2_0.mpr cz70)
            have hb71 := hb70
            have hss := hrd.trans (if_pos hb71)
            refine z_iload_n ok dX7_reads_73 rfl ?_
            refine z_goto (tgt := 79) ok dX7_reads_74 (by decide) ?_
            exact z_iret ok dX7_reads_79 rfl rfl rfl (Nat.zero_le _) ⟨tt, _, (by have h9 := hm4; simp only [mA_mS, mS_mS, mA_mA, mS_1, mA_s] at h9; exact h9), (by first | (rw [hg2 hb70]; exact hk8) | (rw [hg1 hb70]; have := hb70.1; omega)), (by repeat (first | assumption | exact zFr.rf | refine zFr.tr (by assumption) ?_)), by unfold zRdP; first | rw [hnn] | (rw [hss]; exact ⟨rfl, hw7, hg1 hb70, by rw [hg1 hb70]; omega, fun jz hjz => hut jz (by have h9 : jz < zCnt w := hjz; omega)⟩)⟩
        · have hkc : kx < zCnt w := by have := mt (nI_leI (a := zCnt w) (b := kx) (by omega) (by omega)).mpr (by rw [← zNu_c]; exact cz28); omega
          obtain ⟨f9, hf9, hf10⟩ : ∃ z, zCnt w - kx = z + 1 ∧ zCnt w - (kx + 1) = z := ⟨zCnt w - kx - 1, by omega, by omega⟩
          have hk5 : kx < 5 := by omega
          refine z_aload_n ok dX7_reads_31 rfl ?_
          refine z_bipush (v := 32) ok dX7_reads_32 (by decide) ?_
          refine z_callVi ok dX7_reads_34 zm_X7_passes zw_1034 zi_X7_passes hm1.1 rfl (ct_X7_passes2 hm1 htx hi1 hk8 ht1 ht8) rfl rfl (by decide) (by decide) (by decide) (Nat.le_of_ble_eq_true rfl) (fun xz5 Mz6 qz7 => ?_)
          obtain ⟨rfl, ig, hg1, hg2, hm8, fpxz5⟩ := qz7
          refine z_if_eq (tgt := 52) ok dX7_reads_37 (by decide) (fun cz37 => ?_) (fun cz37 => ?_)
          · have hb37 := b2_0.mp cz37
            have hb38 := hb37
            refine z_iconst (v := 0) ok dX7_reads_52 (by decide) ?_
            refine z_istore_n ok dX7_reads_53 (by decide) rfl ?_
            refine z_iinc ok dX7_reads_54 rfl rfl (by decide) rfl ?_
            refine z_goto (tgt := 17) ok dX7_reads_57 (by decide) ?_
            exact J0 _ ig _ _ _ (zRd_n hw7 hwz (by rw [← hEq, hf9, zArgs, if_neg (fun z9 => hb38 z9.1)])) (by rw [hg2 hb37]; exact hk8) (by have h9 := hm8; simp only [mA_mS, mS_mS, mA_mA, mS_1, mA_s] at h9; exact h9) (by repeat (first | assumption | exact zFr.rf | refine zFr.tr (by assumption) ?_))
          · have hb37 := Decidable.not_not.mp (mt b2_0.mpr cz37)
            have hb38 := hb37
            have hz37 : ii + 1 ≤ ty := by have := hb38.1; omega
            have hle8 := zNm_le (μ.1 5) ty 3 (ii + 1) 0
            have hle9 := hle8.2 hz37
            refine z_aload_n ok dX7_reads_40 rfl ?_
            refine z_iload_n ok dX7_reads_41 rfl ?_
            refine z_callVi ok dX7_reads_42 zm_X7_number zw_1038 zi_X7_number hm8.1 rfl (ct_X7_number2 hm8 htx ht8t hk5 (ip := ii + 1) (by rw [mS_s, hg1 hb37]) hz37 ht1 ht8) rfl rfl (by decide) (by decide) (by decide) (Nat.le_of_ble_eq_true rfl) (fun xz9 Mz10 qz11 => ?_)
            obtain ⟨rfl, hm12, fnxz9⟩ := qz11
            refine z_if_eq (tgt := 52) ok dX7_reads_45 (by decide) (fun cz45 => ?_) (fun cz45 => ?_)
            · have hb45 := b2_0.mp cz45
              have hb46 := hb45
              refine z_iconst (v := 0) ok dX7_reads_52 (by decide) ?_
              refine z_istore_n ok dX7_reads_53 (by decide) rfl ?_
              refine z_iinc ok dX7_reads_54 rfl rfl (by decide) rfl ?_
              refine z_goto (tgt := 17) ok dX7_reads_57 (by decide) ?_
              exact J0 _ _ _ _ _ (zRd_n hw7 hwz (by rw [← hEq, hf9, zArgs, if_neg (fun z9 => hb46 z9.2)])) hle9 (by have h9 := hm12; simp only [mA_mS, mS_mS, mA_mA, mS_1, mA_s] at h9; exact h9) (by repeat (first | assumption | exact zFr.rf | refine zFr.tr (by assumption) ?_))
            · have hb45 := Decidable.not_not.mp (mt b2_0.mpr cz45)
              have hb46 := hb45
              refine z_iconst (v := 1) ok dX7_reads_48 (by decide) ?_
              refine z_goto (tgt := 53) ok dX7_reads_49 (by decide) ?_
              refine z_istore_n ok dX7_reads_53 (by decide) rfl ?_
              refine z_iinc ok dX7_reads_54 rfl (zinc _) (by decide) rfl ?_
              refine z_goto (tgt := 17) ok dX7_reads_57 (by decide) ?_
              exact ih9 (kx + 1) _ _ (upd ut kx (zNm (μ.1 5) ty 3 (ii + 1) 0).1) _ (by omega) (by omega) (by omega) hle9 (by rw [hf10, ← hEq, hf9, zArgs, if_pos ⟨hb38, hb46⟩]) (upd_cong hut) (by have h9 := hm12; simp only [mA_mS, mS_mS, mA_mA, mS_1, mA_s] at h9; exact h9) (by repeat (first | assumption | exact zFr.rf | refine zFr.tr (by assumption) ?_))
    refine z_iconst (v := 1) ok dX7_reads_9 (by decide) ?_
    refine z_goto (tgt := 14) ok dX7_reads_10 (by decide) ?_
    refine z_istore_n ok dX7_reads_14 (by decide) rfl ?_
    refine z_iconst (v := 0) ok dX7_reads_15 (by decide) ?_
    refine z_istore_n ok dX7_reads_16 (by decide) rfl ?_
    exact loop17 (zCnt w + 1) 0 _ _ (fun _ => 0) _ (by omega) (by omega) hle7.1 hle6 rfl (fun jz hjz => absurd hjz (by omega)) (by have h9 := hm16; rw [← mA_self μ 8] at h9; exact h9) (by repeat (first | assumption | exact zFr.rf | refine zFr.tr (by assumption) ?_))

