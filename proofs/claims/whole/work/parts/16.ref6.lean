/-- the offer k of no goes -/
def zDrI (s : Nat → Int32) (no k i : Nat) : Nat → Int32 := fun j => if 237 + 5 * k ≤ j ∧ j < i then s (j + 5) else if j = 6 then nI (no - 1) else s j
def zDrop (s : Nat → Int32) (no k : Nat) : Nat → Int32 := zDrI s no k (237 + 5 * (no - 1))
theorem zDrI_step (s : Nat → Int32) (no k : Nat) {i : Nat} (h : 237 + 5 * k ≤ i) : upd (zDrI s no k i) i (zDrI s no k i (i + 5)) = zDrI s no k (i + 1) := by
  funext j
  unfold upd zDrI
  by_cases hj : j = i
  · subst hj
    rw [if_pos rfl, if_neg (by omega), if_neg (by omega), if_pos (by omega)]
  · rw [if_neg hj]
    have e1 : (237 + 5 * k ≤ j ∧ j < i + 1) ↔ (237 + 5 * k ≤ j ∧ j < i) := by omega
    simp only [e1]
theorem zDrI_0 (s : Nat → Int32) (no k : Nat) : zDrI s no k (237 + 5 * k) = upd s 6 (nI (no - 1)) := by
  funext j
  unfold upd zDrI
  rw [if_neg (by omega)]
theorem zDrop_N {s : Nat → Int32} {n nv no k : Nat} (h : zN s n nv no) : zN (zDrop s no k) n nv (no - 1) := by
  obtain ⟨h3, hn, h4, hv, h6, ho⟩ := h
  refine ⟨?_, hn, ?_, hv, ?_, by omega⟩
  · unfold zDrop zDrI; rw [if_neg (by omega), if_neg (by omega)]; exact h3
  · unfold zDrop zDrI; rw [if_neg (by omega), if_neg (by omega)]; exact h4
  · unfold zDrop zDrI; rw [if_neg (by omega), if_pos rfl]
set_option maxRecDepth 20000 in
set_option maxHeartbeats 4000000 in
theorem ct_X7_dropsOffer {K : zK} {M : mM} {nx : Nat} {m : Nat} {μ : zMS} (hm : mPic M m μ) {n nv no : Nat} (hN : zN (μ.1 1) n nv no) {k : Int32} {ik : Nat} (hk : k = nI ik) (hik : ik < no) : zCt K yX7_dropsOffer cX7_dropsOffer 3 zr_X7_dropsOffer 0 [.ref m, .int k] M nx 0 0 (zU (fun M' => mPic M' m (mA μ 1 (zDrop (μ.1 1) no ik)) ∧ zFr M M' m 9)) := by
  refine z_enter [some (.ref m), some (.int k), none] (by decide +kernel) (Nat.le_of_ble_eq_true rfl) rfl (fun B ok hz => ?_)
  have hn16 := hN.2.1
  have hno := hN.2.2.2.2.2
  have hpn : nI no - 1 = nI (no - 1) := by obtain ⟨z9, rfl⟩ : ∃ z, no = z + 1 := ⟨no - 1, by omega⟩; exact nI_pred z9
  subst hk
  refine z_aload_n ok dX7_dropsOffer_0 rfl ?_
  refine z_getf ok dX7_dropsOffer_1 zin_X7 rfl 0 (by decide) zw_771 hm.1 rfl ?_
  refine z_bipush (v := 6) ok dX7_dropsOffer_4 (by decide) ?_
  refine z_dup2 ok dX7_dropsOffer_6 rfl rfl ?_
  refine m_ald1 ok dX7_dropsOffer_7 hm rfl (by decide) ?_
  refine z_iconst (v := 1) ok dX7_dropsOffer_8 (by decide) ?_
  refine z_isub ok dX7_dropsOffer_9 ?_
  refine m_ast1 ok dX7_dropsOffer_10 hm rfl (by decide) (fun Mz2 hm1 frz3 => ?_)
  refine z_sipush (v := 237) ok dX7_dropsOffer_11 (by decide) ?_
  refine z_iconst (v := 5) ok dX7_dropsOffer_14 (by decide) ?_
  refine z_iload_n ok dX7_dropsOffer_15 rfl ?_
  refine z_imul ok dX7_dropsOffer_16 ?_
  refine z_iadd ok dX7_dropsOffer_17 ?_
  rw [show (237 : Int32) = nI 237 from rfl, show (5 : Int32) = nI 5 from rfl, pk_mul, nI_add]
  refine z_istore_n ok dX7_dropsOffer_18 (by decide) rfl ?_
  have loop19 : ∀ (t i : Nat) (M1 : mM), (237 + 5 * (no - 1)) < i + t → i ≤ (237 + 5 * (no - 1)) → 237 + 5 * ik ≤ i → mPic M1 m (mA μ 1 (zDrI (μ.1 1) no ik i)) → zFr M M1 m 9 → zV 3 B (zE B (zU (fun M' => mPic M' m (mA μ 1 (zDrop (μ.1 1) no ik)) ∧ zFr M M' m 9)) 0 0) 19 [some (.ref m), some (.int (nI ik)), some (.int (nI i))] [] M1 0 0 := by
    intro t
    induction t with
    | zero => intro i M1 h1 h2; exact absurd h1 (by omega)
    | succ t ih =>
      intro i M1 h1 h2 hki hm1 hf1
      have h6 : zDrI (μ.1 1) no ik i 6 = nI (no - 1) := by unfold zDrI; rw [if_neg (by omega), if_pos rfl]
      refine z_iload_n ok dX7_dropsOffer_19 rfl ?_
      refine z_sipush (v := 237) ok dX7_dropsOffer_20 (by decide) ?_
      refine z_iconst (v := 5) ok dX7_dropsOffer_23 (by decide) ?_
      refine z_aload_n ok dX7_dropsOffer_24 rfl ?_
      refine z_getf ok dX7_dropsOffer_25 zin_X7 rfl 0 (by decide) zw_771 hm1.1 rfl ?_
      refine z_bipush (v := 6) ok dX7_dropsOffer_28 (by decide) ?_
      refine m_ald1 ok dX7_dropsOffer_30 hm1 rfl (by decide) ?_
      refine z_imul ok dX7_dropsOffer_31 ?_
      refine z_iadd ok dX7_dropsOffer_32 ?_
      rw [mA_s, h6, show (237 : Int32) = nI 237 from rfl, show (5 : Int32) = nI 5 from rfl, pk_mul, nI_add]
      refine z_icmp_ge (tgt := 56) ok dX7_dropsOffer_33 (by decide) (fun cz33 => ?_) (fun cz33 => ?_)
      · have hin : i = (237 + 5 * (no - 1)) := by rw [nI_leI (by omega) (by omega)] at cz33; omega
        exact z_vret ok dX7_dropsOffer_56 rfl rfl (Nat.zero_le _) ⟨by rw [hin] at hm1; exact hm1, hf1⟩
      · have hin : i < (237 + 5 * (no - 1)) := by rw [nI_leI (by omega) (by omega)] at cz33; omega
        refine z_aload_n ok dX7_dropsOffer_36 rfl ?_
        refine z_getf ok dX7_dropsOffer_37 zin_X7 rfl 0 (by decide) zw_771 hm1.1 rfl ?_
        refine z_iload_n ok dX7_dropsOffer_40 rfl ?_
        refine z_aload_n ok dX7_dropsOffer_41 rfl ?_
        refine z_getf ok dX7_dropsOffer_42 zin_X7 rfl 0 (by decide) zw_771 hm1.1 rfl ?_
        refine z_iload_n ok dX7_dropsOffer_45 rfl ?_
        refine z_iconst (v := 5) ok dX7_dropsOffer_46 (by decide) ?_
        refine z_iadd ok dX7_dropsOffer_47 ?_
        refine m_ald1 ok dX7_dropsOffer_48 hm1 (by rw [show (5 : Int32) = nI 5 from rfl, nI_add]) (by omega) ?_
        refine m_ast1 ok dX7_dropsOffer_49 hm1 rfl (by omega) (fun Mz5 hm4 frz6 => ?_)
        refine z_iinc ok dX7_dropsOffer_50 rfl (zinc _) (by decide) rfl ?_
        refine z_goto (tgt := 19) ok dX7_dropsOffer_53 (by decide) ?_
        exact ih (i + 1) _ (by omega) (by omega) (by omega) (by rw [← zDrI_step _ _ _ hki]; rw [mA_mA, mA_s] at hm4; exact hm4) (by repeat (first | assumption | exact zFr.rf | refine zFr.tr (by assumption) ?_))
  exact loop19 ((237 + 5 * (no - 1)) + 1) (237 + 5 * ik) _ (by omega) (by omega) (by omega) (by rw [zDrI_0]; rw [hN.2.2.2.2.1, hpn] at hm1; exact hm1) (by repeat (first | assumption | exact zFr.rf | refine zFr.tr (by assumption) ?_))

abbrev zOk1 (s : Nat → Int32) (place hour room bound : Int32) (k : Nat) : Prop := od s k 0 = place ∧ hour ≤ od s k 4 ∧ od s k 1 ≤ room ∧ od s k 2 ≤ bound
def zBest (s : Nat → Int32) (place hour room bound : Int32) : Nat → Option Nat
  | 0 => none
  | k + 1 => match zBest s place hour room bound k with
    | none => if zOk1 s place hour room bound k then some k else none
    | some b => if zOk1 s place hour room bound k ∧ od s b 3 < od s k 3 then some k else some b
def zTake (place hour : Int32) : Nat → (Nat → Int32) → Int32 → Int32 → Int32 → (Nat → Int32) × Int32
  | 0, s, _, _, t => (s, t)
  | no + 1, s, room, bound, t => match zBest s place hour room bound (no + 1) with
    | none => (s, t)
    | some b => zTake place hour no (zDrop s (no + 1) b) (room - od s b 1) (bound - od s b 2) (t + od s b 3)
theorem zBest_lt {s : Nat → Int32} {place hour room bound : Int32} : ∀ {n k : Nat}, zBest s place hour room bound n = some k → k < n ∧ zOk1 s place hour room bound k
  | 0, k, h => by simp [zBest] at h
  | c + 1, k, h => by
    rw [zBest] at h
    cases hp : zBest s place hour room bound c with
    | none =>
      rw [hp] at h
      simp only at h
      split at h
      · next hm => cases h; exact ⟨Nat.lt_succ_self _, hm⟩
      · cases h
    | some j =>
      rw [hp] at h
      simp only at h
      split at h
      · next hm => cases h; exact ⟨Nat.lt_succ_self _, hm.1⟩
      · cases h
        have ih := zBest_lt hp
        exact ⟨Nat.lt_succ_of_lt ih.1, ih.2⟩
theorem zBest_keep {s : Nat → Int32} {place hour room bound : Int32} {i : Nat} (h : ¬ zOk1 s place hour room bound i) : zBest s place hour room bound i = zBest s place hour room bound (i + 1) := by
  rw [zBest]
  cases zBest s place hour room bound i with
  | none => simp only; rw [if_neg h]
  | some k => simp only; rw [if_neg (fun z => h z.1)]
theorem zBest_first {s : Nat → Int32} {place hour room bound : Int32} {i : Nat} (h : zOk1 s place hour room bound i) (hp : zBest s place hour room bound i = none) : zBest s place hour room bound (i + 1) = some i := by
  rw [zBest, hp]
  exact if_pos h
theorem zBest_new {s : Nat → Int32} {place hour room bound : Int32} {i k : Nat} (h : zOk1 s place hour room bound i) (hp : zBest s place hour room bound i = some k) (ha : od s k 3 < od s i 3) : zBest s place hour room bound (i + 1) = some i := by
  rw [zBest, hp]
  exact if_pos ⟨h, ha⟩
theorem zBest_old {s : Nat → Int32} {place hour room bound : Int32} {i k : Nat} (hp : zBest s place hour room bound i = some k) (ha : ¬ od s k 3 < od s i 3) : zBest s place hour room bound i = zBest s place hour room bound (i + 1) := by
  rw [zBest, hp]
  exact (if_neg (fun z => ha z.2)).symm
theorem zTake_none {place hour : Int32} {no : Nat} {s : Nat → Int32} {room bound t : Int32} (h : zBest s place hour room bound no = none) : zTake place hour no s room bound t = (s, t) := by
  cases no with
  | zero => rfl
  | succ f => rw [zTake, h]
theorem zTake_some {place hour : Int32} {no b : Nat} {s : Nat → Int32} {room bound t : Int32} (h : zBest s place hour room bound no = some b) : zTake place hour no s room bound t = zTake place hour (no - 1) (zDrop s no b) (room - od s b 1) (bound - od s b 2) (t + od s b 3) := by
  cases no with
  | zero => simp [zBest] at h
  | succ f => rw [zTake, h]; rfl
theorem zTake_N {place hour : Int32} {n nv : Nat} : ∀ {no : Nat} {s : Nat → Int32} {room bound t : Int32}, zN s n nv no → ∃ no', no' ≤ no ∧ zN (zTake place hour no s room bound t).1 n nv no'
  | 0, s, _, _, _, h => ⟨0, Nat.le_refl _, h⟩
  | no + 1, s, room, bound, t, h => by
    cases hb : zBest s place hour room bound (no + 1) with
    | none => rw [zTake_none hb]; exact ⟨_, Nat.le_refl _, h⟩
    | some b =>
      rw [zTake_some hb]
      obtain ⟨no', h1, h2⟩ := zTake_N (place := place) (hour := hour) (room := room - od s b 1) (bound := bound - od s b 2) (t := t + od s b 3) (zDrop_N (k := b) h)
      exact ⟨no', by omega, h2⟩
set_option maxRecDepth 20000 in
set_option maxHeartbeats 4000000 in
theorem ct_X7_takes {K : zK} {M : mM} {nx : Nat} {m : Nat} {μ : zMS} (hm : mPic M m μ) {n nv no : Nat} (hN : zN (μ.1 1) n nv no) {v place hour : Int32} {iv : Nat} (hv : v = nI iv) (hiv : iv < 4) : zCt K yX7_takes cX7_takes 10 zr_X7_takes 1 [.ref m, .int v, .int place, .int hour] M nx 0 0 (zI (fun x M' => x = (zTake place hour no (μ.1 1) (vd (μ.1 1) iv 0) (vd (μ.1 1) iv 1) 0).2 ∧ mPic M' m (mA μ 1 (zTake place hour no (μ.1 1) (vd (μ.1 1) iv 0) (vd (μ.1 1) iv 1) 0).1) ∧ zFr M M' m 9)) := by
  refine z_enter [some (.ref m), some (.int v), some (.int place), some (.int hour), none, none, none, none, none, none] (by decide +kernel) (Nat.le_of_ble_eq_true rfl) rfl (fun B ok hz => ?_)
  have hn16 := hN.2.1
  have hnv4 := hN.2.2.2.1
  subst hv
  have loop9 : ∀ (t9 n9 : Nat) (ss : Nat → Int32) (M1 : mM) (rr bb tt nx : Int32) (w8 w9 : Option Value), n9 < t9 → mPic M1 m (mA μ 1 ss) → zFr M M1 m 9 → zN ss n nv n9 → ¬ nx < 0 → zTake place hour n9 ss rr bb tt = zTake place hour no (μ.1 1) (vd (μ.1 1) iv 0) (vd (μ.1 1) iv 1) 0 → zV 10 B (zE B (zI (fun x M' => x = (zTake place hour no (μ.1 1) (vd (μ.1 1) iv 0) (vd (μ.1 1) iv 1) 0).2 ∧ mPic M' m (mA μ 1 (zTake place hour no (μ.1 1) (vd (μ.1 1) iv 0) (vd (μ.1 1) iv 1) 0).1) ∧ zFr M M' m 9)) 0 0) 22 [some (.ref m), some (.int (nI iv)), some (.int place), some (.int hour), some (.int rr), some (.int bb), some (.int tt), some (.int nx), w8, w9] [] M1 0 0 := by
    intro t9
    induction t9 with
    | zero => intro n9 ss M1 rr bb tt nx w8 w9 h1; exact absurd h1 (by omega)
    | succ t9 ih9 =>
      intro n9 ss M1 rr bb tt nx w8 w9 h1 hm1 hf1 hN0 hnx hEq
      have hno9 := hN0.2.2.2.2.2
      have hN1 : zN ((mA μ 1 ss).1 1) n nv n9 := by rw [mA_s]; exact hN0
      refine z_iload ok dX7_takes_22 rfl ?_
      refine z_if_lt (tgt := 191) ok dX7_takes_24 (by decide) (fun q9 => absurd q9 hnx) (fun _ => ?_)
      refine z_ldc ok dX7_takes_27 zw_836 ?_
      refine z_istore ok dX7_takes_29 (by decide) rfl ?_
      refine z_iconst (v := 0) ok dX7_takes_31 (by decide) ?_
      refine z_istore ok dX7_takes_32 (by decide) rfl ?_
      have loop34 : ∀ (t i : Nat) (y : Int32) (w9 : Option Value), n9 < i + t → i ≤ n9 → y = o2i (zBest ss place hour rr bb i) → zV 10 B (zE B (zI (fun x M' => x = (zTake place hour no (μ.1 1) (vd (μ.1 1) iv 0) (vd (μ.1 1) iv 1) 0).2 ∧ mPic M' m (mA μ 1 (zTake place hour no (μ.1 1) (vd (μ.1 1) iv 0) (vd (μ.1 1) iv 1) 0).1) ∧ zFr M M' m 9)) 0 0) 34 [some (.ref m), some (.int (nI iv)), some (.int place), some (.int hour), some (.int rr), some (.int bb), some (.int tt), some (.int y), some (.int (nI i)), w9] [] M1 0 0 := by
        intro t
        induction t with
        | zero => intro i y w9 h1 h2; exact absurd h1 (by omega)
        | succ t ih =>
          intro i y w9 h1 h2 hy
          refine z_iload ok dX7_takes_34 rfl ?_
          refine z_aload_n ok dX7_takes_36 rfl ?_
          refine z_getf ok dX7_takes_37 zin_X7 rfl 0 (by decide) zw_771 hm1.1 rfl ?_
          refine z_bipush (v := 6) ok dX7_takes_40 (by decide) ?_
          refine m_ald1 ok dX7_takes_42 hm1 rfl (by decide) ?_
          refine z_icmp_ge (tgt := 141) ok dX7_takes_43 (by decide) (fun cz43 => ?_) (fun cz43 => ?_)
          · have hin : i = n9 := by rw [mA_s, hN0.2.2.2.2.1, nI_leI (by omega) (by omega)] at cz43; omega
            rw [hin] at hy
            refine z_iload ok dX7_takes_141 rfl ?_
            refine z_if_lt (tgt := 22) ok dX7_takes_143 (by decide) (fun cz143 => ?_) (fun cz143 => ?_)
            · have hpk : zBest ss place hour rr bb n9 = none := o2i_none (fun k9 h9 => by have := (zBest_lt h9).1; omega) (by rw [← hy]; exact cz143)
              refine z_iload ok dX7_takes_22 rfl ?_
              refine z_if_lt (tgt := 191) ok dX7_takes_24 (by decide) (fun _ => ?_) (fun q9 => absurd cz143 q9)
              refine z_iload ok dX7_takes_191 rfl ?_
              exact z_iret ok dX7_takes_193 rfl rfl rfl (Nat.zero_le _) ⟨by rw [← hEq, zTake_none hpk], by rw [← hEq, zTake_none hpk]; exact hm1, hf1⟩
            · obtain ⟨kk9, hpk⟩ := o2i_some (o := zBest ss place hour rr bb n9) (by rw [← hy]; exact cz143)
              have hkn : kk9 < n9 := (zBest_lt hpk).1
              have hyk : y = nI kk9 := by rw [hy, hpk]; rfl
              subst hyk
              refine z_iload ok dX7_takes_146 rfl ?_
              refine z_aload_n ok dX7_takes_148 rfl ?_
              refine z_iload ok dX7_takes_149 rfl ?_
              refine z_iconst (v := 1) ok dX7_takes_151 (by decide) ?_
              refine z_callVi ok dX7_takes_152 zm_X7_ofOffer zw_941 zi_X7_ofOffer hm1.1 rfl (ct_X7_ofOffer hm1 (i := kk9) (k := 1) rfl rfl (by omega)) rfl rfl (by decide) (by decide) (by decide) (Nat.le_of_ble_eq_true rfl) (fun xz1 Mz2 qz3 => ?_)
              obtain ⟨rfl, hMe⟩ := qz3
              obtain rfl := hMe.symm
              refine z_isub ok dX7_takes_155 ?_
              refine z_istore ok dX7_takes_156 (by decide) rfl ?_
              refine z_iload ok dX7_takes_158 rfl ?_
              refine z_aload_n ok dX7_takes_160 rfl ?_
              refine z_iload ok dX7_takes_161 rfl ?_
              refine z_iconst (v := 2) ok dX7_takes_163 (by decide) ?_
              refine z_callVi ok dX7_takes_164 zm_X7_ofOffer zw_941 zi_X7_ofOffer hm1.1 rfl (ct_X7_ofOffer hm1 (i := kk9) (k := 2) rfl rfl (by omega)) rfl rfl (by decide) (by decide) (by decide) (Nat.le_of_ble_eq_true rfl) (fun xz4 Mz5 qz6 => ?_)
              obtain ⟨rfl, hMe⟩ := qz6
              obtain rfl := hMe.symm
              refine z_isub ok dX7_takes_167 ?_
              refine z_istore ok dX7_takes_168 (by decide) rfl ?_
              refine z_iload ok dX7_takes_170 rfl ?_
              refine z_aload_n ok dX7_takes_172 rfl ?_
              refine z_iload ok dX7_takes_173 rfl ?_
              refine z_iconst (v := 3) ok dX7_takes_175 (by decide) ?_
              refine z_callVi ok dX7_takes_176 zm_X7_ofOffer zw_941 zi_X7_ofOffer hm1.1 rfl (ct_X7_ofOffer hm1 (i := kk9) (k := 3) rfl rfl (by omega)) rfl rfl (by decide) (by decide) (by decide) (Nat.le_of_ble_eq_true rfl) (fun xz7 Mz8 qz9 => ?_)
              obtain ⟨rfl, hMe⟩ := qz9
              obtain rfl := hMe.symm
              refine z_iadd ok dX7_takes_179 ?_
              refine z_istore ok dX7_takes_180 (by decide) rfl ?_
              refine z_aload_n ok dX7_takes_182 rfl ?_
              refine z_iload ok dX7_takes_183 rfl ?_
              refine z_callVv ok dX7_takes_185 zm_X7_dropsOffer zw_945 zi_X7_dropsOffer hm1.1 rfl (ct_X7_dropsOffer hm1 hN1 rfl hkn) rfl rfl (by decide) (by decide) (by decide) (Nat.le_of_ble_eq_true rfl) (fun Mz11 qz12 => ?_)
              obtain ⟨hm13, fzqxz10⟩ := qz12
              try simp only [mA_s, mA_mA] at hm13
              refine z_goto (tgt := 22) ok dX7_takes_188 (by decide) ?_
              exact ih9 (n9 - 1) _ _ _ _ _ _ _ _ (by omega) hm13 (hf1.tr (by assumption)) (zDrop_N hN0) (nI_pos (by omega)) (by rw [← hEq, zTake_some hpk]; simp only [mA_s])
          · have hin : i < n9 := by rw [mA_s, hN0.2.2.2.2.1, nI_leI (by omega) (by omega)] at cz43; omega
            refine z_aload_n ok dX7_takes_46 rfl ?_
            refine z_iload ok dX7_takes_47 rfl ?_
            refine z_iconst (v := 0) ok dX7_takes_49 (by decide) ?_
            refine z_callVi ok dX7_takes_50 zm_X7_ofOffer zw_941 zi_X7_ofOffer hm1.1 rfl (ct_X7_ofOffer hm1 (i := i) (k := 0) rfl rfl (by omega)) rfl rfl (by decide) (by decide) (by decide) (Nat.le_of_ble_eq_true rfl) (fun xz14 Mz15 qz16 => ?_)
            obtain ⟨rfl, hMe⟩ := qz16
            obtain rfl := hMe.symm
            refine z_iload_n ok dX7_takes_53 rfl ?_
            refine z_icmp_ne (tgt := 96) ok dX7_takes_54 (by decide) (fun cz54 => ?_) (fun cz54 => ?_)
            · have hb : ¬ zOk1 ss place hour rr bb i := fun z9 => cz54 (by simpa only [mA_s] using z9.1)
              refine z_iconst (v := 0) ok dX7_takes_96 (by decide) ?_
              refine z_istore ok dX7_takes_97 (by decide) rfl ?_
              refine z_iload ok dX7_takes_99 rfl ?_
              refine z_if_eq (tgt := 131) ok dX7_takes_101 (by decide) (fun _ => ?_) (fun q9 => absurd (by decide) q9)
              refine z_iload ok dX7_takes_131 rfl ?_
              refine z_istore ok dX7_takes_133 (by decide) rfl ?_
              refine z_iinc ok dX7_takes_135 rfl (zinc _) (by decide) rfl ?_
              refine z_goto (tgt := 34) ok dX7_takes_138 (by decide) ?_
              exact ih (i + 1) _ _ (by omega) (by omega) (by first | (rw [← zBest_keep hb]; exact hy) | (rw [zBest_first hb hpk]; rfl) | (rw [zBest_new hb hpk (by simpa only [mA_s] using i_nle cz123)]; rfl) | (rw [← zBest_old hpk (by simpa only [mA_s] using Int32.not_lt.mpr cz123)]; exact hy))
            · refine z_aload_n ok dX7_takes_57 rfl ?_
              refine z_iload ok dX7_takes_58 rfl ?_
              refine z_iconst (v := 4) ok dX7_takes_60 (by decide) ?_
              refine z_callVi ok dX7_takes_61 zm_X7_ofOffer zw_941 zi_X7_ofOffer hm1.1 rfl (ct_X7_ofOffer hm1 (i := i) (k := 4) rfl rfl (by omega)) rfl rfl (by decide) (by decide) (by decide) (Nat.le_of_ble_eq_true rfl) (fun xz17 Mz18 qz19 => ?_)
              obtain ⟨rfl, hMe⟩ := qz19
              obtain rfl := hMe.symm
              refine z_iload_n ok dX7_takes_64 rfl ?_
              refine z_icmp_lt (tgt := 96) ok dX7_takes_65 (by decide) (fun cz65 => ?_) (fun cz65 => ?_)
              · have hb : ¬ zOk1 ss place hour rr bb i := fun z9 => absurd z9.2.1 (i_lt_n (by simpa only [mA_s] using cz65))
                refine z_iconst (v := 0) ok dX7_takes_96 (by decide) ?_
                refine z_istore ok dX7_takes_97 (by decide) rfl ?_
                refine z_iload ok dX7_takes_99 rfl ?_
                refine z_if_eq (tgt := 131) ok dX7_takes_101 (by decide) (fun _ => ?_) (fun q9 => absurd (by decide) q9)
                refine z_iload ok dX7_takes_131 rfl ?_
                refine z_istore ok dX7_takes_133 (by decide) rfl ?_
                refine z_iinc ok dX7_takes_135 rfl (zinc _) (by decide) rfl ?_
                refine z_goto (tgt := 34) ok dX7_takes_138 (by decide) ?_
                exact ih (i + 1) _ _ (by omega) (by omega) (by first | (rw [← zBest_keep hb]; exact hy) | (rw [zBest_first hb hpk]; rfl) | (rw [zBest_new hb hpk (by simpa only [mA_s] using i_nle cz123)]; rfl) | (rw [← zBest_old hpk (by simpa only [mA_s] using Int32.not_lt.mpr cz123)]; exact hy))
              · refine z_aload_n ok dX7_takes_68 rfl ?_
                refine z_iload ok dX7_takes_69 rfl ?_
                refine z_iconst (v := 1) ok dX7_takes_71 (by decide) ?_
                refine z_callVi ok dX7_takes_72 zm_X7_ofOffer zw_941 zi_X7_ofOffer hm1.1 rfl (ct_X7_ofOffer hm1 (i := i) (k := 1) rfl rfl (by omega)) rfl rfl (by decide) (by decide) (by decide) (Nat.le_of_ble_eq_true rfl) (fun xz20 Mz21 qz22 => ?_)
                obtain ⟨rfl, hMe⟩ := qz22
                obtain rfl := hMe.symm
                refine z_iload ok dX7_takes_75 rfl ?_
                refine z_icmp_gt (tgt := 96) ok dX7_takes_77 (by decide) (fun cz77 => ?_) (fun cz77 => ?_)
                · have hb : ¬ zOk1 ss place hour rr bb i := fun z9 => absurd z9.2.2.1 (i_lt_n (by simpa only [mA_s] using cz77))
                  refine z_iconst (v := 0) ok dX7_takes_96 (by decide) ?_
                  refine z_istore ok dX7_takes_97 (by decide) rfl ?_
                  refine z_iload ok dX7_takes_99 rfl ?_
                  refine z_if_eq (tgt := 131) ok dX7_takes_101 (by decide) (fun _ => ?_) (fun q9 => absurd (by decide) q9)
                  refine z_iload ok dX7_takes_131 rfl ?_
                  refine z_istore ok dX7_takes_133 (by decide) rfl ?_
                  refine z_iinc ok dX7_takes_135 rfl (zinc _) (by decide) rfl ?_
                  refine z_goto (tgt := 34) ok dX7_takes_138 (by decide) ?_
                  exact ih (i + 1) _ _ (by omega) (by omega) (by first | (rw [← zBest_keep hb]; exact hy) | (rw [zBest_first hb hpk]; rfl) | (rw [zBest_new hb hpk (by simpa only [mA_s] using i_nle cz123)]; rfl) | (rw [← zBest_old hpk (by simpa only [mA_s] using Int32.not_lt.mpr cz123)]; exact hy))
                · refine z_aload_n ok dX7_takes_80 rfl ?_
                  refine z_iload ok dX7_takes_81 rfl ?_
                  refine z_iconst (v := 2) ok dX7_takes_83 (by decide) ?_
                  refine z_callVi ok dX7_takes_84 zm_X7_ofOffer zw_941 zi_X7_ofOffer hm1.1 rfl (ct_X7_ofOffer hm1 (i := i) (k := 2) rfl rfl (by omega)) rfl rfl (by decide) (by decide) (by decide) (Nat.le_of_ble_eq_true rfl) (fun xz23 Mz24 qz25 => ?_)
                  obtain ⟨rfl, hMe⟩ := qz25
                  obtain rfl := hMe.symm
                  refine z_iload ok dX7_takes_87 rfl ?_
                  refine z_icmp_gt (tgt := 96) ok dX7_takes_89 (by decide) (fun cz89 => ?_) (fun cz89 => ?_)
                  · have hb : ¬ zOk1 ss place hour rr bb i := fun z9 => absurd z9.2.2.2 (i_lt_n (by simpa only [mA_s] using cz89))
                    refine z_iconst (v := 0) ok dX7_takes_96 (by decide) ?_
                    refine z_istore ok dX7_takes_97 (by decide) rfl ?_
                    refine z_iload ok dX7_takes_99 rfl ?_
                    refine z_if_eq (tgt := 131) ok dX7_takes_101 (by decide) (fun _ => ?_) (fun q9 => absurd (by decide) q9)
                    refine z_iload ok dX7_takes_131 rfl ?_
                    refine z_istore ok dX7_takes_133 (by decide) rfl ?_
                    refine z_iinc ok dX7_takes_135 rfl (zinc _) (by decide) rfl ?_
                    refine z_goto (tgt := 34) ok dX7_takes_138 (by decide) ?_
                    exact ih (i + 1) _ _ (by omega) (by omega) (by first | (rw [← zBest_keep hb]; exact hy) | (rw [zBest_first hb hpk]; rfl) | (rw [zBest_new hb hpk (by simpa only [mA_s] using i_nle cz123)]; rfl) | (rw [← zBest_old hpk (by simpa only [mA_s] using Int32.not_lt.mpr cz123)]; exact hy))
                  · have hb : zOk1 ss place hour rr bb i := ⟨by simpa only [mA_s] using cz54, i_nlt (by simpa only [mA_s] using cz65), i_nlt (by simpa only [mA_s] using cz77), i_nlt (by simpa only [mA_s] using cz89)⟩
                    refine z_iconst (v := 1) ok dX7_takes_92 (by decide) ?_
                    refine z_goto (tgt := 97) ok dX7_takes_93 (by decide) ?_
                    refine z_istore ok dX7_takes_97 (by decide) rfl ?_
                    refine z_iload ok dX7_takes_99 rfl ?_
                    refine z_if_eq (tgt := 131) ok dX7_takes_101 (by decide) (fun q9 => absurd q9 (by decide)) (fun _ => ?_)
                    refine z_iload ok dX7_takes_104 rfl ?_
                    refine z_if_lt (tgt := 126) ok dX7_takes_106 (by decide) (fun cz106 => ?_) (fun cz106 => ?_)
                    · have hpk : zBest ss place hour rr bb i = none := o2i_none (fun k9 h9 => by have := (zBest_lt h9).1; omega) (by rw [← hy]; exact cz106)
                      refine z_iload ok dX7_takes_126 rfl ?_
                      refine z_goto (tgt := 133) ok dX7_takes_128 (by decide) ?_
                      refine z_istore ok dX7_takes_133 (by decide) rfl ?_
                      refine z_iinc ok dX7_takes_135 rfl (zinc _) (by decide) rfl ?_
                      refine z_goto (tgt := 34) ok dX7_takes_138 (by decide) ?_
                      exact ih (i + 1) _ _ (by omega) (by omega) (by first | (rw [← zBest_keep hb]; exact hy) | (rw [zBest_first hb hpk]; rfl) | (rw [zBest_new hb hpk (by simpa only [mA_s] using i_nle cz123)]; rfl) | (rw [← zBest_old hpk (by simpa only [mA_s] using Int32.not_lt.mpr cz123)]; exact hy))
                    · obtain ⟨kk9, hpk⟩ := o2i_some (o := zBest ss place hour rr bb i) (by rw [← hy]; exact cz106)
                      have hkn : kk9 < n9 := by have := (zBest_lt hpk).1; omega
                      have hyk : y = nI kk9 := by rw [hy, hpk]; rfl
                      subst hyk
                      refine z_aload_n ok dX7_takes_109 rfl ?_
                      refine z_iload ok dX7_takes_110 rfl ?_
                      refine z_iconst (v := 3) ok dX7_takes_112 (by decide) ?_
                      refine z_callVi ok dX7_takes_113 zm_X7_ofOffer zw_941 zi_X7_ofOffer hm1.1 rfl (ct_X7_ofOffer hm1 (i := i) (k := 3) rfl rfl (by omega)) rfl rfl (by decide) (by decide) (by decide) (Nat.le_of_ble_eq_true rfl) (fun xz26 Mz27 qz28 => ?_)
                      obtain ⟨rfl, hMe⟩ := qz28
                      obtain rfl := hMe.symm
                      refine z_aload_n ok dX7_takes_116 rfl ?_
                      refine z_iload ok dX7_takes_117 rfl ?_
                      refine z_iconst (v := 3) ok dX7_takes_119 (by decide) ?_
                      refine z_callVi ok dX7_takes_120 zm_X7_ofOffer zw_941 zi_X7_ofOffer hm1.1 rfl (ct_X7_ofOffer hm1 (i := kk9) (k := 3) rfl rfl (by omega)) rfl rfl (by decide) (by decide) (by decide) (Nat.le_of_ble_eq_true rfl) (fun xz29 Mz30 qz31 => ?_)
                      obtain ⟨rfl, hMe⟩ := qz31
                      obtain rfl := hMe.symm
                      refine z_icmp_le (tgt := 131) ok dX7_takes_123 (by decide) (fun cz123 => ?_) (fun cz123 => ?_)
                      · refine z_iload ok dX7_takes_131 rfl ?_
                        refine z_istore ok dX7_takes_133 (by decide) rfl ?_
                        refine z_iinc ok dX7_takes_135 rfl (zinc _) (by decide) rfl ?_
                        refine z_goto (tgt := 34) ok dX7_takes_138 (by decide) ?_
                        exact ih (i + 1) _ _ (by omega) (by omega) (by first | (rw [← zBest_keep hb]; exact hy) | (rw [zBest_first hb hpk]; rfl) | (rw [zBest_new hb hpk (by simpa only [mA_s] using i_nle cz123)]; rfl) | (rw [← zBest_old hpk (by simpa only [mA_s] using Int32.not_lt.mpr cz123)]; exact hy))
                      · refine z_iload ok dX7_takes_126 rfl ?_
                        refine z_goto (tgt := 133) ok dX7_takes_128 (by decide) ?_
                        refine z_istore ok dX7_takes_133 (by decide) rfl ?_
                        refine z_iinc ok dX7_takes_135 rfl (zinc _) (by decide) rfl ?_
                        refine z_goto (tgt := 34) ok dX7_takes_138 (by decide) ?_
                        exact ih (i + 1) _ _ (by omega) (by omega) (by first | (rw [← zBest_keep hb]; exact hy) | (rw [zBest_first hb hpk]; rfl) | (rw [zBest_new hb hpk (by simpa only [mA_s] using i_nle cz123)]; rfl) | (rw [← zBest_old hpk (by simpa only [mA_s] using Int32.not_lt.mpr cz123)]; exact hy))
      exact loop34 (n9 + 1) 0 _ _ (by omega) (by omega) rfl
  refine z_aload_n ok dX7_takes_0 rfl ?_
  refine z_iload_n ok dX7_takes_1 rfl ?_
  refine z_iconst (v := 0) ok dX7_takes_2 (by decide) ?_
  refine z_callVi ok dX7_takes_3 zm_X7_ofVehicle zw_874 zi_X7_ofVehicle hm.1 rfl (ct_X7_ofVehicle hm (i := iv) (k := 0) rfl rfl (by omega)) rfl rfl (by decide) (by decide) (by decide) (Nat.le_of_ble_eq_true rfl) (fun xz32 Mz33 qz34 => ?_)
  obtain ⟨rfl, hMe⟩ := qz34
  obtain rfl := hMe.symm
  refine z_istore ok dX7_takes_6 (by decide) rfl ?_
  refine z_aload_n ok dX7_takes_8 rfl ?_
  refine z_iload_n ok dX7_takes_9 rfl ?_
  refine z_iconst (v := 1) ok dX7_takes_10 (by decide) ?_
  refine z_callVi ok dX7_takes_11 zm_X7_ofVehicle zw_874 zi_X7_ofVehicle hm.1 rfl (ct_X7_ofVehicle hm (i := iv) (k := 1) rfl rfl (by omega)) rfl rfl (by decide) (by decide) (by decide) (Nat.le_of_ble_eq_true rfl) (fun xz35 Mz36 qz37 => ?_)
  obtain ⟨rfl, hMe⟩ := qz37
  obtain rfl := hMe.symm
  refine z_istore ok dX7_takes_14 (by decide) rfl ?_
  refine z_iconst (v := 0) ok dX7_takes_16 (by decide) ?_
  refine z_istore ok dX7_takes_17 (by decide) rfl ?_
  refine z_iconst (v := 0) ok dX7_takes_19 (by decide) ?_
  refine z_istore ok dX7_takes_20 (by decide) rfl ?_
  exact loop9 (no + 1) no (μ.1 1) _ _ _ 0 0 none none (by omega) (mPic.self1 hm) zFr.rf hN (by decide) rfl

def zRet (s : Nat → Int32) (iv : Nat) : Nat → Int32 :=
  let s1 := upd s 10 (s 10 + vd s iv 6)
  let s2 := pv s1 iv 6 0
  let s3 := pv s2 iv 7 (vd s2 iv 7 + 1)
  pv s3 iv 2 0
set_option maxRecDepth 20000 in
set_option maxHeartbeats 4000000 in
theorem ct_X7_returns {K : zK} {M : mM} {nx : Nat} {m : Nat} {μ : zMS} (hm : mPic M m μ) {v : Int32} {iv : Nat} (hv : v = nI iv) (hiv : iv < 4) : zCt K yX7_returns cX7_returns 2 zr_X7_returns 1 [.ref m, .int v] M nx 0 0 (zU (fun M' => mPic M' m (mA μ 1 (zRet (μ.1 1) iv)) ∧ zFr M M' m 9)) := by
  refine z_enter [some (.ref m), some (.int v)] (by decide +kernel) (Nat.le_of_ble_eq_true rfl) rfl (fun B ok hz => ?_)
  subst hv
  refine z_aload_n ok dX7_returns_0 rfl ?_
  refine z_getf ok dX7_returns_1 zin_X7 rfl 0 (by decide) zw_771 hm.1 rfl ?_
  refine z_bipush (v := 10) ok dX7_returns_4 (by decide) ?_
  refine z_dup2 ok dX7_returns_6 rfl rfl ?_
  refine m_ald1 ok dX7_returns_7 hm rfl (by decide) ?_
  refine z_aload_n ok dX7_returns_8 rfl ?_
  refine z_iload_n ok dX7_returns_9 rfl ?_
  refine z_bipush (v := 6) ok dX7_returns_10 (by decide) ?_
  refine z_callVi ok dX7_returns_12 zm_X7_ofVehicle zw_874 zi_X7_ofVehicle hm.1 rfl (ct_X7_ofVehicle hm (i := iv) (k := 6) rfl rfl (by omega)) rfl rfl (by decide) (by decide) (by decide) (Nat.le_of_ble_eq_true rfl) (fun xz1 Mz2 qz3 => ?_)
  obtain ⟨rfl, hMe⟩ := qz3
  obtain rfl := hMe.symm
  refine z_iadd ok dX7_returns_15 ?_
  refine m_ast1 ok dX7_returns_16 hm rfl (by decide) (fun Mz5 hm4 frz6 => ?_)
  refine z_aload_n ok dX7_returns_17 rfl ?_
  refine z_iload_n ok dX7_returns_18 rfl ?_
  refine z_bipush (v := 6) ok dX7_returns_19 (by decide) ?_
  refine z_iconst (v := 0) ok dX7_returns_21 (by decide) ?_
  refine z_callVv ok dX7_returns_22 zm_X7_putsVehicle zw_858 zi_X7_putsVehicle hm4.1 rfl (ct_X7_putsVehicle hm4 (i := iv) (k := 6) rfl rfl (by omega)) rfl rfl (by decide) (by decide) (by decide) (Nat.le_of_ble_eq_true rfl) (fun Mz8 qz9 => ?_)
  obtain ⟨hm10, fzxz7⟩ := qz9
  try simp only [mA_s, mA_mA] at hm10
  refine z_aload_n ok dX7_returns_25 rfl ?_
  refine z_iload_n ok dX7_returns_26 rfl ?_
  refine z_bipush (v := 7) ok dX7_returns_27 (by decide) ?_
  refine z_aload_n ok dX7_returns_29 rfl ?_
  refine z_iload_n ok dX7_returns_30 rfl ?_
  refine z_bipush (v := 7) ok dX7_returns_31 (by decide) ?_
  refine z_callVi ok dX7_returns_33 zm_X7_ofVehicle zw_874 zi_X7_ofVehicle hm10.1 rfl (ct_X7_ofVehicle hm10 (i := iv) (k := 7) rfl rfl (by omega)) rfl rfl (by decide) (by decide) (by decide) (Nat.le_of_ble_eq_true rfl) (fun xz11 Mz12 qz13 => ?_)
  obtain ⟨rfl, hMe⟩ := qz13
  obtain rfl := hMe.symm
  refine z_iconst (v := 1) ok dX7_returns_36 (by decide) ?_
  refine z_iadd ok dX7_returns_37 ?_
  refine z_callVv ok dX7_returns_38 zm_X7_putsVehicle zw_858 zi_X7_putsVehicle hm10.1 rfl (ct_X7_putsVehicle hm10 (i := iv) (k := 7) rfl rfl (by omega)) rfl rfl (by decide) (by decide) (by decide) (Nat.le_of_ble_eq_true rfl) (fun Mz15 qz16 => ?_)
  obtain ⟨hm17, fzxz14⟩ := qz16
  try simp only [mA_s, mA_mA] at hm17
  refine z_aload_n ok dX7_returns_41 rfl ?_
  refine z_iload_n ok dX7_returns_42 rfl ?_
  refine z_iconst (v := 2) ok dX7_returns_43 (by decide) ?_
  refine z_iconst (v := 0) ok dX7_returns_44 (by decide) ?_
  refine z_callVv ok dX7_returns_45 zm_X7_putsVehicle zw_858 zi_X7_putsVehicle hm17.1 rfl (ct_X7_putsVehicle hm17 (i := iv) (k := 2) rfl rfl (by omega)) rfl rfl (by decide) (by decide) (by decide) (Nat.le_of_ble_eq_true rfl) (fun Mz19 qz20 => ?_)
  obtain ⟨hm21, fzxz18⟩ := qz20
  try simp only [mA_s, mA_mA] at hm21
  exact z_vret ok dX7_returns_48 rfl rfl (Nat.zero_le _) ⟨by (have h9 := hm21; first | exact h9 | (simp only [mA_s, mA_mA] at h9; exact h9)), (by repeat (first | assumption | exact zFr.rf | refine zFr.tr (by assumption) ?_))⟩

