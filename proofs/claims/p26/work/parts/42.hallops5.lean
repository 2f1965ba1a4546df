theorem zOr_bit {p : Nat → Prop} [DecidablePred p] {i : Nat} (hi : i < 32) : ∀ n, n ≤ 32 → bt (zOr (fun c => if p c then zbit c else 0) n) i = decide (i < n ∧ p i)
  | 0, _ => by
    rw [zOr, b_0]
    simp
  | n + 1, hn => by
    rw [zOr, b_or, zOr_bit hi n (by omega)]
    by_cases hp : p n
    · rw [if_pos hp, zbit_bt (by omega) hi]
      by_cases hin : i = n
      · subst hin
        simp [hp]
      · have h1 : i < n + 1 ↔ i < n := by omega
        simp [hin, h1]
    · rw [if_neg hp, b_0]
      by_cases hin : i = n
      · subst hin
        simp [hp]
      · have h1 : i < n + 1 ↔ i < n := by omega
        simp [h1]
theorem zOr_0 {p : Nat → Prop} [DecidablePred p] {n : Nat} (hn : n ≤ 32) : zOr (fun c => if p c then zbit c else 0) n = 0 ↔ ∀ c, c < n → ¬ p c := by
  constructor
  · intro h c hc hp
    have h1 := zOr_bit (p := p) (i := c) (by omega) n hn
    rw [h, b_0] at h1
    simp [hc, hp] at h1
  · intro h
    refine b_ext (fun i hi => ?_)
    rw [zOr_bit hi n hn, b_0]
    simp only [decide_eq_false_iff_not]
    exact fun z => h i z.1 z.2
theorem kPlace_goal2 {s : Nat → Int32} {n v : Nat} {x : Int32} (h : kPlace s n v x) (hx : ¬ x = 0) (h0 : vd s v 2 = 0) (hs : zSm s n v) : zGoal s n v = x := by
  unfold zGoal
  rw [if_pos h0]
  rcases h with ⟨h1, _⟩ | ⟨c, hc, hin, hx⟩
  · exact absurd h1 hx
  · rcases zLast_d (p := fun c => zInV s c (nI v)) (f := fun c => gd s c 0) (x := -1000004) n with ⟨h2, _⟩ | ⟨k, hk, h2, h3⟩
    · exact absurd hin (h2 c hc)
    · rw [h2, hx, hs k hk c hc h3 hin]
theorem kPlace_0 {s : Nat → Int32} {n v : Nat} {x : Int32} (h : kPlace s n v x) (h1 : zP1 s n) (hn : n ≤ 16) : x = 0 ↔ zLs s n (nI v) = 0 := by
  unfold zLs
  rw [zOr_0 (by omega)]
  rcases h with ⟨h1, h2⟩ | ⟨c, hc, hin, hx⟩
  · exact ⟨fun _ => h2, fun _ => h1⟩
  · exact ⟨fun z => absurd (hx.symm.trans z) (i_pos (h1 c hc).1).1, fun z => absurd hin (z c hc)⟩
theorem zDe1_o {s : Nat → Int32} {n v q : Nat} (h : q < 205 + 8 * v ∨ 205 + 8 * v + 8 ≤ q) : zDe1 s n v q = s q := by
  simp only [zDe1]
  rw [pv_o (by decide) h, pv_o (by decide) h, pv_o (by decide) h, pv_o (by decide) h]
theorem zDe1_v {s : Nat → Int32} {n v k : Nat} : vd (zDe1 s n v) v k = if k = 4 then s 5 + zGoal s n v * s 0 else if k = 5 then zGoal s n v * s 0 else if k = 3 then zGoal s n v else if k = 2 then 1 else vd s v k := by
  simp only [zDe1]
  rw [vd_pv, vd_pv, vd_pv, vd_pv]
  repeat rw [pv_lo (by decide)]
theorem zDe_hi {s : Nat → Int32} {n v q : Nat} (h : q < 13 ∨ 205 ≤ q) : ∀ k, k ≤ 16 → zDe s n v k q = zDe1 s n v q
  | 0, _ => rfl
  | k + 1, hk => by
    by_cases hc : zInV (zDe s n v k) k (nI v)
    · rw [zDe_t hc, pg_o (by decide) (by omega), pg_o (by decide) (by omega)]
      exact zDe_hi h k (by omega)
    · rw [zDe_f hc]
      exact zDe_hi h k (by omega)
theorem zDe_v {s : Nat → Int32} {n v u j k : Nat} (hk : k ≤ 16) : vd (zDe s n v k) u j = vd (zDe1 s n v) u j := zDe_hi (Or.inr (by omega)) k hk
/-- the consignments of a departure, the vehicle still as it was -/
def zDm (s : Nat → Int32) (n v i : Nat) : Nat → Int32 := fun q => if 205 ≤ q then s q else zDe s n v i q
theorem zDm_g {s : Nat → Int32} {n v i j k : Nat} (hj : j < 16) (hk : k < 12) : gd (zDm s n v i) j k = gd (zDe s n v i) j k := if_neg (by omega)
theorem zDm_lo {s : Nat → Int32} {n v i q : Nat} (hv : v < 4) (hi : i ≤ 16) (hq : q < 13) : zDm s n v i q = s q := (if_neg (by omega)).trans ((zDe_hi (by omega) i hi).trans (zDe1_o (by omega)))
theorem zDm_v {s : Nat → Int32} {n v i u k : Nat} : vd (zDm s n v i) u k = vd s u k := if_pos (by omega)
theorem zDm_f {s : Nat → Int32} {n v i : Nat} (h : ¬ zInV (zDe s n v i) i (nI v)) : zDm s n v (i + 1) = zDm s n v i := by
  unfold zDm
  rw [zDe_f h]
theorem zDm_o {s : Nat → Int32} {n v i q : Nat} (h : q < 13 + 12 * i ∨ 13 + 12 * i + 12 ≤ q) : zDm s n v (i + 1) q = zDm s n v i q := by
  unfold zDm
  by_cases h2 : 205 ≤ q
  · rw [if_pos h2, if_pos h2]
  · rw [if_neg h2, if_neg h2]
    by_cases hc : zInV (zDe s n v i) i (nI v)
    · rw [zDe_t hc, pg_o (by decide) h, pg_o (by decide) h]
    · rw [zDe_f hc]
theorem zDm_0 {s : Nat → Int32} {n v q : Nat} (hv : v < 4) : zDm s n v 0 q = s q := by
  unfold zDm
  split
  · rfl
  · exact zDe1_o (by omega)
theorem zDm_t {s : Nat → Int32} {n v i k : Nat} (hi : i < 16) (hk : k < 12) (h : zInV (zDe s n v i) i (nI v)) : gd (zDm s n v (i + 1)) i k = if k = 11 then s 5 else if k = 6 then 2 else gd (zDm s n v i) i k := by
  rw [zDm_g hi hk, zDm_g hi hk, zDe_t h, gd_pg, gd_pg, pg_5, zDe_hi (by omega) i (by omega), zDe1_o (by omega)]
theorem hRel.cong {κ : hK} {s s' : Nat → Int32} {n nv no : Nat} (h : hRel κ s n nv no) (he : ∀ q, s' q = s q) : hRel κ s' n nv no := by
  rw [show s' = s from funext he]
  exact h
set_option maxRecDepth 20000 in
set_option maxHeartbeats 4000000 in
theorem ct_X1_sendOff {K : zK} {M : mM} {nx : Nat} {b : Nat} {κ : hK} {π : Nat → Nat} (hm : hPicP M b κ π) {s : Nat → Int32} {n nv no : Nat} (hr : hRel κ s n nv no) {v : Int32} (hsm : ∀ u, u < nv → zSm s n u) (hp1 : zP1 s n) (h2 : ∀ u, u < nv → 0 ≤ vd s u 2) : zCt K yX1_sendOff cX1_sendOff 5 zr_X1_sendOff 2 [.ref b, .int v] M nx 0 0 (zI (kPost M b (spDepart s n v))) := by
  refine z_enter [some (.ref b), some (.int v), none, none, none] (by decide +kernel) (Nat.le_of_ble_eq_true rfl) rfl (fun B ok hz => ?_)
  have hmd := hr.made
  have hn16 := hr.1.2.1
  have hn4 := hr.1.2.2.2.1
  refine z_aload_n ok dX1_sendOff_0 rfl ?_
  refine z_iload_n ok dX1_sendOff_1 rfl ?_
  refine z_callVa ok dX1_sendOff_2 zm_X1_vehicleAt zw_441 zi_X1_vehicleAt hm.1 rfl (ct_X1_vehicleAt hm hr) rfl rfl (by decide) (by decide) (by decide) (Nat.le_of_ble_eq_true rfl) (fun xz1 Mz2 qz3 => ?_)
  obtain ⟨hMe, hcsq⟩ := qz3
  obtain rfl := hMe.symm
  rcases hcsq with ⟨hng2, rfl⟩ | ⟨jz2, hjz2, hcz2, hgd2, rfl⟩
  · have hnull2 := hng2
    refine z_astore_nN ok dX1_sendOff_5 (by decide) rfl ?_
    refine z_aload_nN ok dX1_sendOff_6 rfl ?_
    refine z_ifnonnullN ok dX1_sendOff_7 ?_
    refine z_ldc ok dX1_sendOff_10 zw_406 ?_
    exact z_iret ok dX1_sendOff_12 rfl rfl rfl (Nat.zero_le _) (kPost_e (by unfold spDepart; rw [if_neg hnull2]))
  · have hkv2 := hr.2.2.2.2.1 jz2 hjz2
    have hv : jz2 < 4 := by omega
    have htc : tN v = jz2 := by rw [hcz2]; exact tN_nI (by omega)
    refine z_astore_n ok dX1_sendOff_5 (by decide) rfl ?_
    refine z_aload_n ok dX1_sendOff_6 rfl ?_
    refine z_ifnonnull (tgt := 13) ok dX1_sendOff_7 (by decide) ?_
    refine z_aload_n ok dX1_sendOff_13 rfl ?_
    refine z_aload_n ok dX1_sendOff_14 rfl ?_
    refine z_callVi ok dX1_sendOff_15 zm_X1_loadPlace zw_449 zi_X1_loadPlace hm.1 rfl (ct_X1_loadPlace hm hr hv) rfl rfl (by decide) (by decide) (by decide) (Nat.le_of_ble_eq_true rfl) (fun xz4 Mz5 qz6 => ?_)
    obtain ⟨hkp, hMe⟩ := qz6
    obtain rfl := hMe.symm
    generalize xz4 = zpl9 at *
    have hp0 := kPlace_0 hkp hp1 hn16
    refine z_istore_n ok dX1_sendOff_18 (by decide) rfl ?_
    refine z_aload_n ok dX1_sendOff_19 rfl ?_
    refine z_getf ok dX1_sendOff_20 zin_X5 rfl 3 (by decide) zw_120 (hm.2.2.2.2.2.1 jz2 (by omega)).1 rfl ?_
    refine z_if_ne (tgt := 30) ok dX1_sendOff_23 (by decide) (fun cz23 => ?_) (fun cz23 => ?_)
    · have hst : 0 < vd s jz2 2 := by rcases (Int32.lt_or_eq_of_le (h2 jz2 hjz2)) with h9 | h9; exact h9; exact absurd (hkv2.2.2.1.trans h9.symm) cz23
      refine z_ldc ok dX1_sendOff_30 zw_407 ?_
      exact z_iret ok dX1_sendOff_32 rfl rfl rfl (Nat.zero_le _) (kPost_e (by unfold spDepart; rw [if_pos hgd2, htc]; first | rw [if_pos (Or.inl hst)] | rw [hcz2, if_pos (Or.inr (hp0.mp cz27))]))
    · have hst : vd s jz2 2 = 0 := hkv2.2.2.1.symm.trans cz23
      refine z_iload_n ok dX1_sendOff_26 rfl ?_
      refine z_if_ne (tgt := 33) ok dX1_sendOff_27 (by decide) (fun cz27 => ?_) (fun cz27 => ?_)
      · have hgo := kPlace_goal2 hkp cz27 hst (hsm _ hjz2)
        refine z_iconst (v := 0) ok dX1_sendOff_33 (by decide) ?_
        refine z_istore ok dX1_sendOff_34 (by decide) rfl ?_
        have loop36 : ∀ (t i : Nat) (M1 : mM) (κ1 : hK), n < i + t → i ≤ n → hPicP M1 b κ1 π → hRel κ1 (zDm s n jz2 i) n nv no → zFr M M1 b 35 → zV 5 B (zE B (zI (kPost M b (spDepart s n v))) 0 0) 36 [some (.ref b), some (.int v), some (.ref (b + 21 + jz2)), some (.int zpl9), some (.int (nI i))] [] M1 0 0 := by
          intro t
          induction t with
          | zero => intro i M1 κ1 h1 h2; exact absurd h1 (by omega)
          | succ t ih =>
            intro i M1 κ1 h1 h2 hm1 hr1 hf1
            have hmd := hr1.made
            have htm : κ1 4 0 7 = s 5 := hr1.tm.trans (zDm_lo hv (by omega) (by decide))
            refine z_iload ok dX1_sendOff_36 rfl ?_
            refine z_aload_n ok dX1_sendOff_38 rfl ?_
            refine z_getf ok dX1_sendOff_39 zin_X1 rfl 4 (by decide) zw_192 hm1.1 rfl ?_
            refine z_icmp_ge (tgt := 90) ok dX1_sendOff_42 (by decide) (fun cz42 => ?_) (fun cz42 => ?_)
            · have hin : i = n := by rw [hmd, nI_leI (by omega) (by omega)] at cz42; omega
              rw [hin] at hr1
              have htm1 := htm
              have hs01 : κ1 3 0 0 = s 0 := (hr1.2.2.1 0 (by decide)).trans (zDm_lo hv hn16 (by decide))
              have hkv1 : kV (κ1 1 jz2) (vd s jz2) := by have h9 := hr1.2.2.2.2.1 jz2 hjz2; unfold kV at h9 ⊢; simpa only [zDm_v] using h9
              refine z_aload_n ok dX1_sendOff_90 rfl ?_
              refine z_iconst (v := 1) ok dX1_sendOff_91 (by decide) ?_
              refine h_putV3 ok dX1_sendOff_92 zw_120 hm1 (by omega) (fun Mz8 hm7 frz9 => ?_)
              refine z_aload_n ok dX1_sendOff_95 rfl ?_
              refine z_iload_n ok dX1_sendOff_96 rfl ?_
              refine h_putV4 ok dX1_sendOff_97 zw_123 hm7 (by omega) (fun Mz11 hm10 frz12 => ?_)
              refine z_aload_n ok dX1_sendOff_100 rfl ?_
              refine z_iload_n ok dX1_sendOff_101 rfl ?_
              refine z_aload_n ok dX1_sendOff_102 rfl ?_
              refine z_getf ok dX1_sendOff_103 zin_X1 rfl 3 (by decide) zw_190 hm10.1 rfl ?_
              refine z_iconst (v := 0) ok dX1_sendOff_106 (by decide) ?_
              refine h_ldT ok dX1_sendOff_107 hm10 rfl (by decide) ?_
              refine z_imul ok dX1_sendOff_108 ?_
              refine h_putV5 ok dX1_sendOff_109 zw_126 hm10 (by omega) (fun Mz14 hm13 frz15 => ?_)
              refine z_aload_n ok dX1_sendOff_112 rfl ?_
              refine z_aload_n ok dX1_sendOff_113 rfl ?_
              refine z_getf ok dX1_sendOff_114 zin_X1 rfl 7 (by decide) zw_198 hm13.1 rfl ?_
              refine z_aload_n ok dX1_sendOff_117 rfl ?_
              refine z_getf ok dX1_sendOff_118 zin_X5 rfl 5 (by decide) zw_126 (hm13.2.2.2.2.2.1 jz2 (by omega)).1 rfl ?_
              refine z_iadd ok dX1_sendOff_121 ?_
              refine h_putV6 ok dX1_sendOff_122 zw_128 hm13 (by omega) (fun Mz17 hm16 frz18 => ?_)
              refine z_aload_n ok dX1_sendOff_125 rfl ?_
              refine z_getf ok dX1_sendOff_126 zin_X5 rfl 6 (by decide) zw_128 (hm16.2.2.2.2.2.1 jz2 (by omega)).1 rfl ?_
              exact z_iret ok dX1_sendOff_129 rfl rfl rfl (Nat.zero_le _) (kPost_ok hm16 (hr1.setV (s' := zDe s n jz2 n) hjz2 (fun a9 j9 h9 => by rw [kU_o h9, kU_o h9, kU_o h9, kU_o h9]) (fun q9 h9 => by unfold zDm; split; exact (zDe_hi (by omega) n (by omega)).trans (zDe1_o h9); rfl) (by have h9 := hkv1; unfold kV at h9 ⊢; simp only [zDe_v (show n ≤ 16 by omega), zDe1_v]; rw [kU_u, kU_u, kU_u, kU_u]; simp [upd, kU, h9, htm1, hs01, hgo])) (by repeat (first | assumption | exact zFr.rf | refine zFr.tr (by assumption) ?_)) (by unfold spDepart; rw [if_pos hgd2, htc, hcz2, if_neg (fun z9 => z9.elim (fun y9 => absurd (hst ▸ y9) (by decide)) (fun y9 => cz27 (hp0.mpr y9)))]; exact congrArg (fun z9 => Sum.inr (zDe s n jz2 n, z9)) ((zDe_v (by omega)).trans (zDe1_v.trans (by simp [kU, htm1, hs01, hgo])))))
            · have hin : i < n := by rw [hmd, nI_leI (by omega) (by omega)] at cz42; omega
              refine z_aload_n ok dX1_sendOff_45 rfl ?_
              refine z_getf ok dX1_sendOff_46 zin_X1 rfl 0 (by decide) zw_186 hm1.1 rfl ?_
              refine z_iload ok dX1_sendOff_49 rfl ?_
              refine h_ldC (j := i) ok dX1_sendOff_51 hm1 rfl (by omega) ?_
              refine z_aload_n ok dX1_sendOff_52 rfl ?_
              refine z_callVi ok dX1_sendOff_53 zm_X0_isIn zw_453 zi_X0_isIn (hm1.2.2.2.2.1 i (by omega)).1 rfl (ct_isIn2 hm1 hr1 hin hv) rfl rfl (by decide) (by decide) (by decide) (Nat.le_of_ble_eq_true rfl) (fun xz19 Mz20 qz21 => ?_)
              obtain ⟨rfl, hMe⟩ := qz21
              obtain rfl := hMe.symm
              refine z_if_eq (tgt := 84) ok dX1_sendOff_56 (by decide) (fun cz56 => ?_) (fun cz56 => ?_)
              · have hb0 := b2_0.mp cz56
                have hb : ¬ zInV (zDe s n jz2 i) i (nI jz2) := by unfold zInV at hb0 ⊢; rw [zDm_g (by omega) (by decide), zDm_g (by omega) (by decide)] at hb0; exact hb0
                refine z_iinc ok dX1_sendOff_84 rfl (zinc _) (by decide) rfl ?_
                refine z_goto (tgt := 36) ok dX1_sendOff_87 (by decide) ?_
                first | exact ih (i + 1) _ _ (by omega) (by omega) hm1 (by rw [zDm_f hb]; exact hr1) hf1 | exact ih (i + 1) _ _ (by omega) (by omega) hm1 (hr1.setC hin (fun a9 j9 h9 => (kU_o h9).trans (kU_o h9)) (fun q9 h9 => zDm_o h9) (by have h9 := hcc; unfold kC at h9 ⊢; rw [zDm_t (by omega) (by decide) hb, zDm_t (by omega) (by decide) hb, zDm_t (by omega) (by decide) hb, zDm_t (by omega) (by decide) hb, zDm_t (by omega) (by decide) hb, zDm_t (by omega) (by decide) hb, zDm_t (by omega) (by decide) hb, zDm_t (by omega) (by decide) hb, zDm_t (by omega) (by decide) hb, zDm_t (by omega) (by decide) hb, zDm_t (by omega) (by decide) hb, zDm_t (by omega) (by decide) hb, kU_u, kU_u]; simp [upd, h9, kU, htm])) (by repeat (first | assumption | exact zFr.rf | refine zFr.tr (by assumption) ?_))
              · have hb0 := Decidable.not_not.mp (mt b2_0.mpr cz56)
                have hb : zInV (zDe s n jz2 i) i (nI jz2) := by unfold zInV at hb0 ⊢; rw [zDm_g (by omega) (by decide), zDm_g (by omega) (by decide)] at hb0; exact hb0
                have hcc := hr1.c hin
                refine z_aload_n ok dX1_sendOff_59 rfl ?_
                refine z_getf ok dX1_sendOff_60 zin_X1 rfl 0 (by decide) zw_186 hm1.1 rfl ?_
                refine z_iload ok dX1_sendOff_63 rfl ?_
                refine h_ldC (j := i) ok dX1_sendOff_65 hm1 rfl (by omega) ?_
                refine z_iconst (v := 2) ok dX1_sendOff_66 (by decide) ?_
                refine h_putC7 ok dX1_sendOff_67 zw_60 hm1 (by omega) (fun Mz23 hm22 frz24 => ?_)
                refine z_aload_n ok dX1_sendOff_70 rfl ?_
                refine z_getf ok dX1_sendOff_71 zin_X1 rfl 0 (by decide) zw_186 hm22.1 rfl ?_
                refine z_iload ok dX1_sendOff_74 rfl ?_
                refine h_ldC (j := i) ok dX1_sendOff_76 hm22 rfl (by omega) ?_
                refine z_aload_n ok dX1_sendOff_77 rfl ?_
                refine z_getf ok dX1_sendOff_78 zin_X1 rfl 7 (by decide) zw_198 hm22.1 rfl ?_
                refine h_putC11 ok dX1_sendOff_81 zw_72 hm22 (by omega) (fun Mz26 hm25 frz27 => ?_)
                refine z_iinc ok dX1_sendOff_84 rfl (zinc _) (by decide) rfl ?_
                refine z_goto (tgt := 36) ok dX1_sendOff_87 (by decide) ?_
                first | exact ih (i + 1) _ _ (by omega) (by omega) hm25 (by rw [zDm_f hb]; exact hr1) hf1 | exact ih (i + 1) _ _ (by omega) (by omega) hm25 (hr1.setC hin (fun a9 j9 h9 => (kU_o h9).trans (kU_o h9)) (fun q9 h9 => zDm_o h9) (by have h9 := hcc; unfold kC at h9 ⊢; rw [zDm_t (by omega) (by decide) hb, zDm_t (by omega) (by decide) hb, zDm_t (by omega) (by decide) hb, zDm_t (by omega) (by decide) hb, zDm_t (by omega) (by decide) hb, zDm_t (by omega) (by decide) hb, zDm_t (by omega) (by decide) hb, zDm_t (by omega) (by decide) hb, zDm_t (by omega) (by decide) hb, zDm_t (by omega) (by decide) hb, zDm_t (by omega) (by decide) hb, zDm_t (by omega) (by decide) hb, kU_u, kU_u]; simp [upd, h9, kU, htm])) (by repeat (first | assumption | exact zFr.rf | refine zFr.tr (by assumption) ?_))
        exact loop36 (n + 1) 0 _ _ (by omega) (by omega) hm (hr.cong (fun q9 => zDm_0 hv)) (by repeat (first | assumption | exact zFr.rf | refine zFr.tr (by assumption) ?_))
      · refine z_ldc ok dX1_sendOff_30 zw_407 ?_
        exact z_iret ok dX1_sendOff_32 rfl rfl rfl (Nat.zero_le _) (kPost_e (by unfold spDepart; rw [if_pos hgd2, htc]; first | rw [if_pos (Or.inl hst)] | rw [hcz2, if_pos (Or.inr (hp0.mp cz27))]))


