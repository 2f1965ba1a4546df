theorem zRet_v {s : Nat → Int32} {v k : Nat} (hk : k < 8) (hv : v < 4) : vd (zRet s v) v k = if k = 2 then 0 else if k = 7 then vd s v 7 + 1 else if k = 6 then 0 else vd s v k := by
  simp only [zRet, vd_pv, vd_lo (show 10 < 13 by decide)]
  rcases (by omega : k = 0 ∨ k = 1 ∨ k = 2 ∨ k = 3 ∨ k = 4 ∨ k = 5 ∨ k = 6 ∨ k = 7) with h9 | h9 | h9 | h9 | h9 | h9 | h9 | h9 <;> subst h9 <;> simp
theorem zRet_o {s : Nat → Int32} {v q : Nat} (hq : q ≠ 10) (h : q < 205 + 8 * v ∨ 205 + 8 * v + 8 ≤ q) : zRet s v q = s q := by
  simp only [zRet]
  rw [pv_o (by decide) h, pv_o (by decide) h, pv_o (by decide) h, upd_n _ _ hq]
theorem zRet_10 {s : Nat → Int32} {v : Nat} : zRet s v 10 = s 10 + vd s v 6 := by
  simp only [zRet]
  rw [pv_lo (by decide), pv_lo (by decide), pv_lo (by decide), upd_s]
set_option maxRecDepth 20000 in
set_option maxHeartbeats 4000000 in
theorem ct_X1_comeBack {K : zK} {M : mM} {nx : Nat} {b : Nat} {κ : hK} {π : Nat → Nat} (hm : hPicP M b κ π) {s : Nat → Int32} {n nv no : Nat} (hr : hRel κ s n nv no) {v : Nat} (hvv : v < nv) : zCt K yX1_comeBack cX1_comeBack 2 zr_X1_comeBack 0 [.ref b, .ref (b + 21 + v)] M nx 0 0 (zU (fun M' => ∃ κ', hPicP M' b κ' π ∧ hRel κ' (zRet s v) n nv no ∧ zFr M M' b 35)) := by
  refine z_enter [some (.ref b), some (.ref (b + 21 + v))] (by decide +kernel) (Nat.le_of_ble_eq_true rfl) rfl (fun B ok hz => ?_)
  have hmd := hr.made
  have hn16 := hr.1.2.1
  have hn4 := hr.1.2.2.2.1
  have hv : v < 4 := by omega
  have hkv := hr.2.2.2.2.1 v hvv
  refine z_aload_n ok dX1_comeBack_0 rfl ?_
  refine z_iconst (v := 0) ok dX1_comeBack_1 (by decide) ?_
  refine h_putV3 ok dX1_comeBack_2 zw_120 hm (by omega) (fun Mz2 hm1 frz3 => ?_)
  refine z_aload_n ok dX1_comeBack_5 rfl ?_
  refine z_dup ok dX1_comeBack_6 rfl ?_
  refine z_getf ok dX1_comeBack_7 zin_X5 rfl 8 (by decide) zw_134 (hm1.2.2.2.2.2.1 v (by omega)).1 rfl ?_
  refine z_iconst (v := 1) ok dX1_comeBack_10 (by decide) ?_
  refine z_iadd ok dX1_comeBack_11 ?_
  refine h_putV8 ok dX1_comeBack_12 zw_134 hm1 (by omega) (fun Mz5 hm4 frz6 => ?_)
  refine z_aload_n ok dX1_comeBack_15 rfl ?_
  refine z_dup ok dX1_comeBack_16 rfl ?_
  refine z_getf ok dX1_comeBack_17 zin_X1 rfl 9 (by decide) zw_202 hm4.1 rfl ?_
  refine z_aload_n ok dX1_comeBack_20 rfl ?_
  refine z_getf ok dX1_comeBack_21 zin_X5 rfl 7 (by decide) zw_131 (hm4.2.2.2.2.2.1 v (by omega)).1 rfl ?_
  refine z_iadd ok dX1_comeBack_24 ?_
  refine h_putH9 ok dX1_comeBack_25 zw_202 hm4 (fun Mz8 hm7 frz9 => ?_)
  refine z_aload_n ok dX1_comeBack_28 rfl ?_
  refine z_iconst (v := 0) ok dX1_comeBack_29 (by decide) ?_
  refine h_putV7 ok dX1_comeBack_30 zw_131 hm7 (by omega) (fun Mz11 hm10 frz12 => ?_)
  exact z_vret ok dX1_comeBack_33 rfl rfl (Nat.zero_le _) ⟨_, hm10, hr.setVS hvv (fun a9 j9 h9 h8 => by rw [kU_o (by omega), kU_o (by omega), kU_o (by omega), kU_o (by omega)]) (fun q9 h9 h8 => zRet_o (by omega) h8) (by have h9 := hr.2.1; have h7 := hkv.2.2.2.1; rw [zRet_10, zRet_o (by decide) (by omega), zRet_o (by decide) (by omega), zRet_o (by decide) (by omega), zRet_o (by decide) (by omega)]; simp [kU, h9, h7]) (by have h9 := hkv; unfold kV at h9 ⊢; rw [zRet_v (by decide) hv, zRet_v (by decide) hv, zRet_v (by decide) hv, zRet_v (by decide) hv, zRet_v (by decide) hv]; simp [kU, h9]), (by repeat (first | assumption | exact zFr.rf | refine zFr.tr (by assumption) ?_))⟩

theorem zDel1_o {s : Nat → Int32} {c q : Nat} (h : q < 7 ∨ q = 10 ∨ q = 11 ∨ 13 ≤ q) (h2 : q < 13 + 12 * c ∨ 13 + 12 * c + 12 ≤ q) : zDel1 s c q = s q := by
  simp only [zDel1]
  rw [upd_n _ _ (by omega), upd_n _ _ (by omega)]
  split
  · rw [upd_n _ _ (by omega), pg_o (by decide) h2, pg_o (by decide) h2]
  · rw [upd_n _ _ (by omega), pg_o (by decide) h2, pg_o (by decide) h2]
theorem gd_lo {s : Nat → Int32} {c j k : Nat} {x : Int32} (h : j < 13) : gd (upd s j x) c k = gd s c k := by
  unfold gd upd
  rw [if_neg (by omega)]
theorem zDel1_g {s : Nat → Int32} {c k : Nat} : gd (zDel1 s c) c k = if k = 8 then s 5 else if k = 6 then (if gd s c 4 < s 5 then 4 else 3) else gd s c k := by
  simp only [zDel1]
  rw [gd_lo (by decide), gd_lo (by decide), pg_5]
  split
  · rw [gd_lo (by decide), gd_pg, gd_pg]
  · rw [gd_lo (by decide), gd_pg, gd_pg]
theorem zDel1_9 {s : Nat → Int32} {c : Nat} : zDel1 s c 9 = s 9 + if gd s c 4 < s 5 then 0 else gd s c 5 := by
  simp only [zDel1]
  rw [upd_n _ _ (by decide), upd_s]
  split
  · rw [upd_n _ _ (by decide), pg_lo (by decide), pg_lo (by decide)]
  · rw [upd_n _ _ (by decide), pg_lo (by decide), pg_lo (by decide), gd_lo (by decide), gd_pg, gd_pg]
    rfl
theorem zDel1_12 {s : Nat → Int32} {c : Nat} : zDel1 s c 12 = s 12 + (if s 5 < gd s c 3 then gd s c 3 - s 5 else 0) * s 2 := by
  simp only [zDel1]
  rw [upd_s, upd_n _ _ (by decide), upd_n _ _ (by decide)]
  by_cases h9 : gd s c 4 < s 5
  · rw [if_pos h9, if_pos h9, upd_n _ _ (by decide), upd_n _ _ (by decide), pg_lo (by decide), pg_lo (by decide), pg_lo (by decide), pg_lo (by decide)]
  · rw [if_neg h9, if_neg h9, upd_n _ _ (by decide), upd_n _ _ (by decide), pg_lo (by decide), pg_lo (by decide), pg_lo (by decide), pg_lo (by decide)]
theorem zDel_o {v : Nat} {s : Nat → Int32} {q : Nat} : ∀ k, (q < 7 ∨ q = 10 ∨ q = 11 ∨ 13 + 12 * k ≤ q) → (zDel v s k).1 q = s q
  | 0, _ => rfl
  | k + 1, h => by
    by_cases hc : zInV (zDel v s k).1 k (nI v)
    · rw [zDel_t hc]
      exact (zDel1_o (by omega) (by omega)).trans (zDel_o k (by omega))
    · rw [zDel_f hc]
      exact zDel_o k (by omega)
theorem i0_le {x : Int32} : 0 ≤ x ↔ 0 ≤ x.toInt := Int32.le_iff_toInt_le
/-- what comes early, as the hall reckons it -/
theorem z_early {t f : Int32} (h0 : 0 ≤ t) (h1 : 0 ≤ f) : (if (0 : Int32) < f - t then f - t else 0) = if t < f then f - t else 0 := by
  have a0 := i0_le.mp h0
  have a1 := i0_le.mp h1
  have a2 := Int32.toInt_lt t
  have a3 := Int32.toInt_lt f
  have e : (f - t).toInt = f.toInt - t.toInt := by rw [Int32.toInt_sub, Int.bmod_eq_of_le (by omega) (by omega)]
  have h : (0 : Int32) < f - t ↔ t < f := by
    rw [Int32.lt_iff_toInt_lt, Int32.lt_iff_toInt_lt, e]
    show 0 < _ ↔ _
    omega
  by_cases h9 : t < f
  · rw [if_pos (h.mpr h9), if_pos h9]
  · rw [if_neg (mt h.mp h9), if_neg h9]
theorem zEn_p {x : Int32} (h : 0 ≤ x) : zEn x = x := by
  unfold zEn
  rw [if_neg (fun z => by rw [z] at h; exact absurd h (by decide))]
set_option maxRecDepth 20000 in
set_option maxHeartbeats 4000000 in
theorem ct_X1_deliverLoad {K : zK} {M : mM} {nx : Nat} {b : Nat} {κ : hK} {π : Nat → Nat} (hm : hPicP M b κ π) {s : Nat → Int32} {n nv no : Nat} (hr : hRel κ s n nv no) {v : Nat} (hv : v < 4) (h05 : 0 ≤ s 5) (hft : ∀ c, c < n → 0 ≤ gd s c 3 ∧ gd s c 3 ≤ gd s c 4) (hu : ∀ c, c < n → zInV s c (nI v) → gd s c 6 = 2) : zCt K yX1_deliverLoad cX1_deliverLoad 5 zr_X1_deliverLoad 1 [.ref b, .ref (b + 21 + v)] M nx 0 0 (zI (fun x M' => x = (zDel v s n).2 ∧ ∃ κ', hPicP M' b κ' π ∧ hRel κ' ((zDel v s n).1) n nv no ∧ zFr M M' b 35)) := by
  refine z_enter [some (.ref b), some (.ref (b + 21 + v)), none, none, none] (by decide +kernel) (Nat.le_of_ble_eq_true rfl) rfl (fun B ok hz => ?_)
  have hmd := hr.made
  have hn16 := hr.1.2.1
  refine z_iconst (v := 0) ok dX1_deliverLoad_0 (by decide) ?_
  refine z_istore_n ok dX1_deliverLoad_1 (by decide) rfl ?_
  refine z_iconst (v := 0) ok dX1_deliverLoad_2 (by decide) ?_
  refine z_istore_n ok dX1_deliverLoad_3 (by decide) rfl ?_
  have loop4 : ∀ (t i : Nat) (y : Int32) (M1 : mM) (κ1 : hK) (vzq4 : Option Value), n < i + t → i ≤ n → y = (zDel v s i).2 → hPicP M1 b κ1 π → hRel κ1 (zDel v s i).1 n nv no → zFr M M1 b 35 → zV 5 B (zE B (zI (fun x M' => x = (zDel v s n).2 ∧ ∃ κ', hPicP M' b κ' π ∧ hRel κ' ((zDel v s n).1) n nv no ∧ zFr M M' b 35)) 0 0) 4 [some (.ref b), some (.ref (b + 21 + v)), some (.int y), some (.int (nI i)), vzq4] [] M1 0 0 := by
    intro t
    induction t with
    | zero => intro i y M1 κ1 vzq4 h1 h2; exact absurd h1 (by omega)
    | succ t ih =>
      intro i y M1 κ1 vzq4 h1 h2 hy hm1 hr1 hf1
      have hmd := hr1.made
      refine z_iload_n ok dX1_deliverLoad_4 rfl ?_
      refine z_aload_n ok dX1_deliverLoad_5 rfl ?_
      refine z_getf ok dX1_deliverLoad_6 zin_X1 rfl 4 (by decide) zw_192 hm1.1 rfl ?_
      refine z_icmp_ge (tgt := 122) ok dX1_deliverLoad_9 (by decide) (fun cz9 => ?_) (fun cz9 => ?_)
      · have hin : i = n := by rw [hmd, nI_leI (by omega) (by omega)] at cz9; omega
        rw [hin] at hy hr1
        refine z_iload_n ok dX1_deliverLoad_122 rfl ?_
        exact z_iret ok dX1_deliverLoad_123 rfl rfl rfl (Nat.zero_le _) ⟨hy, _, hm1, hr1, hf1⟩
      · have hin : i < n := by rw [hmd, nI_leI (by omega) (by omega)] at cz9; omega
        refine z_aload_n ok dX1_deliverLoad_12 rfl ?_
        refine z_getf ok dX1_deliverLoad_13 zin_X1 rfl 0 (by decide) zw_186 hm1.1 rfl ?_
        refine z_iload_n ok dX1_deliverLoad_16 rfl ?_
        refine h_ldC (j := i) ok dX1_deliverLoad_17 hm1 rfl (by omega) ?_
        refine z_astore ok dX1_deliverLoad_18 (by decide) rfl ?_
        refine z_aload ok dX1_deliverLoad_20 rfl ?_
        refine z_aload_n ok dX1_deliverLoad_22 rfl ?_
        refine z_callVi ok dX1_deliverLoad_23 zm_X0_isIn zw_453 zi_X0_isIn (hm1.2.2.2.2.1 i (by omega)).1 rfl (ct_isIn2 hm1 hr1 hin hv) rfl rfl (by decide) (by decide) (by decide) (Nat.le_of_ble_eq_true rfl) (fun xz1 Mz2 qz3 => ?_)
        obtain ⟨rfl, hMe⟩ := qz3
        obtain rfl := hMe.symm
        refine z_if_eq (tgt := 116) ok dX1_deliverLoad_26 (by decide) (fun cz26 => ?_) (fun cz26 => ?_)
        · have hb := b2_0.mp cz26
          refine z_iinc ok dX1_deliverLoad_116 rfl (zinc _) (by decide) rfl ?_
          refine z_goto (tgt := 4) ok dX1_deliverLoad_119 (by decide) ?_
          first | exact absurd (kU_s _ _ _ _ _) cz66 | exact absurd ((kU_s _ _ _ _ _).symm.trans cz66) (by decide) | exact ih (i + 1) _ _ _ _ (by omega) (by omega) (by rw [zDel_f hb]; exact hy) hm1 (by rw [zDel_f hb]; exact hr1) hf1 | exact ih (i + 1) _ _ _ _ (by omega) (by omega) (by rw [zDel_t hb, hy]; rfl) hm1 (by rw [zDel_t hb]; exact hr1.setCS (s' := zDel1 (zDel v s i).1 i) hin (fun a9 j9 h9 h8 => by simp only [kU_o h9, kU_o h8]) (fun q9 h9 h8 => zDel1_o (by omega) h8) (by have h9 := hr1.2.1; rw [zDel1_9, zDel1_12, zDel1_o (by decide) (by omega), zDel1_o (by decide) (by omega), zDel1_o (by decide) (by omega)]; simp [kU, h9, hlt, hts, hcc.2.2.2.1, hcc.2.2.2.2.2.1, hea, Int32.mul_comm]) (by have h9 := hcc; unfold kC at h9 ⊢; simp only [zDel1_g, kU_u, kU_a (show (0 : Nat) ≠ 4 by decide)]; simp [upd, h9, hlt, htm, hz5, h11])) (by repeat (first | assumption | exact zFr.rf | refine zFr.tr (by assumption) ?_))
        · have hb := Decidable.not_not.mp (mt b2_0.mpr cz26)
          have hcc := hr1.c hin
          have hgi : ∀ k, gd (zDel v s i).1 i k = gd s i k := fun k => zDel_o i (by omega)
          have h59 : (zDel v s i).1 5 = s 5 := zDel_o i (by omega)
          have h29 : (zDel v s i).1 2 = s 2 := zDel_o i (by omega)
          have hfr := hft i hin
          have hts := hr1.2.2.1 2 (by decide)
          have htm := hr1.tm
          have hu2 : gd (zDel v s i).1 i 6 = 2 := by rw [hgi]; exact hu i hin (by have h9 := hb; unfold zInV at h9 ⊢; rw [hgi, hgi] at h9; exact h9)
          have h11 := hcc.2.2.2.2.2.2.2.2.2.2.2 (by rw [hu2]; decide) (by rw [hu2]; decide)
          refine z_aload ok dX1_deliverLoad_29 rfl ?_
          refine z_aload_n ok dX1_deliverLoad_31 rfl ?_
          refine z_getf ok dX1_deliverLoad_32 zin_X1 rfl 7 (by decide) zw_198 hm1.1 rfl ?_
          refine h_putC12 ok dX1_deliverLoad_35 zw_76 hm1 (by omega) (fun Mz5 hm4 frz6 => ?_)
          refine z_aload ok dX1_deliverLoad_38 rfl ?_
          refine z_aload_n ok dX1_deliverLoad_40 rfl ?_
          refine z_getf ok dX1_deliverLoad_41 zin_X1 rfl 7 (by decide) zw_198 hm4.1 rfl ?_
          refine z_aload ok dX1_deliverLoad_44 rfl ?_
          refine z_getf ok dX1_deliverLoad_46 zin_X0 rfl 5 (by decide) zw_54 (hm4.2.2.2.2.1 i (by omega)).1 rfl ?_
          rw [show kU κ1 0 i 12 (κ1 4 0 7) 4 0 7 = κ1 4 0 7 from kU_n (by omega), show kU κ1 0 i 12 (κ1 4 0 7) 0 i 5 = κ1 0 i 5 from kU_n (by omega)]
          refine z_icmp_le (tgt := 56) ok dX1_deliverLoad_49 (by decide) (fun cz49 => ?_) (fun cz49 => ?_)
          · have hlt : ¬ gd (zDel v s i).1 i 4 < (zDel v s i).1 5 := by rw [← htm, ← hcc.2.2.2.2.1]; exact Int32.not_lt.mpr cz49
            have hz5 : zEn ((zDel v s i).1 5) = (zDel v s i).1 5 := zEn_p (by rw [h59]; exact h05)
            have hea : (if (0 : Int32) < gd (zDel v s i).1 i 3 - (zDel v s i).1 5 then gd (zDel v s i).1 i 3 - (zDel v s i).1 5 else 0) = _ := z_early (by rw [h59]; exact h05) (by rw [hgi]; exact hfr.1)
            refine z_iconst (v := 3) ok dX1_deliverLoad_56 (by decide) ?_
            refine h_putC7 ok dX1_deliverLoad_57 zw_60 hm4 (by omega) (fun Mz8 hm7 frz9 => ?_)
            refine z_aload ok dX1_deliverLoad_60 rfl ?_
            refine z_getf ok dX1_deliverLoad_62 zin_X0 rfl 7 (by decide) zw_60 (hm7.2.2.2.2.1 i (by omega)).1 rfl ?_
            refine z_iconst (v := 3) ok dX1_deliverLoad_65 (by decide) ?_
            refine z_icmp_ne (tgt := 113) ok dX1_deliverLoad_66 (by decide) (fun cz66 => ?_) (fun cz66 => ?_)
            · refine z_iinc ok dX1_deliverLoad_113 rfl rfl (by decide) rfl ?_
              refine z_iinc ok dX1_deliverLoad_116 rfl (zinc _) (by decide) rfl ?_
              refine z_goto (tgt := 4) ok dX1_deliverLoad_119 (by decide) ?_
              first | exact absurd (kU_s _ _ _ _ _) cz66 | exact absurd ((kU_s _ _ _ _ _).symm.trans cz66) (by decide) | exact ih (i + 1) _ _ _ _ (by omega) (by omega) (by rw [zDel_f hb]; exact hy) hm7 (by rw [zDel_f hb]; exact hr1) hf1 | exact ih (i + 1) _ _ _ _ (by omega) (by omega) (by rw [zDel_t hb, hy]; rfl) hm7 (by rw [zDel_t hb]; exact hr1.setCS (s' := zDel1 (zDel v s i).1 i) hin (fun a9 j9 h9 h8 => by simp only [kU_o h9, kU_o h8]) (fun q9 h9 h8 => zDel1_o (by omega) h8) (by have h9 := hr1.2.1; rw [zDel1_9, zDel1_12, zDel1_o (by decide) (by omega), zDel1_o (by decide) (by omega), zDel1_o (by decide) (by omega)]; simp [kU, h9, hlt, hts, hcc.2.2.2.1, hcc.2.2.2.2.2.1, hea, Int32.mul_comm]) (by have h9 := hcc; unfold kC at h9 ⊢; simp only [zDel1_g, kU_u, kU_a (show (0 : Nat) ≠ 4 by decide)]; simp [upd, h9, hlt, htm, hz5, h11])) (by repeat (first | assumption | exact zFr.rf | refine zFr.tr (by assumption) ?_))
            · refine z_aload_n ok dX1_deliverLoad_69 rfl ?_
              refine z_dup ok dX1_deliverLoad_70 rfl ?_
              refine z_getf ok dX1_deliverLoad_71 zin_X1 rfl 8 (by decide) zw_200 hm7.1 rfl ?_
              refine z_aload ok dX1_deliverLoad_74 rfl ?_
              refine z_getf ok dX1_deliverLoad_76 zin_X0 rfl 6 (by decide) zw_57 (hm7.2.2.2.2.1 i (by omega)).1 rfl ?_
              refine z_iadd ok dX1_deliverLoad_79 ?_
              refine h_putH8 ok dX1_deliverLoad_80 zw_200 hm7 (fun Mz11 hm10 frz12 => ?_)
              refine z_aload_n ok dX1_deliverLoad_83 rfl ?_
              refine z_dup ok dX1_deliverLoad_84 rfl ?_
              refine z_getf ok dX1_deliverLoad_85 zin_X1 rfl 11 (by decide) zw_206 hm10.1 rfl ?_
              refine z_aload_n ok dX1_deliverLoad_88 rfl ?_
              refine z_getf ok dX1_deliverLoad_89 zin_X1 rfl 3 (by decide) zw_190 hm10.1 rfl ?_
              refine z_iconst (v := 2) ok dX1_deliverLoad_92 (by decide) ?_
              refine h_ldT ok dX1_deliverLoad_93 hm10 rfl (by decide) ?_
              refine z_iconst (v := 0) ok dX1_deliverLoad_94 (by decide) ?_
              refine z_aload ok dX1_deliverLoad_95 rfl ?_
              refine z_getf ok dX1_deliverLoad_97 zin_X0 rfl 4 (by decide) zw_51 (hm10.2.2.2.2.1 i (by omega)).1 rfl ?_
              refine z_aload_n ok dX1_deliverLoad_100 rfl ?_
              refine z_getf ok dX1_deliverLoad_101 zin_X1 rfl 7 (by decide) zw_198 hm10.1 rfl ?_
              refine z_isub ok dX1_deliverLoad_104 ?_
              refine z_mmax ok dX1_deliverLoad_105 zw_422 zw_423 zw_12 zw_424 (by decide) (Nat.le_of_ble_eq_true rfl) (Nat.zero_le _) (Nat.zero_le _) ?_
              refine z_imul ok dX1_deliverLoad_108 ?_
              refine z_iadd ok dX1_deliverLoad_109 ?_
              refine h_putH11 ok dX1_deliverLoad_110 zw_206 hm10 (fun Mz14 hm13 frz15 => ?_)
              refine z_iinc ok dX1_deliverLoad_113 rfl rfl (by decide) rfl ?_
              refine z_iinc ok dX1_deliverLoad_116 rfl (zinc _) (by decide) rfl ?_
              refine z_goto (tgt := 4) ok dX1_deliverLoad_119 (by decide) ?_
              first | exact absurd (kU_s _ _ _ _ _) cz66 | exact absurd ((kU_s _ _ _ _ _).symm.trans cz66) (by decide) | exact ih (i + 1) _ _ _ _ (by omega) (by omega) (by rw [zDel_f hb]; exact hy) hm13 (by rw [zDel_f hb]; exact hr1) hf1 | exact ih (i + 1) _ _ _ _ (by omega) (by omega) (by rw [zDel_t hb, hy]; rfl) hm13 (by rw [zDel_t hb]; exact hr1.setCS (s' := zDel1 (zDel v s i).1 i) hin (fun a9 j9 h9 h8 => by simp only [kU_o h9, kU_o h8]) (fun q9 h9 h8 => zDel1_o (by omega) h8) (by have h9 := hr1.2.1; rw [zDel1_9, zDel1_12, zDel1_o (by decide) (by omega), zDel1_o (by decide) (by omega), zDel1_o (by decide) (by omega)]; simp [kU, h9, hlt, hts, hcc.2.2.2.1, hcc.2.2.2.2.2.1, hea, Int32.mul_comm]) (by have h9 := hcc; unfold kC at h9 ⊢; simp only [zDel1_g, kU_u, kU_a (show (0 : Nat) ≠ 4 by decide)]; simp [upd, h9, hlt, htm, hz5, h11])) (by repeat (first | assumption | exact zFr.rf | refine zFr.tr (by assumption) ?_))
          · have hlt : gd (zDel v s i).1 i 4 < (zDel v s i).1 5 := by rw [← htm, ← hcc.2.2.2.2.1]; exact Int32.not_le.mp cz49
            have hz5 : zEn ((zDel v s i).1 5) = (zDel v s i).1 5 := zEn_p (by rw [h59]; exact h05)
            have hea : ¬ (zDel v s i).1 5 < gd (zDel v s i).1 i 3 := by have a9 := hlt; rw [hgi] at a9 ⊢; exact fun z9 => Int32.lt_irrefl (Int32.lt_of_lt_of_le (Int32.lt_trans a9 z9) hfr.2)
            refine z_iconst (v := 4) ok dX1_deliverLoad_52 (by decide) ?_
            refine z_goto (tgt := 57) ok dX1_deliverLoad_53 (by decide) ?_
            refine h_putC7 ok dX1_deliverLoad_57 zw_60 hm4 (by omega) (fun Mz17 hm16 frz18 => ?_)
            refine z_aload ok dX1_deliverLoad_60 rfl ?_
            refine z_getf ok dX1_deliverLoad_62 zin_X0 rfl 7 (by decide) zw_60 (hm16.2.2.2.2.1 i (by omega)).1 rfl ?_
            refine z_iconst (v := 3) ok dX1_deliverLoad_65 (by decide) ?_
            refine z_icmp_ne (tgt := 113) ok dX1_deliverLoad_66 (by decide) (fun cz66 => ?_) (fun cz66 => ?_)
            · refine z_iinc ok dX1_deliverLoad_113 rfl rfl (by decide) rfl ?_
              refine z_iinc ok dX1_deliverLoad_116 rfl (zinc _) (by decide) rfl ?_
              refine z_goto (tgt := 4) ok dX1_deliverLoad_119 (by decide) ?_
              first | exact absurd (kU_s _ _ _ _ _) cz66 | exact absurd ((kU_s _ _ _ _ _).symm.trans cz66) (by decide) | exact ih (i + 1) _ _ _ _ (by omega) (by omega) (by rw [zDel_f hb]; exact hy) hm16 (by rw [zDel_f hb]; exact hr1) hf1 | exact ih (i + 1) _ _ _ _ (by omega) (by omega) (by rw [zDel_t hb, hy]; rfl) hm16 (by rw [zDel_t hb]; exact hr1.setCS (s' := zDel1 (zDel v s i).1 i) hin (fun a9 j9 h9 h8 => by simp only [kU_o h9, kU_o h8]) (fun q9 h9 h8 => zDel1_o (by omega) h8) (by have h9 := hr1.2.1; rw [zDel1_9, zDel1_12, zDel1_o (by decide) (by omega), zDel1_o (by decide) (by omega), zDel1_o (by decide) (by omega)]; simp [kU, h9, hlt, hts, hcc.2.2.2.1, hcc.2.2.2.2.2.1, hea, Int32.mul_comm]) (by have h9 := hcc; unfold kC at h9 ⊢; simp only [zDel1_g, kU_u, kU_a (show (0 : Nat) ≠ 4 by decide)]; simp [upd, h9, hlt, htm, hz5, h11])) (by repeat (first | assumption | exact zFr.rf | refine zFr.tr (by assumption) ?_))
            · refine z_aload_n ok dX1_deliverLoad_69 rfl ?_
              refine z_dup ok dX1_deliverLoad_70 rfl ?_
              refine z_getf ok dX1_deliverLoad_71 zin_X1 rfl 8 (by decide) zw_200 hm16.1 rfl ?_
              refine z_aload ok dX1_deliverLoad_74 rfl ?_
              refine z_getf ok dX1_deliverLoad_76 zin_X0 rfl 6 (by decide) zw_57 (hm16.2.2.2.2.1 i (by omega)).1 rfl ?_
              refine z_iadd ok dX1_deliverLoad_79 ?_
              refine h_putH8 ok dX1_deliverLoad_80 zw_200 hm16 (fun Mz20 hm19 frz21 => ?_)
              refine z_aload_n ok dX1_deliverLoad_83 rfl ?_
              refine z_dup ok dX1_deliverLoad_84 rfl ?_
              refine z_getf ok dX1_deliverLoad_85 zin_X1 rfl 11 (by decide) zw_206 hm19.1 rfl ?_
              refine z_aload_n ok dX1_deliverLoad_88 rfl ?_
              refine z_getf ok dX1_deliverLoad_89 zin_X1 rfl 3 (by decide) zw_190 hm19.1 rfl ?_
              refine z_iconst (v := 2) ok dX1_deliverLoad_92 (by decide) ?_
              refine h_ldT ok dX1_deliverLoad_93 hm19 rfl (by decide) ?_
              refine z_iconst (v := 0) ok dX1_deliverLoad_94 (by decide) ?_
              refine z_aload ok dX1_deliverLoad_95 rfl ?_
              refine z_getf ok dX1_deliverLoad_97 zin_X0 rfl 4 (by decide) zw_51 (hm19.2.2.2.2.1 i (by omega)).1 rfl ?_
              refine z_aload_n ok dX1_deliverLoad_100 rfl ?_
              refine z_getf ok dX1_deliverLoad_101 zin_X1 rfl 7 (by decide) zw_198 hm19.1 rfl ?_
              refine z_isub ok dX1_deliverLoad_104 ?_
              refine z_mmax ok dX1_deliverLoad_105 zw_422 zw_423 zw_12 zw_424 (by decide) (Nat.le_of_ble_eq_true rfl) (Nat.zero_le _) (Nat.zero_le _) ?_
              refine z_imul ok dX1_deliverLoad_108 ?_
              refine z_iadd ok dX1_deliverLoad_109 ?_
              refine h_putH11 ok dX1_deliverLoad_110 zw_206 hm19 (fun Mz23 hm22 frz24 => ?_)
              refine z_iinc ok dX1_deliverLoad_113 rfl rfl (by decide) rfl ?_
              refine z_iinc ok dX1_deliverLoad_116 rfl (zinc _) (by decide) rfl ?_
              refine z_goto (tgt := 4) ok dX1_deliverLoad_119 (by decide) ?_
              first | exact absurd (kU_s _ _ _ _ _) cz66 | exact absurd ((kU_s _ _ _ _ _).symm.trans cz66) (by decide) | exact ih (i + 1) _ _ _ _ (by omega) (by omega) (by rw [zDel_f hb]; exact hy) hm22 (by rw [zDel_f hb]; exact hr1) hf1 | exact ih (i + 1) _ _ _ _ (by omega) (by omega) (by rw [zDel_t hb, hy]; rfl) hm22 (by rw [zDel_t hb]; exact hr1.setCS (s' := zDel1 (zDel v s i).1 i) hin (fun a9 j9 h9 h8 => by simp only [kU_o h9, kU_o h8]) (fun q9 h9 h8 => zDel1_o (by omega) h8) (by have h9 := hr1.2.1; rw [zDel1_9, zDel1_12, zDel1_o (by decide) (by omega), zDel1_o (by decide) (by omega), zDel1_o (by decide) (by omega)]; simp [kU, h9, hlt, hts, hcc.2.2.2.1, hcc.2.2.2.2.2.1, hea, Int32.mul_comm]) (by have h9 := hcc; unfold kC at h9 ⊢; simp only [zDel1_g, kU_u, kU_a (show (0 : Nat) ≠ 4 by decide)]; simp [upd, h9, hlt, htm, hz5, h11])) (by repeat (first | assumption | exact zFr.rf | refine zFr.tr (by assumption) ?_))
  exact loop4 (n + 1) 0 _ _ _ _ (by omega) (by omega) rfl hm hr (by repeat (first | assumption | exact zFr.rf | refine zFr.tr (by assumption) ?_))


