theorem oI_ne {o : Option Nat} (h : ¬ oI o = -1) : ∃ k, o = some k ∧ oI o = nI k := by
  cases o with
  | none => exact absurd rfl h
  | some k => exact ⟨k, rfl, rfl⟩
theorem oI_eq {o : Option Nat} (hb : ∀ k, o = some k → k < 2 ^ 31) (h : oI o = -1) : o = none := by
  cases o with
  | none => rfl
  | some k =>
    have h1 : (nI k).toInt = (-1 : Int32).toInt := congrArg Int32.toInt h
    rw [nI_toInt (hb k rfl)] at h1
    have e : (-1 : Int32).toInt = -1 := rfl
    omega
theorem od_pv {s : Nat → Int32} {v k o f : Nat} {x : Int32} (hv : v < 4) (hk : k < 8) : od (pv s v k x) o f = od s o f := by
  unfold od pv upd
  rw [if_neg (by omega)]
theorem zBest_pv {s : Nat → Int32} {v k : Nat} {x p h r w : Int32} (hv : v < 4) (hk : k < 8) : ∀ n, zBest (pv s v k x) p h r w n = zBest s p h r w n
  | 0 => rfl
  | n + 1 => by
    rw [zBest, zBest, zBest_pv hv hk n]
    have e : zOk1 (pv s v k x) p h r w n ↔ zOk1 s p h r w n := by
      unfold zOk1
      rw [od_pv hv hk, od_pv hv hk, od_pv hv hk, od_pv hv hk]
    cases zBest s p h r w n with
    | none => simp only [e]
    | some j => simp only [e, od_pv hv hk]
theorem zDrop_pv {s : Nat → Int32} {v k no j : Nat} {x : Int32} (hv : v < 4) (hk : k < 8) : zDrop (pv s v k x) no j = pv (zDrop s no j) v k x := by
  funext q
  unfold zDrop zDrI pv upd
  dsimp only
  by_cases h1 : 237 + 5 * j ≤ q ∧ q < 237 + 5 * (no - 1)
  · rw [if_pos h1, if_neg (by omega), if_neg (by omega), if_pos h1]
  · rw [if_neg h1]
    by_cases h2 : q = 6
    · rw [if_pos h2, if_neg (by omega), if_neg h1, if_pos h2]
    · rw [if_neg h2, if_neg h1, if_neg h2]
theorem hRel.setV6 {κ : hK} {s : Nat → Int32} {n nv no i : Nat} {x y : Int32} (h : hRel κ (pv s i 6 y) n nv no) (hi : i < nv) : hRel (kU κ 1 i 7 x) (pv s i 6 x) n nv no := by
  refine h.setV hi (fun a j h9 => kU_o h9) (fun q h9 => (pv_o (by decide) h9).trans (pv_o (by decide) h9).symm) ?_
  have h9 := h.2.2.2.2.1 i hi
  unfold kV at h9 ⊢
  simp only [vd_pv, kU_u] at h9 ⊢
  simp only [upd]
  simp at h9 ⊢
  exact ⟨h9.1, h9.2.1, h9.2.2.1, h9.2.2.2.2.1, h9.2.2.2.2.2⟩
theorem zDrop_pr {s : Nat → Int32} {no k : Nat} (h : ∀ o, o < no → 0 ≤ od s o 3) (hk : k < no) : ∀ o, o < no - 1 → 0 ≤ od (zDrop s no k) o 3 := fun o ho => by
  rw [zDrop_od ho (by decide) (by omega)]
  exact h _ (by unfold zRot; split <;> (try split) <;> omega)
set_option maxRecDepth 20000 in
set_option maxHeartbeats 4000000 in
theorem ct_X1_takeOffers {K : zK} {M : mM} {nx : Nat} {b : Nat} {κ : hK} {π : Nat → Nat} (hm : hPicP M b κ π) {s : Nat → Int32} {n nv no : Nat} (hr : hRel κ s n nv no) {v : Nat} (hvv : v < nv) (hst : ¬ vd s v 2 = 0) (hpr : ∀ o, o < no → 0 ≤ od s o 3) : zCt K yX1_takeOffers cX1_takeOffers 6 zr_X1_takeOffers 1 [.ref b, .ref (b + 21 + v)] M nx 0 0 (zU (fun M' => ∃ κ' π' no', no' ≤ no ∧ hPicP M' b κ' π' ∧ hRel κ' (pv (zTake (vd s v 3) (s 5) no s (vd s v 0) (vd s v 1) 0).1 v 6 (vd s v 6 + (zTake (vd s v 3) (s 5) no s (vd s v 0) (vd s v 1) 0).2)) n nv no' ∧ zFr M M' b 35)) := by
  refine z_enter [some (.ref b), some (.ref (b + 21 + v)), none, none, none, none] (by decide +kernel) (Nat.le_of_ble_eq_true rfl) rfl (fun B ok hz => ?_)
  have hn4 := hr.1.2.2.2.1
  have hv : v < 4 := by omega
  have hn10 := hr.1.2.2.2.2.2
  have hkv := hr.2.2.2.2.1 v hvv
  refine z_aload_n ok dX1_takeOffers_0 rfl ?_
  refine z_getf ok dX1_takeOffers_1 zin_X5 rfl 1 (by decide) zw_114 (hm.2.2.2.2.2.1 v (by omega)).1 rfl ?_
  refine z_istore_n ok dX1_takeOffers_4 (by decide) rfl ?_
  refine z_aload_n ok dX1_takeOffers_5 rfl ?_
  refine z_getf ok dX1_takeOffers_6 zin_X5 rfl 2 (by decide) zw_117 (hm.2.2.2.2.2.1 v (by omega)).1 rfl ?_
  refine z_istore_n ok dX1_takeOffers_9 (by decide) rfl ?_
  refine z_iconst (v := 0) ok dX1_takeOffers_10 (by decide) ?_
  refine z_istore ok dX1_takeOffers_11 (by decide) rfl ?_
  have loop13 : ∀ (t i : Nat) (M1 : mM) (κ1 : hK) (π1 : Nat → Nat) (sz1 : Nat → Int32) (no1 : Nat) (rq1 wq1 tq1 : Int32) (vzq5 : Option Value), 10 < i + t → i ≤ 10 → no1 + i ≤ 10 → no1 ≤ no → zTake (vd s v 3) (s 5) no1 sz1 rq1 wq1 tq1 = (zTake (vd s v 3) (s 5) no s (vd s v 0) (vd s v 1) 0) → (∀ o, o < no1 → 0 ≤ od sz1 o 3) → sz1 5 = s 5 → (∀ k, k < 8 → vd sz1 v k = vd s v k) → hPicP M1 b κ1 π1 → hRel κ1 (pv sz1 v 6 (vd s v 6 + tq1)) n nv no1 → zFr M M1 b 35 → zV 6 B (zE B (zU (fun M' => ∃ κ' π' no', no' ≤ no ∧ hPicP M' b κ' π' ∧ hRel κ' (pv (zTake (vd s v 3) (s 5) no s (vd s v 0) (vd s v 1) 0).1 v 6 (vd s v 6 + (zTake (vd s v 3) (s 5) no s (vd s v 0) (vd s v 1) 0).2)) n nv no' ∧ zFr M M' b 35)) 0 0) 13 [some (.ref b), some (.ref (b + 21 + v)), some (.int rq1), some (.int wq1), some (.int (nI i)), vzq5] [] M1 0 0 := by
    intro t
    induction t with
    | zero => intro i M1 κ1 π1 sz1 no1 rq1 wq1 tq1 vzq5 h1 h2; exact absurd h1 (by omega)
    | succ t ih =>
      intro i M1 κ1 π1 sz1 no1 rq1 wq1 tq1 vzq5 h1 h2 ho1 hon hzt hpr1 h51 hvd1 hm1 hr1 hf1
      have hkv1 := hr1.2.2.2.2.1 v hvv
      refine z_iload ok dX1_takeOffers_13 rfl ?_
      refine z_bipush (v := 10) ok dX1_takeOffers_15 (by decide) ?_
      refine z_icmp_ge (tgt := 98) ok dX1_takeOffers_17 (by decide) (fun cz17 => ?_) (fun cz17 => ?_)
      · have hin : i = 10 := by have h9 := (nI_leI (a := 10) (by omega) (by omega)).mp cz17; omega
        have hn0 : no1 = 0 := by omega
        subst hn0
        exact z_vret ok dX1_takeOffers_98 rfl rfl (Nat.zero_le _) ⟨_, _, _, hon, hm1, by first | (rw [← hzt, zTake_none hzb]; exact hr1) | (rw [← hzt]; exact hr1), hf1⟩
      · have hin : i < 10 := by have h9 := mt (nI_leI (a := 10) (b := i) (by omega) (by omega)).mpr cz17; omega
        refine z_aload_n ok dX1_takeOffers_20 rfl ?_
        refine z_aload_n ok dX1_takeOffers_21 rfl ?_
        refine z_getf ok dX1_takeOffers_22 zin_X5 rfl 4 (by decide) zw_123 (hm1.2.2.2.2.2.1 v (by omega)).1 rfl ?_
        refine z_iload_n ok dX1_takeOffers_25 rfl ?_
        refine z_iload_n ok dX1_takeOffers_26 rfl ?_
        refine z_callVi ok dX1_takeOffers_27 zm_X1_bestOffer zw_555 zi_X1_bestOffer hm1.1 rfl (ct_X1_bestOffer hm1 hr1 (fun o9 h9 => by rw [od_pv hv (by decide)]; exact hpr1 o9 h9)) rfl rfl (by decide) (by decide) (by decide) (Nat.le_of_ble_eq_true rfl) (fun xz1 Mz2 qz3 => ?_)
        obtain ⟨hbq, hMe⟩ := qz3
        obtain rfl := hMe.symm
        rw [zBest_pv hv (by decide), pv_lo (by decide), h51, show κ1 1 v 4 = vd s v 3 from (hkv1.2.2.2.2.2 (by rw [vd_pv, if_neg (by decide), hvd1 2 (by decide)]; exact hst)).1.trans (by rw [vd_pv, if_neg (by decide)]; exact hvd1 3 (by decide))] at hbq
        refine z_istore ok dX1_takeOffers_30 (by decide) rfl ?_
        refine z_iload ok dX1_takeOffers_32 rfl ?_
        refine z_iconst (v := -1) ok dX1_takeOffers_34 (by decide) ?_
        refine z_icmp_ne (tgt := 41) ok dX1_takeOffers_35 (by decide) (fun cz35 => ?_) (fun cz35 => ?_)
        · obtain ⟨kz9, hzb, hke⟩ := oI_ne (fun z9 => cz35 (hbq.trans z9))
          have hxe := hbq.trans hke
          subst hxe
          have hkz := (zBest_lt hzb).1
          have hno10 := hr1.1.2.2.2.2.2
          have hq1 := hr1.2.2.2.2.2 kz9 hkz 1 (by decide)
          have hq2 := hr1.2.2.2.2.2 kz9 hkz 2 (by decide)
          have hq3 := hr1.2.2.2.2.2 kz9 hkz 3 (by decide)
          refine z_iload_n ok dX1_takeOffers_41 rfl ?_
          refine z_aload_n ok dX1_takeOffers_42 rfl ?_
          refine z_getf ok dX1_takeOffers_43 zin_X1 rfl 2 (by decide) zw_188 hm1.1 rfl ?_
          refine z_iload ok dX1_takeOffers_46 rfl ?_
          refine h_ldO (j := kz9) ok dX1_takeOffers_48 hm1 rfl (by omega) ?_
          refine z_getf ok dX1_takeOffers_49 zin_X3 rfl 1 (by decide) zw_164 (hm1.2.2.2.2.2.2.2.2 kz9 (by omega)) rfl ?_
          refine z_isub ok dX1_takeOffers_52 ?_
          refine z_istore_n ok dX1_takeOffers_53 (by decide) rfl ?_
          refine z_iload_n ok dX1_takeOffers_54 rfl ?_
          refine z_aload_n ok dX1_takeOffers_55 rfl ?_
          refine z_getf ok dX1_takeOffers_56 zin_X1 rfl 2 (by decide) zw_188 hm1.1 rfl ?_
          refine z_iload ok dX1_takeOffers_59 rfl ?_
          refine h_ldO (j := kz9) ok dX1_takeOffers_61 hm1 rfl (by omega) ?_
          refine z_getf ok dX1_takeOffers_62 zin_X3 rfl 2 (by decide) zw_167 (hm1.2.2.2.2.2.2.2.2 kz9 (by omega)) rfl ?_
          refine z_isub ok dX1_takeOffers_65 ?_
          refine z_istore_n ok dX1_takeOffers_66 (by decide) rfl ?_
          refine z_aload_n ok dX1_takeOffers_67 rfl ?_
          refine z_dup ok dX1_takeOffers_68 rfl ?_
          refine z_getf ok dX1_takeOffers_69 zin_X5 rfl 7 (by decide) zw_131 (hm1.2.2.2.2.2.1 v (by omega)).1 rfl ?_
          refine z_aload_n ok dX1_takeOffers_72 rfl ?_
          refine z_getf ok dX1_takeOffers_73 zin_X1 rfl 2 (by decide) zw_188 hm1.1 rfl ?_
          refine z_iload ok dX1_takeOffers_76 rfl ?_
          refine h_ldO (j := kz9) ok dX1_takeOffers_78 hm1 rfl (by omega) ?_
          refine z_getf ok dX1_takeOffers_79 zin_X3 rfl 3 (by decide) zw_170 (hm1.2.2.2.2.2.2.2.2 kz9 (by omega)) rfl ?_
          refine z_iadd ok dX1_takeOffers_82 ?_
          have hr2 : hRel (kU κ1 1 v 7 (κ1 1 v 7 + κ1 2 kz9 3)) (pv sz1 v 6 (vd s v 6 + tq1 + od sz1 kz9 3)) n nv no1 := by
            have h9 := hr1.setV6 (x := κ1 1 v 7 + κ1 2 kz9 3) hvv
            rw [hq3, od_pv hv (by decide), hkv1.2.2.2.1, vd_pv, if_pos rfl] at h9 ⊢
            exact h9
          refine h_putV7 ok dX1_takeOffers_83 zw_131 hm1 (by omega) (fun Mz5 hm4 frz6 => ?_)
          refine z_aload_n ok dX1_takeOffers_86 rfl ?_
          refine z_iload ok dX1_takeOffers_87 rfl ?_
          refine z_callVv ok dX1_takeOffers_89 zm_X1_removeOffer zw_559 zi_X1_removeOffer hm4.1 rfl (ct_X1_removeOffer hm4 hr2 hkz) rfl rfl (by decide) (by decide) (by decide) (Nat.le_of_ble_eq_true rfl) (fun Mz8 qz9 => ?_)
          obtain ⟨kq3, pq3, hm10, hr3, hf3⟩ := qz9
          refine z_iinc ok dX1_takeOffers_92 rfl (zinc _) (by decide) rfl ?_
          refine z_goto (tgt := 13) ok dX1_takeOffers_95 (by decide) ?_
          rw [hq1, hq2, od_pv hv (by decide), od_pv hv (by decide)]
          exact ih (i + 1) _ _ _ (zDrop sz1 no1 kz9) (no1 - 1) (rq1 - od sz1 kz9 1) (wq1 - od sz1 kz9 2) (tq1 + od sz1 kz9 3) _ (by omega) (by omega) (by omega) (by omega) (by rw [← zTake_some hzb]; exact hzt) (zDrop_pr hpr1 hkz) (by rw [zDrop_lo (by decide) (by decide)]; exact h51) (fun k9 h9 => (zDrop_lo (by omega) (by omega)).trans (hvd1 k9 h9)) hm10 (by rw [← zDrop_pv hv (by decide), ← Int32.add_assoc]; exact hr3) (by repeat (first | assumption | exact zFr.rf | refine zFr.tr (by assumption) ?_))
        · have hzb := oI_eq (fun k9 h9 => by have := (zBest_lt h9).1; have := hr1.1.2.2.2.2.2; omega) (hbq.symm.trans cz35)
          refine z_goto (tgt := 98) ok dX1_takeOffers_38 (by decide) ?_
          exact z_vret ok dX1_takeOffers_98 rfl rfl (Nat.zero_le _) ⟨_, _, _, hon, hm1, by first | (rw [← hzt, zTake_none hzb]; exact hr1) | (rw [← hzt]; exact hr1), hf1⟩
  exact loop13 11 0 _ _ _ s no _ _ 0 _ (by omega) (by omega) (by omega) (Nat.le_refl _) (by rw [hkv.1, hkv.2.1]) hpr rfl (fun _ _ => rfl) hm (hr.cong (fun q9 => by unfold pv; by_cases h9 : q9 = 205 + 8 * v + 6; rw [h9, upd_s, Int32.add_zero]; rfl; exact upd_n _ _ h9)) (by repeat (first | assumption | exact zFr.rf | refine zFr.tr (by assumption) ?_))

set_option maxRecDepth 20000 in
set_option maxHeartbeats 4000000 in
theorem ct_X1_dropOldOffers {K : zK} {M : mM} {nx : Nat} {b : Nat} {κ : hK} {π : Nat → Nat} (hm : hPicP M b κ π) {s : Nat → Int32} {n nv no : Nat} (hr : hRel κ s n nv no) : zCt K yX1_dropOldOffers cX1_dropOldOffers 2 zr_X1_dropOldOffers 1 [.ref b] M nx 0 0 (zU (fun M' => ∃ κ' π' no', no' ≤ no ∧ hPicP M' b κ' π' ∧ hRel κ' (zOld (cO s) s) n nv no' ∧ zFr M M' b 35)) := by
  refine z_enter [some (.ref b), none] (by decide +kernel) (Nat.le_of_ble_eq_true rfl) rfl (fun B ok hz => ?_)
  have hn10 := hr.1.2.2.2.2.2
  have L7 : ∀ (j : Nat) (ss : Nat → Int32) (M1 : mM) (κ1 : hK) (π1 : Nat → Nat) (x : Int32) (o9 : Nat), x = nI j - 1 → j ≤ o9 → o9 ≤ no → hPicP M1 b κ1 π1 → zFr M M1 b 35 → hRel κ1 ss n nv o9 → zOld j ss = zOld (cO s) s → zV 2 B (zE B (zU (fun M' => ∃ κ' π' no', no' ≤ no ∧ hPicP M' b κ' π' ∧ hRel κ' (zOld (cO s) s) n nv no' ∧ zFr M M' b 35)) 0 0) 7 [some (.ref b), some (.int x)] [] M1 0 0 := by
    intro j
    induction j with
    | zero =>
      intro ss M1 κ1 π1 x o9 hx hj hjo hm1 hf1 hrz hEq
      subst hx
      refine z_iload_n ok dX1_dropOldOffers_7 rfl ?_
      refine z_if_lt (tgt := 38) ok dX1_dropOldOffers_8 (by decide) (fun _ => ?_) (fun q9 => absurd (by decide) q9)
      exact z_vret ok dX1_dropOldOffers_38 rfl rfl (Nat.zero_le _) ⟨_, _, _, hjo, hm1, by rw [← hEq]; exact hrz, hf1⟩
    | succ j ihj =>
      intro ss M1 κ1 π1 x o9 hx hj hjo hm1 hf1 hrz hEq
      have hn10 := hrz.1.2.2.2.2.2
      rw [nI_pred] at hx
      subst hx
      refine z_iload_n ok dX1_dropOldOffers_7 rfl ?_
      refine z_if_lt (tgt := 38) ok dX1_dropOldOffers_8 (by decide) (fun q9 => absurd q9 (nI_pos (by omega))) (fun _ => ?_)
      refine z_aload_n ok dX1_dropOldOffers_11 rfl ?_
      refine z_getf ok dX1_dropOldOffers_12 zin_X1 rfl 2 (by decide) zw_188 hm1.1 rfl ?_
      refine z_iload_n ok dX1_dropOldOffers_15 rfl ?_
      refine h_ldO (j := j) ok dX1_dropOldOffers_16 hm1 rfl (by omega) ?_
      refine z_getf ok dX1_dropOldOffers_17 zin_X3 rfl 4 (by decide) zw_173 (hm1.2.2.2.2.2.2.2.2 j (by omega)) rfl ?_
      refine z_aload_n ok dX1_dropOldOffers_20 rfl ?_
      refine z_getf ok dX1_dropOldOffers_21 zin_X1 rfl 7 (by decide) zw_198 hm1.1 rfl ?_
      refine z_icmp_ge (tgt := 32) ok dX1_dropOldOffers_24 (by decide) (fun cz24 => ?_) (fun cz24 => ?_)
      · have hb : ¬ od ss j 4 < ss 5 := Int32.not_lt.mpr (by rw [← hrz.tm, ← hrz.2.2.2.2.2 j (by omega) 4 (by decide)]; exact cz24)
        have hfK := hf1
        have hrK := hrz
        refine z_iinc ok dX1_dropOldOffers_32 rfl (zdec _) (by decide) rfl ?_
        refine z_goto (tgt := 7) ok dX1_dropOldOffers_35 (by decide) ?_
        exact ihj _ _ _ _ _ _ rfl (by omega) (by omega) hm1 hfK hrK (by rw [← hEq, zOld]; first | rw [if_neg hb] | (rw [if_pos hb, cO_N hrz.1]))
      · have hb : od ss j 4 < ss 5 := by rw [← hrz.tm, ← hrz.2.2.2.2.2 j (by omega) 4 (by decide)]; exact i_nle cz24
        refine z_aload_n ok dX1_dropOldOffers_27 rfl ?_
        refine z_iload_n ok dX1_dropOldOffers_28 rfl ?_
        refine z_callVv ok dX1_dropOldOffers_29 zm_X1_removeOffer zw_559 zi_X1_removeOffer hm1.1 rfl (ct_X1_removeOffer hm1 hrz (by omega)) rfl rfl (by decide) (by decide) (by decide) (Nat.le_of_ble_eq_true rfl) (fun Mz2 qz3 => ?_)
        obtain ⟨kq3, pq3, hm4, hrK, hf3⟩ := qz3
        have hfK := hf1.tr hf3
        refine z_iinc ok dX1_dropOldOffers_32 rfl (zdec _) (by decide) rfl ?_
        refine z_goto (tgt := 7) ok dX1_dropOldOffers_35 (by decide) ?_
        exact ihj _ _ _ _ _ _ rfl (by omega) (by omega) hm4 hfK hrK (by rw [← hEq, zOld]; first | rw [if_neg hb] | (rw [if_pos hb, cO_N hrz.1]))
  refine z_aload_n ok dX1_dropOldOffers_0 rfl ?_
  refine z_getf ok dX1_dropOldOffers_1 zin_X1 rfl 6 (by decide) zw_196 hm.1 rfl ?_
  refine z_iconst (v := 1) ok dX1_dropOldOffers_4 (by decide) ?_
  refine z_isub ok dX1_dropOldOffers_5 ?_
  refine z_istore_n ok dX1_dropOldOffers_6 (by decide) rfl ?_
  exact L7 _ _ _ _ _ _ _ (by rw [hr.offs]) (Nat.le_refl _) (Nat.le_refl _) hm zFr.rf hr (by rw [cO_N hr.1])


