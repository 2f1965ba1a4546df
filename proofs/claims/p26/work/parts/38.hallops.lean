def kPost (M : mM) (b : Nat) (r : zRes) (x : Int32) (M' : mM) : Prop := match r with
  | .inl e => x = e ∧ M' = M
  | .inr q => x = q.2 ∧ (∃ κ π n nv no, hPicP M' b κ π ∧ hRel κ q.1 n nv no) ∧ zFr M M' b 35
theorem kPost_e {M : mM} {b : Nat} {r : zRes} {e : Int32} (h : r = .inl e) : kPost M b r e M := by
  rw [h]
  exact ⟨rfl, rfl⟩
theorem kPost_ok {M M' : mM} {b : Nat} {r : zRes} {s : Nat → Int32} {x : Int32} {κ : hK} {π : Nat → Nat} {n nv no : Nat} (hm : hPicP M' b κ π) (hr : hRel κ s n nv no) (hf : zFr M M' b 35) (h : r = .inr (s, x)) : kPost M b r x M' := by
  rw [h]
  exact ⟨rfl, ⟨κ, π, n, nv, no, hm, hr⟩, hf⟩
theorem kU_o {κ : hK} {a i k a' i' : Nat} {x : Int32} (h : ¬ (a' = a ∧ i' = i)) : kU κ a i k x a' i' = κ a' i' := by
  funext k'
  exact kU_n (fun z => h ⟨z.1, z.2.1⟩)
theorem pg_o {s : Nat → Int32} {c k q : Nat} {x : Int32} (hk : k < 12) (h : q < 13 + 12 * c ∨ 13 + 12 * c + 12 ≤ q) : pg s c k x q = s q := by
  unfold pg upd
  rw [if_neg (by omega)]
theorem gd_pg {s : Nat → Int32} {c k k' : Nat} {x : Int32} : gd (pg s c k x) c k' = if k' = k then x else gd s c k' := by
  unfold gd pg upd
  by_cases h : k' = k
  · rw [if_pos h, if_pos (by omega)]
  · rw [if_neg h, if_neg (by omega)]
theorem zEn_v {x : Int32} {v : Nat} (hv : v < 4) (h : x = nI v) : zEn x = x := by
  unfold zEn
  rw [if_neg (fun z => absurd (congrArg Int32.toInt (h.symm.trans z)) (by rw [nI_toInt (by omega)]; show ¬ ((v : Nat) : Int) = -1000004; omega))]
set_option maxRecDepth 20000 in
set_option maxHeartbeats 4000000 in
theorem ct_X1_takeOut {K : zK} {M : mM} {nx : Nat} {b : Nat} {κ : hK} {π : Nat → Nat} (hm : hPicP M b κ π) {s : Nat → Int32} {n nv no : Nat} (hr : hRel κ s n nv no) {c : Int32} (hld : ∀ i, i < n → gd s i 6 = 1 → ∃ v, v < nv ∧ gd s i 7 = nI v) : zCt K yX1_takeOut cX1_takeOut 3 zr_X1_takeOut 1 [.ref b, .int c] M nx 0 0 (zI (kPost M b (spUnload s c))) := by
  refine z_enter [some (.ref b), some (.int c), none] (by decide +kernel) (Nat.le_of_ble_eq_true rfl) rfl (fun B ok hz => ?_)
  have hmd := hr.made
  have hn16 := hr.1.2.1
  have hn4 := hr.1.2.2.2.1
  refine z_aload_n ok dX1_takeOut_0 rfl ?_
  refine z_iload_n ok dX1_takeOut_1 rfl ?_
  refine z_callVa ok dX1_takeOut_2 zm_X1_consignmentAt zw_401 zi_X1_consignmentAt hm.1 rfl (ct_X1_consignmentAt hm hr) rfl rfl (by decide) (by decide) (by decide) (Nat.le_of_ble_eq_true rfl) (fun xz1 Mz2 qz3 => ?_)
  obtain ⟨hMe, hcsq⟩ := qz3
  obtain rfl := hMe.symm
  rcases hcsq with ⟨hng2, rfl⟩ | ⟨jz2, hjz2, hcz2, hgd2, rfl⟩
  · have hnull2 := hng2
    refine z_astore_nN ok dX1_takeOut_5 (by decide) rfl ?_
    refine z_aload_nN ok dX1_takeOut_6 rfl ?_
    refine z_ifnonnullN ok dX1_takeOut_7 ?_
    refine z_ldc ok dX1_takeOut_10 zw_406 ?_
    exact z_iret ok dX1_takeOut_12 rfl rfl rfl (Nat.zero_le _) (kPost_e (by unfold spUnload; rw [if_neg hnull2]))
  · have hcc2 := hr.c hjz2
    refine z_astore_n ok dX1_takeOut_5 (by decide) rfl ?_
    refine z_aload_n ok dX1_takeOut_6 rfl ?_
    refine z_ifnonnull (tgt := 13) ok dX1_takeOut_7 (by decide) ?_
    refine z_aload_n ok dX1_takeOut_13 rfl ?_
    refine z_getf ok dX1_takeOut_14 zin_X0 rfl 7 (by decide) zw_60 (hm.2.2.2.2.1 jz2 (by omega)).1 rfl ?_
    refine z_iconst (v := 1) ok dX1_takeOut_17 (by decide) ?_
    refine z_icmp_eq (tgt := 24) ok dX1_takeOut_18 (by decide) (fun cz18 => ?_) (fun cz18 => ?_)
    · have hst : gd s jz2 6 = 1 := by rw [← hcc2.2.2.2.2.2.2.1]; exact cz18
      have htc : tN c = jz2 := by rw [hcz2]; exact tN_nI (by omega)
      obtain ⟨vq, hvq, hvv⟩ := hld jz2 hjz2 hst
      have hr2 : hRel (kU κ 0 jz2 7 0) (pg s jz2 6 0) n nv no := hr.setC hjz2 (fun a9 j9 h9 => kU_o h9) (fun q9 h9 => pg_o (by decide) h9) (by have h9 := hcc2; unfold kC at h9 ⊢; rw [kU_u]; simp only [gd_pg]; simp [upd, h9])
      refine z_aload_n ok dX1_takeOut_24 rfl ?_
      refine z_iconst (v := 0) ok dX1_takeOut_25 (by decide) ?_
      refine h_putC7 ok dX1_takeOut_26 zw_60 hm (by omega) (fun Mz5 hm4 frz6 => ?_)
      refine z_aload_n ok dX1_takeOut_29 rfl ?_
      refine z_getf ok dX1_takeOut_30 zin_X0 rfl 10 (by decide) zw_69 (hm4.2.2.2.2.1 jz2 (by omega)).1 rfl ?_
      exact z_iret ok dX1_takeOut_33 rfl rfl rfl (Nat.zero_le _) (kPost_ok hm4 hr2 (by repeat (first | assumption | exact zFr.rf | refine zFr.tr (by assumption) ?_)) (by unfold spUnload; rw [if_pos hgd2, htc, if_pos hst, gd_pg, if_neg (by decide), kU_n (by omega), hcc2.2.2.2.2.2.2.2.2.2.1, zEn_v (by omega) hvv]))
    · have hst : ¬ gd s jz2 6 = 1 := by rw [← hcc2.2.2.2.2.2.2.1]; exact cz18
      have htc : tN c = jz2 := by rw [hcz2]; exact tN_nI (by omega)
      refine z_ldc ok dX1_takeOut_21 zw_407 ?_
      exact z_iret ok dX1_takeOut_23 rfl rfl rfl (Nat.zero_le _) (kPost_e (by unfold spUnload; rw [if_pos hgd2, htc, if_neg hst]))

set_option maxRecDepth 20000 in
set_option maxHeartbeats 4000000 in
theorem ct_X1_putInto {K : zK} {M : mM} {nx : Nat} {b : Nat} {κ : hK} {π : Nat → Nat} (hm : hPicP M b κ π) {s : Nat → Int32} {n nv no : Nat} (hr : hRel κ s n nv no) {c v : Int32} (hsm : ∀ u, u < nv → zSm s n u) (hp1 : zP1 s n) : zCt K yX1_putInto cX1_putInto 5 zr_X1_putInto 3 [.ref b, .int c, .int v] M nx 0 0 (zI (kPost M b (spLoad s n c v))) := by
  refine z_enter [some (.ref b), some (.int c), some (.int v), none, none] (by decide +kernel) (Nat.le_of_ble_eq_true rfl) rfl (fun B ok hz => ?_)
  have hmd := hr.made
  have hn16 := hr.1.2.1
  have hn4 := hr.1.2.2.2.1
  refine z_aload_n ok dX1_putInto_0 rfl ?_
  refine z_iload_n ok dX1_putInto_1 rfl ?_
  refine z_callVa ok dX1_putInto_2 zm_X1_consignmentAt zw_401 zi_X1_consignmentAt hm.1 rfl (ct_X1_consignmentAt hm hr) rfl rfl (by decide) (by decide) (by decide) (Nat.le_of_ble_eq_true rfl) (fun xz1 Mz2 qz3 => ?_)
  obtain ⟨hMe, hcsq⟩ := qz3
  obtain rfl := hMe.symm
  rcases hcsq with ⟨hng2, rfl⟩ | ⟨jz2, hjz2, hcz2, hgd2, rfl⟩
  · have hnull2 := hng2
    refine z_astore_nN ok dX1_putInto_5 (by decide) rfl ?_
    refine z_aload_n ok dX1_putInto_6 rfl ?_
    refine z_iload_n ok dX1_putInto_7 rfl ?_
    refine z_callVa ok dX1_putInto_8 zm_X1_vehicleAt zw_441 zi_X1_vehicleAt hm.1 rfl (ct_X1_vehicleAt hm hr) rfl rfl (by decide) (by decide) (by decide) (Nat.le_of_ble_eq_true rfl) (fun xz4 Mz5 qz6 => ?_)
    obtain ⟨hMe, hcsq⟩ := qz6
    obtain rfl := hMe.symm
    rcases hcsq with ⟨hng8, rfl⟩ | ⟨jz8, hjz8, hcz8, hgd8, rfl⟩
    · have hnull8 := hng8
      refine z_astoreN ok dX1_putInto_11 (by decide) rfl ?_
      refine z_aload_nN ok dX1_putInto_13 rfl ?_
      refine z_ifnullN (tgt := 22) ok dX1_putInto_14 (by decide) ?_
      refine z_ldc ok dX1_putInto_22 zw_406 ?_
      exact z_iret ok dX1_putInto_24 rfl rfl rfl (Nat.zero_le _) (kPost_e (by unfold spLoad; first | (rw [if_neg (fun z9 => hng2 z9.1)]) | (rw [if_neg (fun z9 => hng8 z9.2)])))
    · have hkv8 := hr.2.2.2.2.1 jz8 hjz8
      refine z_astore ok dX1_putInto_11 (by decide) rfl ?_
      refine z_aload_nN ok dX1_putInto_13 rfl ?_
      refine z_ifnullN (tgt := 22) ok dX1_putInto_14 (by decide) ?_
      refine z_ldc ok dX1_putInto_22 zw_406 ?_
      exact z_iret ok dX1_putInto_24 rfl rfl rfl (Nat.zero_le _) (kPost_e (by unfold spLoad; first | (rw [if_neg (fun z9 => hng2 z9.1)]) | (rw [if_neg (fun z9 => hng8 z9.2)])))
  · have hcc2 := hr.c hjz2
    refine z_astore_n ok dX1_putInto_5 (by decide) rfl ?_
    refine z_aload_n ok dX1_putInto_6 rfl ?_
    refine z_iload_n ok dX1_putInto_7 rfl ?_
    refine z_callVa ok dX1_putInto_8 zm_X1_vehicleAt zw_441 zi_X1_vehicleAt hm.1 rfl (ct_X1_vehicleAt hm hr) rfl rfl (by decide) (by decide) (by decide) (Nat.le_of_ble_eq_true rfl) (fun xz7 Mz8 qz9 => ?_)
    obtain ⟨hMe, hcsq⟩ := qz9
    obtain rfl := hMe.symm
    rcases hcsq with ⟨hng8, rfl⟩ | ⟨jz8, hjz8, hcz8, hgd8, rfl⟩
    · have hnull8 := hng8
      refine z_astoreN ok dX1_putInto_11 (by decide) rfl ?_
      refine z_aload_n ok dX1_putInto_13 rfl ?_
      refine z_ifnull ok dX1_putInto_14 ?_
      refine z_aloadN ok dX1_putInto_17 rfl ?_
      refine z_ifnonnullN ok dX1_putInto_19 ?_
      refine z_ldc ok dX1_putInto_22 zw_406 ?_
      exact z_iret ok dX1_putInto_24 rfl rfl rfl (Nat.zero_le _) (kPost_e (by unfold spLoad; first | (rw [if_neg (fun z9 => hng2 z9.1)]) | (rw [if_neg (fun z9 => hng8 z9.2)])))
    · have hkv8 := hr.2.2.2.2.1 jz8 hjz8
      refine z_astore ok dX1_putInto_11 (by decide) rfl ?_
      refine z_aload_n ok dX1_putInto_13 rfl ?_
      refine z_ifnull ok dX1_putInto_14 ?_
      refine z_aload ok dX1_putInto_17 rfl ?_
      refine z_ifnonnull (tgt := 25) ok dX1_putInto_19 (by decide) ?_
      refine z_aload_n ok dX1_putInto_25 rfl ?_
      refine z_aload ok dX1_putInto_26 rfl ?_
      refine z_aload_n ok dX1_putInto_28 rfl ?_
      refine z_callVi ok dX1_putInto_29 zm_X1_canTake zw_445 zi_X1_canTake hm.1 rfl (ct_X1_canTake hm hr hjz8 hjz2 (hsm _ hjz8) hp1) rfl rfl (by decide) (by decide) (by decide) (Nat.le_of_ble_eq_true rfl) (fun xz10 Mz11 qz12 => ?_)
      obtain ⟨rfl, hMe⟩ := qz12
      obtain rfl := hMe.symm
      refine z_if_ne (tgt := 38) ok dX1_putInto_32 (by decide) (fun cz32 => ?_) (fun cz32 => ?_)
      · have hb0 : zCan s n jz2 jz8 := Decidable.not_not.mp (mt b2_0.mpr cz32)
        have hnum := (hm.2.2.2.2.2.1 jz8 (by omega)).2
        have hr2 := hr.setC (κ' := kU (kU κ 0 jz2 7 1) 0 jz2 10 (κ 1 jz8 0)) (s' := zLoads s jz2 jz8) hjz2 (fun a9 j9 h9 => (kU_o h9).trans (kU_o h9)) (fun q9 h9 => (pg_o (by decide) h9).trans (pg_o (by decide) h9)) (by have h9 := hcc2; unfold kC at h9 ⊢; rw [kU_u, kU_u]; simp only [zLoads, gd_pg]; simp [upd, h9, hnum]; exact (zEn_v (v := jz8) (by omega) rfl).symm)
        have hkv2 := hr2.2.2.2.2.1 jz8 hjz8
        refine z_aload_n ok dX1_putInto_38 rfl ?_
        refine z_iconst (v := 1) ok dX1_putInto_39 (by decide) ?_
        refine h_putC7 ok dX1_putInto_40 zw_60 hm (by omega) (fun Mz14 hm13 frz15 => ?_)
        refine z_aload_n ok dX1_putInto_43 rfl ?_
        refine z_aload ok dX1_putInto_44 rfl ?_
        refine z_getf ok dX1_putInto_46 zin_X5 rfl 0 (by decide) zw_112 (hm13.2.2.2.2.2.1 jz8 (by omega)).1 rfl ?_
        refine h_putC10 ok dX1_putInto_49 zw_69 hm13 (by omega) (fun Mz17 hm16 frz18 => ?_)
        refine z_aload ok dX1_putInto_52 rfl ?_
        refine z_getf ok dX1_putInto_54 zin_X5 rfl 1 (by decide) zw_114 (hm16.2.2.2.2.2.1 jz8 (by omega)).1 rfl ?_
        refine z_aload_n ok dX1_putInto_57 rfl ?_
        refine z_aload ok dX1_putInto_58 rfl ?_
        refine z_callVi ok dX1_putInto_60 zm_X1_loadSize zw_457 zi_X1_loadSize hm16.1 rfl (ct_X1_loadSize hm16 hr2 (by omega)) rfl rfl (by decide) (by decide) (by decide) (Nat.le_of_ble_eq_true rfl) (fun xz19 Mz20 qz21 => ?_)
        obtain ⟨rfl, hMe⟩ := qz21
        obtain rfl := hMe.symm
        refine z_isub ok dX1_putInto_63 ?_
        exact z_iret ok dX1_putInto_64 rfl rfl rfl (Nat.zero_le _) (kPost_ok hm16 hr2 (by repeat (first | assumption | exact zFr.rf | refine zFr.tr (by assumption) ?_)) (by unfold spLoad; rw [if_pos ⟨hgd2, hgd8⟩, hcz2, hcz8, tN_nI (by omega), tN_nI (by omega), if_pos hb0]; exact congrArg (fun z9 => Sum.inr (zLoads s jz2 jz8, z9 - _)) hkv2.1.symm))
      · have hb0 : ¬ zCan s n jz2 jz8 := b2_0.mp cz32
        refine z_ldc ok dX1_putInto_35 zw_407 ?_
        exact z_iret ok dX1_putInto_37 rfl rfl rfl (Nat.zero_le _) (kPost_e (by unfold spLoad; rw [if_pos ⟨hgd2, hgd8⟩, hcz2, hcz8, tN_nI (by omega), tN_nI (by omega), if_neg hb0]))

set_option maxRecDepth 20000 in
set_option maxHeartbeats 4000000 in
theorem ct_X6_isWithin {K : zK} {M : mM} {nx : Nat} {v lo hi : Int32} : zCt K yX6_isWithin cX6_isWithin 3 zr_X6_isWithin 0 [.int v, .int lo, .int hi] M nx 0 0 (zI (fun x M' => x = b2 (lo ≤ v ∧ v ≤ hi) ∧ M' = M)) := by
  refine z_enter [some (.int v), some (.int lo), some (.int hi)] (by decide +kernel) (Nat.le_of_ble_eq_true rfl) rfl (fun B ok hz => ?_)
  refine z_iload_n ok dX6_isWithin_0 rfl ?_
  refine z_iload_n ok dX6_isWithin_1 rfl ?_
  refine z_icmp_lt (tgt := 14) ok dX6_isWithin_2 (by decide) (fun cz2 => ?_) (fun cz2 => ?_)
  · refine z_iconst (v := 0) ok dX6_isWithin_14 (by decide) ?_
    exact z_iret ok dX6_isWithin_15 rfl rfl rfl (Nat.zero_le _) ⟨by first | (exact b2_t (by grind)) | (exact b2_f (by grind)), rfl⟩
  · refine z_iload_n ok dX6_isWithin_5 rfl ?_
    refine z_iload_n ok dX6_isWithin_6 rfl ?_
    refine z_icmp_gt (tgt := 14) ok dX6_isWithin_7 (by decide) (fun cz7 => ?_) (fun cz7 => ?_)
    · refine z_iconst (v := 0) ok dX6_isWithin_14 (by decide) ?_
      exact z_iret ok dX6_isWithin_15 rfl rfl rfl (Nat.zero_le _) ⟨by first | (exact b2_t (by grind)) | (exact b2_f (by grind)), rfl⟩
    · refine z_iconst (v := 1) ok dX6_isWithin_10 (by decide) ?_
      refine z_goto (tgt := 15) ok dX6_isWithin_11 (by decide) ?_
      exact z_iret ok dX6_isWithin_15 rfl rfl rfl (Nat.zero_le _) ⟨by first | (exact b2_t (by grind)) | (exact b2_f (by grind)), rfl⟩

theorem vd_pv {s : Nat → Int32} {c k k' : Nat} {x : Int32} : vd (pv s c k x) c k' = if k' = k then x else vd s c k' := by
  unfold vd pv upd
  by_cases h : k' = k
  · rw [if_pos h, if_pos (by omega)]
  · rw [if_neg h, if_neg (by omega)]
theorem pv_o {s : Nat → Int32} {c k q : Nat} {x : Int32} (hk : k < 8) (h : q < 205 + 8 * c ∨ 205 + 8 * c + 8 ≤ q) : pv s c k x q = s q := by
  unfold pv upd
  rw [if_neg (by omega)]
theorem zV0_o {s : Nat → Int32} {c q : Nat} (h : q < 205 + 8 * c ∨ 205 + 8 * c + 8 ≤ q) : ∀ k, k ≤ 8 → zV0 s c k q = s q
  | 0, _ => rfl
  | k + 1, hk => (pv_o (by omega) h).trans (zV0_o h k (by omega))
theorem zV0_v {s : Nat → Int32} {c j : Nat} : ∀ k, j < k → vd (zV0 s c k) c j = 0
  | 0, h => absurd h (by omega)
  | k + 1, h => by
    rw [zV0, vd_pv]
    by_cases hj : j = k
    · exact if_pos hj
    · rw [if_neg hj]
      exact zV0_v k (by omega)
theorem vd_lo {s : Nat → Int32} {c j k : Nat} {x : Int32} (h : j < 13) : vd (upd s j x) c k = vd s c k := by
  unfold vd upd
  rw [if_neg (by omega)]
set_option maxRecDepth 20000 in
set_option maxHeartbeats 4000000 in
theorem ct_X1_addVehicle {K : zK} {M : mM} {nx : Nat} {b : Nat} {κ : hK} {π : Nat → Nat} (hm : hPicP M b κ π) {s : Nat → Int32} {n nv no : Nat} (hr : hRel κ s n nv no) {r w : Int32} : zCt K yX1_addVehicle cX1_addVehicle 4 zr_X1_addVehicle 1 [.ref b, .int r, .int w] M nx 0 0 (zI (kPost M b (spVehicle s nv r w))) := by
  refine z_enter [some (.ref b), some (.int r), some (.int w), none] (by decide +kernel) (Nat.le_of_ble_eq_true rfl) rfl (fun B ok hz => ?_)
  have hvd := hr.vehs
  have hn4 := hr.1.2.2.2.1
  refine z_iload_n ok dX1_addVehicle_0 rfl ?_
  refine z_iconst (v := 1) ok dX1_addVehicle_1 (by decide) ?_
  refine z_sipush (v := 200) ok dX1_addVehicle_2 (by decide) ?_
  refine z_callSNi ok dX1_addVehicle_5 zm_X6_isWithin (fun _ h => h.2.2.2.2.2.2.1) zw_296 (ct_X6_isWithin) rfl rfl (by decide) (by decide) (by decide) (Nat.le_of_ble_eq_true rfl) (fun xz1 Mz2 qz3 => ?_)
  obtain ⟨rfl, hMe⟩ := qz3
  obtain rfl := hMe.symm
  refine z_if_eq (tgt := 22) ok dX1_addVehicle_8 (by decide) (fun cz8 => ?_) (fun cz8 => ?_)
  · have hb8 := b2_0.mp cz8
    refine z_ldc ok dX1_addVehicle_22 zw_406 ?_
    exact z_iret ok dX1_addVehicle_24 rfl rfl rfl (Nat.zero_le _) (kPost_e (by unfold spVehicle; first | (rw [if_neg (fun z9 => hb8 z9.1)]) | (rw [if_neg (fun z9 => hb19 z9.2)])))
  · have hb8 := Decidable.not_not.mp (mt b2_0.mpr cz8)
    refine z_iload_n ok dX1_addVehicle_11 rfl ?_
    refine z_iconst (v := 1) ok dX1_addVehicle_12 (by decide) ?_
    refine z_sipush (v := 200) ok dX1_addVehicle_13 (by decide) ?_
    refine z_callSNi ok dX1_addVehicle_16 zm_X6_isWithin (fun _ h => h.2.2.2.2.2.2.1) zw_296 (ct_X6_isWithin) rfl rfl (by decide) (by decide) (by decide) (Nat.le_of_ble_eq_true rfl) (fun xz4 Mz5 qz6 => ?_)
    obtain ⟨rfl, hMe⟩ := qz6
    obtain rfl := hMe.symm
    refine z_if_ne (tgt := 25) ok dX1_addVehicle_19 (by decide) (fun cz19 => ?_) (fun cz19 => ?_)
    · have hb19 := Decidable.not_not.mp (mt b2_0.mpr cz19)
      refine z_aload_n ok dX1_addVehicle_25 rfl ?_
      refine z_getf ok dX1_addVehicle_26 zin_X1 rfl 5 (by decide) zw_194 hm.1 rfl ?_
      refine z_iconst (v := 4) ok dX1_addVehicle_29 (by decide) ?_
      refine z_icmp_lt (tgt := 36) ok dX1_addVehicle_30 (by decide) (fun cz30 => ?_) (fun cz30 => ?_)
      · have hnv : nv < 4 := by rw [hvd] at cz30; have h9 := Int32.lt_iff_toInt_lt.mp cz30; rw [nI_toInt (by omega)] at h9; have e4 : (4 : Int32).toInt = 4 := rfl; omega
        refine z_aload_n ok dX1_addVehicle_36 rfl ?_
        refine z_getf ok dX1_addVehicle_37 zin_X1 rfl 1 (by decide) zw_187 hm.1 rfl ?_
        refine z_aload_n ok dX1_addVehicle_40 rfl ?_
        refine z_getf ok dX1_addVehicle_41 zin_X1 rfl 5 (by decide) zw_194 hm.1 rfl ?_
        refine h_ldV (j := nv) ok dX1_addVehicle_44 hm hvd (by omega) ?_
        refine z_astore_n ok dX1_addVehicle_45 (by decide) rfl ?_
        refine z_aload_n ok dX1_addVehicle_46 rfl ?_
        refine z_iload_n ok dX1_addVehicle_47 rfl ?_
        refine h_putV1 ok dX1_addVehicle_48 zw_114 hm (by omega) (fun Mz8 hm7 frz9 => ?_)
        refine z_aload_n ok dX1_addVehicle_51 rfl ?_
        refine z_iload_n ok dX1_addVehicle_52 rfl ?_
        refine h_putV2 ok dX1_addVehicle_53 zw_117 hm7 (by omega) (fun Mz11 hm10 frz12 => ?_)
        refine z_aload_n ok dX1_addVehicle_56 rfl ?_
        refine z_iconst (v := 0) ok dX1_addVehicle_57 (by decide) ?_
        refine h_putV3 ok dX1_addVehicle_58 zw_120 hm10 (by omega) (fun Mz14 hm13 frz15 => ?_)
        refine z_aload_n ok dX1_addVehicle_61 rfl ?_
        refine z_iconst (v := 0) ok dX1_addVehicle_62 (by decide) ?_
        refine h_putV7 ok dX1_addVehicle_63 zw_131 hm13 (by omega) (fun Mz17 hm16 frz18 => ?_)
        refine z_aload_n ok dX1_addVehicle_66 rfl ?_
        refine z_iconst (v := 0) ok dX1_addVehicle_67 (by decide) ?_
        refine h_putV8 ok dX1_addVehicle_68 zw_134 hm16 (by omega) (fun Mz20 hm19 frz21 => ?_)
        refine z_aload_n ok dX1_addVehicle_71 rfl ?_
        refine z_dup ok dX1_addVehicle_72 rfl ?_
        refine z_getf ok dX1_addVehicle_73 zin_X1 rfl 5 (by decide) zw_194 hm19.1 rfl ?_
        refine z_iconst (v := 1) ok dX1_addVehicle_76 (by decide) ?_
        refine z_iadd ok dX1_addVehicle_77 ?_
        refine h_putH5 ok dX1_addVehicle_78 zw_194 hm19 (fun Mz23 hm22 frz24 => ?_)
        refine z_aload_n ok dX1_addVehicle_81 rfl ?_
        refine z_getf ok dX1_addVehicle_82 zin_X5 rfl 0 (by decide) zw_112 (hm22.2.2.2.2.2.1 nv (by omega)).1 rfl ?_
        exact z_iret ok dX1_addVehicle_85 rfl rfl rfl (Nat.zero_le _) (kPost_ok hm22 (hr.addV (s' := zVe s nv r w) hnv (fun a9 j9 h9 h8 => by rw [kU_o (by omega), kU_o (by omega), kU_o (by omega), kU_o (by omega), kU_o (by omega), kU_o (by omega)]) (by rw [kU_u]; simp only [kU_a (show (4 : Nat) ≠ 1 by decide)]; rw [hvd, nI_1]) (fun q9 h9 h8 => by simp only [zVe]; rw [upd_n _ _ h9, pv_o (by decide) h8, pv_o (by decide) h8, zV0_o h8 8 (by decide)]) (by simp only [zVe]; rw [upd_s, pv_lo (by decide), pv_lo (by decide), zV0_o (by omega) 8 (by decide), hr.1.2.2.1, nI_1]) (by unfold kV; simp only [zVe, vd_lo (show 4 < 13 by decide), vd_pv, kU_a (show (1 : Nat) ≠ 4 by decide), kU_u]; simp [upd, zV0_v])) (by repeat (first | assumption | exact zFr.rf | refine zFr.tr (by assumption) ?_)) (by unfold spVehicle; rw [if_pos ⟨hb8, hb19⟩, if_neg (by omega)]; exact congrArg (fun z9 => Sum.inr (zVe s nv r w, z9)) (hm22.2.2.2.2.2.1 nv hnv).2.symm))
      · have hnv : nv = 4 := by rw [hvd] at cz30; have h9 := mt Int32.lt_iff_toInt_lt.mpr cz30; rw [nI_toInt (by omega)] at h9; have e4 : (4 : Int32).toInt = 4 := rfl; omega
        refine z_ldc ok dX1_addVehicle_33 zw_370 ?_
        exact z_iret ok dX1_addVehicle_35 rfl rfl rfl (Nat.zero_le _) (kPost_e (by unfold spVehicle; rw [if_pos ⟨hb8, hb19⟩, if_pos hnv]))
    · have hb19 := b2_0.mp cz19
      refine z_ldc ok dX1_addVehicle_22 zw_406 ?_
      exact z_iret ok dX1_addVehicle_24 rfl rfl rfl (Nat.zero_le _) (kPost_e (by unfold spVehicle; first | (rw [if_neg (fun z9 => hb8 z9.1)]) | (rw [if_neg (fun z9 => hb19 z9.2)])))


