set_option maxRecDepth 20000 in
set_option maxHeartbeats 4000000 in
theorem ct_X7_load {K : zK} {M : mM} {nx : Nat} {m : Nat} {μ : zMS} (hm : mPic M m μ) {n nv no : Nat} (hN : zN (μ.1 1) n nv no) {p : Nat} (hr : zRuns μ p) {c v : Int32} : zCt K yX7_load cX7_load 3 zr_X7_load 5 [.ref m, .int c, .int v] M nx 0 0 (zI (zPost M m μ p (spLoad (μ.1 1) n c v))) := by
  refine z_enter [some (.ref m), some (.int c), some (.int v)] (by decide +kernel) (Nat.le_of_ble_eq_true rfl) rfl (fun B ok hz => ?_)
  have hn16 := hN.2.1
  have hnv4 := hN.2.2.2.1
  refine z_aload_n ok dX7_load_0 rfl ?_
  refine z_iload_n ok dX7_load_1 rfl ?_
  refine z_callVi ok dX7_load_2 zm_X7_isGoods zw_841 zi_X7_isGoods hm.1 rfl (ct_X7_isGoods hm hN) rfl rfl (by decide) (by decide) (by decide) (Nat.le_of_ble_eq_true rfl) (fun xz1 Mz2 qz3 => ?_)
  obtain ⟨rfl, hMe⟩ := qz3
  obtain rfl := hMe.symm
  refine z_if_eq (tgt := 16) ok dX7_load_5 (by decide) (fun cz5 => ?_) (fun cz5 => ?_)
  · have hb5 := b2_0.mp cz5
    refine z_ldc ok dX7_load_16 zw_822 ?_
    exact z_iret ok dX7_load_18 rfl rfl rfl (Nat.zero_le _) (zPost_e (by unfold spLoad; grind))
  · have hb5 := Decidable.not_not.mp (mt b2_0.mpr cz5)
    obtain ⟨jz, hjz, hcjjz, hg5jz⟩ := zGoods_in hN hb5
    have htcjz : tN c = jz := by rw [hcjjz]; exact tN_nI (by omega)
    refine z_aload_n ok dX7_load_8 rfl ?_
    refine z_iload_n ok dX7_load_9 rfl ?_
    refine z_callVi ok dX7_load_10 zm_X7_isVehicle zw_866 zi_X7_isVehicle hm.1 rfl (ct_X7_isVehicle hm) rfl rfl (by decide) (by decide) (by decide) (Nat.le_of_ble_eq_true rfl) (fun xz4 Mz5 qz6 => ?_)
    obtain ⟨rfl, hMe⟩ := qz6
    obtain rfl := hMe.symm
    refine z_if_ne (tgt := 19) ok dX7_load_13 (by decide) (fun cz13 => ?_) (fun cz13 => ?_)
    · have hb13 := Decidable.not_not.mp (mt b2_0.mpr cz13)
      obtain ⟨iv, hiv, hcjiv⟩ := zVeh_nat hN hb13.1 hb13.2
      have htciv : tN v = iv := by rw [hcjiv]; exact tN_nI (by omega)
      refine z_aload_n ok dX7_load_19 rfl ?_
      refine z_iload_n ok dX7_load_20 rfl ?_
      refine z_iload_n ok dX7_load_21 rfl ?_
      refine z_callVi ok dX7_load_22 zm_X7_canLoad zw_870 zi_X7_canLoad hm.1 rfl (ct_X7_canLoad hm hN hcjjz hjz hcjiv hiv) rfl rfl (by decide) (by decide) (by decide) (Nat.le_of_ble_eq_true rfl) (fun xz7 Mz8 qz9 => ?_)
      obtain ⟨rfl, hMe⟩ := qz9
      obtain rfl := hMe.symm
      refine z_if_ne (tgt := 31) ok dX7_load_25 (by decide) (fun cz25 => ?_) (fun cz25 => ?_)
      · have hb25 := Decidable.not_not.mp (mt b2_0.mpr cz25)
        refine z_aload_n ok dX7_load_31 rfl ?_
        refine z_callVv ok dX7_load_32 zm_X7_changes zw_824 zi_X7_changes hm.1 rfl (ct_X7_changesC hm hr) rfl rfl (by decide) (by decide) (by decide) (Nat.le_of_ble_eq_true rfl) (fun Mz11 qz12 => ?_)
        obtain ⟨hm13, fzqxz10⟩ := qz12
        have hNC : zN ((zCC μ p).1 1) n nv no := zN_CC hN
        refine z_aload_n ok dX7_load_35 rfl ?_
        refine z_iload_n ok dX7_load_36 rfl ?_
        refine z_iload_n ok dX7_load_37 rfl ?_
        refine z_callVv ok dX7_load_38 zm_X7_loads zw_890 zi_X7_loads hm13.1 rfl (ct_X7_loads hm13 hNC hcjjz hjz) rfl rfl (by decide) (by decide) (by decide) (Nat.le_of_ble_eq_true rfl) (fun Mz15 qz16 => ?_)
        obtain ⟨hm17, fzqxz14⟩ := qz16
        have hv9 : v = nI iv := hcjiv
        have hND : zN ((mA (zCC μ p) 1 (pg (pg ((zCC μ p).1 1) jz 6 1) jz 7 v)).1 1) n nv no := by rw [mA_s]; exact zN_pg (zN_pg hNC)
        refine z_aload_n ok dX7_load_41 rfl ?_
        refine z_iload_n ok dX7_load_42 rfl ?_
        refine z_iconst (v := 0) ok dX7_load_43 (by decide) ?_
        refine z_callVi ok dX7_load_44 zm_X7_ofVehicle zw_874 zi_X7_ofVehicle hm17.1 rfl (ct_X7_ofVehicle hm17 (i := iv) (k := 0) hcjiv rfl (by omega)) rfl rfl (by decide) (by decide) (by decide) (Nat.le_of_ble_eq_true rfl) (fun xz18 Mz19 qz20 => ?_)
        obtain ⟨rfl, hMe⟩ := qz20
        obtain rfl := hMe.symm
        refine z_aload_n ok dX7_load_47 rfl ?_
        refine z_iload_n ok dX7_load_48 rfl ?_
        refine z_iconst (v := 1) ok dX7_load_49 (by decide) ?_
        refine z_callVi ok dX7_load_50 zm_X7_loaded zw_886 zi_X7_loaded hm17.1 rfl (ct_X7_loaded hm17 hND (k := 1) rfl (by omega)) rfl rfl (by decide) (by decide) (by decide) (Nat.le_of_ble_eq_true rfl) (fun xz21 Mz22 qz23 => ?_)
        obtain ⟨rfl, hMe⟩ := qz23
        obtain rfl := hMe.symm
        refine z_isub ok dX7_load_53 ?_
        exact z_iret ok dX7_load_54 rfl rfl rfl (Nat.zero_le _) (zPost_ok (by (have h9 := hm17; (try simp only [mA_s, mA_mA, zCC_1] at h9); exact h9)) (by repeat (first | assumption | exact zFr.rf | refine zFr.tr (by assumption) ?_)) (by unfold spLoad; simp only [mA_s, zCC_1, htcjz, htciv, zLoads, hcjiv] at *; grind))
      · have hb25 := b2_0.mp cz25
        refine z_ldc ok dX7_load_28 zw_849 ?_
        exact z_iret ok dX7_load_30 rfl rfl rfl (Nat.zero_le _) (zPost_e (by unfold spLoad; grind))
    · have hb13 := b2_0.mp cz13
      refine z_ldc ok dX7_load_16 zw_822 ?_
      exact z_iret ok dX7_load_18 rfl rfl rfl (Nat.zero_le _) (zPost_e (by unfold spLoad; grind))

set_option maxRecDepth 20000 in
set_option maxHeartbeats 4000000 in
theorem ct_X7_unload {K : zK} {M : mM} {nx : Nat} {m : Nat} {μ : zMS} (hm : mPic M m μ) {n nv no : Nat} (hN : zN (μ.1 1) n nv no) {p : Nat} (hr : zRuns μ p) {c : Int32} : zCt K yX7_unload cX7_unload 2 zr_X7_unload 2 [.ref m, .int c] M nx 0 0 (zI (zPost M m μ p (spUnload (μ.1 1) c))) := by
  refine z_enter [some (.ref m), some (.int c)] (by decide +kernel) (Nat.le_of_ble_eq_true rfl) rfl (fun B ok hz => ?_)
  have hn16 := hN.2.1
  refine z_aload_n ok dX7_unload_0 rfl ?_
  refine z_iload_n ok dX7_unload_1 rfl ?_
  refine z_callVi ok dX7_unload_2 zm_X7_isGoods zw_841 zi_X7_isGoods hm.1 rfl (ct_X7_isGoods hm hN) rfl rfl (by decide) (by decide) (by decide) (Nat.le_of_ble_eq_true rfl) (fun xz1 Mz2 qz3 => ?_)
  obtain ⟨rfl, hMe⟩ := qz3
  obtain rfl := hMe.symm
  refine z_if_ne (tgt := 11) ok dX7_unload_5 (by decide) (fun cz5 => ?_) (fun cz5 => ?_)
  · have hb5 := Decidable.not_not.mp (mt b2_0.mpr cz5)
    obtain ⟨jz, hjz, hcjjz, hg5jz⟩ := zGoods_in hN hb5
    have htcjz : tN c = jz := by rw [hcjjz]; exact tN_nI (by omega)
    refine z_aload_n ok dX7_unload_11 rfl ?_
    refine z_iload_n ok dX7_unload_12 rfl ?_
    refine z_bipush (v := 6) ok dX7_unload_13 (by decide) ?_
    refine z_callVi ok dX7_unload_15 zm_X7_of zw_845 zi_X7_of hm.1 rfl (ct_X7_of hm (i := jz) (k := 6) hcjjz rfl (by omega)) rfl rfl (by decide) (by decide) (by decide) (Nat.le_of_ble_eq_true rfl) (fun xz4 Mz5 qz6 => ?_)
    obtain ⟨rfl, hMe⟩ := qz6
    obtain rfl := hMe.symm
    refine z_iconst (v := 1) ok dX7_unload_18 (by decide) ?_
    refine z_icmp_eq (tgt := 25) ok dX7_unload_19 (by decide) (fun cz19 => ?_) (fun cz19 => ?_)
    · refine z_aload_n ok dX7_unload_25 rfl ?_
      refine z_callVv ok dX7_unload_26 zm_X7_changes zw_824 zi_X7_changes hm.1 rfl (ct_X7_changesC hm hr) rfl rfl (by decide) (by decide) (by decide) (Nat.le_of_ble_eq_true rfl) (fun Mz8 qz9 => ?_)
      obtain ⟨hm10, fzqxz7⟩ := qz9
      have hNC : zN ((zCC μ p).1 1) n nv no := zN_CC hN
      refine z_aload_n ok dX7_unload_29 rfl ?_
      refine z_iload_n ok dX7_unload_30 rfl ?_
      refine z_bipush (v := 6) ok dX7_unload_31 (by decide) ?_
      refine z_iconst (v := 0) ok dX7_unload_33 (by decide) ?_
      refine z_callVv ok dX7_unload_34 zm_X7_puts zw_832 zi_X7_puts hm10.1 rfl (ct_X7_puts hm10 (i := jz) (k := 6) hcjjz rfl (by omega)) rfl rfl (by decide) (by decide) (by decide) (Nat.le_of_ble_eq_true rfl) (fun Mz12 qz13 => ?_)
      obtain ⟨hm14, fzqxz11⟩ := qz13
      refine z_aload_n ok dX7_unload_37 rfl ?_
      refine z_iload_n ok dX7_unload_38 rfl ?_
      refine z_bipush (v := 7) ok dX7_unload_39 (by decide) ?_
      refine z_callVi ok dX7_unload_41 zm_X7_of zw_845 zi_X7_of hm14.1 rfl (ct_X7_of hm14 (i := jz) (k := 7) hcjjz rfl (by omega)) rfl rfl (by decide) (by decide) (by decide) (Nat.le_of_ble_eq_true rfl) (fun xz15 Mz16 qz17 => ?_)
      obtain ⟨rfl, hMe⟩ := qz17
      obtain rfl := hMe.symm
      exact z_iret ok dX7_unload_44 rfl rfl rfl (Nat.zero_le _) (zPost_ok (by (have h9 := hm14; (try simp only [mA_s, mA_mA, zCC_1] at h9); exact h9)) (by repeat (first | assumption | exact zFr.rf | refine zFr.tr (by assumption) ?_)) (by unfold spUnload; (try simp only [mA_s, mA_mA, zCC_1]); grind))
    · refine z_ldc ok dX7_unload_22 zw_849 ?_
      exact z_iret ok dX7_unload_24 rfl rfl rfl (Nat.zero_le _) (zPost_e (by unfold spUnload; grind))
  · have hb5 := b2_0.mp cz5
    refine z_ldc ok dX7_unload_8 zw_822 ?_
    exact z_iret ok dX7_unload_10 rfl rfl rfl (Nat.zero_le _) (zPost_e (by unfold spUnload; grind))

set_option maxRecDepth 20000 in
set_option maxHeartbeats 4000000 in
theorem ct_X7_fill {K : zK} {M : mM} {nx : Nat} {m : Nat} {μ : zMS} (hm : mPic M m μ) {n nv no : Nat} (hN : zN (μ.1 1) n nv no) {p : Nat} (hr : zRuns μ p) {v place rule : Int32} : zCt K yX7_fill cX7_fill 4 zr_X7_fill 6 [.ref m, .int v, .int place, .int rule] M nx 0 0 (zI (zPost M m μ p (spFill (μ.1 1) n v place rule))) := by
  refine z_enter [some (.ref m), some (.int v), some (.int place), some (.int rule)] (by decide +kernel) (Nat.le_of_ble_eq_true rfl) rfl (fun B ok hz => ?_)
  have hn16 := hN.2.1
  have hnv4 := hN.2.2.2.1
  refine z_aload_n ok dX7_fill_0 rfl ?_
  refine z_iload_n ok dX7_fill_1 rfl ?_
  refine z_callVi ok dX7_fill_2 zm_X7_isVehicle zw_866 zi_X7_isVehicle hm.1 rfl (ct_X7_isVehicle hm) rfl rfl (by decide) (by decide) (by decide) (Nat.le_of_ble_eq_true rfl) (fun xz1 Mz2 qz3 => ?_)
  obtain ⟨rfl, hMe⟩ := qz3
  obtain rfl := hMe.symm
  refine z_if_eq (tgt := 26) ok dX7_fill_5 (by decide) (fun cz5 => ?_) (fun cz5 => ?_)
  · have hb5 := b2_0.mp cz5
    refine z_ldc ok dX7_fill_26 zw_822 ?_
    exact z_iret ok dX7_fill_28 rfl rfl rfl (Nat.zero_le _) (zPost_e (by unfold spFill; grind))
  · have hb5 := Decidable.not_not.mp (mt b2_0.mpr cz5)
    obtain ⟨iv, hiv, hcjiv⟩ := zVeh_nat hN hb5.1 hb5.2
    have htciv : tN v = iv := by rw [hcjiv]; exact tN_nI (by omega)
    refine z_iload_n ok dX7_fill_8 rfl ?_
    refine z_iconst (v := 1) ok dX7_fill_9 (by decide) ?_
    refine z_iconst (v := 4) ok dX7_fill_10 (by decide) ?_
    refine z_callSi ok dX7_fill_11 zm_X7_in zw_819 zw_820 (ct_X7_in) rfl rfl (by decide) (by decide) (by decide) (Nat.le_of_ble_eq_true rfl) (fun xz4 Mz5 qz6 => ?_)
    obtain ⟨rfl, hMe⟩ := qz6
    obtain rfl := hMe.symm
    refine z_if_eq (tgt := 26) ok dX7_fill_14 (by decide) (fun cz14 => ?_) (fun cz14 => ?_)
    · have hb14 := b2_0.mp cz14
      refine z_ldc ok dX7_fill_26 zw_822 ?_
      exact z_iret ok dX7_fill_28 rfl rfl rfl (Nat.zero_le _) (zPost_e (by unfold spFill; grind))
    · have hb14 := Decidable.not_not.mp (mt b2_0.mpr cz14)
      refine z_iload_n ok dX7_fill_17 rfl ?_
      refine z_iconst (v := 0) ok dX7_fill_18 (by decide) ?_
      refine z_iconst (v := 2) ok dX7_fill_19 (by decide) ?_
      refine z_callSi ok dX7_fill_20 zm_X7_in zw_819 zw_820 (ct_X7_in) rfl rfl (by decide) (by decide) (by decide) (Nat.le_of_ble_eq_true rfl) (fun xz7 Mz8 qz9 => ?_)
      obtain ⟨rfl, hMe⟩ := qz9
      obtain rfl := hMe.symm
      refine z_if_ne (tgt := 29) ok dX7_fill_23 (by decide) (fun cz23 => ?_) (fun cz23 => ?_)
      · have hb23 := Decidable.not_not.mp (mt b2_0.mpr cz23)
        refine z_aload_n ok dX7_fill_29 rfl ?_
        refine z_iload_n ok dX7_fill_30 rfl ?_
        refine z_iconst (v := 2) ok dX7_fill_31 (by decide) ?_
        refine z_callVi ok dX7_fill_32 zm_X7_ofVehicle zw_874 zi_X7_ofVehicle hm.1 rfl (ct_X7_ofVehicle hm (i := iv) (k := 2) hcjiv rfl (by omega)) rfl rfl (by decide) (by decide) (by decide) (Nat.le_of_ble_eq_true rfl) (fun xz10 Mz11 qz12 => ?_)
        obtain ⟨rfl, hMe⟩ := qz12
        obtain rfl := hMe.symm
        refine z_if_le (tgt := 41) ok dX7_fill_35 (by decide) (fun cz35 => ?_) (fun cz35 => ?_)
        · refine z_aload_n ok dX7_fill_41 rfl ?_
          refine z_callVv ok dX7_fill_42 zm_X7_changes zw_824 zi_X7_changes hm.1 rfl (ct_X7_changesC hm hr) rfl rfl (by decide) (by decide) (by decide) (Nat.le_of_ble_eq_true rfl) (fun Mz14 qz15 => ?_)
          obtain ⟨hm16, fzqxz13⟩ := qz15
          have hNC : zN ((zCC μ p).1 1) n nv no := zN_CC hN
          refine z_aload_n ok dX7_fill_45 rfl ?_
          refine z_iload_n ok dX7_fill_46 rfl ?_
          refine z_iload_n ok dX7_fill_47 rfl ?_
          refine z_iload_n ok dX7_fill_48 rfl ?_
          refine z_callVi ok dX7_fill_49 zm_X7_fills zw_902 zi_X7_fills hm16.1 rfl (ct_X7_fills hm16 hNC hcjiv hiv) rfl rfl (by decide) (by decide) (by decide) (Nat.le_of_ble_eq_true rfl) (fun xz17 Mz18 qz19 => ?_)
          obtain ⟨rfl, hm20, fzqxz17⟩ := qz19
          refine z_callSi ok dX7_fill_52 zm_X7_bits zw_910 zw_911 (ct_X7_bits) rfl rfl (by decide) (by decide) (by decide) (Nat.le_of_ble_eq_true rfl) (fun xz21 Mz22 qz23 => ?_)
          obtain ⟨rfl, hMe⟩ := qz23
          obtain rfl := hMe.symm
          exact z_iret ok dX7_fill_55 rfl rfl rfl (Nat.zero_le _) (zPost_ok (by (have h9 := hm20; (try simp only [mA_s, mA_mA, zCC_1] at h9); exact h9)) (by repeat (first | assumption | exact zFr.rf | refine zFr.tr (by assumption) ?_)) (by unfold spFill; (try simp only [mA_s, mA_mA, zCC_1]); grind))
        · refine z_ldc ok dX7_fill_38 zw_849 ?_
          exact z_iret ok dX7_fill_40 rfl rfl rfl (Nat.zero_le _) (zPost_e (by unfold spFill; grind))
      · have hb23 := b2_0.mp cz23
        refine z_ldc ok dX7_fill_26 zw_822 ?_
        exact z_iret ok dX7_fill_28 rfl rfl rfl (Nat.zero_le _) (zPost_e (by unfold spFill; grind))

theorem i_pos1 {x : Int32} (h : 1 ≤ x) : ¬ x < 0 := fun z => by have h9 := Int32.lt_of_le_of_lt h z; exact absurd h9 (by decide)
theorem tN_of {x : Int32} {a : Nat} (h : ¬ x < 0) (ha : a < 2 ^ 31) (h2 : x ≤ nI a) : ∃ k, k ≤ a ∧ x = nI k := by
  obtain ⟨j, hj, rfl⟩ := nI_of h
  exact ⟨j, (nI_leI hj ha).mp h2, rfl⟩
set_option maxRecDepth 20000 in
set_option maxHeartbeats 4000000 in
theorem ct_X7_pass {K : zK} {M : mM} {nx : Nat} {m : Nat} {μ : zMS} (hm : mPic M m μ) {n nv no : Nat} (hN : zN (μ.1 1) n nv no) {p : Nat} (hr : zRuns μ p) {h : Int32} : zCt K yX7_pass cX7_pass 4 zr_X7_pass 5 [.ref m, .int h] M nx 0 0 (zI (zPost M m μ p (spPass (μ.1 1) n nv h))) := by
  refine z_enter [some (.ref m), some (.int h), none, none] (by decide +kernel) (Nat.le_of_ble_eq_true rfl) rfl (fun B ok hz => ?_)
  have hn16 := hN.2.1
  refine z_iload_n ok dX7_pass_0 rfl ?_
  refine z_iconst (v := 1) ok dX7_pass_1 (by decide) ?_
  refine z_bipush (v := 99) ok dX7_pass_2 (by decide) ?_
  refine z_callSi ok dX7_pass_4 zm_X7_in zw_819 zw_820 (ct_X7_in) rfl rfl (by decide) (by decide) (by decide) (Nat.le_of_ble_eq_true rfl) (fun xz1 Mz2 qz3 => ?_)
  obtain ⟨rfl, hMe⟩ := qz3
  obtain rfl := hMe.symm
  refine z_if_ne (tgt := 13) ok dX7_pass_7 (by decide) (fun cz7 => ?_) (fun cz7 => ?_)
  · have hb7 := Decidable.not_not.mp (mt b2_0.mpr cz7)
    obtain ⟨hh, hhh, hhj⟩ := tN_of (a := 99) (i_pos1 hb7.1) (by omega) hb7.2
    have htcj : tN h = hh := by rw [hhj]; exact tN_nI (by omega)
    refine z_aload_n ok dX7_pass_13 rfl ?_
    refine z_getf ok dX7_pass_14 zin_X7 rfl 0 (by decide) zw_771 hm.1 rfl ?_
    refine z_iconst (v := 5) ok dX7_pass_17 (by decide) ?_
    refine m_ald1 ok dX7_pass_18 hm rfl (by decide) ?_
    refine z_iload_n ok dX7_pass_19 rfl ?_
    refine z_iadd ok dX7_pass_20 ?_
    refine z_sipush (v := 9000) ok dX7_pass_21 (by decide) ?_
    refine z_icmp_le (tgt := 30) ok dX7_pass_24 (by decide) (fun cz24 => ?_) (fun cz24 => ?_)
    · refine z_aload_n ok dX7_pass_30 rfl ?_
      refine z_callVv ok dX7_pass_31 zm_X7_changes zw_824 zi_X7_changes hm.1 rfl (ct_X7_changesC hm hr) rfl rfl (by decide) (by decide) (by decide) (Nat.le_of_ble_eq_true rfl) (fun Mz5 qz6 => ?_)
      obtain ⟨hm7, fzqxz4⟩ := qz6
      have hNC : zN ((zCC μ p).1 1) n nv no := zN_CC hN
      refine z_iconst (v := 0) ok dX7_pass_34 (by decide) ?_
      refine z_istore_n ok dX7_pass_35 (by decide) rfl ?_
      refine z_iconst (v := 0) ok dX7_pass_36 (by decide) ?_
      refine z_istore_n ok dX7_pass_37 (by decide) rfl ?_
      have loop38 : ∀ (t i : Nat) (y : Int32) (M1 : mM), hh < i + t → i ≤ hh → y = (zPass n nv (μ.1 1) i).2 → mPic M1 m (mA (zCC μ p) 1 (zPass n nv (μ.1 1) i).1) → zFr M M1 m 9 → zV 4 B (zE B (zI (zPost M m μ p (spPass (μ.1 1) n nv h))) 0 0) 38 [some (.ref m), some (.int h), some (.int y), some (.int (nI i))] [] M1 0 0 := by
        intro t
        induction t with
        | zero => intro i y M1 h1 h2; exact absurd h1 (by omega)
        | succ t ih =>
          intro i y M1 h1 h2 hy hm1 hf1
          obtain ⟨o1, ho1, hN0⟩ := zPass_N hN i
          have hN1 : zN ((mA (zCC μ p) 1 (zPass n nv (μ.1 1) i).1).1 1) n nv o1 := by rw [mA_s]; exact hN0
          refine z_iload_n ok dX7_pass_38 rfl ?_
          refine z_iload_n ok dX7_pass_39 rfl ?_
          refine z_icmp_ge (tgt := 56) ok dX7_pass_40 (by decide) (fun cz40 => ?_) (fun cz40 => ?_)
          · have hin : i = hh := by rw [hhj, nI_leI (by omega) (by omega)] at cz40; omega
            rw [hin] at hy hm1
            refine z_iload_n ok dX7_pass_56 rfl ?_
            exact z_iret ok dX7_pass_57 rfl rfl rfl (Nat.zero_le _) (zPost_ok hm1 hf1 (by unfold spPass; grind))
          · have hin : i < hh := by rw [hhj, nI_leI (by omega) (by omega)] at cz40; omega
            refine z_iload_n ok dX7_pass_43 rfl ?_
            refine z_aload_n ok dX7_pass_44 rfl ?_
            refine z_callVi ok dX7_pass_45 zm_X7_hour zw_929 zi_X7_hour hm1.1 rfl (ct_X7_hour hm1 hN1) rfl rfl (by decide) (by decide) (by decide) (Nat.le_of_ble_eq_true rfl) (fun xz8 Mz9 qz10 => ?_)
            obtain ⟨rfl, hm11, fzqxz8⟩ := qz10
            try simp only [mA_s, mA_mA] at hm11
            refine z_iadd ok dX7_pass_48 ?_
            refine z_istore_n ok dX7_pass_49 (by decide) rfl ?_
            refine z_iinc ok dX7_pass_50 rfl (zinc _) (by decide) rfl ?_
            refine z_goto (tgt := 38) ok dX7_pass_53 (by decide) ?_
            exact ih (i + 1) _ _ (by omega) (by omega) (by rw [hy, mA_s]; rfl) hm11 (by repeat (first | assumption | exact zFr.rf | refine zFr.tr (by assumption) ?_))
      exact loop38 (hh + 1) 0 _ _ (by omega) (by omega) rfl (by have h9 := mPic.self1 hm7; rw [zCC_1] at h9; exact h9) (by repeat (first | assumption | exact zFr.rf | refine zFr.tr (by assumption) ?_))
    · refine z_ldc ok dX7_pass_27 zw_823 ?_
      exact z_iret ok dX7_pass_29 rfl rfl rfl (Nat.zero_le _) (zPost_e (by unfold spPass; grind))
  · have hb7 := b2_0.mp cz7
    refine z_ldc ok dX7_pass_10 zw_822 ?_
    exact z_iret ok dX7_pass_12 rfl rfl rfl (Nat.zero_le _) (zPost_e (by unfold spPass; grind))

