def zV0 (s : Nat → Int32) (iv : Nat) : Nat → (Nat → Int32)
  | 0 => s
  | k + 1 => pv (zV0 s iv k) iv k 0
def zVe (s : Nat → Int32) (iv : Nat) (r b : Int32) : Nat → Int32 :=
  let s2 := pv (pv (zV0 s iv 8) iv 0 r) iv 1 b
  upd s2 4 (s2 4 + 1)
def spVehicle (s : Nat → Int32) (nv : Nat) (r b : Int32) : zRes := if zW 1 200 r ∧ zW 1 200 b then (if nv = 4 then .inl (-1000003) else .inr (zVe s nv r b, nI nv)) else .inl (-1000001)
def zDe1 (s : Nat → Int32) (n iv : Nat) : Nat → Int32 :=
  let s1 := pv s iv 2 1
  let s2 := pv s1 iv 3 (zGoal s n iv)
  let s3 := pv s2 iv 5 (zGoal s n iv * s2 0)
  pv s3 iv 4 (s3 5 + zGoal s n iv * s3 0)
def zDe (s : Nat → Int32) (n iv : Nat) : Nat → (Nat → Int32)
  | 0 => zDe1 s n iv
  | c + 1 => if zInV (zDe s n iv c) c (nI iv) then pg (pg (zDe s n iv c) c 6 2) c 11 (pg (zDe s n iv c) c 6 2 5) else zDe s n iv c
theorem zDe_t {s : Nat → Int32} {n iv c : Nat} (h : zInV (zDe s n iv c) c (nI iv)) : zDe s n iv (c + 1) = pg (pg (zDe s n iv c) c 6 2) c 11 (pg (zDe s n iv c) c 6 2 5) := if_pos h
theorem zDe_f {s : Nat → Int32} {n iv c : Nat} (h : ¬ zInV (zDe s n iv c) c (nI iv)) : zDe s n iv (c + 1) = zDe s n iv c := if_neg h
theorem zDe_N {s : Nat → Int32} {n nv no iv : Nat} (h : zN s n nv no) : ∀ c, zN (zDe s n iv c) n nv no
  | 0 => zN_pv (zN_pv (zN_pv (zN_pv h)))
  | c + 1 => by
    by_cases hc : zInV (zDe s n iv c) c (nI iv)
    · rw [zDe_t hc]; exact zN_pg (zN_pg (zDe_N h c))
    · rw [zDe_f hc]; exact zDe_N h c
def spDepart (s : Nat → Int32) (n : Nat) (v : Int32) : zRes := if zVeh s v then (if 0 < vd s (tN v) 2 ∨ zLs s n v = 0 then .inl (-1000002) else .inr (zDe s n (tN v) n, vd (zDe s n (tN v) n) (tN v) 4)) else .inl (-1000001)
def zOf (s : Nat → Int32) (no : Nat) (p b w pr h : Int32) : Nat → Int32 :=
  let s1 := upd s (237 + 5 * no) p
  let s2 := upd s1 (237 + 5 * no + 1) b
  let s3 := upd s2 (237 + 5 * no + 2) w
  let s4 := upd s3 (237 + 5 * no + 3) pr
  let s5 := upd s4 (237 + 5 * no + 4) (s4 5 + h)
  upd s5 6 (s5 6 + 1)
def spOffer (s : Nat → Int32) (no : Nat) (p b w pr h : Int32) : zRes := if zW 1 4 p ∧ zW 1 99 b ∧ zW 1 99 w ∧ zW 0 999 pr ∧ zW 0 99 h then (if no = 10 then .inl (-1000003) else .inr (zOf s no p b w pr h, zOf s no p b w pr h 6)) else .inl (-1000001)
set_option maxRecDepth 20000 in
set_option maxHeartbeats 4000000 in
theorem ct_X7_vehicle {K : zK} {M : mM} {nx : Nat} {m : Nat} {μ : zMS} (hm : mPic M m μ) {n nv no : Nat} (hN : zN (μ.1 1) n nv no) {p : Nat} (hr : zRuns μ p) {r b : Int32} : zCt K yX7_vehicle cX7_vehicle 5 zr_X7_vehicle 1 [.ref m, .int r, .int b] M nx 0 0 (zI (zPost M m μ p (spVehicle (μ.1 1) nv r b))) := by
  refine z_enter [some (.ref m), some (.int r), some (.int b), none, none] (by decide +kernel) (Nat.le_of_ble_eq_true rfl) rfl (fun B ok hz => ?_)
  have hn16 := hN.2.1
  have hnv4 := hN.2.2.2.1
  refine z_iload_n ok dX7_vehicle_0 rfl ?_
  refine z_iconst (v := 1) ok dX7_vehicle_1 (by decide) ?_
  refine z_sipush (v := 200) ok dX7_vehicle_2 (by decide) ?_
  refine z_callSi ok dX7_vehicle_5 zm_X7_in zw_819 zw_820 (ct_X7_in) rfl rfl (by decide) (by decide) (by decide) (Nat.le_of_ble_eq_true rfl) (fun xz1 Mz2 qz3 => ?_)
  obtain ⟨rfl, hMe⟩ := qz3
  obtain rfl := hMe.symm
  refine z_if_eq (tgt := 22) ok dX7_vehicle_8 (by decide) (fun cz8 => ?_) (fun cz8 => ?_)
  · have hb8 := b2_0.mp cz8
    refine z_ldc ok dX7_vehicle_22 zw_822 ?_
    exact z_iret ok dX7_vehicle_24 rfl rfl rfl (Nat.zero_le _) (zPost_e (by unfold spVehicle; grind))
  · have hb8 := Decidable.not_not.mp (mt b2_0.mpr cz8)
    refine z_iload_n ok dX7_vehicle_11 rfl ?_
    refine z_iconst (v := 1) ok dX7_vehicle_12 (by decide) ?_
    refine z_sipush (v := 200) ok dX7_vehicle_13 (by decide) ?_
    refine z_callSi ok dX7_vehicle_16 zm_X7_in zw_819 zw_820 (ct_X7_in) rfl rfl (by decide) (by decide) (by decide) (Nat.le_of_ble_eq_true rfl) (fun xz4 Mz5 qz6 => ?_)
    obtain ⟨rfl, hMe⟩ := qz6
    obtain rfl := hMe.symm
    refine z_if_ne (tgt := 25) ok dX7_vehicle_19 (by decide) (fun cz19 => ?_) (fun cz19 => ?_)
    · have hb19 := Decidable.not_not.mp (mt b2_0.mpr cz19)
      refine z_aload_n ok dX7_vehicle_25 rfl ?_
      refine z_getf ok dX7_vehicle_26 zin_X7 rfl 0 (by decide) zw_771 hm.1 rfl ?_
      refine z_iconst (v := 4) ok dX7_vehicle_29 (by decide) ?_
      refine m_ald1 ok dX7_vehicle_30 hm rfl (by decide) ?_
      refine z_istore_n ok dX7_vehicle_31 (by decide) rfl ?_
      refine z_iload_n ok dX7_vehicle_32 rfl ?_
      refine z_iconst (v := 4) ok dX7_vehicle_33 (by decide) ?_
      refine z_icmp_ne (tgt := 40) ok dX7_vehicle_34 (by decide) (fun cz34 => ?_) (fun cz34 => ?_)
      · have hn9 : ¬ nv = 4 := fun z9 => cz34 (hN.2.2.1.trans (congrArg nI z9))
        have hv9 := hN.2.2.1
        refine z_aload_n ok dX7_vehicle_40 rfl ?_
        refine z_callVv ok dX7_vehicle_41 zm_X7_changes zw_824 zi_X7_changes hm.1 rfl (ct_X7_changesC hm hr) rfl rfl (by decide) (by decide) (by decide) (Nat.le_of_ble_eq_true rfl) (fun Mz8 qz9 => ?_)
        obtain ⟨hm10, fzqxz7⟩ := qz9
        have hNC : zN ((zCC μ p).1 1) n nv no := zN_CC hN
        refine z_iconst (v := 0) ok dX7_vehicle_44 (by decide) ?_
        refine z_istore ok dX7_vehicle_45 (by decide) rfl ?_
        have loop47 : ∀ (t i : Nat) (M1 : mM), 8 < i + t → i ≤ 8 → mPic M1 m (mA (zCC μ p) 1 (zV0 (μ.1 1) nv i)) → zFr M M1 m 9 → zV 5 B (zE B (zI (zPost M m μ p (spVehicle (μ.1 1) nv r b))) 0 0) 47 [some (.ref m), some (.int r), some (.int b), some (.int (μ.1 1 4)), some (.int (nI i))] [] M1 0 0 := by
          intro t
          induction t with
          | zero => intro i M1 h1 h2; exact absurd h1 (by omega)
          | succ t ih =>
            intro i M1 h1 h2 hm1 hf1
            refine z_iload ok dX7_vehicle_47 rfl ?_
            refine z_bipush (v := 8) ok dX7_vehicle_49 (by decide) ?_
            refine z_icmp_ge (tgt := 68) ok dX7_vehicle_51 (by decide) (fun cz51 => ?_) (fun cz51 => ?_)
            · have hin : i = 8 := by have := (nI_leI (a := 8) (by omega) (by omega)).mp cz51; omega
              rw [hin] at hm1
              refine z_aload_n ok dX7_vehicle_68 rfl ?_
              refine z_iload_n ok dX7_vehicle_69 rfl ?_
              refine z_iconst (v := 0) ok dX7_vehicle_70 (by decide) ?_
              refine z_iload_n ok dX7_vehicle_71 rfl ?_
              refine z_callVv ok dX7_vehicle_72 zm_X7_putsVehicle zw_858 zi_X7_putsVehicle hm1.1 rfl (ct_X7_putsVehicle hm1 (i := nv) (k := 0) hv9 rfl (by omega)) rfl rfl (by decide) (by decide) (by decide) (Nat.le_of_ble_eq_true rfl) (fun Mz12 qz13 => ?_)
              obtain ⟨hm14, fzqxz11⟩ := qz13
              refine z_aload_n ok dX7_vehicle_75 rfl ?_
              refine z_iload_n ok dX7_vehicle_76 rfl ?_
              refine z_iconst (v := 1) ok dX7_vehicle_77 (by decide) ?_
              refine z_iload_n ok dX7_vehicle_78 rfl ?_
              refine z_callVv ok dX7_vehicle_79 zm_X7_putsVehicle zw_858 zi_X7_putsVehicle hm14.1 rfl (ct_X7_putsVehicle hm14 (i := nv) (k := 1) hv9 rfl (by omega)) rfl rfl (by decide) (by decide) (by decide) (Nat.le_of_ble_eq_true rfl) (fun Mz16 qz17 => ?_)
              obtain ⟨hm18, fzqxz15⟩ := qz17
              refine z_aload_n ok dX7_vehicle_82 rfl ?_
              refine z_getf ok dX7_vehicle_83 zin_X7 rfl 0 (by decide) zw_771 hm18.1 rfl ?_
              refine z_iconst (v := 4) ok dX7_vehicle_86 (by decide) ?_
              refine z_dup2 ok dX7_vehicle_87 rfl rfl ?_
              refine m_ald1 ok dX7_vehicle_88 hm18 rfl (by decide) ?_
              refine z_iconst (v := 1) ok dX7_vehicle_89 (by decide) ?_
              refine z_iadd ok dX7_vehicle_90 ?_
              refine m_ast1 ok dX7_vehicle_91 hm18 rfl (by decide) (fun Mz20 hm19 frz21 => ?_)
              refine z_iload_n ok dX7_vehicle_92 rfl ?_
              exact z_iret ok dX7_vehicle_93 rfl rfl rfl (Nat.zero_le _) (by rw [hv9]; exact zPost_ok (by (have h9 := hm19; (try simp only [mA_s, mA_mA, zCC_1] at h9); exact h9)) (by repeat (first | assumption | exact zFr.rf | refine zFr.tr (by assumption) ?_)) (by simp only [spVehicle, zVe]; rw [if_pos (by grind), if_neg hn9]))
            · have hin : i < 8 := by have := mt (nI_leI (a := 8) (b := i) (by omega) (by omega)).mpr cz51; omega
              refine z_aload_n ok dX7_vehicle_54 rfl ?_
              refine z_iload_n ok dX7_vehicle_55 rfl ?_
              refine z_iload ok dX7_vehicle_56 rfl ?_
              refine z_iconst (v := 0) ok dX7_vehicle_58 (by decide) ?_
              refine z_callVv ok dX7_vehicle_59 zm_X7_putsVehicle zw_858 zi_X7_putsVehicle hm1.1 rfl (ct_X7_putsVehicle hm1 (i := nv) (k := i) hv9 rfl (by omega)) rfl rfl (by decide) (by decide) (by decide) (Nat.le_of_ble_eq_true rfl) (fun Mz23 qz24 => ?_)
              obtain ⟨hm25, fzqxz22⟩ := qz24
              refine z_iinc ok dX7_vehicle_62 rfl (zinc _) (by decide) rfl ?_
              refine z_goto (tgt := 47) ok dX7_vehicle_65 (by decide) ?_
              exact ih (i + 1) _ (by omega) (by omega) (by have h9 := hm25; rw [mA_mA, mA_s] at h9; exact h9) (by repeat (first | assumption | exact zFr.rf | refine zFr.tr (by assumption) ?_))
        exact loop47 9 0 _ (by omega) (by omega) (by have h9 := mPic.self1 hm10; rw [zCC_1] at h9; exact h9) (by repeat (first | assumption | exact zFr.rf | refine zFr.tr (by assumption) ?_))
      · have hn9 : nv = 4 := (nI_eq (b := 4) (by omega) (by omega)).mp (hN.2.2.1.symm.trans cz34)
        refine z_ldc ok dX7_vehicle_37 zw_823 ?_
        exact z_iret ok dX7_vehicle_39 rfl rfl rfl (Nat.zero_le _) (zPost_e (by unfold spVehicle; grind))
    · have hb19 := b2_0.mp cz19
      refine z_ldc ok dX7_vehicle_22 zw_822 ?_
      exact z_iret ok dX7_vehicle_24 rfl rfl rfl (Nat.zero_le _) (zPost_e (by unfold spVehicle; grind))

set_option maxRecDepth 20000 in
set_option maxHeartbeats 4000000 in
theorem ct_X7_depart {K : zK} {M : mM} {nx : Nat} {m : Nat} {μ : zMS} (hm : mPic M m μ) {n nv no : Nat} (hN : zN (μ.1 1) n nv no) {p : Nat} (hr : zRuns μ p) {v : Int32} : zCt K yX7_depart cX7_depart 4 zr_X7_depart 4 [.ref m, .int v] M nx 0 0 (zI (zPost M m μ p (spDepart (μ.1 1) n v))) := by
  refine z_enter [some (.ref m), some (.int v), none, none] (by decide +kernel) (Nat.le_of_ble_eq_true rfl) rfl (fun B ok hz => ?_)
  have hn16 := hN.2.1
  have hnv4 := hN.2.2.2.1
  refine z_aload_n ok dX7_depart_0 rfl ?_
  refine z_iload_n ok dX7_depart_1 rfl ?_
  refine z_callVi ok dX7_depart_2 zm_X7_isVehicle zw_866 zi_X7_isVehicle hm.1 rfl (ct_X7_isVehicle hm) rfl rfl (by decide) (by decide) (by decide) (Nat.le_of_ble_eq_true rfl) (fun xz1 Mz2 qz3 => ?_)
  obtain ⟨rfl, hMe⟩ := qz3
  obtain rfl := hMe.symm
  refine z_if_ne (tgt := 11) ok dX7_depart_5 (by decide) (fun cz5 => ?_) (fun cz5 => ?_)
  · have hb5 := Decidable.not_not.mp (mt b2_0.mpr cz5)
    obtain ⟨iv, hiv, hcjiv⟩ := zVeh_nat hN hb5.1 hb5.2
    have htciv : tN v = iv := by rw [hcjiv]; exact tN_nI (by omega)
    refine z_aload_n ok dX7_depart_11 rfl ?_
    refine z_iload_n ok dX7_depart_12 rfl ?_
    refine z_iconst (v := 2) ok dX7_depart_13 (by decide) ?_
    refine z_callVi ok dX7_depart_14 zm_X7_ofVehicle zw_874 zi_X7_ofVehicle hm.1 rfl (ct_X7_ofVehicle hm (i := iv) (k := 2) hcjiv rfl (by omega)) rfl rfl (by decide) (by decide) (by decide) (Nat.le_of_ble_eq_true rfl) (fun xz4 Mz5 qz6 => ?_)
    obtain ⟨rfl, hMe⟩ := qz6
    obtain rfl := hMe.symm
    refine z_if_gt (tgt := 28) ok dX7_depart_17 (by decide) (fun cz17 => ?_) (fun cz17 => ?_)
    · refine z_ldc ok dX7_depart_28 zw_849 ?_
      exact z_iret ok dX7_depart_30 rfl rfl rfl (Nat.zero_le _) (zPost_e (by unfold spDepart; grind))
    · refine z_aload_n ok dX7_depart_20 rfl ?_
      refine z_iload_n ok dX7_depart_21 rfl ?_
      refine z_callVi ok dX7_depart_22 zm_X7_loadSet zw_917 zi_X7_loadSet hm.1 rfl (ct_X7_loadSet hm hN) rfl rfl (by decide) (by decide) (by decide) (Nat.le_of_ble_eq_true rfl) (fun xz7 Mz8 qz9 => ?_)
      obtain ⟨rfl, hMe⟩ := qz9
      obtain rfl := hMe.symm
      refine z_if_ne (tgt := 31) ok dX7_depart_25 (by decide) (fun cz25 => ?_) (fun cz25 => ?_)
      · refine z_aload_n ok dX7_depart_31 rfl ?_
        refine z_callVv ok dX7_depart_32 zm_X7_changes zw_824 zi_X7_changes hm.1 rfl (ct_X7_changesC hm hr) rfl rfl (by decide) (by decide) (by decide) (Nat.le_of_ble_eq_true rfl) (fun Mz11 qz12 => ?_)
        obtain ⟨hm13, fzqxz10⟩ := qz12
        have hNC : zN ((zCC μ p).1 1) n nv no := zN_CC hN
        refine z_aload_n ok dX7_depart_35 rfl ?_
        refine z_iload_n ok dX7_depart_36 rfl ?_
        refine z_callVi ok dX7_depart_37 zm_X7_goal zw_878 zi_X7_goal hm13.1 rfl (ct_X7_goal hm13 hNC hcjiv (by omega)) rfl rfl (by decide) (by decide) (by decide) (Nat.le_of_ble_eq_true rfl) (fun xz14 Mz15 qz16 => ?_)
        obtain ⟨rfl, hMe⟩ := qz16
        obtain rfl := hMe.symm
        refine z_istore_n ok dX7_depart_40 (by decide) rfl ?_
        refine z_aload_n ok dX7_depart_41 rfl ?_
        refine z_iload_n ok dX7_depart_42 rfl ?_
        refine z_iconst (v := 2) ok dX7_depart_43 (by decide) ?_
        refine z_iconst (v := 1) ok dX7_depart_44 (by decide) ?_
        refine z_callVv ok dX7_depart_45 zm_X7_putsVehicle zw_858 zi_X7_putsVehicle hm13.1 rfl (ct_X7_putsVehicle hm13 (i := iv) (k := 2) hcjiv rfl (by omega)) rfl rfl (by decide) (by decide) (by decide) (Nat.le_of_ble_eq_true rfl) (fun Mz18 qz19 => ?_)
        obtain ⟨hm20, fzqxz17⟩ := qz19
        refine z_aload_n ok dX7_depart_48 rfl ?_
        refine z_iload_n ok dX7_depart_49 rfl ?_
        refine z_iconst (v := 3) ok dX7_depart_50 (by decide) ?_
        refine z_iload_n ok dX7_depart_51 rfl ?_
        refine z_callVv ok dX7_depart_52 zm_X7_putsVehicle zw_858 zi_X7_putsVehicle hm20.1 rfl (ct_X7_putsVehicle hm20 (i := iv) (k := 3) hcjiv rfl (by omega)) rfl rfl (by decide) (by decide) (by decide) (Nat.le_of_ble_eq_true rfl) (fun Mz22 qz23 => ?_)
        obtain ⟨hm24, fzqxz21⟩ := qz23
        refine z_aload_n ok dX7_depart_55 rfl ?_
        refine z_iload_n ok dX7_depart_56 rfl ?_
        refine z_iconst (v := 5) ok dX7_depart_57 (by decide) ?_
        refine z_iload_n ok dX7_depart_58 rfl ?_
        refine z_aload_n ok dX7_depart_59 rfl ?_
        refine z_getf ok dX7_depart_60 zin_X7 rfl 0 (by decide) zw_771 hm24.1 rfl ?_
        refine z_iconst (v := 0) ok dX7_depart_63 (by decide) ?_
        refine m_ald1 ok dX7_depart_64 hm24 rfl (by decide) ?_
        refine z_imul ok dX7_depart_65 ?_
        refine z_callVv ok dX7_depart_66 zm_X7_putsVehicle zw_858 zi_X7_putsVehicle hm24.1 rfl (ct_X7_putsVehicle hm24 (i := iv) (k := 5) hcjiv rfl (by omega)) rfl rfl (by decide) (by decide) (by decide) (Nat.le_of_ble_eq_true rfl) (fun Mz26 qz27 => ?_)
        obtain ⟨hm28, fzqxz25⟩ := qz27
        refine z_aload_n ok dX7_depart_69 rfl ?_
        refine z_iload_n ok dX7_depart_70 rfl ?_
        refine z_iconst (v := 4) ok dX7_depart_71 (by decide) ?_
        refine z_aload_n ok dX7_depart_72 rfl ?_
        refine z_getf ok dX7_depart_73 zin_X7 rfl 0 (by decide) zw_771 hm28.1 rfl ?_
        refine z_iconst (v := 5) ok dX7_depart_76 (by decide) ?_
        refine m_ald1 ok dX7_depart_77 hm28 rfl (by decide) ?_
        refine z_iload_n ok dX7_depart_78 rfl ?_
        refine z_aload_n ok dX7_depart_79 rfl ?_
        refine z_getf ok dX7_depart_80 zin_X7 rfl 0 (by decide) zw_771 hm28.1 rfl ?_
        refine z_iconst (v := 0) ok dX7_depart_83 (by decide) ?_
        refine m_ald1 ok dX7_depart_84 hm28 rfl (by decide) ?_
        refine z_imul ok dX7_depart_85 ?_
        refine z_iadd ok dX7_depart_86 ?_
        refine z_callVv ok dX7_depart_87 zm_X7_putsVehicle zw_858 zi_X7_putsVehicle hm28.1 rfl (ct_X7_putsVehicle hm28 (i := iv) (k := 4) hcjiv rfl (by omega)) rfl rfl (by decide) (by decide) (by decide) (Nat.le_of_ble_eq_true rfl) (fun Mz30 qz31 => ?_)
        obtain ⟨hm32, fzqxz29⟩ := qz31
        refine z_iconst (v := 0) ok dX7_depart_90 (by decide) ?_
        refine z_istore_n ok dX7_depart_91 (by decide) rfl ?_
        have loop92 : ∀ (t i : Nat) (M1 : mM), n < i + t → i ≤ n → mPic M1 m (mA (zCC μ p) 1 (zDe (μ.1 1) n iv i)) → zFr M M1 m 9 → zV 4 B (zE B (zI (zPost M m μ p (spDepart (μ.1 1) n v))) 0 0) 92 [some (.ref m), some (.int v), some (.int (zGoal (μ.1 1) n iv)), some (.int (nI i))] [] M1 0 0 := by
          intro t
          induction t with
          | zero => intro i M1 h1 h2; exact absurd h1 (by omega)
          | succ t ih =>
            intro i M1 h1 h2 hm1 hf1
            have hN0 := zDe_N (iv := iv) hN i
            have hN1 : zN ((mA (zCC μ p) 1 (zDe (μ.1 1) n iv i)).1 1) n nv no := by rw [mA_s]; exact hN0
            refine z_iload_n ok dX7_depart_92 rfl ?_
            refine z_aload_n ok dX7_depart_93 rfl ?_
            refine z_getf ok dX7_depart_94 zin_X7 rfl 0 (by decide) zw_771 hm1.1 rfl ?_
            refine z_iconst (v := 3) ok dX7_depart_97 (by decide) ?_
            refine m_ald1 ok dX7_depart_98 hm1 rfl (by decide) ?_
            refine z_icmp_ge (tgt := 138) ok dX7_depart_99 (by decide) (fun cz99 => ?_) (fun cz99 => ?_)
            · have hin : i = n := by rw [mA_s, hN0.1, nI_leI (by omega) (by omega)] at cz99; omega
              rw [hin] at hm1
              refine z_aload_n ok dX7_depart_138 rfl ?_
              refine z_iload_n ok dX7_depart_139 rfl ?_
              refine z_iconst (v := 4) ok dX7_depart_140 (by decide) ?_
              refine z_callVi ok dX7_depart_141 zm_X7_ofVehicle zw_874 zi_X7_ofVehicle hm1.1 rfl (ct_X7_ofVehicle hm1 (i := iv) (k := 4) hcjiv rfl (by omega)) rfl rfl (by decide) (by decide) (by decide) (Nat.le_of_ble_eq_true rfl) (fun xz33 Mz34 qz35 => ?_)
              obtain ⟨rfl, hMe⟩ := qz35
              obtain rfl := hMe.symm
              exact z_iret ok dX7_depart_144 rfl rfl rfl (Nat.zero_le _) (zPost_ok hm1 hf1 (by unfold spDepart; rw [htciv, mA_s]; grind))
            · have hin : i < n := by rw [mA_s, hN0.1, nI_leI (by omega) (by omega)] at cz99; omega
              refine z_aload_n ok dX7_depart_102 rfl ?_
              refine z_iload_n ok dX7_depart_103 rfl ?_
              refine z_iload_n ok dX7_depart_104 rfl ?_
              refine z_callVi ok dX7_depart_105 zm_X7_isIn zw_882 zi_X7_isIn hm1.1 rfl (ct_X7_isIn hm1 hN1 hin rfl) rfl rfl (by decide) (by decide) (by decide) (Nat.le_of_ble_eq_true rfl) (fun xz36 Mz37 qz38 => ?_)
              obtain ⟨rfl, hMe⟩ := qz38
              obtain rfl := hMe.symm
              refine z_if_eq (tgt := 132) ok dX7_depart_108 (by decide) (fun cz108 => ?_) (fun cz108 => ?_)
              · have hb := b2_0.mp cz108
                rw [mA_s, hcjiv] at hb
                refine z_iinc ok dX7_depart_132 rfl (zinc _) (by decide) rfl ?_
                refine z_goto (tgt := 92) ok dX7_depart_135 (by decide) ?_
                first | exact ih (i + 1) _ (by omega) (by omega) (by rw [zDe_f hb]; exact hm1) hf1 | exact ih (i + 1) _ (by omega) (by omega) (by rw [zDe_t hb]; have h9 := hm1; simp only [mA_s, mA_mA] at h9; exact h9) (by repeat (first | assumption | exact zFr.rf | refine zFr.tr (by assumption) ?_))
              · have hb := Decidable.not_not.mp (mt b2_0.mpr cz108)
                rw [mA_s, hcjiv] at hb
                refine z_aload_n ok dX7_depart_111 rfl ?_
                refine z_iload_n ok dX7_depart_112 rfl ?_
                refine z_bipush (v := 6) ok dX7_depart_113 (by decide) ?_
                refine z_iconst (v := 2) ok dX7_depart_115 (by decide) ?_
                refine z_callVv ok dX7_depart_116 zm_X7_puts zw_832 zi_X7_puts hm1.1 rfl (ct_X7_puts hm1 (i := i) (k := 6) rfl rfl (by omega)) rfl rfl (by decide) (by decide) (by decide) (Nat.le_of_ble_eq_true rfl) (fun Mz40 qz41 => ?_)
                obtain ⟨hm42, fzqxz39⟩ := qz41
                refine z_aload_n ok dX7_depart_119 rfl ?_
                refine z_iload_n ok dX7_depart_120 rfl ?_
                refine z_bipush (v := 11) ok dX7_depart_121 (by decide) ?_
                refine z_aload_n ok dX7_depart_123 rfl ?_
                refine z_getf ok dX7_depart_124 zin_X7 rfl 0 (by decide) zw_771 hm42.1 rfl ?_
                refine z_iconst (v := 5) ok dX7_depart_127 (by decide) ?_
                refine m_ald1 ok dX7_depart_128 hm42 rfl (by decide) ?_
                refine z_callVv ok dX7_depart_129 zm_X7_puts zw_832 zi_X7_puts hm42.1 rfl (ct_X7_puts hm42 (i := i) (k := 11) rfl rfl (by omega)) rfl rfl (by decide) (by decide) (by decide) (Nat.le_of_ble_eq_true rfl) (fun Mz44 qz45 => ?_)
                obtain ⟨hm46, fzqxz43⟩ := qz45
                refine z_iinc ok dX7_depart_132 rfl (zinc _) (by decide) rfl ?_
                refine z_goto (tgt := 92) ok dX7_depart_135 (by decide) ?_
                first | exact ih (i + 1) _ (by omega) (by omega) (by rw [zDe_f hb]; exact hm46) hf1 | exact ih (i + 1) _ (by omega) (by omega) (by rw [zDe_t hb]; have h9 := hm46; simp only [mA_s, mA_mA] at h9; exact h9) (by repeat (first | assumption | exact zFr.rf | refine zFr.tr (by assumption) ?_))
        rw [zCC_1]
        exact loop92 (n + 1) 0 _ (by omega) (by omega) (by have h9 := hm32; simp only [mA_s, mA_mA, zCC_1] at h9; exact h9) (by repeat (first | assumption | exact zFr.rf | refine zFr.tr (by assumption) ?_))
      · refine z_ldc ok dX7_depart_28 zw_849 ?_
        exact z_iret ok dX7_depart_30 rfl rfl rfl (Nat.zero_le _) (zPost_e (by unfold spDepart; grind))
  · have hb5 := b2_0.mp cz5
    refine z_ldc ok dX7_depart_8 zw_822 ?_
    exact z_iret ok dX7_depart_10 rfl rfl rfl (Nat.zero_le _) (zPost_e (by unfold spDepart; grind))

set_option maxRecDepth 20000 in
set_option maxHeartbeats 4000000 in
theorem ct_X7_offer {K : zK} {M : mM} {nx : Nat} {m : Nat} {μ : zMS} (hm : mPic M m μ) {n nv no : Nat} (hN : zN (μ.1 1) n nv no) {p : Nat} (hr : zRuns μ p) {p1 b w pr h : Int32} : zCt K yX7_offer cX7_offer 7 zr_X7_offer 1 [.ref m, .int p1, .int b, .int w, .int pr, .int h] M nx 0 0 (zI (zPost M m μ p (spOffer (μ.1 1) no p1 b w pr h))) := by
  refine z_enter [some (.ref m), some (.int p1), some (.int b), some (.int w), some (.int pr), some (.int h), none] (by decide +kernel) (Nat.le_of_ble_eq_true rfl) rfl (fun B ok hz => ?_)
  have hn16 := hN.2.1
  have hno9 := hN.2.2.2.2.2
  refine z_iload_n ok dX7_offer_0 rfl ?_
  refine z_iconst (v := 1) ok dX7_offer_1 (by decide) ?_
  refine z_iconst (v := 4) ok dX7_offer_2 (by decide) ?_
  refine z_callSi ok dX7_offer_3 zm_X7_in zw_819 zw_820 (ct_X7_in) rfl rfl (by decide) (by decide) (by decide) (Nat.le_of_ble_eq_true rfl) (fun xz1 Mz2 qz3 => ?_)
  obtain ⟨rfl, hMe⟩ := qz3
  obtain rfl := hMe.symm
  refine z_if_eq (tgt := 52) ok dX7_offer_6 (by decide) (fun cz6 => ?_) (fun cz6 => ?_)
  · have hb6 := b2_0.mp cz6
    refine z_ldc ok dX7_offer_52 zw_822 ?_
    exact z_iret ok dX7_offer_54 rfl rfl rfl (Nat.zero_le _) (zPost_e (by unfold spOffer; grind))
  · have hb6 := Decidable.not_not.mp (mt b2_0.mpr cz6)
    refine z_iload_n ok dX7_offer_9 rfl ?_
    refine z_iconst (v := 1) ok dX7_offer_10 (by decide) ?_
    refine z_bipush (v := 99) ok dX7_offer_11 (by decide) ?_
    refine z_callSi ok dX7_offer_13 zm_X7_in zw_819 zw_820 (ct_X7_in) rfl rfl (by decide) (by decide) (by decide) (Nat.le_of_ble_eq_true rfl) (fun xz4 Mz5 qz6 => ?_)
    obtain ⟨rfl, hMe⟩ := qz6
    obtain rfl := hMe.symm
    refine z_if_eq (tgt := 52) ok dX7_offer_16 (by decide) (fun cz16 => ?_) (fun cz16 => ?_)
    · have hb16 := b2_0.mp cz16
      refine z_ldc ok dX7_offer_52 zw_822 ?_
      exact z_iret ok dX7_offer_54 rfl rfl rfl (Nat.zero_le _) (zPost_e (by unfold spOffer; grind))
    · have hb16 := Decidable.not_not.mp (mt b2_0.mpr cz16)
      refine z_iload_n ok dX7_offer_19 rfl ?_
      refine z_iconst (v := 1) ok dX7_offer_20 (by decide) ?_
      refine z_bipush (v := 99) ok dX7_offer_21 (by decide) ?_
      refine z_callSi ok dX7_offer_23 zm_X7_in zw_819 zw_820 (ct_X7_in) rfl rfl (by decide) (by decide) (by decide) (Nat.le_of_ble_eq_true rfl) (fun xz7 Mz8 qz9 => ?_)
      obtain ⟨rfl, hMe⟩ := qz9
      obtain rfl := hMe.symm
      refine z_if_eq (tgt := 52) ok dX7_offer_26 (by decide) (fun cz26 => ?_) (fun cz26 => ?_)
      · have hb26 := b2_0.mp cz26
        refine z_ldc ok dX7_offer_52 zw_822 ?_
        exact z_iret ok dX7_offer_54 rfl rfl rfl (Nat.zero_le _) (zPost_e (by unfold spOffer; grind))
      · have hb26 := Decidable.not_not.mp (mt b2_0.mpr cz26)
        refine z_iload ok dX7_offer_29 rfl ?_
        refine z_iconst (v := 0) ok dX7_offer_31 (by decide) ?_
        refine z_sipush (v := 999) ok dX7_offer_32 (by decide) ?_
        refine z_callSi ok dX7_offer_35 zm_X7_in zw_819 zw_820 (ct_X7_in) rfl rfl (by decide) (by decide) (by decide) (Nat.le_of_ble_eq_true rfl) (fun xz10 Mz11 qz12 => ?_)
        obtain ⟨rfl, hMe⟩ := qz12
        obtain rfl := hMe.symm
        refine z_if_eq (tgt := 52) ok dX7_offer_38 (by decide) (fun cz38 => ?_) (fun cz38 => ?_)
        · have hb38 := b2_0.mp cz38
          refine z_ldc ok dX7_offer_52 zw_822 ?_
          exact z_iret ok dX7_offer_54 rfl rfl rfl (Nat.zero_le _) (zPost_e (by unfold spOffer; grind))
        · have hb38 := Decidable.not_not.mp (mt b2_0.mpr cz38)
          refine z_iload ok dX7_offer_41 rfl ?_
          refine z_iconst (v := 0) ok dX7_offer_43 (by decide) ?_
          refine z_bipush (v := 99) ok dX7_offer_44 (by decide) ?_
          refine z_callSi ok dX7_offer_46 zm_X7_in zw_819 zw_820 (ct_X7_in) rfl rfl (by decide) (by decide) (by decide) (Nat.le_of_ble_eq_true rfl) (fun xz13 Mz14 qz15 => ?_)
          obtain ⟨rfl, hMe⟩ := qz15
          obtain rfl := hMe.symm
          refine z_if_ne (tgt := 55) ok dX7_offer_49 (by decide) (fun cz49 => ?_) (fun cz49 => ?_)
          · have hb49 := Decidable.not_not.mp (mt b2_0.mpr cz49)
            refine z_aload_n ok dX7_offer_55 rfl ?_
            refine z_getf ok dX7_offer_56 zin_X7 rfl 0 (by decide) zw_771 hm.1 rfl ?_
            refine z_bipush (v := 6) ok dX7_offer_59 (by decide) ?_
            refine m_ald1 ok dX7_offer_61 hm rfl (by decide) ?_
            refine z_bipush (v := 10) ok dX7_offer_62 (by decide) ?_
            refine z_icmp_ne (tgt := 70) ok dX7_offer_64 (by decide) (fun cz64 => ?_) (fun cz64 => ?_)
            · have hn9 : ¬ no = 10 := fun z9 => cz64 (hN.2.2.2.2.1.trans (congrArg nI z9))
              refine z_aload_n ok dX7_offer_70 rfl ?_
              refine z_callVv ok dX7_offer_71 zm_X7_changes zw_824 zi_X7_changes hm.1 rfl (ct_X7_changesC hm hr) rfl rfl (by decide) (by decide) (by decide) (Nat.le_of_ble_eq_true rfl) (fun Mz17 qz18 => ?_)
              obtain ⟨hm19, fzqxz16⟩ := qz18
              have hNC : zN ((zCC μ p).1 1) n nv no := zN_CC hN
              refine z_sipush (v := 237) ok dX7_offer_74 (by decide) ?_
              refine z_iconst (v := 5) ok dX7_offer_77 (by decide) ?_
              refine z_aload_n ok dX7_offer_78 rfl ?_
              refine z_getf ok dX7_offer_79 zin_X7 rfl 0 (by decide) zw_771 hm19.1 rfl ?_
              refine z_bipush (v := 6) ok dX7_offer_82 (by decide) ?_
              refine m_ald1 ok dX7_offer_84 hm19 rfl (by decide) ?_
              refine z_imul ok dX7_offer_85 ?_
              refine z_iadd ok dX7_offer_86 ?_
              rw [zCC_1]
              refine z_istore ok dX7_offer_87 (by decide) rfl ?_
              refine z_aload_n ok dX7_offer_89 rfl ?_
              refine z_getf ok dX7_offer_90 zin_X7 rfl 0 (by decide) zw_771 hm19.1 rfl ?_
              refine z_iload ok dX7_offer_93 rfl ?_
              refine z_iload_n ok dX7_offer_95 rfl ?_
              refine m_ast1 ok dX7_offer_96 hm19 (by rw [hN.2.2.2.2.1, show (237 : Int32) = nI 237 from rfl, show (5 : Int32) = nI 5 from rfl, pk_mul, nI_add]) (by omega) (fun Mz21 hm20 frz22 => ?_)
              refine z_aload_n ok dX7_offer_97 rfl ?_
              refine z_getf ok dX7_offer_98 zin_X7 rfl 0 (by decide) zw_771 hm20.1 rfl ?_
              refine z_iload ok dX7_offer_101 rfl ?_
              refine z_iconst (v := 1) ok dX7_offer_103 (by decide) ?_
              refine z_iadd ok dX7_offer_104 ?_
              refine z_iload_n ok dX7_offer_105 rfl ?_
              refine m_ast1 ok dX7_offer_106 hm20 (by rw [hN.2.2.2.2.1, show (237 : Int32) = nI 237 from rfl, show (5 : Int32) = nI 5 from rfl, pk_mul, nI_add, show (1 : Int32) = nI 1 from rfl, nI_add]) (by omega) (fun Mz24 hm23 frz25 => ?_)
              refine z_aload_n ok dX7_offer_107 rfl ?_
              refine z_getf ok dX7_offer_108 zin_X7 rfl 0 (by decide) zw_771 hm23.1 rfl ?_
              refine z_iload ok dX7_offer_111 rfl ?_
              refine z_iconst (v := 2) ok dX7_offer_113 (by decide) ?_
              refine z_iadd ok dX7_offer_114 ?_
              refine z_iload_n ok dX7_offer_115 rfl ?_
              refine m_ast1 ok dX7_offer_116 hm23 (by rw [hN.2.2.2.2.1, show (237 : Int32) = nI 237 from rfl, show (5 : Int32) = nI 5 from rfl, pk_mul, nI_add, show (2 : Int32) = nI 2 from rfl, nI_add]) (by omega) (fun Mz27 hm26 frz28 => ?_)
              refine z_aload_n ok dX7_offer_117 rfl ?_
              refine z_getf ok dX7_offer_118 zin_X7 rfl 0 (by decide) zw_771 hm26.1 rfl ?_
              refine z_iload ok dX7_offer_121 rfl ?_
              refine z_iconst (v := 3) ok dX7_offer_123 (by decide) ?_
              refine z_iadd ok dX7_offer_124 ?_
              refine z_iload ok dX7_offer_125 rfl ?_
              refine m_ast1 ok dX7_offer_127 hm26 (by rw [hN.2.2.2.2.1, show (237 : Int32) = nI 237 from rfl, show (5 : Int32) = nI 5 from rfl, pk_mul, nI_add, show (3 : Int32) = nI 3 from rfl, nI_add]) (by omega) (fun Mz30 hm29 frz31 => ?_)
              refine z_aload_n ok dX7_offer_128 rfl ?_
              refine z_getf ok dX7_offer_129 zin_X7 rfl 0 (by decide) zw_771 hm29.1 rfl ?_
              refine z_iload ok dX7_offer_132 rfl ?_
              refine z_iconst (v := 4) ok dX7_offer_134 (by decide) ?_
              refine z_iadd ok dX7_offer_135 ?_
              refine z_aload_n ok dX7_offer_136 rfl ?_
              refine z_getf ok dX7_offer_137 zin_X7 rfl 0 (by decide) zw_771 hm29.1 rfl ?_
              refine z_iconst (v := 5) ok dX7_offer_140 (by decide) ?_
              refine m_ald1 ok dX7_offer_141 hm29 rfl (by decide) ?_
              refine z_iload ok dX7_offer_142 rfl ?_
              refine z_iadd ok dX7_offer_144 ?_
              refine m_ast1 ok dX7_offer_145 hm29 (by rw [hN.2.2.2.2.1, show (237 : Int32) = nI 237 from rfl, show (5 : Int32) = nI 5 from rfl, pk_mul, nI_add, show (4 : Int32) = nI 4 from rfl, nI_add]) (by omega) (fun Mz33 hm32 frz34 => ?_)
              refine z_aload_n ok dX7_offer_146 rfl ?_
              refine z_getf ok dX7_offer_147 zin_X7 rfl 0 (by decide) zw_771 hm32.1 rfl ?_
              refine z_bipush (v := 6) ok dX7_offer_150 (by decide) ?_
              refine z_dup2 ok dX7_offer_152 rfl rfl ?_
              refine m_ald1 ok dX7_offer_153 hm32 rfl (by decide) ?_
              refine z_iconst (v := 1) ok dX7_offer_154 (by decide) ?_
              refine z_iadd ok dX7_offer_155 ?_
              refine m_ast1 ok dX7_offer_156 hm32 rfl (by decide) (fun Mz36 hm35 frz37 => ?_)
              refine z_aload_n ok dX7_offer_157 rfl ?_
              refine z_getf ok dX7_offer_158 zin_X7 rfl 0 (by decide) zw_771 hm35.1 rfl ?_
              refine z_bipush (v := 6) ok dX7_offer_161 (by decide) ?_
              refine m_ald1 ok dX7_offer_163 hm35 rfl (by decide) ?_
              exact z_iret ok dX7_offer_164 rfl rfl rfl (Nat.zero_le _) (zPost_ok (by (have h9 := hm35; (try simp only [mA_s, mA_mA, zCC_1] at h9); exact h9)) (by repeat (first | assumption | exact zFr.rf | refine zFr.tr (by assumption) ?_)) (by simp only [spOffer, zOf, mA_s, zCC_1]; rw [if_pos (by grind), if_neg hn9]))
            · have hn9 : no = 10 := (nI_eq (b := 10) (by omega) (by omega)).mp (hN.2.2.2.2.1.symm.trans cz64)
              refine z_ldc ok dX7_offer_67 zw_823 ?_
              exact z_iret ok dX7_offer_69 rfl rfl rfl (Nat.zero_le _) (zPost_e (by unfold spOffer; grind))
          · have hb49 := b2_0.mp cz49
            refine z_ldc ok dX7_offer_52 zw_822 ?_
            exact z_iret ok dX7_offer_54 rfl rfl rfl (Nat.zero_le _) (zPost_e (by unfold spOffer; grind))

