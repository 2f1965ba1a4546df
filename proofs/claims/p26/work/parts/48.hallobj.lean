def zFrt (g f : Nat → Int32) : Nat → Int32 := upd (upd (upd (upd (upd (upd (upd (upd (g) 1 (f 1)) 2 (f 2)) 3 (f 3)) 4 (f 4)) 5 (f 5)) 6 (f 6)) 8 (f 8)) 9 (f 9)
def zHal (g : Nat → Int32) : Nat → Int32 := upd (upd (upd (upd (g) 7 (0)) 10 (-1)) 11 (-1)) 12 (-1)
def zCpC (g f : Nat → Int32) : Nat → Int32 := upd (upd (upd (upd (zFrt g f) 7 (f 7)) 10 (f 10)) 11 (f 11)) 12 (f 12)
def zCpV (g f : Nat → Int32) : Nat → Int32 := upd (upd (upd (upd (upd (upd (upd (upd (g) 1 (f 1)) 2 (f 2)) 3 (f 3)) 4 (f 4)) 5 (f 5)) 6 (f 6)) 7 (f 7)) 8 (f 8)
def zCpO (g f : Nat → Int32) : Nat → Int32 := upd (upd (upd (upd (upd (g) 0 (f 0)) 1 (f 1)) 2 (f 2)) 3 (f 3)) 4 (f 4)
set_option maxRecDepth 20000 in
set_option maxHeartbeats 4000000 in
theorem ct_X0_startInHall {K : zK} {M : mM} {nx : Nat} {p a : Nat} {g f : Nat → Int32} (hp : M p = some (.inr (0, cFs g))) : zCt K yX0_startInHall cX0_startInHall 1 zr_X0_startInHall 0 [.ref p] M nx 0 0 (zU (fun M' => M' p = some (.inr (0, cFs (zHal g))) ∧ ∀ q, q ≠ p → M' q = M q)) := by
  refine z_enter [some (.ref p)] (by decide +kernel) (Nat.le_of_ble_eq_true rfl) rfl (fun Bω okω hzω => ?_)
  refine z_aload_n okω dX0_startInHall_0 rfl ?_
  refine z_iconst (v := 0) okω dX0_startInHall_1 (by decide) ?_
  refine z_putf (T := TX0) (N := 13) (ty := .int) okω dX0_startInHall_2 zin_X0 tyX0 tyX0_ok nmX0 rfl 7 (by decide) zw_59 rfl hp (by decide +kernel) rfl rfl (Nat.le_of_ble_eq_true rfl) ?_
  rw [cFs_set _ _ (by decide)]
  refine zV_up (fun _ hp1ω hu2ω => ?_)
  refine z_aload_n okω dX0_startInHall_5 rfl ?_
  refine z_iconst (v := -1) okω dX0_startInHall_6 (by decide) ?_
  refine z_putf (T := TX0) (N := 13) (ty := .int) okω dX0_startInHall_7 zin_X0 tyX0 tyX0_ok nmX0 rfl 10 (by decide) zw_68 rfl hp1ω (by decide +kernel) rfl rfl (Nat.le_of_ble_eq_true rfl) ?_
  rw [cFs_set _ _ (by decide)]
  refine zV_up (fun _ hp4ω hu7ω => ?_)
  refine z_aload_n okω dX0_startInHall_10 rfl ?_
  refine z_iconst (v := -1) okω dX0_startInHall_11 (by decide) ?_
  refine z_putf (T := TX0) (N := 13) (ty := .int) okω dX0_startInHall_12 zin_X0 tyX0 tyX0_ok nmX0 rfl 11 (by decide) zw_71 rfl hp4ω (by decide +kernel) rfl rfl (Nat.le_of_ble_eq_true rfl) ?_
  rw [cFs_set _ _ (by decide)]
  refine zV_up (fun _ hp7ω hu12ω => ?_)
  refine z_aload_n okω dX0_startInHall_15 rfl ?_
  refine z_iconst (v := -1) okω dX0_startInHall_16 (by decide) ?_
  refine z_putf (T := TX0) (N := 13) (ty := .int) okω dX0_startInHall_17 zin_X0 tyX0 tyX0_ok nmX0 rfl 12 (by decide) zw_74 rfl hp7ω (by decide +kernel) rfl rfl (Nat.le_of_ble_eq_true rfl) ?_
  rw [cFs_set _ _ (by decide)]
  refine zV_up (fun _ hp10ω hu17ω => ?_)
  exact z_vret okω dX0_startInHall_20 rfl rfl (Nat.zero_le _) ⟨hp10ω, fun _ hqzω => ((hu17ω _ hqzω).trans ((hu12ω _ hqzω).trans ((hu7ω _ hqzω).trans ((hu2ω _ hqzω).trans rfl))))⟩

set_option maxRecDepth 20000 in
set_option maxHeartbeats 4000000 in
theorem ct_X0_copyFreight {K : zK} {M : mM} {nx : Nat} {p a : Nat} {g f : Nat → Int32} (hp : M p = some (.inr (0, cFs g))) (ha : M a = some (.inr (0, cFs f))) (hne : a ≠ p) : zCt K yX0_copyFreight cX0_copyFreight 2 zr_X0_copyFreight 0 [.ref p, .ref a] M nx 0 0 (zU (fun M' => M' p = some (.inr (0, cFs (zFrt g f))) ∧ ∀ q, q ≠ p → M' q = M q)) := by
  refine z_enter [some (.ref p), some (.ref a)] (by decide +kernel) (Nat.le_of_ble_eq_true rfl) rfl (fun Bω okω hzω => ?_)
  refine z_aload_n okω dX0_copyFreight_0 rfl ?_
  refine z_aload_n okω dX0_copyFreight_1 rfl ?_
  refine z_getf okω dX0_copyFreight_2 zin_X0 rfl 1 (by decide) zw_41 ha rfl ?_
  refine z_putf (T := TX0) (N := 13) (ty := .int) okω dX0_copyFreight_5 zin_X0 tyX0 tyX0_ok nmX0 rfl 1 (by decide) zw_41 rfl hp (by decide +kernel) rfl rfl (Nat.le_of_ble_eq_true rfl) ?_
  rw [cFs_set _ _ (by decide)]
  refine zV_up (fun _ hp1ω hu5ω => ?_)
  have ho5ω := (hu5ω _ hne).trans ha
  refine z_aload_n okω dX0_copyFreight_8 rfl ?_
  refine z_aload_n okω dX0_copyFreight_9 rfl ?_
  refine z_getf okω dX0_copyFreight_10 zin_X0 rfl 2 (by decide) zw_44 ho5ω rfl ?_
  refine z_putf (T := TX0) (N := 13) (ty := .int) okω dX0_copyFreight_13 zin_X0 tyX0 tyX0_ok nmX0 rfl 2 (by decide) zw_44 rfl hp1ω (by decide +kernel) rfl rfl (Nat.le_of_ble_eq_true rfl) ?_
  rw [cFs_set _ _ (by decide)]
  refine zV_up (fun _ hp4ω hu13ω => ?_)
  have ho13ω := (hu13ω _ hne).trans ho5ω
  refine z_aload_n okω dX0_copyFreight_16 rfl ?_
  refine z_aload_n okω dX0_copyFreight_17 rfl ?_
  refine z_getf okω dX0_copyFreight_18 zin_X0 rfl 3 (by decide) zw_47 ho13ω rfl ?_
  refine z_putf (T := TX0) (N := 13) (ty := .int) okω dX0_copyFreight_21 zin_X0 tyX0 tyX0_ok nmX0 rfl 3 (by decide) zw_47 rfl hp4ω (by decide +kernel) rfl rfl (Nat.le_of_ble_eq_true rfl) ?_
  rw [cFs_set _ _ (by decide)]
  refine zV_up (fun _ hp7ω hu21ω => ?_)
  have ho21ω := (hu21ω _ hne).trans ho13ω
  refine z_aload_n okω dX0_copyFreight_24 rfl ?_
  refine z_aload_n okω dX0_copyFreight_25 rfl ?_
  refine z_getf okω dX0_copyFreight_26 zin_X0 rfl 4 (by decide) zw_50 ho21ω rfl ?_
  refine z_putf (T := TX0) (N := 13) (ty := .int) okω dX0_copyFreight_29 zin_X0 tyX0 tyX0_ok nmX0 rfl 4 (by decide) zw_50 rfl hp7ω (by decide +kernel) rfl rfl (Nat.le_of_ble_eq_true rfl) ?_
  rw [cFs_set _ _ (by decide)]
  refine zV_up (fun _ hp10ω hu29ω => ?_)
  have ho29ω := (hu29ω _ hne).trans ho21ω
  refine z_aload_n okω dX0_copyFreight_32 rfl ?_
  refine z_aload_n okω dX0_copyFreight_33 rfl ?_
  refine z_getf okω dX0_copyFreight_34 zin_X0 rfl 5 (by decide) zw_53 ho29ω rfl ?_
  refine z_putf (T := TX0) (N := 13) (ty := .int) okω dX0_copyFreight_37 zin_X0 tyX0 tyX0_ok nmX0 rfl 5 (by decide) zw_53 rfl hp10ω (by decide +kernel) rfl rfl (Nat.le_of_ble_eq_true rfl) ?_
  rw [cFs_set _ _ (by decide)]
  refine zV_up (fun _ hp13ω hu37ω => ?_)
  have ho37ω := (hu37ω _ hne).trans ho29ω
  refine z_aload_n okω dX0_copyFreight_40 rfl ?_
  refine z_aload_n okω dX0_copyFreight_41 rfl ?_
  refine z_getf okω dX0_copyFreight_42 zin_X0 rfl 6 (by decide) zw_56 ho37ω rfl ?_
  refine z_putf (T := TX0) (N := 13) (ty := .int) okω dX0_copyFreight_45 zin_X0 tyX0 tyX0_ok nmX0 rfl 6 (by decide) zw_56 rfl hp13ω (by decide +kernel) rfl rfl (Nat.le_of_ble_eq_true rfl) ?_
  rw [cFs_set _ _ (by decide)]
  refine zV_up (fun _ hp16ω hu45ω => ?_)
  have ho45ω := (hu45ω _ hne).trans ho37ω
  refine z_aload_n okω dX0_copyFreight_48 rfl ?_
  refine z_aload_n okω dX0_copyFreight_49 rfl ?_
  refine z_getf okω dX0_copyFreight_50 zin_X0 rfl 8 (by decide) zw_62 ho45ω rfl ?_
  refine z_putf (T := TX0) (N := 13) (ty := .int) okω dX0_copyFreight_53 zin_X0 tyX0 tyX0_ok nmX0 rfl 8 (by decide) zw_62 rfl hp16ω (by decide +kernel) rfl rfl (Nat.le_of_ble_eq_true rfl) ?_
  rw [cFs_set _ _ (by decide)]
  refine zV_up (fun _ hp19ω hu53ω => ?_)
  have ho53ω := (hu53ω _ hne).trans ho45ω
  refine z_aload_n okω dX0_copyFreight_56 rfl ?_
  refine z_aload_n okω dX0_copyFreight_57 rfl ?_
  refine z_getf okω dX0_copyFreight_58 zin_X0 rfl 9 (by decide) zw_65 ho53ω rfl ?_
  refine z_putf (T := TX0) (N := 13) (ty := .int) okω dX0_copyFreight_61 zin_X0 tyX0 tyX0_ok nmX0 rfl 9 (by decide) zw_65 rfl hp19ω (by decide +kernel) rfl rfl (Nat.le_of_ble_eq_true rfl) ?_
  rw [cFs_set _ _ (by decide)]
  refine zV_up (fun _ hp22ω hu61ω => ?_)
  have ho61ω := (hu61ω _ hne).trans ho53ω
  exact z_vret okω dX0_copyFreight_64 rfl rfl (Nat.zero_le _) ⟨hp22ω, fun _ hqzω => ((hu61ω _ hqzω).trans ((hu53ω _ hqzω).trans ((hu45ω _ hqzω).trans ((hu37ω _ hqzω).trans ((hu29ω _ hqzω).trans ((hu21ω _ hqzω).trans ((hu13ω _ hqzω).trans ((hu5ω _ hqzω).trans rfl))))))))⟩

set_option maxRecDepth 20000 in
set_option maxHeartbeats 4000000 in
theorem ct_X0_copyFrom {K : zK} {M : mM} {nx : Nat} {p a : Nat} {g f : Nat → Int32} (hp : M p = some (.inr (0, cFs g))) (ha : M a = some (.inr (0, cFs f))) (hne : a ≠ p) : zCt K yX0_copyFrom cX0_copyFrom 2 zr_X0_copyFrom 1 [.ref p, .ref a] M nx 0 0 (zU (fun M' => M' p = some (.inr (0, cFs (zCpC g f))) ∧ ∀ q, q ≠ p → M' q = M q)) := by
  refine z_enter [some (.ref p), some (.ref a)] (by decide +kernel) (Nat.le_of_ble_eq_true rfl) rfl (fun Bω okω hzω => ?_)
  refine z_aload_n okω dX0_copyFrom_0 rfl ?_
  refine z_aload_n okω dX0_copyFrom_1 rfl ?_
  refine z_callVv okω dX0_copyFrom_2 zm_X0_copyFreight zw_354 zi_X0_copyFreight hp rfl (ct_X0_copyFreight hp ha hne) rfl rfl (by decide) (by decide) (by decide) (Nat.le_of_ble_eq_true rfl) (fun Mz1ω qz2ω => ?_)
  obtain ⟨hp3ω, hu2ω⟩ := qz2ω
  have ho2ω := (hu2ω _ hne).trans ha
  refine z_aload_n okω dX0_copyFrom_5 rfl ?_
  refine z_aload_n okω dX0_copyFrom_6 rfl ?_
  refine z_getf okω dX0_copyFrom_7 zin_X0 rfl 7 (by decide) zw_59 ho2ω rfl ?_
  refine z_putf (T := TX0) (N := 13) (ty := .int) okω dX0_copyFrom_10 zin_X0 tyX0 tyX0_ok nmX0 rfl 7 (by decide) zw_59 rfl hp3ω (by decide +kernel) rfl rfl (Nat.le_of_ble_eq_true rfl) ?_
  rw [cFs_set _ _ (by decide)]
  refine zV_up (fun _ hp4ω hu10ω => ?_)
  have ho10ω := (hu10ω _ hne).trans ho2ω
  refine z_aload_n okω dX0_copyFrom_13 rfl ?_
  refine z_aload_n okω dX0_copyFrom_14 rfl ?_
  refine z_getf okω dX0_copyFrom_15 zin_X0 rfl 10 (by decide) zw_68 ho10ω rfl ?_
  refine z_putf (T := TX0) (N := 13) (ty := .int) okω dX0_copyFrom_18 zin_X0 tyX0 tyX0_ok nmX0 rfl 10 (by decide) zw_68 rfl hp4ω (by decide +kernel) rfl rfl (Nat.le_of_ble_eq_true rfl) ?_
  rw [cFs_set _ _ (by decide)]
  refine zV_up (fun _ hp7ω hu18ω => ?_)
  have ho18ω := (hu18ω _ hne).trans ho10ω
  refine z_aload_n okω dX0_copyFrom_21 rfl ?_
  refine z_aload_n okω dX0_copyFrom_22 rfl ?_
  refine z_getf okω dX0_copyFrom_23 zin_X0 rfl 11 (by decide) zw_71 ho18ω rfl ?_
  refine z_putf (T := TX0) (N := 13) (ty := .int) okω dX0_copyFrom_26 zin_X0 tyX0 tyX0_ok nmX0 rfl 11 (by decide) zw_71 rfl hp7ω (by decide +kernel) rfl rfl (Nat.le_of_ble_eq_true rfl) ?_
  rw [cFs_set _ _ (by decide)]
  refine zV_up (fun _ hp10ω hu26ω => ?_)
  have ho26ω := (hu26ω _ hne).trans ho18ω
  refine z_aload_n okω dX0_copyFrom_29 rfl ?_
  refine z_aload_n okω dX0_copyFrom_30 rfl ?_
  refine z_getf okω dX0_copyFrom_31 zin_X0 rfl 12 (by decide) zw_74 ho26ω rfl ?_
  refine z_putf (T := TX0) (N := 13) (ty := .int) okω dX0_copyFrom_34 zin_X0 tyX0 tyX0_ok nmX0 rfl 12 (by decide) zw_74 rfl hp10ω (by decide +kernel) rfl rfl (Nat.le_of_ble_eq_true rfl) ?_
  rw [cFs_set _ _ (by decide)]
  refine zV_up (fun _ hp13ω hu34ω => ?_)
  have ho34ω := (hu34ω _ hne).trans ho26ω
  exact z_vret okω dX0_copyFrom_37 rfl rfl (Nat.zero_le _) ⟨hp13ω, fun _ hqzω => ((hu34ω _ hqzω).trans ((hu26ω _ hqzω).trans ((hu18ω _ hqzω).trans ((hu10ω _ hqzω).trans ((hu2ω _ hqzω).trans rfl)))))⟩

set_option maxRecDepth 20000 in
set_option maxHeartbeats 4000000 in
theorem ct_X5_copyFrom {K : zK} {M : mM} {nx : Nat} {p a : Nat} {g f : Nat → Int32} (hp : M p = some (.inr (5, vFs g))) (ha : M a = some (.inr (5, vFs f))) (hne : a ≠ p) : zCt K yX5_copyFrom cX5_copyFrom 2 zr_X5_copyFrom 0 [.ref p, .ref a] M nx 0 0 (zU (fun M' => M' p = some (.inr (5, vFs (zCpV g f))) ∧ ∀ q, q ≠ p → M' q = M q)) := by
  refine z_enter [some (.ref p), some (.ref a)] (by decide +kernel) (Nat.le_of_ble_eq_true rfl) rfl (fun Bω okω hzω => ?_)
  refine z_aload_n okω dX5_copyFrom_0 rfl ?_
  refine z_aload_n okω dX5_copyFrom_1 rfl ?_
  refine z_getf okω dX5_copyFrom_2 zin_X5 rfl 1 (by decide) zw_113 ha rfl ?_
  refine z_putf (T := TX5) (N := 9) (ty := .int) okω dX5_copyFrom_5 zin_X5 tyX5 tyX5_ok nmX5 rfl 1 (by decide) zw_113 rfl hp (by decide +kernel) rfl rfl (Nat.le_of_ble_eq_true rfl) ?_
  rw [vFs_set _ _ (by decide)]
  refine zV_up (fun _ hp1ω hu5ω => ?_)
  have ho5ω := (hu5ω _ hne).trans ha
  refine z_aload_n okω dX5_copyFrom_8 rfl ?_
  refine z_aload_n okω dX5_copyFrom_9 rfl ?_
  refine z_getf okω dX5_copyFrom_10 zin_X5 rfl 2 (by decide) zw_116 ho5ω rfl ?_
  refine z_putf (T := TX5) (N := 9) (ty := .int) okω dX5_copyFrom_13 zin_X5 tyX5 tyX5_ok nmX5 rfl 2 (by decide) zw_116 rfl hp1ω (by decide +kernel) rfl rfl (Nat.le_of_ble_eq_true rfl) ?_
  rw [vFs_set _ _ (by decide)]
  refine zV_up (fun _ hp4ω hu13ω => ?_)
  have ho13ω := (hu13ω _ hne).trans ho5ω
  refine z_aload_n okω dX5_copyFrom_16 rfl ?_
  refine z_aload_n okω dX5_copyFrom_17 rfl ?_
  refine z_getf okω dX5_copyFrom_18 zin_X5 rfl 3 (by decide) zw_119 ho13ω rfl ?_
  refine z_putf (T := TX5) (N := 9) (ty := .int) okω dX5_copyFrom_21 zin_X5 tyX5 tyX5_ok nmX5 rfl 3 (by decide) zw_119 rfl hp4ω (by decide +kernel) rfl rfl (Nat.le_of_ble_eq_true rfl) ?_
  rw [vFs_set _ _ (by decide)]
  refine zV_up (fun _ hp7ω hu21ω => ?_)
  have ho21ω := (hu21ω _ hne).trans ho13ω
  refine z_aload_n okω dX5_copyFrom_24 rfl ?_
  refine z_aload_n okω dX5_copyFrom_25 rfl ?_
  refine z_getf okω dX5_copyFrom_26 zin_X5 rfl 4 (by decide) zw_122 ho21ω rfl ?_
  refine z_putf (T := TX5) (N := 9) (ty := .int) okω dX5_copyFrom_29 zin_X5 tyX5 tyX5_ok nmX5 rfl 4 (by decide) zw_122 rfl hp7ω (by decide +kernel) rfl rfl (Nat.le_of_ble_eq_true rfl) ?_
  rw [vFs_set _ _ (by decide)]
  refine zV_up (fun _ hp10ω hu29ω => ?_)
  have ho29ω := (hu29ω _ hne).trans ho21ω
  refine z_aload_n okω dX5_copyFrom_32 rfl ?_
  refine z_aload_n okω dX5_copyFrom_33 rfl ?_
  refine z_getf okω dX5_copyFrom_34 zin_X5 rfl 5 (by decide) zw_125 ho29ω rfl ?_
  refine z_putf (T := TX5) (N := 9) (ty := .int) okω dX5_copyFrom_37 zin_X5 tyX5 tyX5_ok nmX5 rfl 5 (by decide) zw_125 rfl hp10ω (by decide +kernel) rfl rfl (Nat.le_of_ble_eq_true rfl) ?_
  rw [vFs_set _ _ (by decide)]
  refine zV_up (fun _ hp13ω hu37ω => ?_)
  have ho37ω := (hu37ω _ hne).trans ho29ω
  refine z_aload_n okω dX5_copyFrom_40 rfl ?_
  refine z_aload_n okω dX5_copyFrom_41 rfl ?_
  refine z_getf okω dX5_copyFrom_42 zin_X5 rfl 6 (by decide) zw_127 ho37ω rfl ?_
  refine z_putf (T := TX5) (N := 9) (ty := .int) okω dX5_copyFrom_45 zin_X5 tyX5 tyX5_ok nmX5 rfl 6 (by decide) zw_127 rfl hp13ω (by decide +kernel) rfl rfl (Nat.le_of_ble_eq_true rfl) ?_
  rw [vFs_set _ _ (by decide)]
  refine zV_up (fun _ hp16ω hu45ω => ?_)
  have ho45ω := (hu45ω _ hne).trans ho37ω
  refine z_aload_n okω dX5_copyFrom_48 rfl ?_
  refine z_aload_n okω dX5_copyFrom_49 rfl ?_
  refine z_getf okω dX5_copyFrom_50 zin_X5 rfl 7 (by decide) zw_130 ho45ω rfl ?_
  refine z_putf (T := TX5) (N := 9) (ty := .int) okω dX5_copyFrom_53 zin_X5 tyX5 tyX5_ok nmX5 rfl 7 (by decide) zw_130 rfl hp16ω (by decide +kernel) rfl rfl (Nat.le_of_ble_eq_true rfl) ?_
  rw [vFs_set _ _ (by decide)]
  refine zV_up (fun _ hp19ω hu53ω => ?_)
  have ho53ω := (hu53ω _ hne).trans ho45ω
  refine z_aload_n okω dX5_copyFrom_56 rfl ?_
  refine z_aload_n okω dX5_copyFrom_57 rfl ?_
  refine z_getf okω dX5_copyFrom_58 zin_X5 rfl 8 (by decide) zw_133 ho53ω rfl ?_
  refine z_putf (T := TX5) (N := 9) (ty := .int) okω dX5_copyFrom_61 zin_X5 tyX5 tyX5_ok nmX5 rfl 8 (by decide) zw_133 rfl hp19ω (by decide +kernel) rfl rfl (Nat.le_of_ble_eq_true rfl) ?_
  rw [vFs_set _ _ (by decide)]
  refine zV_up (fun _ hp22ω hu61ω => ?_)
  have ho61ω := (hu61ω _ hne).trans ho53ω
  exact z_vret okω dX5_copyFrom_64 rfl rfl (Nat.zero_le _) ⟨hp22ω, fun _ hqzω => ((hu61ω _ hqzω).trans ((hu53ω _ hqzω).trans ((hu45ω _ hqzω).trans ((hu37ω _ hqzω).trans ((hu29ω _ hqzω).trans ((hu21ω _ hqzω).trans ((hu13ω _ hqzω).trans ((hu5ω _ hqzω).trans rfl))))))))⟩

set_option maxRecDepth 20000 in
set_option maxHeartbeats 4000000 in
theorem ct_X3_copyFrom {K : zK} {M : mM} {nx : Nat} {p a : Nat} {g f : Nat → Int32} (hp : M p = some (.inr (3, oFs g))) (ha : M a = some (.inr (3, oFs f))) (hne : a ≠ p) : zCt K yX3_copyFrom cX3_copyFrom 2 zr_X3_copyFrom 0 [.ref p, .ref a] M nx 0 0 (zU (fun M' => M' p = some (.inr (3, oFs (zCpO g f))) ∧ ∀ q, q ≠ p → M' q = M q)) := by
  refine z_enter [some (.ref p), some (.ref a)] (by decide +kernel) (Nat.le_of_ble_eq_true rfl) rfl (fun Bω okω hzω => ?_)
  refine z_aload_n okω dX3_copyFrom_0 rfl ?_
  refine z_aload_n okω dX3_copyFrom_1 rfl ?_
  refine z_getf okω dX3_copyFrom_2 zin_X3 rfl 0 (by decide) zw_160 ha rfl ?_
  refine z_putf (T := TX3) (N := 5) (ty := .int) okω dX3_copyFrom_5 zin_X3 tyX3 tyX3_ok nmX3 rfl 0 (by decide) zw_160 rfl hp (by decide +kernel) rfl rfl (Nat.le_of_ble_eq_true rfl) ?_
  rw [oFs_set _ _ (by decide)]
  refine zV_up (fun _ hp1ω hu5ω => ?_)
  have ho5ω := (hu5ω _ hne).trans ha
  refine z_aload_n okω dX3_copyFrom_8 rfl ?_
  refine z_aload_n okω dX3_copyFrom_9 rfl ?_
  refine z_getf okω dX3_copyFrom_10 zin_X3 rfl 1 (by decide) zw_163 ho5ω rfl ?_
  refine z_putf (T := TX3) (N := 5) (ty := .int) okω dX3_copyFrom_13 zin_X3 tyX3 tyX3_ok nmX3 rfl 1 (by decide) zw_163 rfl hp1ω (by decide +kernel) rfl rfl (Nat.le_of_ble_eq_true rfl) ?_
  rw [oFs_set _ _ (by decide)]
  refine zV_up (fun _ hp4ω hu13ω => ?_)
  have ho13ω := (hu13ω _ hne).trans ho5ω
  refine z_aload_n okω dX3_copyFrom_16 rfl ?_
  refine z_aload_n okω dX3_copyFrom_17 rfl ?_
  refine z_getf okω dX3_copyFrom_18 zin_X3 rfl 2 (by decide) zw_166 ho13ω rfl ?_
  refine z_putf (T := TX3) (N := 5) (ty := .int) okω dX3_copyFrom_21 zin_X3 tyX3 tyX3_ok nmX3 rfl 2 (by decide) zw_166 rfl hp4ω (by decide +kernel) rfl rfl (Nat.le_of_ble_eq_true rfl) ?_
  rw [oFs_set _ _ (by decide)]
  refine zV_up (fun _ hp7ω hu21ω => ?_)
  have ho21ω := (hu21ω _ hne).trans ho13ω
  refine z_aload_n okω dX3_copyFrom_24 rfl ?_
  refine z_aload_n okω dX3_copyFrom_25 rfl ?_
  refine z_getf okω dX3_copyFrom_26 zin_X3 rfl 3 (by decide) zw_169 ho21ω rfl ?_
  refine z_putf (T := TX3) (N := 5) (ty := .int) okω dX3_copyFrom_29 zin_X3 tyX3 tyX3_ok nmX3 rfl 3 (by decide) zw_169 rfl hp7ω (by decide +kernel) rfl rfl (Nat.le_of_ble_eq_true rfl) ?_
  rw [oFs_set _ _ (by decide)]
  refine zV_up (fun _ hp10ω hu29ω => ?_)
  have ho29ω := (hu29ω _ hne).trans ho21ω
  refine z_aload_n okω dX3_copyFrom_32 rfl ?_
  refine z_aload_n okω dX3_copyFrom_33 rfl ?_
  refine z_getf okω dX3_copyFrom_34 zin_X3 rfl 4 (by decide) zw_172 ho29ω rfl ?_
  refine z_putf (T := TX3) (N := 5) (ty := .int) okω dX3_copyFrom_37 zin_X3 tyX3 tyX3_ok nmX3 rfl 4 (by decide) zw_172 rfl hp10ω (by decide +kernel) rfl rfl (Nat.le_of_ble_eq_true rfl) ?_
  rw [oFs_set _ _ (by decide)]
  refine zV_up (fun _ hp13ω hu37ω => ?_)
  have ho37ω := (hu37ω _ hne).trans ho29ω
  exact z_vret okω dX3_copyFrom_40 rfl rfl (Nat.zero_le _) ⟨hp13ω, fun _ hqzω => ((hu37ω _ hqzω).trans ((hu29ω _ hqzω).trans ((hu21ω _ hqzω).trans ((hu13ω _ hqzω).trans ((hu5ω _ hqzω).trans rfl)))))⟩

theorem zCpC_eq {g f : Nat → Int32} (h : g 0 = f 0) : cFs (zCpC g f) = cFs f := by
  unfold cFs zCpC zFrt
  simp [upd, h]
theorem zCpV_eq {g f : Nat → Int32} (h : g 0 = f 0) : vFs (zCpV g f) = vFs f := by
  unfold vFs zCpV
  simp [upd, h]
theorem zCpO_eq {g f : Nat → Int32} : oFs (zCpO g f) = oFs f := by
  unfold oFs zCpO
  simp [upd]
theorem cFs_c {f g : Nat → Int32} (h : cFs f = cFs g) (k : Nat) (hk : k < 13) : f k = g k := by
  have h1ω := cFs_get f hk
  rw [h, cFs_get g hk] at h1ω
  injection h1ω with h2
  injection h2 with h3
  exact h3.symm
/-- a row put anew -/
def kR (κ : hK) (a i : Nat) (g : Nat → Int32) : hK := fun a' i' => if a' = a ∧ i' = i then g else κ a' i'
theorem kR_s {κ : hK} {a i : Nat} {g : Nat → Int32} : kR κ a i g a i = g := if_pos ⟨rfl, rfl⟩
theorem kR_n {κ : hK} {a i a' i' : Nat} {g : Nat → Int32} (h : ¬ (a' = a ∧ i' = i)) : kR κ a i g a' i' = κ a' i' := if_neg h
theorem kR_a {κ : hK} {a i a' : Nat} {g : Nat → Int32} (h : a' ≠ a) : kR κ a i g a' = κ a' := funext fun i'ω => kR_n (fun zω => h zω.1)
theorem hPicP.newC {M M' : mM} {b : Nat} {κ : hK} {π : Nat → Nat} (h : hPicP M b κ π) {i : Nat} {g : Nat → Int32} (hi : i < 16) (h0 : g 0 = nI i) (hs : M' (b + 5 + i) = some (.inr (0, cFs g))) (hq : ∀ q, q ≠ b + 5 + i → M' q = M q) : hPicP M' b (kR κ 0 i g) π := by
  obtain ⟨h1ω, h2ω, h3ω, h4ω, h5ω, h6ω, h7ω, h8ω, h9ω⟩ := h
  refine ⟨(hq _ (by omega)).trans (by rw [kR_a (by decide)]; exact h1ω), h2ω.kept (hq _ (by omega)), h3ω.kept (hq _ (by omega)), by rw [kR_a (by decide)]; exact h4ω.kept (hq _ (by omega)), fun jω hjω => ?_, fun jω hjω => ⟨(hq _ (by omega)).trans (by rw [kR_a (by decide)]; exact (h6ω jω hjω).1), by rw [kR_a (by decide)]; exact (h6ω jω hjω).2⟩, h7ω, h8ω.kept (hq _ (by omega)), fun jω hjω => (hq _ (by omega)).trans (by rw [kR_a (by decide)]; exact h9ω jω hjω)⟩
  by_cases hji : jω = i
  · rw [hji, kR_s]
    exact ⟨hs, h0⟩
  · rw [kR_n (by omega)]
    exact ⟨(hq _ (by omega)).trans (h5ω jω hjω).1, (h5ω jω hjω).2⟩
theorem hPicP.newV {M M' : mM} {b : Nat} {κ : hK} {π : Nat → Nat} (h : hPicP M b κ π) {i : Nat} {g : Nat → Int32} (hi : i < 4) (h0 : g 0 = nI i) (hs : M' (b + 21 + i) = some (.inr (5, vFs g))) (hq : ∀ q, q ≠ b + 21 + i → M' q = M q) : hPicP M' b (kR κ 1 i g) π := by
  obtain ⟨h1ω, h2ω, h3ω, h4ω, h5ω, h6ω, h7ω, h8ω, h9ω⟩ := h
  refine ⟨(hq _ (by omega)).trans (by rw [kR_a (by decide)]; exact h1ω), h2ω.kept (hq _ (by omega)), h3ω.kept (hq _ (by omega)), by rw [kR_a (by decide)]; exact h4ω.kept (hq _ (by omega)), fun jω hjω => ⟨(hq _ (by omega)).trans (by rw [kR_a (by decide)]; exact (h5ω jω hjω).1), by rw [kR_a (by decide)]; exact (h5ω jω hjω).2⟩, fun jω hjω => ?_, h7ω, h8ω.kept (hq _ (by omega)), fun jω hjω => (hq _ (by omega)).trans (by rw [kR_a (by decide)]; exact h9ω jω hjω)⟩
  by_cases hji : jω = i
  · rw [hji, kR_s]
    exact ⟨hs, h0⟩
  · rw [kR_n (by omega)]
    exact ⟨(hq _ (by omega)).trans (h6ω jω hjω).1, (h6ω jω hjω).2⟩
theorem hPicP.newO {M M' : mM} {b : Nat} {κ : hK} {π : Nat → Nat} (h : hPicP M b κ π) {i : Nat} {g : Nat → Int32} (hi : i < 10) (hs : M' (b + 25 + π i) = some (.inr (3, oFs g))) (hq : ∀ q, q ≠ b + 25 + π i → M' q = M q) : hPicP M' b (kR κ 2 i g) π := by
  obtain ⟨h1ω, h2ω, h3ω, h4ω, h5ω, h6ω, h7ω, h8ω, h9ω⟩ := h
  have hpω := h7ω.1 i hi
  refine ⟨(hq _ (by omega)).trans (by rw [kR_a (by decide)]; exact h1ω), h2ω.kept (hq _ (by omega)), h3ω.kept (hq _ (by omega)), by rw [kR_a (by decide)]; exact h4ω.kept (hq _ (by omega)), fun jω hjω => ⟨(hq _ (by omega)).trans (by rw [kR_a (by decide)]; exact (h5ω jω hjω).1), by rw [kR_a (by decide)]; exact (h5ω jω hjω).2⟩, fun jω hjω => ⟨(hq _ (by omega)).trans (by rw [kR_a (by decide)]; exact (h6ω jω hjω).1), by rw [kR_a (by decide)]; exact (h6ω jω hjω).2⟩, h7ω, h8ω.kept (hq _ (by omega)), fun jω hjω => ?_⟩
  by_cases hji : jω = i
  · rw [hji, kR_s]
    exact hs
  · rw [kR_n (by omega)]
    exact (hq _ (fun zω => hji (h7ω.2 jω hjω i hi (by omega)))).trans (h9ω jω hjω)

