set_option maxRecDepth 20000 in
set_option maxHeartbeats 4000000 in
theorem ct_prepare2 {K : zK} {M : mM} {nx : Nat} {c : Nat} {s : Nat → Int32} {n nv no : Nat} {rows : Nat → Nat → Int32} {p o : Nat} {fp fr : Int32} {ty : Nat} {tx : Nat → Int32} {vb nxz : Int32} {nums : Nat → Int32} (hm : cR M c s n nv no rows p p o fp fr ty tx vb nxz nums) : zCt K yX2_prepare cX2_prepare 2 zr_X2_prepare 3 [.ref (c + 71), .ref (c + 1)] M nx 0 0 (zU (fun M' => cR M' c s n nv no (fun j => if j = p then s else rows j) (p + 1) p o fp fr ty tx vb nxz nums ∧ zFr M M' (c + 73) 175)) := by
  refine z_enter [some (.ref (c + 71)), some (.ref (c + 1))] (by decide +kernel) (Nat.le_of_ble_eq_true rfl) rfl (fun Bω okω hzω => ?_)
  obtain ⟨κHω, πHω, hmHω, hrHω, hwHω⟩ := hm.H
  have hb5ω := hm.B
  have hl5ω := Nat.mod_lt (o + p) (show 5 > 0 by decide)
  obtain ⟨κRω, πRω, hmRω⟩ := hm.R ((o + p) % 5) hl5ω
  refine z_aload_n okω dX2_prepare_0 rfl ?_
  refine z_getf okω dX2_prepare_1 zin_X2 rfl 0 (by decide) zw_281 hm.Y rfl ?_
  refine z_aload_n okω dX2_prepare_4 rfl ?_
  refine z_getf okω dX2_prepare_5 zin_X2 rfl 1 (by decide) zw_282 hm.Y rfl ?_
  refine z_aload_n okω dX2_prepare_8 rfl ?_
  refine z_getf okω dX2_prepare_9 zin_X2 rfl 2 (by decide) zw_283 hm.Y rfl ?_
  refine z_iadd okω dX2_prepare_12 ?_
  refine z_iconst (v := 5) okω dX2_prepare_13 (by decide) ?_
  refine z_irem okω dX2_prepare_14 (by decide) ?_
  refine h_ldR (j := ((o + p) % 5)) okω dX2_prepare_15 hm.A rfl (by rw [nI_add]; exact i5 (o + p) (by have := hm.B; omega)) (by omega) (by decide) ?_
  refine z_aload_n okω dX2_prepare_16 rfl ?_
  refine z_callVv okω dX2_prepare_17 zm_X1_copyFrom zw_350 zi_X1_copyFrom hmRω.1 rfl (ct_X1_copyFrom hmRω hmHω (by omega) hrHω) rfl rfl (by decide) (by decide) (by decide) (Nat.le_of_ble_eq_true rfl) (fun Mz2ω qz3ω => ?_)
  obtain ⟨κQω, hmQω, hrQω, hfQω⟩ := qz3ω
  exact z_vret okω dX2_prepare_20 rfl rfl (Nat.zero_le _) ⟨hm.row hfQω ⟨n, nv, no, kRow hmQω hrQω hwHω⟩, hfQω.sub (by omega) (by omega)⟩

set_option maxRecDepth 20000 in
set_option maxHeartbeats 4000000 in
theorem ct_X6_play {K : zK} {M : mM} {nx : Nat} {c : Nat} {s : Nat → Int32} {n nv no : Nat} {past : Nat → Int32} {p o : Nat} {fp fr : Int32} {ty : Nat} {tx : Nat → Int32} {vb nxz : Int32} {nums : Nat → Int32} (hm : cR M c s n nv no (fun j q => past (287 * j + q)) p p o fp fr ty tx vb nxz nums) : zCt K yX6_play cX6_play 2 zr_X6_play 8 [.ref c] M nx 0 0 (zI (cPost M c s past p ty tx (spPlay (zPl tx ty (ty + 1) 0 s 0 0)))) := by
  refine z_enter [some (.ref c), none] (by decide +kernel) (Nat.le_of_ble_eq_true rfl) rfl (fun Bω okω hzω => ?_)
  refine z_aload_n okω dX6_play_0 rfl ?_
  refine z_callVi okω dX6_play_1 zm_X6_tryText zw_657 zi_X6_tryText hm.F rfl (ct_X6_tryText hm) rfl rfl (by decide) (by decide) (by decide) (Nat.le_of_ble_eq_true rfl) (fun xz1ω Mz2ω qz3ω => ?_)
  obtain ⟨fpYω, frYω, vbYω, nxYω, nuYω, hmYω, ⟨nYω, nvYω, noYω, hTYω⟩, hfrω, hok0ω, hbadω, hfYω⟩ := qz3ω
  refine z_istore_n okω dX6_play_4 (by decide) rfl ?_
  refine z_aload_n okω dX6_play_5 rfl ?_
  refine z_getf okω dX6_play_6 zin_X6 rfl 5 (by decide) zw_324 hmYω.F rfl ?_
  refine z_if_eq (tgt := 16) okω dX6_play_9 (by decide) (fun cz9ω => ?_) (fun cz9ω => ?_)
  · obtain ⟨hx1ω, i9ω, hi9ω, hx2ω⟩ := hok0ω cz9ω
    refine z_aload_n okω dX6_play_16 rfl ?_
    refine z_getf okω dX6_play_17 zin_X6 rfl 2 (by decide) zw_321 hmYω.F rfl ?_
    refine z_aload_n okω dX6_play_20 rfl ?_
    refine z_getf okω dX6_play_21 zin_X6 rfl 0 (by decide) zw_319 hmYω.F rfl ?_
    refine z_callVv okω dX6_play_24 zm_X2_prepare zw_346 zi_X2_prepare hmYω.Y rfl (ct_prepare2 hmYω) rfl rfl (by decide) (by decide) (by decide) (Nat.le_of_ble_eq_true rfl) (fun Mz5ω qz6ω => ?_)
    obtain ⟨hmPω, hfPω⟩ := qz6ω
    obtain ⟨κ1ω, π1ω, hmHω, hr1ω, hw1ω⟩ := hmPω.H
    obtain ⟨κTω, πTω, hmTTω, hrTω, hwTω⟩ := hTYω.kept (fun q9ω h9ω h8ω => hfPω q9ω (by omega))
    refine z_aload_n okω dX6_play_27 rfl ?_
    refine z_getf okω dX6_play_28 zin_X6 rfl 0 (by decide) zw_319 hmPω.F rfl ?_
    refine z_aload_n okω dX6_play_31 rfl ?_
    refine z_getf okω dX6_play_32 zin_X6 rfl 1 (by decide) zw_320 hmPω.F rfl ?_
    refine z_callVv okω dX6_play_35 zm_X1_copyFrom zw_615 zi_X1_copyFrom hmHω.1 rfl (ct_X1_copyFrom hmHω hmTTω (by omega) hrTω) rfl rfl (by decide) (by decide) (by decide) (Nat.le_of_ble_eq_true rfl) (fun Mz8ω qz9ω => ?_)
    obtain ⟨κQω, hmQω, hrQω, hfQω⟩ := qz9ω
    have hmCω := hmPω.hall hfQω ⟨κQω, π1ω, hmQω, hrQω, hwTω⟩
    refine z_aload_n okω dX6_play_38 rfl ?_
    refine z_iload_n okω dX6_play_39 rfl ?_
    refine z_callVi okω dX6_play_40 zm_X6_changed zw_382 zi_X6_changed hmCω.F rfl (ct_X6_changedP hmCω (by rw [hx2ω]; exact nI_nn (by omega))) rfl rfl (by decide) (by decide) (by decide) (Nat.le_of_ble_eq_true rfl) (fun xz10ω Mz11ω qz12ω => ?_)
    obtain ⟨hxeω, hRCω, hfCω⟩ := qz12ω
    rw [hxeω]
    exact z_iret okω dX6_play_43 rfl rfl rfl (Nat.zero_le _) ⟨((hfYω.tr (hfPω.sub (by omega) (by omega))).tr (hfQω.sub (by omega) (by omega))).tr hfCω, by unfold spPlay zPx; rw [if_pos (hfrω.symm.trans cz9ω), if_pos rfl]; exact ⟨hx1ω, hRCω.past hm.B.1⟩⟩
  · have hbdω := hbadω cz9ω
    refine z_ldcw okω dX6_play_12 zw_757 ?_
    exact z_iret okω dX6_play_15 rfl rfl rfl (Nat.zero_le _) ⟨hfYω, by obtain ⟨hb1ω, i9ω, hi9ω, hb2ω⟩ := hbdω; unfold spPlay zPx; rw [if_neg (fun z9ω => cz9ω (hfrω.trans z9ω)), if_neg (fun y9ω => nI_nf hi9ω (hb2ω.symm.trans (hb1ω.trans y9ω)))]; exact ⟨rfl, n, nv, no, o, fpYω, frYω, vbYω, nxYω, nuYω, hmYω⟩⟩

