theorem zWF.same {s : Nat → Int32} {n nv no n' nv' no' : Nat} (h : zWF s n nv no) (hN : zN s n' nv' no') : zWF s n' nv' no' := by
  have e1ω : n = n' := (nI_eq (a := n) (b := n') (by have := h.N.2.1; omega) (by have := hN.2.1; omega)).mp (h.N.1.symm.trans hN.1)
  have e2ω : nv = nv' := (nI_eq (a := nv) (b := nv') (by have := h.N.2.2.2.1; omega) (by have := hN.2.2.2.1; omega)).mp (h.N.2.2.1.symm.trans hN.2.2.1)
  have e3ω : no = no' := (nI_eq (a := no) (b := no') (by have := h.N.2.2.2.2.2; omega) (by have := hN.2.2.2.2.2; omega)).mp (h.N.2.2.2.2.1.symm.trans hN.2.2.2.2.1)
  rw [← e1ω, ← e2ω, ← e3ω]
  exact h
def cPost (M : mM) (c : Nat) (s past : Nat → Int32) (p ty : Nat) (tx : Nat → Int32) (r : zRes) (x : Int32) (M' : mM) : Prop := zFr M M' c 251 ∧ match r with
  | .inl e => x = e ∧ cPic M' c s past p ty tx
  | .inr q => x = q.2 ∧ cPic M' c q.1 (zPast s past p) (if p = 4 then 4 else p + 1) ty tx
theorem cR.back {M : mM} {c : Nat} {s : Nat → Int32} {n nv no : Nat} {p o : Nat} {fp fr : Int32} {ty : Nat} {tx : Nat → Int32} {vb nxz : Int32} {nums : Nat → Int32} {s1 : Nat → Int32} {rows : Nat → Nat → Int32} (h : cR M c s n nv no (fun j => if j = p then s1 else rows j) (p + 1) p o fp fr ty tx vb nxz nums) : cR M c s n nv no rows p p o fp fr ty tx vb nxz nums := by
  have hbω := h.B
  refine cR.mk h.F h.Y h.A h.S h.C h.U ⟨hbω.1, Nat.le_refl _, by omega, hbω.2.2.2⟩ h.H h.T h.R (fun jω hjω => ?_)
  have h9ω := h.W jω (by omega)
  simp only [if_neg (show ¬ jω = p by omega)] at h9ω
  exact h9ω
set_option maxRecDepth 20000 in
set_option maxHeartbeats 4000000 in
theorem ct_X6_changedN {K : zK} {M : mM} {nx : Nat} {c : Nat} {x1 : Int32} (hx1 : x1 < 0) : zCt K yX6_changed cX6_changed 2 zr_X6_changed 1 [.ref c, .int x1] M nx 0 0 (zI (fun x M' => x = x1 ∧ M' = M)) := by
  refine z_enter [some (.ref c), some (.int x1)] (by decide +kernel) (Nat.le_of_ble_eq_true rfl) rfl (fun Bω okω hzω => ?_)
  refine z_iload_n okω dX6_changed_0 rfl ?_
  refine z_if_lt (tgt := 11) okω dX6_changed_1 (by decide) (fun _ => ?_) (fun q9ω => absurd hx1 q9ω)
  refine z_iload_n okω dX6_changed_11 rfl ?_
  exact z_iret okω dX6_changed_12 rfl rfl rfl (Nat.zero_le _) ⟨rfl, rfl⟩

set_option maxRecDepth 20000 in
set_option maxHeartbeats 4000000 in
theorem ct_X6_changedP {K : zK} {M : mM} {nx : Nat} {c : Nat} {s : Nat → Int32} {n nv no : Nat} {rows : Nat → Nat → Int32} {p o : Nat} {fp fr : Int32} {ty : Nat} {tx : Nat → Int32} {vb nxz : Int32} {nums : Nat → Int32} (hm : cR M c s n nv no rows (p + 1) p o fp fr ty tx vb nxz nums) {x1 : Int32} (hx1 : 0 ≤ x1) : zCt K yX6_changed cX6_changed 2 zr_X6_changed 1 [.ref c, .int x1] M nx 0 0 (zI (fun x M' => x = x1 ∧ cR M' c s n nv no (fun j => if p < 4 then rows j else rows (j + 1)) (if p < 4 then p + 1 else 4) (if p < 4 then p + 1 else 4) (if p < 4 then o else (o + 1) % 5) fp fr ty tx vb nxz nums ∧ zFr M M' c 251)) := by
  refine z_enter [some (.ref c), some (.int x1)] (by decide +kernel) (Nat.le_of_ble_eq_true rfl) rfl (fun Bω okω hzω => ?_)
  refine z_iload_n okω dX6_changed_0 rfl ?_
  refine z_if_lt (tgt := 11) okω dX6_changed_1 (by decide) (fun q9ω => absurd q9ω (Int32.not_lt.mpr hx1)) (fun _ => ?_)
  refine z_aload_n okω dX6_changed_4 rfl ?_
  refine z_getf okω dX6_changed_5 zin_X6 rfl 2 (by decide) zw_276 hm.F rfl ?_
  refine z_callVv okω dX6_changed_8 zm_X2_keep zw_379 zi_X2_keep hm.Y rfl (ct_X2_keep hm.B.1 hm.B.2.2.2.1 hm.Y) rfl rfl (by decide) (by decide) (by decide) (Nat.le_of_ble_eq_true rfl) (fun Mz2ω qz3ω => ?_)
  obtain ⟨hY9ω, hq9ω⟩ := qz3ω
  refine z_iload_n okω dX6_changed_11 rfl ?_
  exact z_iret okω dX6_changed_12 rfl rfl rfl (Nat.zero_le _) ⟨rfl, hm.keep hY9ω hq9ω, fun q8ω h8ω => hq9ω q8ω (by omega)⟩

set_option maxRecDepth 20000 in
set_option maxHeartbeats 4000000 in
theorem ct_X6_split {K : zK} {M : mM} {nx : Nat} {c : Nat} {s : Nat → Int32} {n nv no : Nat} {past : Nat → Int32} {p o : Nat} {fp fr : Int32} {ty : Nat} {tx : Nat → Int32} {vb nxz : Int32} {nums : Nat → Int32} (hm : cR M c s n nv no (fun j q => past (287 * j + q)) p p o fp fr ty tx vb nxz nums) {c1 b1 w1 : Int32} : zCt K yX6_split cX6_split 4 zr_X6_split 4 [.ref c, .int c1, .int b1, .int w1] M nx 0 0 (zI (cPost M c s past p ty tx (spSplit s n c1 b1 w1))) := by
  refine z_enter [some (.ref c), some (.int c1), some (.int b1), some (.int w1)] (by decide +kernel) (Nat.le_of_ble_eq_true rfl) rfl (fun Bω okω hzω => ?_)
  refine z_aload_n okω dX6_split_0 rfl ?_
  refine z_getf okω dX6_split_1 zin_X6 rfl 2 (by decide) zw_276 hm.F rfl ?_
  refine z_aload_n okω dX6_split_4 rfl ?_
  refine z_getf okω dX6_split_5 zin_X6 rfl 0 (by decide) zw_274 hm.F rfl ?_
  refine z_callVv okω dX6_split_8 zm_X2_prepare zw_339 zi_X2_prepare hm.Y rfl (ct_X2_prepare hm) rfl rfl (by decide) (by decide) (by decide) (Nat.le_of_ble_eq_true rfl) (fun Mz2ω qz3ω => ?_)
  obtain ⟨hmPω, hfPω⟩ := qz3ω
  obtain ⟨κ1ω, π1ω, hmHω, hr1ω, hw1ω⟩ := hmPω.H
  refine z_aload_n okω dX6_split_11 rfl ?_
  refine z_aload_n okω dX6_split_12 rfl ?_
  refine z_getf okω dX6_split_13 zin_X6 rfl 0 (by decide) zw_274 hmPω.F rfl ?_
  refine z_iload_n okω dX6_split_16 rfl ?_
  refine z_iload_n okω dX6_split_17 rfl ?_
  refine z_iload_n okω dX6_split_18 rfl ?_
  refine z_callVi okω dX6_split_19 zm_X1_splitOff zw_397 zi_X1_splitOff hmHω.1 rfl (ct_X1_splitOff hmHω hr1ω) rfl rfl (by decide) (by decide) (by decide) (Nat.le_of_ble_eq_true rfl) (fun xz4ω Mz5ω qz6ω => ?_)
  have hkpω := qz6ω
  have hokω : zOKr (spSplit s n c1 b1 w1) := ok_split hw1ω
  rcases hr9 : (spSplit s n c1 b1 w1) with e9ω | q9ω
  · rw [hr9] at hkpω hokω
    obtain ⟨hx9ω, hM9ω⟩ := hkpω
    obtain rfl := hM9ω.symm
    subst hx9ω
    refine z_callVi okω dX6_split_22 zm_X6_changed zw_375 zi_X6_changed hmPω.F rfl (ct_X6_changedN hokω) rfl rfl (by decide) (by decide) (by decide) (Nat.le_of_ble_eq_true rfl) (fun xz7ω Mz8ω qz9ω => ?_)
    obtain ⟨hxeω, hMeω⟩ := qz9ω
    obtain rfl := hMeω.symm
    rw [hxeω]
    exact z_iret okω dX6_split_25 rfl rfl rfl (Nat.zero_le _) ⟨hfPω, by exact ⟨rfl, n, nv, no, o, fp, fr, vb, nxz, nums, hmPω.back⟩⟩
  · rw [hr9] at hkpω hokω
    obtain ⟨hx9ω, ⟨κ9ω, π9ω, n9ω, nv9ω, no9ω, hm9ω, hrb9ω⟩, hf9ω⟩ := hkpω
    subst hx9ω
    obtain ⟨hx0ω, nw9ω, nvw9ω, now9ω, hw9ω⟩ := hokω
    have hR9ω := hmPω.hall hf9ω ⟨κ9ω, π9ω, hm9ω, hrb9ω, hw9ω.same hrb9ω.1⟩
    refine z_callVi okω dX6_split_22 zm_X6_changed zw_375 zi_X6_changed hR9ω.F rfl (ct_X6_changedP hR9ω hx0ω) rfl rfl (by decide) (by decide) (by decide) (Nat.le_of_ble_eq_true rfl) (fun xz10ω Mz11ω qz12ω => ?_)
    obtain ⟨hxeω, hRCω, hfCω⟩ := qz12ω
    rw [hxeω]
    exact z_iret okω dX6_split_25 rfl rfl rfl (Nat.zero_le _) ⟨(hfPω.tr (hf9ω.sub (by omega) (by omega))).tr hfCω, by exact ⟨rfl, hRCω.past hm.B.1⟩⟩

set_option maxRecDepth 20000 in
set_option maxHeartbeats 4000000 in
theorem ct_X6_join {K : zK} {M : mM} {nx : Nat} {c : Nat} {s : Nat → Int32} {n nv no : Nat} {past : Nat → Int32} {p o : Nat} {fp fr : Int32} {ty : Nat} {tx : Nat → Int32} {vb nxz : Int32} {nums : Nat → Int32} (hm : cR M c s n nv no (fun j q => past (287 * j + q)) p p o fp fr ty tx vb nxz nums) {c1 c2 : Int32} : zCt K yX6_join cX6_join 3 zr_X6_join 4 [.ref c, .int c1, .int c2] M nx 0 0 (zI (cPost M c s past p ty tx (spJoin s c1 c2))) := by
  refine z_enter [some (.ref c), some (.int c1), some (.int c2)] (by decide +kernel) (Nat.le_of_ble_eq_true rfl) rfl (fun Bω okω hzω => ?_)
  refine z_aload_n okω dX6_join_0 rfl ?_
  refine z_getf okω dX6_join_1 zin_X6 rfl 2 (by decide) zw_276 hm.F rfl ?_
  refine z_aload_n okω dX6_join_4 rfl ?_
  refine z_getf okω dX6_join_5 zin_X6 rfl 0 (by decide) zw_274 hm.F rfl ?_
  refine z_callVv okω dX6_join_8 zm_X2_prepare zw_339 zi_X2_prepare hm.Y rfl (ct_X2_prepare hm) rfl rfl (by decide) (by decide) (by decide) (Nat.le_of_ble_eq_true rfl) (fun Mz2ω qz3ω => ?_)
  obtain ⟨hmPω, hfPω⟩ := qz3ω
  obtain ⟨κ1ω, π1ω, hmHω, hr1ω, hw1ω⟩ := hmPω.H
  refine z_aload_n okω dX6_join_11 rfl ?_
  refine z_aload_n okω dX6_join_12 rfl ?_
  refine z_getf okω dX6_join_13 zin_X6 rfl 0 (by decide) zw_274 hmPω.F rfl ?_
  refine z_iload_n okω dX6_join_16 rfl ?_
  refine z_iload_n okω dX6_join_17 rfl ?_
  refine z_callVi okω dX6_join_18 zm_X1_joinParts zw_415 zi_X1_joinParts hmHω.1 rfl (ct_X1_joinParts hmHω hr1ω) rfl rfl (by decide) (by decide) (by decide) (Nat.le_of_ble_eq_true rfl) (fun xz4ω Mz5ω qz6ω => ?_)
  have hkpω := qz6ω
  have hokω : zOKr (spJoin s c1 c2) := ok_join hw1ω
  rcases hr9 : (spJoin s c1 c2) with e9ω | q9ω
  · rw [hr9] at hkpω hokω
    obtain ⟨hx9ω, hM9ω⟩ := hkpω
    obtain rfl := hM9ω.symm
    subst hx9ω
    refine z_callVi okω dX6_join_21 zm_X6_changed zw_375 zi_X6_changed hmPω.F rfl (ct_X6_changedN hokω) rfl rfl (by decide) (by decide) (by decide) (Nat.le_of_ble_eq_true rfl) (fun xz7ω Mz8ω qz9ω => ?_)
    obtain ⟨hxeω, hMeω⟩ := qz9ω
    obtain rfl := hMeω.symm
    rw [hxeω]
    exact z_iret okω dX6_join_24 rfl rfl rfl (Nat.zero_le _) ⟨hfPω, by exact ⟨rfl, n, nv, no, o, fp, fr, vb, nxz, nums, hmPω.back⟩⟩
  · rw [hr9] at hkpω hokω
    obtain ⟨hx9ω, ⟨κ9ω, π9ω, n9ω, nv9ω, no9ω, hm9ω, hrb9ω⟩, hf9ω⟩ := hkpω
    subst hx9ω
    obtain ⟨hx0ω, nw9ω, nvw9ω, now9ω, hw9ω⟩ := hokω
    have hR9ω := hmPω.hall hf9ω ⟨κ9ω, π9ω, hm9ω, hrb9ω, hw9ω.same hrb9ω.1⟩
    refine z_callVi okω dX6_join_21 zm_X6_changed zw_375 zi_X6_changed hR9ω.F rfl (ct_X6_changedP hR9ω hx0ω) rfl rfl (by decide) (by decide) (by decide) (Nat.le_of_ble_eq_true rfl) (fun xz10ω Mz11ω qz12ω => ?_)
    obtain ⟨hxeω, hRCω, hfCω⟩ := qz12ω
    rw [hxeω]
    exact z_iret okω dX6_join_24 rfl rfl rfl (Nat.zero_le _) ⟨(hfPω.tr (hf9ω.sub (by omega) (by omega))).tr hfCω, by exact ⟨rfl, hRCω.past hm.B.1⟩⟩

set_option maxRecDepth 20000 in
set_option maxHeartbeats 4000000 in
theorem ct_X6_vehicle {K : zK} {M : mM} {nx : Nat} {c : Nat} {s : Nat → Int32} {n nv no : Nat} {past : Nat → Int32} {p o : Nat} {fp fr : Int32} {ty : Nat} {tx : Nat → Int32} {vb nxz : Int32} {nums : Nat → Int32} (hm : cR M c s n nv no (fun j q => past (287 * j + q)) p p o fp fr ty tx vb nxz nums) {r1 w1 : Int32} : zCt K yX6_vehicle cX6_vehicle 3 zr_X6_vehicle 4 [.ref c, .int r1, .int w1] M nx 0 0 (zI (cPost M c s past p ty tx (spVehicle s nv r1 w1))) := by
  refine z_enter [some (.ref c), some (.int r1), some (.int w1)] (by decide +kernel) (Nat.le_of_ble_eq_true rfl) rfl (fun Bω okω hzω => ?_)
  refine z_aload_n okω dX6_vehicle_0 rfl ?_
  refine z_getf okω dX6_vehicle_1 zin_X6 rfl 2 (by decide) zw_276 hm.F rfl ?_
  refine z_aload_n okω dX6_vehicle_4 rfl ?_
  refine z_getf okω dX6_vehicle_5 zin_X6 rfl 0 (by decide) zw_274 hm.F rfl ?_
  refine z_callVv okω dX6_vehicle_8 zm_X2_prepare zw_339 zi_X2_prepare hm.Y rfl (ct_X2_prepare hm) rfl rfl (by decide) (by decide) (by decide) (Nat.le_of_ble_eq_true rfl) (fun Mz2ω qz3ω => ?_)
  obtain ⟨hmPω, hfPω⟩ := qz3ω
  obtain ⟨κ1ω, π1ω, hmHω, hr1ω, hw1ω⟩ := hmPω.H
  refine z_aload_n okω dX6_vehicle_11 rfl ?_
  refine z_aload_n okω dX6_vehicle_12 rfl ?_
  refine z_getf okω dX6_vehicle_13 zin_X6 rfl 0 (by decide) zw_274 hmPω.F rfl ?_
  refine z_iload_n okω dX6_vehicle_16 rfl ?_
  refine z_iload_n okω dX6_vehicle_17 rfl ?_
  refine z_callVi okω dX6_vehicle_18 zm_X1_addVehicle zw_429 zi_X1_addVehicle hmHω.1 rfl (ct_X1_addVehicle hmHω hr1ω) rfl rfl (by decide) (by decide) (by decide) (Nat.le_of_ble_eq_true rfl) (fun xz4ω Mz5ω qz6ω => ?_)
  have hkpω := qz6ω
  have hokω : zOKr (spVehicle s nv r1 w1) := ok_vehicle hw1ω
  rcases hr9 : (spVehicle s nv r1 w1) with e9ω | q9ω
  · rw [hr9] at hkpω hokω
    obtain ⟨hx9ω, hM9ω⟩ := hkpω
    obtain rfl := hM9ω.symm
    subst hx9ω
    refine z_callVi okω dX6_vehicle_21 zm_X6_changed zw_375 zi_X6_changed hmPω.F rfl (ct_X6_changedN hokω) rfl rfl (by decide) (by decide) (by decide) (Nat.le_of_ble_eq_true rfl) (fun xz7ω Mz8ω qz9ω => ?_)
    obtain ⟨hxeω, hMeω⟩ := qz9ω
    obtain rfl := hMeω.symm
    rw [hxeω]
    exact z_iret okω dX6_vehicle_24 rfl rfl rfl (Nat.zero_le _) ⟨hfPω, by exact ⟨rfl, n, nv, no, o, fp, fr, vb, nxz, nums, hmPω.back⟩⟩
  · rw [hr9] at hkpω hokω
    obtain ⟨hx9ω, ⟨κ9ω, π9ω, n9ω, nv9ω, no9ω, hm9ω, hrb9ω⟩, hf9ω⟩ := hkpω
    subst hx9ω
    obtain ⟨hx0ω, nw9ω, nvw9ω, now9ω, hw9ω⟩ := hokω
    have hR9ω := hmPω.hall hf9ω ⟨κ9ω, π9ω, hm9ω, hrb9ω, hw9ω.same hrb9ω.1⟩
    refine z_callVi okω dX6_vehicle_21 zm_X6_changed zw_375 zi_X6_changed hR9ω.F rfl (ct_X6_changedP hR9ω hx0ω) rfl rfl (by decide) (by decide) (by decide) (Nat.le_of_ble_eq_true rfl) (fun xz10ω Mz11ω qz12ω => ?_)
    obtain ⟨hxeω, hRCω, hfCω⟩ := qz12ω
    rw [hxeω]
    exact z_iret okω dX6_vehicle_24 rfl rfl rfl (Nat.zero_le _) ⟨(hfPω.tr (hf9ω.sub (by omega) (by omega))).tr hfCω, by exact ⟨rfl, hRCω.past hm.B.1⟩⟩

set_option maxRecDepth 20000 in
set_option maxHeartbeats 4000000 in
theorem ct_X6_load {K : zK} {M : mM} {nx : Nat} {c : Nat} {s : Nat → Int32} {n nv no : Nat} {past : Nat → Int32} {p o : Nat} {fp fr : Int32} {ty : Nat} {tx : Nat → Int32} {vb nxz : Int32} {nums : Nat → Int32} (hm : cR M c s n nv no (fun j q => past (287 * j + q)) p p o fp fr ty tx vb nxz nums) {c1 v1 : Int32} : zCt K yX6_load cX6_load 3 zr_X6_load 4 [.ref c, .int c1, .int v1] M nx 0 0 (zI (cPost M c s past p ty tx (spLoad s n c1 v1))) := by
  refine z_enter [some (.ref c), some (.int c1), some (.int v1)] (by decide +kernel) (Nat.le_of_ble_eq_true rfl) rfl (fun Bω okω hzω => ?_)
  refine z_aload_n okω dX6_load_0 rfl ?_
  refine z_getf okω dX6_load_1 zin_X6 rfl 2 (by decide) zw_276 hm.F rfl ?_
  refine z_aload_n okω dX6_load_4 rfl ?_
  refine z_getf okω dX6_load_5 zin_X6 rfl 0 (by decide) zw_274 hm.F rfl ?_
  refine z_callVv okω dX6_load_8 zm_X2_prepare zw_339 zi_X2_prepare hm.Y rfl (ct_X2_prepare hm) rfl rfl (by decide) (by decide) (by decide) (Nat.le_of_ble_eq_true rfl) (fun Mz2ω qz3ω => ?_)
  obtain ⟨hmPω, hfPω⟩ := qz3ω
  obtain ⟨κ1ω, π1ω, hmHω, hr1ω, hw1ω⟩ := hmPω.H
  refine z_aload_n okω dX6_load_11 rfl ?_
  refine z_aload_n okω dX6_load_12 rfl ?_
  refine z_getf okω dX6_load_13 zin_X6 rfl 0 (by decide) zw_274 hmPω.F rfl ?_
  refine z_iload_n okω dX6_load_16 rfl ?_
  refine z_iload_n okω dX6_load_17 rfl ?_
  refine z_callVi okω dX6_load_18 zm_X1_putInto zw_437 zi_X1_putInto hmHω.1 rfl (ct_X1_putInto hmHω hr1ω hw1ω.sm hw1ω.P1) rfl rfl (by decide) (by decide) (by decide) (Nat.le_of_ble_eq_true rfl) (fun xz4ω Mz5ω qz6ω => ?_)
  have hkpω := qz6ω
  have hokω : zOKr (spLoad s n c1 v1) := ok_load hw1ω
  rcases hr9 : (spLoad s n c1 v1) with e9ω | q9ω
  · rw [hr9] at hkpω hokω
    obtain ⟨hx9ω, hM9ω⟩ := hkpω
    obtain rfl := hM9ω.symm
    subst hx9ω
    refine z_callVi okω dX6_load_21 zm_X6_changed zw_375 zi_X6_changed hmPω.F rfl (ct_X6_changedN hokω) rfl rfl (by decide) (by decide) (by decide) (Nat.le_of_ble_eq_true rfl) (fun xz7ω Mz8ω qz9ω => ?_)
    obtain ⟨hxeω, hMeω⟩ := qz9ω
    obtain rfl := hMeω.symm
    rw [hxeω]
    exact z_iret okω dX6_load_24 rfl rfl rfl (Nat.zero_le _) ⟨hfPω, by exact ⟨rfl, n, nv, no, o, fp, fr, vb, nxz, nums, hmPω.back⟩⟩
  · rw [hr9] at hkpω hokω
    obtain ⟨hx9ω, ⟨κ9ω, π9ω, n9ω, nv9ω, no9ω, hm9ω, hrb9ω⟩, hf9ω⟩ := hkpω
    subst hx9ω
    obtain ⟨hx0ω, nw9ω, nvw9ω, now9ω, hw9ω⟩ := hokω
    have hR9ω := hmPω.hall hf9ω ⟨κ9ω, π9ω, hm9ω, hrb9ω, hw9ω.same hrb9ω.1⟩
    refine z_callVi okω dX6_load_21 zm_X6_changed zw_375 zi_X6_changed hR9ω.F rfl (ct_X6_changedP hR9ω hx0ω) rfl rfl (by decide) (by decide) (by decide) (Nat.le_of_ble_eq_true rfl) (fun xz10ω Mz11ω qz12ω => ?_)
    obtain ⟨hxeω, hRCω, hfCω⟩ := qz12ω
    rw [hxeω]
    exact z_iret okω dX6_load_24 rfl rfl rfl (Nat.zero_le _) ⟨(hfPω.tr (hf9ω.sub (by omega) (by omega))).tr hfCω, by exact ⟨rfl, hRCω.past hm.B.1⟩⟩

set_option maxRecDepth 20000 in
set_option maxHeartbeats 4000000 in
theorem ct_X6_unload {K : zK} {M : mM} {nx : Nat} {c : Nat} {s : Nat → Int32} {n nv no : Nat} {past : Nat → Int32} {p o : Nat} {fp fr : Int32} {ty : Nat} {tx : Nat → Int32} {vb nxz : Int32} {nums : Nat → Int32} (hm : cR M c s n nv no (fun j q => past (287 * j + q)) p p o fp fr ty tx vb nxz nums) {c1 : Int32} : zCt K yX6_unload cX6_unload 2 zr_X6_unload 4 [.ref c, .int c1] M nx 0 0 (zI (cPost M c s past p ty tx (spUnload s c1))) := by
  refine z_enter [some (.ref c), some (.int c1)] (by decide +kernel) (Nat.le_of_ble_eq_true rfl) rfl (fun Bω okω hzω => ?_)
  refine z_aload_n okω dX6_unload_0 rfl ?_
  refine z_getf okω dX6_unload_1 zin_X6 rfl 2 (by decide) zw_276 hm.F rfl ?_
  refine z_aload_n okω dX6_unload_4 rfl ?_
  refine z_getf okω dX6_unload_5 zin_X6 rfl 0 (by decide) zw_274 hm.F rfl ?_
  refine z_callVv okω dX6_unload_8 zm_X2_prepare zw_339 zi_X2_prepare hm.Y rfl (ct_X2_prepare hm) rfl rfl (by decide) (by decide) (by decide) (Nat.le_of_ble_eq_true rfl) (fun Mz2ω qz3ω => ?_)
  obtain ⟨hmPω, hfPω⟩ := qz3ω
  obtain ⟨κ1ω, π1ω, hmHω, hr1ω, hw1ω⟩ := hmPω.H
  refine z_aload_n okω dX6_unload_11 rfl ?_
  refine z_aload_n okω dX6_unload_12 rfl ?_
  refine z_getf okω dX6_unload_13 zin_X6 rfl 0 (by decide) zw_274 hmPω.F rfl ?_
  refine z_iload_n okω dX6_unload_16 rfl ?_
  refine z_callVi okω dX6_unload_17 zm_X1_takeOut zw_481 zi_X1_takeOut hmHω.1 rfl (ct_X1_takeOut hmHω hr1ω (fun i9ω hi9ω h9ω => by obtain ⟨u9ω, hu9ω, h7ω, _⟩ := hw1ω.ld i9ω hi9ω (Or.inl h9ω); exact ⟨u9ω, hu9ω, h7ω⟩)) rfl rfl (by decide) (by decide) (by decide) (Nat.le_of_ble_eq_true rfl) (fun xz4ω Mz5ω qz6ω => ?_)
  have hkpω := qz6ω
  have hokω : zOKr (spUnload s c1) := ok_unload hw1ω
  rcases hr9 : (spUnload s c1) with e9ω | q9ω
  · rw [hr9] at hkpω hokω
    obtain ⟨hx9ω, hM9ω⟩ := hkpω
    obtain rfl := hM9ω.symm
    subst hx9ω
    refine z_callVi okω dX6_unload_20 zm_X6_changed zw_375 zi_X6_changed hmPω.F rfl (ct_X6_changedN hokω) rfl rfl (by decide) (by decide) (by decide) (Nat.le_of_ble_eq_true rfl) (fun xz7ω Mz8ω qz9ω => ?_)
    obtain ⟨hxeω, hMeω⟩ := qz9ω
    obtain rfl := hMeω.symm
    rw [hxeω]
    exact z_iret okω dX6_unload_23 rfl rfl rfl (Nat.zero_le _) ⟨hfPω, by exact ⟨rfl, n, nv, no, o, fp, fr, vb, nxz, nums, hmPω.back⟩⟩
  · rw [hr9] at hkpω hokω
    obtain ⟨hx9ω, ⟨κ9ω, π9ω, n9ω, nv9ω, no9ω, hm9ω, hrb9ω⟩, hf9ω⟩ := hkpω
    subst hx9ω
    obtain ⟨hx0ω, nw9ω, nvw9ω, now9ω, hw9ω⟩ := hokω
    have hR9ω := hmPω.hall hf9ω ⟨κ9ω, π9ω, hm9ω, hrb9ω, hw9ω.same hrb9ω.1⟩
    refine z_callVi okω dX6_unload_20 zm_X6_changed zw_375 zi_X6_changed hR9ω.F rfl (ct_X6_changedP hR9ω hx0ω) rfl rfl (by decide) (by decide) (by decide) (Nat.le_of_ble_eq_true rfl) (fun xz10ω Mz11ω qz12ω => ?_)
    obtain ⟨hxeω, hRCω, hfCω⟩ := qz12ω
    rw [hxeω]
    exact z_iret okω dX6_unload_23 rfl rfl rfl (Nat.zero_le _) ⟨(hfPω.tr (hf9ω.sub (by omega) (by omega))).tr hfCω, by exact ⟨rfl, hRCω.past hm.B.1⟩⟩

set_option maxRecDepth 20000 in
set_option maxHeartbeats 4000000 in
theorem ct_X6_depart {K : zK} {M : mM} {nx : Nat} {c : Nat} {s : Nat → Int32} {n nv no : Nat} {past : Nat → Int32} {p o : Nat} {fp fr : Int32} {ty : Nat} {tx : Nat → Int32} {vb nxz : Int32} {nums : Nat → Int32} (hm : cR M c s n nv no (fun j q => past (287 * j + q)) p p o fp fr ty tx vb nxz nums) {v1 : Int32} : zCt K yX6_depart cX6_depart 2 zr_X6_depart 4 [.ref c, .int v1] M nx 0 0 (zI (cPost M c s past p ty tx (spDepart s n v1))) := by
  refine z_enter [some (.ref c), some (.int v1)] (by decide +kernel) (Nat.le_of_ble_eq_true rfl) rfl (fun Bω okω hzω => ?_)
  refine z_aload_n okω dX6_depart_0 rfl ?_
  refine z_getf okω dX6_depart_1 zin_X6 rfl 2 (by decide) zw_276 hm.F rfl ?_
  refine z_aload_n okω dX6_depart_4 rfl ?_
  refine z_getf okω dX6_depart_5 zin_X6 rfl 0 (by decide) zw_274 hm.F rfl ?_
  refine z_callVv okω dX6_depart_8 zm_X2_prepare zw_339 zi_X2_prepare hm.Y rfl (ct_X2_prepare hm) rfl rfl (by decide) (by decide) (by decide) (Nat.le_of_ble_eq_true rfl) (fun Mz2ω qz3ω => ?_)
  obtain ⟨hmPω, hfPω⟩ := qz3ω
  obtain ⟨κ1ω, π1ω, hmHω, hr1ω, hw1ω⟩ := hmPω.H
  refine z_aload_n okω dX6_depart_11 rfl ?_
  refine z_aload_n okω dX6_depart_12 rfl ?_
  refine z_getf okω dX6_depart_13 zin_X6 rfl 0 (by decide) zw_274 hmPω.F rfl ?_
  refine z_iload_n okω dX6_depart_16 rfl ?_
  refine z_callVi okω dX6_depart_17 zm_X1_sendOff zw_514 zi_X1_sendOff hmHω.1 rfl (ct_X1_sendOff hmHω hr1ω hw1ω.sm hw1ω.P1 (fun u9ω hu9ω => (hw1ω.v u9ω hu9ω).2.2.1.1)) rfl rfl (by decide) (by decide) (by decide) (Nat.le_of_ble_eq_true rfl) (fun xz4ω Mz5ω qz6ω => ?_)
  have hkpω := qz6ω
  have hokω : zOKr (spDepart s n v1) := ok_depart hw1ω
  rcases hr9 : (spDepart s n v1) with e9ω | q9ω
  · rw [hr9] at hkpω hokω
    obtain ⟨hx9ω, hM9ω⟩ := hkpω
    obtain rfl := hM9ω.symm
    subst hx9ω
    refine z_callVi okω dX6_depart_20 zm_X6_changed zw_375 zi_X6_changed hmPω.F rfl (ct_X6_changedN hokω) rfl rfl (by decide) (by decide) (by decide) (Nat.le_of_ble_eq_true rfl) (fun xz7ω Mz8ω qz9ω => ?_)
    obtain ⟨hxeω, hMeω⟩ := qz9ω
    obtain rfl := hMeω.symm
    rw [hxeω]
    exact z_iret okω dX6_depart_23 rfl rfl rfl (Nat.zero_le _) ⟨hfPω, by exact ⟨rfl, n, nv, no, o, fp, fr, vb, nxz, nums, hmPω.back⟩⟩
  · rw [hr9] at hkpω hokω
    obtain ⟨hx9ω, ⟨κ9ω, π9ω, n9ω, nv9ω, no9ω, hm9ω, hrb9ω⟩, hf9ω⟩ := hkpω
    subst hx9ω
    obtain ⟨hx0ω, nw9ω, nvw9ω, now9ω, hw9ω⟩ := hokω
    have hR9ω := hmPω.hall hf9ω ⟨κ9ω, π9ω, hm9ω, hrb9ω, hw9ω.same hrb9ω.1⟩
    refine z_callVi okω dX6_depart_20 zm_X6_changed zw_375 zi_X6_changed hR9ω.F rfl (ct_X6_changedP hR9ω hx0ω) rfl rfl (by decide) (by decide) (by decide) (Nat.le_of_ble_eq_true rfl) (fun xz10ω Mz11ω qz12ω => ?_)
    obtain ⟨hxeω, hRCω, hfCω⟩ := qz12ω
    rw [hxeω]
    exact z_iret okω dX6_depart_23 rfl rfl rfl (Nat.zero_le _) ⟨(hfPω.tr (hf9ω.sub (by omega) (by omega))).tr hfCω, by exact ⟨rfl, hRCω.past hm.B.1⟩⟩

set_option maxRecDepth 20000 in
set_option maxHeartbeats 4000000 in
theorem ct_X6_offer {K : zK} {M : mM} {nx : Nat} {c : Nat} {s : Nat → Int32} {n nv no : Nat} {past : Nat → Int32} {p o : Nat} {fp fr : Int32} {ty : Nat} {tx : Nat → Int32} {vb nxz : Int32} {nums : Nat → Int32} (hm : cR M c s n nv no (fun j q => past (287 * j + q)) p p o fp fr ty tx vb nxz nums) {p1 b1 w1 r1 h1 : Int32} : zCt K yX6_offer cX6_offer 6 zr_X6_offer 4 [.ref c, .int p1, .int b1, .int w1, .int r1, .int h1] M nx 0 0 (zI (cPost M c s past p ty tx (spOffer s no p1 b1 w1 r1 h1))) := by
  refine z_enter [some (.ref c), some (.int p1), some (.int b1), some (.int w1), some (.int r1), some (.int h1)] (by decide +kernel) (Nat.le_of_ble_eq_true rfl) rfl (fun Bω okω hzω => ?_)
  refine z_aload_n okω dX6_offer_0 rfl ?_
  refine z_getf okω dX6_offer_1 zin_X6 rfl 2 (by decide) zw_276 hm.F rfl ?_
  refine z_aload_n okω dX6_offer_4 rfl ?_
  refine z_getf okω dX6_offer_5 zin_X6 rfl 0 (by decide) zw_274 hm.F rfl ?_
  refine z_callVv okω dX6_offer_8 zm_X2_prepare zw_339 zi_X2_prepare hm.Y rfl (ct_X2_prepare hm) rfl rfl (by decide) (by decide) (by decide) (Nat.le_of_ble_eq_true rfl) (fun Mz2ω qz3ω => ?_)
  obtain ⟨hmPω, hfPω⟩ := qz3ω
  obtain ⟨κ1ω, π1ω, hmHω, hr1ω, hw1ω⟩ := hmPω.H
  refine z_aload_n okω dX6_offer_11 rfl ?_
  refine z_aload_n okω dX6_offer_12 rfl ?_
  refine z_getf okω dX6_offer_13 zin_X6 rfl 0 (by decide) zw_274 hmPω.F rfl ?_
  refine z_iload_n okω dX6_offer_16 rfl ?_
  refine z_iload_n okω dX6_offer_17 rfl ?_
  refine z_iload_n okω dX6_offer_18 rfl ?_
  refine z_iload okω dX6_offer_19 rfl ?_
  refine z_iload okω dX6_offer_21 rfl ?_
  refine z_callVi okω dX6_offer_23 zm_X1_makeOffer zw_522 zi_X1_makeOffer hmHω.1 rfl (ct_X1_makeOffer hmHω hr1ω) rfl rfl (by decide) (by decide) (by decide) (Nat.le_of_ble_eq_true rfl) (fun xz4ω Mz5ω qz6ω => ?_)
  have hkpω := qz6ω
  have hokω : zOKr (spOffer s no p1 b1 w1 r1 h1) := ok_offer hw1ω
  rcases hr9 : (spOffer s no p1 b1 w1 r1 h1) with e9ω | q9ω
  · rw [hr9] at hkpω hokω
    obtain ⟨hx9ω, hM9ω⟩ := hkpω
    obtain rfl := hM9ω.symm
    subst hx9ω
    refine z_callVi okω dX6_offer_26 zm_X6_changed zw_375 zi_X6_changed hmPω.F rfl (ct_X6_changedN hokω) rfl rfl (by decide) (by decide) (by decide) (Nat.le_of_ble_eq_true rfl) (fun xz7ω Mz8ω qz9ω => ?_)
    obtain ⟨hxeω, hMeω⟩ := qz9ω
    obtain rfl := hMeω.symm
    rw [hxeω]
    exact z_iret okω dX6_offer_29 rfl rfl rfl (Nat.zero_le _) ⟨hfPω, by exact ⟨rfl, n, nv, no, o, fp, fr, vb, nxz, nums, hmPω.back⟩⟩
  · rw [hr9] at hkpω hokω
    obtain ⟨hx9ω, ⟨κ9ω, π9ω, n9ω, nv9ω, no9ω, hm9ω, hrb9ω⟩, hf9ω⟩ := hkpω
    subst hx9ω
    obtain ⟨hx0ω, nw9ω, nvw9ω, now9ω, hw9ω⟩ := hokω
    have hR9ω := hmPω.hall hf9ω ⟨κ9ω, π9ω, hm9ω, hrb9ω, hw9ω.same hrb9ω.1⟩
    refine z_callVi okω dX6_offer_26 zm_X6_changed zw_375 zi_X6_changed hR9ω.F rfl (ct_X6_changedP hR9ω hx0ω) rfl rfl (by decide) (by decide) (by decide) (Nat.le_of_ble_eq_true rfl) (fun xz10ω Mz11ω qz12ω => ?_)
    obtain ⟨hxeω, hRCω, hfCω⟩ := qz12ω
    rw [hxeω]
    exact z_iret okω dX6_offer_29 rfl rfl rfl (Nat.zero_le _) ⟨(hfPω.tr (hf9ω.sub (by omega) (by omega))).tr hfCω, by exact ⟨rfl, hRCω.past hm.B.1⟩⟩

set_option maxRecDepth 20000 in
set_option maxHeartbeats 4000000 in
theorem ct_X6_pass {K : zK} {M : mM} {nx : Nat} {c : Nat} {s : Nat → Int32} {n nv no : Nat} {past : Nat → Int32} {p o : Nat} {fp fr : Int32} {ty : Nat} {tx : Nat → Int32} {vb nxz : Int32} {nums : Nat → Int32} (hm : cR M c s n nv no (fun j q => past (287 * j + q)) p p o fp fr ty tx vb nxz nums) {h1 : Int32} : zCt K yX6_pass cX6_pass 2 zr_X6_pass 4 [.ref c, .int h1] M nx 0 0 (zI (cPost M c s past p ty tx (spPass s n nv h1))) := by
  refine z_enter [some (.ref c), some (.int h1)] (by decide +kernel) (Nat.le_of_ble_eq_true rfl) rfl (fun Bω okω hzω => ?_)
  refine z_aload_n okω dX6_pass_0 rfl ?_
  refine z_getf okω dX6_pass_1 zin_X6 rfl 2 (by decide) zw_276 hm.F rfl ?_
  refine z_aload_n okω dX6_pass_4 rfl ?_
  refine z_getf okω dX6_pass_5 zin_X6 rfl 0 (by decide) zw_274 hm.F rfl ?_
  refine z_callVv okω dX6_pass_8 zm_X2_prepare zw_339 zi_X2_prepare hm.Y rfl (ct_X2_prepare hm) rfl rfl (by decide) (by decide) (by decide) (Nat.le_of_ble_eq_true rfl) (fun Mz2ω qz3ω => ?_)
  obtain ⟨hmPω, hfPω⟩ := qz3ω
  obtain ⟨κ1ω, π1ω, hmHω, hr1ω, hw1ω⟩ := hmPω.H
  refine z_aload_n okω dX6_pass_11 rfl ?_
  refine z_aload_n okω dX6_pass_12 rfl ?_
  refine z_getf okω dX6_pass_13 zin_X6 rfl 0 (by decide) zw_274 hmPω.F rfl ?_
  refine z_iload_n okω dX6_pass_16 rfl ?_
  refine z_callVi okω dX6_pass_17 zm_X1_letPass zw_539 zi_X1_letPass hmHω.1 rfl (ct_X1_letPass hmHω hr1ω hw1ω) rfl rfl (by decide) (by decide) (by decide) (Nat.le_of_ble_eq_true rfl) (fun xz4ω Mz5ω qz6ω => ?_)
  have hkpω := qz6ω
  have hokω : zOKr (spPass s n nv h1) := ok_pass hw1ω
  rcases hr9 : (spPass s n nv h1) with e9ω | q9ω
  · rw [hr9] at hkpω hokω
    obtain ⟨hx9ω, hM9ω⟩ := hkpω
    obtain rfl := hM9ω.symm
    subst hx9ω
    refine z_callVi okω dX6_pass_20 zm_X6_changed zw_375 zi_X6_changed hmPω.F rfl (ct_X6_changedN hokω) rfl rfl (by decide) (by decide) (by decide) (Nat.le_of_ble_eq_true rfl) (fun xz7ω Mz8ω qz9ω => ?_)
    obtain ⟨hxeω, hMeω⟩ := qz9ω
    obtain rfl := hMeω.symm
    rw [hxeω]
    exact z_iret okω dX6_pass_23 rfl rfl rfl (Nat.zero_le _) ⟨hfPω, by exact ⟨rfl, n, nv, no, o, fp, fr, vb, nxz, nums, hmPω.back⟩⟩
  · rw [hr9] at hkpω hokω
    obtain ⟨hx9ω, ⟨κ9ω, π9ω, n9ω, nv9ω, no9ω, hm9ω, hrb9ω⟩, hf9ω⟩ := hkpω
    subst hx9ω
    obtain ⟨hx0ω, nw9ω, nvw9ω, now9ω, hw9ω⟩ := hokω
    have hR9ω := hmPω.hall hf9ω ⟨κ9ω, π9ω, hm9ω, hrb9ω, hw9ω.same hrb9ω.1⟩
    refine z_callVi okω dX6_pass_20 zm_X6_changed zw_375 zi_X6_changed hR9ω.F rfl (ct_X6_changedP hR9ω hx0ω) rfl rfl (by decide) (by decide) (by decide) (Nat.le_of_ble_eq_true rfl) (fun xz10ω Mz11ω qz12ω => ?_)
    obtain ⟨hxeω, hRCω, hfCω⟩ := qz12ω
    rw [hxeω]
    exact z_iret okω dX6_pass_23 rfl rfl rfl (Nat.zero_le _) ⟨(hfPω.tr (hf9ω.sub (by omega) (by omega))).tr hfCω, by exact ⟨rfl, hRCω.past hm.B.1⟩⟩

set_option maxRecDepth 20000 in
set_option maxHeartbeats 4000000 in
theorem ct_X6_set {K : zK} {M : mM} {nx : Nat} {c : Nat} {s : Nat → Int32} {n nv no : Nat} {past : Nat → Int32} {p o : Nat} {fp fr : Int32} {ty : Nat} {tx : Nat → Int32} {vb nxz : Int32} {nums : Nat → Int32} (hm : cR M c s n nv no (fun j q => past (287 * j + q)) p p o fp fr ty tx vb nxz nums) {w1 x1 : Int32} : zCt K yX6_set cX6_set 3 zr_X6_set 4 [.ref c, .int w1, .int x1] M nx 0 0 (zI (cPost M c s past p ty tx (spSet s w1 x1))) := by
  refine z_enter [some (.ref c), some (.int w1), some (.int x1)] (by decide +kernel) (Nat.le_of_ble_eq_true rfl) rfl (fun Bω okω hzω => ?_)
  refine z_aload_n okω dX6_set_0 rfl ?_
  refine z_getf okω dX6_set_1 zin_X6 rfl 2 (by decide) zw_276 hm.F rfl ?_
  refine z_aload_n okω dX6_set_4 rfl ?_
  refine z_getf okω dX6_set_5 zin_X6 rfl 0 (by decide) zw_274 hm.F rfl ?_
  refine z_callVv okω dX6_set_8 zm_X2_prepare zw_339 zi_X2_prepare hm.Y rfl (ct_X2_prepare hm) rfl rfl (by decide) (by decide) (by decide) (Nat.le_of_ble_eq_true rfl) (fun Mz2ω qz3ω => ?_)
  obtain ⟨hmPω, hfPω⟩ := qz3ω
  obtain ⟨κ1ω, π1ω, hmHω, hr1ω, hw1ω⟩ := hmPω.H
  refine z_aload_n okω dX6_set_11 rfl ?_
  refine z_aload_n okω dX6_set_12 rfl ?_
  refine z_getf okω dX6_set_13 zin_X6 rfl 0 (by decide) zw_274 hmPω.F rfl ?_
  refine z_iload_n okω dX6_set_16 rfl ?_
  refine z_iload_n okω dX6_set_17 rfl ?_
  refine z_callVi okω dX6_set_18 zm_X1_changeSetting zw_579 zi_X1_changeSetting hmHω.1 rfl (ct_X1_changeSetting hmHω hr1ω) rfl rfl (by decide) (by decide) (by decide) (Nat.le_of_ble_eq_true rfl) (fun xz4ω Mz5ω qz6ω => ?_)
  have hkpω := qz6ω
  have hokω : zOKr (spSet s w1 x1) := ok_set hw1ω
  rcases hr9 : (spSet s w1 x1) with e9ω | q9ω
  · rw [hr9] at hkpω hokω
    obtain ⟨hx9ω, hM9ω⟩ := hkpω
    obtain rfl := hM9ω.symm
    subst hx9ω
    refine z_callVi okω dX6_set_21 zm_X6_changed zw_375 zi_X6_changed hmPω.F rfl (ct_X6_changedN hokω) rfl rfl (by decide) (by decide) (by decide) (Nat.le_of_ble_eq_true rfl) (fun xz7ω Mz8ω qz9ω => ?_)
    obtain ⟨hxeω, hMeω⟩ := qz9ω
    obtain rfl := hMeω.symm
    rw [hxeω]
    exact z_iret okω dX6_set_24 rfl rfl rfl (Nat.zero_le _) ⟨hfPω, by exact ⟨rfl, n, nv, no, o, fp, fr, vb, nxz, nums, hmPω.back⟩⟩
  · rw [hr9] at hkpω hokω
    obtain ⟨hx9ω, ⟨κ9ω, π9ω, n9ω, nv9ω, no9ω, hm9ω, hrb9ω⟩, hf9ω⟩ := hkpω
    subst hx9ω
    obtain ⟨hx0ω, nw9ω, nvw9ω, now9ω, hw9ω⟩ := hokω
    have hR9ω := hmPω.hall hf9ω ⟨κ9ω, π9ω, hm9ω, hrb9ω, hw9ω.same hrb9ω.1⟩
    refine z_callVi okω dX6_set_21 zm_X6_changed zw_375 zi_X6_changed hR9ω.F rfl (ct_X6_changedP hR9ω hx0ω) rfl rfl (by decide) (by decide) (by decide) (Nat.le_of_ble_eq_true rfl) (fun xz10ω Mz11ω qz12ω => ?_)
    obtain ⟨hxeω, hRCω, hfCω⟩ := qz12ω
    rw [hxeω]
    exact z_iret okω dX6_set_24 rfl rfl rfl (Nat.zero_le _) ⟨(hfPω.tr (hf9ω.sub (by omega) (by omega))).tr hfCω, by exact ⟨rfl, hRCω.past hm.B.1⟩⟩

set_option maxRecDepth 20000 in
set_option maxHeartbeats 4000000 in
theorem ct_X6_consign {K : zK} {M : mM} {nx : Nat} {c : Nat} {s : Nat → Int32} {n nv no : Nat} {past : Nat → Int32} {p o : Nat} {fp fr : Int32} {ty : Nat} {tx : Nat → Int32} {vb nxz : Int32} {nums : Nat → Int32} (hm : cR M c s n nv no (fun j q => past (287 * j + q)) p p o fp fr ty tx vb nxz nums) {p1 b1 w1 f1 t1 o1 : Int32} : zCt K yX6_consign cX6_consign 7 zr_X6_consign 4 [.ref c, .int p1, .int b1, .int w1, .int f1, .int t1, .int o1] M nx 0 0 (zI (cPost M c s past p ty tx (spConsign s n p1 b1 w1 f1 t1 o1))) := by
  refine z_enter [some (.ref c), some (.int p1), some (.int b1), some (.int w1), some (.int f1), some (.int t1), some (.int o1)] (by decide +kernel) (Nat.le_of_ble_eq_true rfl) rfl (fun Bω okω hzω => ?_)
  refine z_iload_n okω dX6_consign_0 rfl ?_
  refine z_iconst (v := 1) okω dX6_consign_1 (by decide) ?_
  refine z_iconst (v := 4) okω dX6_consign_2 (by decide) ?_
  refine z_callSi okω dX6_consign_3 zm_X6_isWithin zw_295 zw_296 (ct_X6_isWithin) rfl rfl (by decide) (by decide) (by decide) (Nat.le_of_ble_eq_true rfl) (fun xz1ω Mz2ω qz3ω => ?_)
  obtain ⟨rfl, hMeω⟩ := qz3ω
  obtain rfl := hMeω.symm
  refine z_if_eq (tgt := 66) okω dX6_consign_6 (by decide) (fun cz6ω => ?_) (fun cz6ω => ?_)
  · have hb6ω := b2_0.mp cz6ω
    refine z_ldc okω dX6_consign_66 zw_298 ?_
    exact z_iret okω dX6_consign_68 rfl rfl rfl (Nat.zero_le _) ⟨zFr.rf, by unfold spConsign; (first | rw [if_neg (fun z9ω => hb6ω z9ω.1)] | rw [if_neg (fun z9ω => hb16ω z9ω.2.1)] | rw [if_neg (fun z9ω => hb26ω z9ω.2.2.1)] | rw [if_neg (fun z9ω => hb38ω z9ω.2.2.2.1)] | rw [if_neg (fun z9ω => hb51ω z9ω.2.2.2.2.1)] | rw [if_neg (fun z9ω => hb63ω z9ω.2.2.2.2.2)]); exact ⟨rfl, n, nv, no, o, fp, fr, vb, nxz, nums, hm⟩⟩
  · have hb6ω := Decidable.not_not.mp (mt b2_0.mpr cz6ω)
    refine z_iload_n okω dX6_consign_9 rfl ?_
    refine z_iconst (v := 1) okω dX6_consign_10 (by decide) ?_
    refine z_bipush (v := 99) okω dX6_consign_11 (by decide) ?_
    refine z_callSi okω dX6_consign_13 zm_X6_isWithin zw_295 zw_296 (ct_X6_isWithin) rfl rfl (by decide) (by decide) (by decide) (Nat.le_of_ble_eq_true rfl) (fun xz4ω Mz5ω qz6ω => ?_)
    obtain ⟨rfl, hMeω⟩ := qz6ω
    obtain rfl := hMeω.symm
    refine z_if_eq (tgt := 66) okω dX6_consign_16 (by decide) (fun cz16ω => ?_) (fun cz16ω => ?_)
    · have hb16ω := b2_0.mp cz16ω
      refine z_ldc okω dX6_consign_66 zw_298 ?_
      exact z_iret okω dX6_consign_68 rfl rfl rfl (Nat.zero_le _) ⟨zFr.rf, by unfold spConsign; (first | rw [if_neg (fun z9ω => hb6ω z9ω.1)] | rw [if_neg (fun z9ω => hb16ω z9ω.2.1)] | rw [if_neg (fun z9ω => hb26ω z9ω.2.2.1)] | rw [if_neg (fun z9ω => hb38ω z9ω.2.2.2.1)] | rw [if_neg (fun z9ω => hb51ω z9ω.2.2.2.2.1)] | rw [if_neg (fun z9ω => hb63ω z9ω.2.2.2.2.2)]); exact ⟨rfl, n, nv, no, o, fp, fr, vb, nxz, nums, hm⟩⟩
    · have hb16ω := Decidable.not_not.mp (mt b2_0.mpr cz16ω)
      refine z_iload_n okω dX6_consign_19 rfl ?_
      refine z_iconst (v := 1) okω dX6_consign_20 (by decide) ?_
      refine z_bipush (v := 99) okω dX6_consign_21 (by decide) ?_
      refine z_callSi okω dX6_consign_23 zm_X6_isWithin zw_295 zw_296 (ct_X6_isWithin) rfl rfl (by decide) (by decide) (by decide) (Nat.le_of_ble_eq_true rfl) (fun xz7ω Mz8ω qz9ω => ?_)
      obtain ⟨rfl, hMeω⟩ := qz9ω
      obtain rfl := hMeω.symm
      refine z_if_eq (tgt := 66) okω dX6_consign_26 (by decide) (fun cz26ω => ?_) (fun cz26ω => ?_)
      · have hb26ω := b2_0.mp cz26ω
        refine z_ldc okω dX6_consign_66 zw_298 ?_
        exact z_iret okω dX6_consign_68 rfl rfl rfl (Nat.zero_le _) ⟨zFr.rf, by unfold spConsign; (first | rw [if_neg (fun z9ω => hb6ω z9ω.1)] | rw [if_neg (fun z9ω => hb16ω z9ω.2.1)] | rw [if_neg (fun z9ω => hb26ω z9ω.2.2.1)] | rw [if_neg (fun z9ω => hb38ω z9ω.2.2.2.1)] | rw [if_neg (fun z9ω => hb51ω z9ω.2.2.2.2.1)] | rw [if_neg (fun z9ω => hb63ω z9ω.2.2.2.2.2)]); exact ⟨rfl, n, nv, no, o, fp, fr, vb, nxz, nums, hm⟩⟩
      · have hb26ω := Decidable.not_not.mp (mt b2_0.mpr cz26ω)
        refine z_iload okω dX6_consign_29 rfl ?_
        refine z_iconst (v := 0) okω dX6_consign_31 (by decide) ?_
        refine z_sipush (v := 9999) okω dX6_consign_32 (by decide) ?_
        refine z_callSi okω dX6_consign_35 zm_X6_isWithin zw_295 zw_296 (ct_X6_isWithin) rfl rfl (by decide) (by decide) (by decide) (Nat.le_of_ble_eq_true rfl) (fun xz10ω Mz11ω qz12ω => ?_)
        obtain ⟨rfl, hMeω⟩ := qz12ω
        obtain rfl := hMeω.symm
        refine z_if_eq (tgt := 66) okω dX6_consign_38 (by decide) (fun cz38ω => ?_) (fun cz38ω => ?_)
        · have hb38ω := b2_0.mp cz38ω
          refine z_ldc okω dX6_consign_66 zw_298 ?_
          exact z_iret okω dX6_consign_68 rfl rfl rfl (Nat.zero_le _) ⟨zFr.rf, by unfold spConsign; (first | rw [if_neg (fun z9ω => hb6ω z9ω.1)] | rw [if_neg (fun z9ω => hb16ω z9ω.2.1)] | rw [if_neg (fun z9ω => hb26ω z9ω.2.2.1)] | rw [if_neg (fun z9ω => hb38ω z9ω.2.2.2.1)] | rw [if_neg (fun z9ω => hb51ω z9ω.2.2.2.2.1)] | rw [if_neg (fun z9ω => hb63ω z9ω.2.2.2.2.2)]); exact ⟨rfl, n, nv, no, o, fp, fr, vb, nxz, nums, hm⟩⟩
        · have hb38ω := Decidable.not_not.mp (mt b2_0.mpr cz38ω)
          refine z_iload okω dX6_consign_41 rfl ?_
          refine z_iload okω dX6_consign_43 rfl ?_
          refine z_sipush (v := 9999) okω dX6_consign_45 (by decide) ?_
          refine z_callSi okω dX6_consign_48 zm_X6_isWithin zw_295 zw_296 (ct_X6_isWithin) rfl rfl (by decide) (by decide) (by decide) (Nat.le_of_ble_eq_true rfl) (fun xz13ω Mz14ω qz15ω => ?_)
          obtain ⟨rfl, hMeω⟩ := qz15ω
          obtain rfl := hMeω.symm
          refine z_if_eq (tgt := 66) okω dX6_consign_51 (by decide) (fun cz51ω => ?_) (fun cz51ω => ?_)
          · have hb51ω := b2_0.mp cz51ω
            refine z_ldc okω dX6_consign_66 zw_298 ?_
            exact z_iret okω dX6_consign_68 rfl rfl rfl (Nat.zero_le _) ⟨zFr.rf, by unfold spConsign; (first | rw [if_neg (fun z9ω => hb6ω z9ω.1)] | rw [if_neg (fun z9ω => hb16ω z9ω.2.1)] | rw [if_neg (fun z9ω => hb26ω z9ω.2.2.1)] | rw [if_neg (fun z9ω => hb38ω z9ω.2.2.2.1)] | rw [if_neg (fun z9ω => hb51ω z9ω.2.2.2.2.1)] | rw [if_neg (fun z9ω => hb63ω z9ω.2.2.2.2.2)]); exact ⟨rfl, n, nv, no, o, fp, fr, vb, nxz, nums, hm⟩⟩
          · have hb51ω := Decidable.not_not.mp (mt b2_0.mpr cz51ω)
            refine z_iload okω dX6_consign_54 rfl ?_
            refine z_iconst (v := 0) okω dX6_consign_56 (by decide) ?_
            refine z_sipush (v := 999) okω dX6_consign_57 (by decide) ?_
            refine z_callSi okω dX6_consign_60 zm_X6_isWithin zw_295 zw_296 (ct_X6_isWithin) rfl rfl (by decide) (by decide) (by decide) (Nat.le_of_ble_eq_true rfl) (fun xz16ω Mz17ω qz18ω => ?_)
            obtain ⟨rfl, hMeω⟩ := qz18ω
            obtain rfl := hMeω.symm
            refine z_if_ne (tgt := 69) okω dX6_consign_63 (by decide) (fun cz63ω => ?_) (fun cz63ω => ?_)
            · have hb63ω := Decidable.not_not.mp (mt b2_0.mpr cz63ω)
              refine z_aload_n okω dX6_consign_69 rfl ?_
              refine z_getf okω dX6_consign_70 zin_X6 rfl 2 (by decide) zw_276 hm.F rfl ?_
              refine z_aload_n okω dX6_consign_73 rfl ?_
              refine z_getf okω dX6_consign_74 zin_X6 rfl 0 (by decide) zw_274 hm.F rfl ?_
              refine z_callVv okω dX6_consign_77 zm_X2_prepare zw_339 zi_X2_prepare hm.Y rfl (ct_X2_prepare hm) rfl rfl (by decide) (by decide) (by decide) (Nat.le_of_ble_eq_true rfl) (fun Mz20ω qz21ω => ?_)
              obtain ⟨hmPω, hfPω⟩ := qz21ω
              obtain ⟨κ1ω, π1ω, hmHω, hr1ω, hw1ω⟩ := hmPω.H
              refine z_aload_n okω dX6_consign_80 rfl ?_
              refine z_aload_n okω dX6_consign_81 rfl ?_
              refine z_getf okω dX6_consign_82 zin_X6 rfl 0 (by decide) zw_274 hmPω.F rfl ?_
              refine z_iload_n okω dX6_consign_85 rfl ?_
              refine z_iload_n okω dX6_consign_86 rfl ?_
              refine z_iload_n okω dX6_consign_87 rfl ?_
              refine z_iload okω dX6_consign_88 rfl ?_
              refine z_iload okω dX6_consign_90 rfl ?_
              refine z_iload okω dX6_consign_92 rfl ?_
              refine z_callVi okω dX6_consign_94 zm_X1_makeConsignment zw_366 zi_X1_makeConsignment hmHω.1 rfl (ct_X1_makeConsignment hmHω hr1ω) rfl rfl (by decide) (by decide) (by decide) (Nat.le_of_ble_eq_true rfl) (fun xz22ω Mz23ω qz24ω => ?_)
              have hkpω := qz24ω
              have hokω : zOKr (spMake s n p1 b1 w1 f1 t1 o1) := (by have h9ω := ok_consign (p := p1) (b := b1) (w := w1) (f := f1) (t := t1) (wo := o1) hw1ω; unfold spConsign at h9ω; rw [if_pos ⟨hb6ω, hb16ω, hb26ω, hb38ω, hb51ω, hb63ω⟩] at h9ω; exact h9ω)
              rcases hr9 : (spMake s n p1 b1 w1 f1 t1 o1) with e9ω | q9ω
              · rw [hr9] at hkpω hokω
                obtain ⟨hx9ω, hM9ω⟩ := hkpω
                obtain rfl := hM9ω.symm
                subst hx9ω
                refine z_callVi okω dX6_consign_97 zm_X6_changed zw_375 zi_X6_changed hmPω.F rfl (ct_X6_changedN hokω) rfl rfl (by decide) (by decide) (by decide) (Nat.le_of_ble_eq_true rfl) (fun xz25ω Mz26ω qz27ω => ?_)
                obtain ⟨hxeω, hMeω⟩ := qz27ω
                obtain rfl := hMeω.symm
                rw [hxeω]
                exact z_iret okω dX6_consign_100 rfl rfl rfl (Nat.zero_le _) ⟨hfPω, by rw [show spConsign s n p1 b1 w1 f1 t1 o1 = spMake s n p1 b1 w1 f1 t1 o1 from if_pos ⟨hb6ω, hb16ω, hb26ω, hb38ω, hb51ω, hb63ω⟩, hr9]; exact ⟨rfl, n, nv, no, o, fp, fr, vb, nxz, nums, hmPω.back⟩⟩
              · rw [hr9] at hkpω hokω
                obtain ⟨hx9ω, ⟨κ9ω, π9ω, n9ω, nv9ω, no9ω, hm9ω, hrb9ω⟩, hf9ω⟩ := hkpω
                subst hx9ω
                obtain ⟨hx0ω, nw9ω, nvw9ω, now9ω, hw9ω⟩ := hokω
                have hR9ω := hmPω.hall hf9ω ⟨κ9ω, π9ω, hm9ω, hrb9ω, hw9ω.same hrb9ω.1⟩
                refine z_callVi okω dX6_consign_97 zm_X6_changed zw_375 zi_X6_changed hR9ω.F rfl (ct_X6_changedP hR9ω hx0ω) rfl rfl (by decide) (by decide) (by decide) (Nat.le_of_ble_eq_true rfl) (fun xz28ω Mz29ω qz30ω => ?_)
                obtain ⟨hxeω, hRCω, hfCω⟩ := qz30ω
                rw [hxeω]
                exact z_iret okω dX6_consign_100 rfl rfl rfl (Nat.zero_le _) ⟨(hfPω.tr (hf9ω.sub (by omega) (by omega))).tr hfCω, by rw [show spConsign s n p1 b1 w1 f1 t1 o1 = spMake s n p1 b1 w1 f1 t1 o1 from if_pos ⟨hb6ω, hb16ω, hb26ω, hb38ω, hb51ω, hb63ω⟩, hr9]; exact ⟨rfl, hRCω.past hm.B.1⟩⟩
            · have hb63ω := b2_0.mp cz63ω
              refine z_ldc okω dX6_consign_66 zw_298 ?_
              exact z_iret okω dX6_consign_68 rfl rfl rfl (Nat.zero_le _) ⟨zFr.rf, by unfold spConsign; (first | rw [if_neg (fun z9ω => hb6ω z9ω.1)] | rw [if_neg (fun z9ω => hb16ω z9ω.2.1)] | rw [if_neg (fun z9ω => hb26ω z9ω.2.2.1)] | rw [if_neg (fun z9ω => hb38ω z9ω.2.2.2.1)] | rw [if_neg (fun z9ω => hb51ω z9ω.2.2.2.2.1)] | rw [if_neg (fun z9ω => hb63ω z9ω.2.2.2.2.2)]); exact ⟨rfl, n, nv, no, o, fp, fr, vb, nxz, nums, hm⟩⟩


