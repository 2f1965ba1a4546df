theorem fillS_nat {s : Nat → Int32} {n nv no : Nat} {v p r : Int32} {q : (Nat → Int32) × Int32} (h : zWF s n nv no) (hq : spFillS s n v p r = .inr q) : ∃ m, m < 65536 ∧ q.2 = nI m := by
  unfold spFillS at hq
  have hnvω := h.N.2.2.2.1
  by_cases hc : zVeh s v ∧ zW 1 4 p ∧ zW 0 2 r
  · rw [if_pos hc] at hq
    obtain ⟨uzω, huzω, huvω⟩ := zVeh_nat h.N hc.1.1 hc.1.2
    have huω : tN v = uzω := by rw [huvω]; exact tN_nI (by omega)
    rw [huω] at hq
    by_cases h0 : 0 < vd s uzω 2
    · rw [if_pos h0] at hq
      cases hq
    · rw [if_neg h0] at hq
      cases hq
      exact nI_of16 (zFill_WF (p := p) (r := r) huzω n s 0 0 h (fun iω _ => b_0 iω)).2
  · rw [if_neg hc] at hq
    cases hq
theorem ct_bitCount2 {K : zK} {M : mM} {nx m : Nat} {x : Int32} (hx : x = nI m) (hm : m < 65536) : zCt K yJ6_bitCount_0f7a4 cJ6_bitCount_0f7a4 1 zr_J6_bitCount_0f7a4 0 [.int x] M nx 0 0 (zI (fun y M' => y = zBits x 16 ∧ M' = M)) := by
  rw [hx]
  exact ct_J6_bitCount_0f7a4 hm
set_option maxRecDepth 20000 in
set_option maxHeartbeats 4000000 in
theorem ct_X6_fill {K : zK} {M : mM} {nx : Nat} {c : Nat} {s : Nat → Int32} {n nv no : Nat} {past : Nat → Int32} {p o : Nat} {fp fr : Int32} {ty : Nat} {tx : Nat → Int32} {vb nxz : Int32} {nums : Nat → Int32} (hm : cR M c s n nv no (fun j q => past (287 * j + q)) p p o fp fr ty tx vb nxz nums) {v1 p1 r1 : Int32} : zCt K yX6_fill cX6_fill 5 zr_X6_fill 4 [.ref c, .int v1, .int p1, .int r1] M nx 0 0 (zI (cPost M c s past p ty tx (spFill s n v1 p1 r1))) := by
  refine z_enter [some (.ref c), some (.int v1), some (.int p1), some (.int r1), none] (by decide +kernel) (Nat.le_of_ble_eq_true rfl) rfl (fun Bω okω hzω => ?_)
  refine z_aload_n okω dX6_fill_0 rfl ?_
  refine z_getf okω dX6_fill_1 zin_X6 rfl 2 (by decide) zw_276 hm.F rfl ?_
  refine z_aload_n okω dX6_fill_4 rfl ?_
  refine z_getf okω dX6_fill_5 zin_X6 rfl 0 (by decide) zw_274 hm.F rfl ?_
  refine z_callVv okω dX6_fill_8 zm_X2_prepare zw_339 zi_X2_prepare hm.Y rfl (ct_X2_prepare hm) rfl rfl (by decide) (by decide) (by decide) (Nat.le_of_ble_eq_true rfl) (fun Mz2ω qz3ω => ?_)
  obtain ⟨hmPω, hfPω⟩ := qz3ω
  obtain ⟨κ1ω, π1ω, hmHω, hr1ω, hw1ω⟩ := hmPω.H
  refine z_aload_n okω dX6_fill_11 rfl ?_
  refine z_aload_n okω dX6_fill_12 rfl ?_
  refine z_getf okω dX6_fill_13 zin_X6 rfl 0 (by decide) zw_274 hmPω.F rfl ?_
  refine z_iload_n okω dX6_fill_16 rfl ?_
  refine z_iload_n okω dX6_fill_17 rfl ?_
  refine z_iload_n okω dX6_fill_18 rfl ?_
  refine z_callVi okω dX6_fill_19 zm_X1_loadByRule zw_489 zi_X1_loadByRule hmHω.1 rfl (ct_X1_loadByRule hmHω hr1ω hw1ω) rfl rfl (by decide) (by decide) (by decide) (Nat.le_of_ble_eq_true rfl) (fun xz4ω Mz5ω qz6ω => ?_)
  have hkpω := qz6ω
  have hokω : zOKr (spFillS s n v1 p1 r1) := ok_fillS hw1ω
  rcases hr9 : (spFillS s n v1 p1 r1) with e9ω | q9ω
  · rw [hr9] at hkpω hokω
    obtain ⟨hx9ω, hM9ω⟩ := hkpω
    obtain rfl := hM9ω.symm
    subst hx9ω
    refine z_callVi okω dX6_fill_22 zm_X6_changed zw_375 zi_X6_changed hmPω.F rfl (ct_X6_changedN hokω) rfl rfl (by decide) (by decide) (by decide) (Nat.le_of_ble_eq_true rfl) (fun xz7ω Mz8ω qz9ω => ?_)
    obtain ⟨hxeω, hMeω⟩ := qz9ω
    obtain rfl := hMeω.symm
    rw [hxeω]
    refine z_istore okω dX6_fill_25 (by decide) rfl ?_
    refine z_iload okω dX6_fill_27 rfl ?_
    refine z_if_ge (tgt := 37) okω dX6_fill_29 (by decide) (fun q9ω => absurd q9ω (Int32.not_le.mpr hokω)) (fun _ => ?_)
    refine z_iload okω dX6_fill_32 rfl ?_
    refine z_goto (tgt := 42) okω dX6_fill_34 (by decide) ?_
    exact z_iret okω dX6_fill_42 rfl rfl rfl (Nat.zero_le _) ⟨hfPω, by rw [spFill_S, hr9]; exact ⟨rfl, n, nv, no, o, fp, fr, vb, nxz, nums, hmPω.back⟩⟩
  · rw [hr9] at hkpω hokω
    obtain ⟨hx9ω, ⟨κ9ω, π9ω, n9ω, nv9ω, no9ω, hm9ω, hrb9ω⟩, hf9ω⟩ := hkpω
    subst hx9ω
    obtain ⟨hx0ω, nw9ω, nvw9ω, now9ω, hw9ω⟩ := hokω
    have hR9ω := hmPω.hall hf9ω ⟨κ9ω, π9ω, hm9ω, hrb9ω, hw9ω.same hrb9ω.1⟩
    refine z_callVi okω dX6_fill_22 zm_X6_changed zw_375 zi_X6_changed hR9ω.F rfl (ct_X6_changedP hR9ω hx0ω) rfl rfl (by decide) (by decide) (by decide) (Nat.le_of_ble_eq_true rfl) (fun xz10ω Mz11ω qz12ω => ?_)
    obtain ⟨hxeω, hRCω, hfCω⟩ := qz12ω
    rw [hxeω]
    refine z_istore okω dX6_fill_25 (by decide) rfl ?_
    refine z_iload okω dX6_fill_27 rfl ?_
    refine z_if_ge (tgt := 37) okω dX6_fill_29 (by decide) (fun _ => ?_) (fun q9ω => absurd hx0ω q9ω)
    obtain ⟨mz9ω, hm16ω, hmeω⟩ := fillS_nat hw1ω hr9
    refine z_iload okω dX6_fill_37 rfl ?_
    refine z_callSi okω dX6_fill_39 zm_J6_bitCount_0f7a4 zw_501 zw_502 (ct_bitCount2 hmeω hm16ω) rfl rfl (by decide) (by decide) (by decide) (Nat.le_of_ble_eq_true rfl) (fun xz13ω Mz14ω qz15ω => ?_)
    obtain ⟨hbxω, hMeω⟩ := qz15ω
    obtain rfl := hMeω.symm
    rw [hbxω]
    exact z_iret okω dX6_fill_42 rfl rfl rfl (Nat.zero_le _) ⟨(hfPω.tr (hf9ω.sub (by omega) (by omega))).tr hfCω, by rw [spFill_S, hr9]; exact ⟨rfl, hRCω.past hm.B.1⟩⟩

