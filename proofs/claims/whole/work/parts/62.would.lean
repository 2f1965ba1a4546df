theorem hRel.same {κ : hK} {s : Nat → Int32} {n nv no n' nv' no' : Nat} (h : hRel κ s n' nv' no') (hN : zN s n nv no) : hRel κ s n nv no := by
  have hN2ω := h.1
  have e1ω : n' = n := (nI_eq (a := n') (b := n) (by have := hN2ω.2.1; omega) (by have := hN.2.1; omega)).mp (hN2ω.1.symm.trans hN.1)
  have e2ω : nv' = nv := (nI_eq (a := nv') (b := nv) (by have := hN2ω.2.2.2.1; omega) (by have := hN.2.2.2.1; omega)).mp (hN2ω.2.2.1.symm.trans hN.2.2.1)
  have e3ω : no' = no := (nI_eq (a := no') (b := no) (by have := hN2ω.2.2.2.2.2; omega) (by have := hN.2.2.2.2.2; omega)).mp (hN2ω.2.2.2.2.1.symm.trans hN.2.2.2.2.1)
  subst e1ω e2ω e3ω
  exact h
def cTell (M : mM) (c : Nat) (s past : Nat → Int32) (p ty : Nat) (tx : Nat → Int32) (r x : Int32) (M' : mM) : Prop := x = r ∧ cPic M' c s past p ty tx ∧ zFr M M' c 251
theorem zBest_cg {s s' : Nat → Int32} {p h r w : Int32} (he : ∀ q, 237 ≤ q → s' q = s q) : ∀ n, zBest s' p h r w n = zBest s p h r w n
  | 0 => rfl
  | nω + 1 => by
    have eoω : ∀ jω fω, od s' jω fω = od s jω fω := fun jω fω => he _ (by omega)
    rw [zBest, zBest, zBest_cg he nω]
    have eω : zOk1 s' p h r w nω ↔ zOk1 s p h r w nω := by
      unfold zOk1
      rw [eoω, eoω, eoω, eoω]
    cases zBest s p h r w nω with
    | none => simp only [eω]
    | some jω => simp only [eω, eoω]
theorem zDrop_cg {s s' : Nat → Int32} {no k : Nat} (he : ∀ q, 237 ≤ q → s' q = s q) : ∀ q, 237 ≤ q → zDrop s' no k q = zDrop s no k q := fun qω hqω => by
  unfold zDrop zDrI
  rw [he (qω + 5) (by omega), he qω hqω]
theorem zTake_cg {p h : Int32} : ∀ (no : Nat) (s s' : Nat → Int32) (r w t : Int32), (∀ q, 237 ≤ q → s' q = s q) → (zTake p h no s' r w t).2 = (zTake p h no s r w t).2
  | 0, _, _, _, _, _, _ => rfl
  | no + 1, s, s', r, w, t, heω => by
    have eoω : ∀ jω fω, od s' jω fω = od s jω fω := fun jω fω => heω _ (by omega)
    cases hb : zBest s p h r w (no + 1) with
    | none =>
      have hb2ω : zBest s' p h r w (no + 1) = none := (zBest_cg heω _).trans hb
      rw [zTake_none hb, zTake_none hb2ω]
    | some bω =>
      have hb2ω : zBest s' p h r w (no + 1) = some bω := (zBest_cg heω _).trans hb
      rw [zTake_some hb, zTake_some hb2ω, eoω, eoω, eoω]
      exact zTake_cg no _ _ _ _ _ (zDrop_cg heω)
theorem depart_inv {s : Nat → Int32} {n nv no : Nat} {v : Int32} {q : (Nat → Int32) × Int32} (h : zWF s n nv no) (hq : spDepart s n v = .inr q) : ∃ u, u < nv ∧ v = nI u ∧ zVeh s v ∧ vd s u 2 = 0 ∧ ¬ zLs s n v = 0 ∧ q.1 = zDe s n u n ∧ q.2 = s 5 + zGoal s n u * s 0 := by
  unfold spDepart at hq
  have hnω := h.N.2.1
  have hnvω := h.N.2.2.2.1
  by_cases hc : zVeh s v
  · rw [if_pos hc] at hq
    obtain ⟨uω, huω, hvω⟩ := zVeh_nat h.N hc.1 hc.2
    have htω : tN v = uω := by rw [hvω]; exact tN_nI (by omega)
    rw [htω] at hq
    by_cases h0 : 0 < vd s uω 2 ∨ zLs s n v = 0
    · rw [if_pos h0] at hq
      cases hq
    · rw [if_neg h0] at hq
      cases hq
      exact ⟨uω, huω, hvω, hc, Int32.le_antisymm (Int32.not_lt.mp (fun zω => h0 (Or.inl zω))) (h.v uω huω).2.2.1.1, fun zω => h0 (Or.inr zω), rfl, (zDe_v hnω).trans (zDe1_v.trans (if_pos rfl))⟩
  · rw [if_neg hc] at hq
    cases hq
theorem spWEarn_e {s : Nat → Int32} {n no : Nat} {v e : Int32} (h : spDepart s n v = .inl e) : spWEarn s n no v = e := by
  unfold spDepart at h
  unfold spWEarn
  by_cases hc : zVeh s v
  · rw [if_pos hc] at h ⊢
    by_cases h0 : 0 < vd s (tN v) 2 ∨ zLs s n v = 0
    · rw [if_pos h0] at h ⊢
      cases h
      rfl
    · rw [if_neg h0] at h
      cases h
  · rw [if_neg hc] at h ⊢
    cases h
    rfl
theorem spWEarn_q {s : Nat → Int32} {n no u : Nat} {v : Int32} (hu : u < 4) (hv : v = nI u) (hc : zVeh s v) (h0 : vd s u 2 = 0) (hl : ¬ zLs s n v = 0) : spWEarn s n no v = zEa s n no u := by
  unfold spWEarn
  have htω : tN v = u := by rw [hv]; exact tN_nI (by omega)
  rw [if_pos hc, htω, if_neg (fun zω => zω.elim (fun yω => by rw [h0] at yω; exact absurd yω (by decide)) hl)]
theorem zEs_del {s : Nat → Int32} {n u : Nat} {hour : Int32} (hn : n ≤ 16) : ∀ k, k ≤ n → zEs s n u hour k = ((zDel u (upd (zDe s n u n) 5 hour) k).1 9 - s 9) - ((zDel u (upd (zDe s n u n) 5 hour) k).1 12 - s 12)
  | 0, _ => by
    have e9ω : (zDel u (upd (zDe s n u n) 5 hour) 0).1 9 = s 9 := (show upd (zDe s n u n) 5 hour 9 = zDe s n u n 9 from upd_n _ _ (by decide)).trans ((zDe_hi (by omega) n hn).trans (zDe1_o (by omega)))
    have e12ω : (zDel u (upd (zDe s n u n) 5 hour) 0).1 12 = s 12 := (show upd (zDe s n u n) 5 hour 12 = zDe s n u n 12 from upd_n _ _ (by decide)).trans ((zDe_hi (by omega) n hn).trans (zDe1_o (by omega)))
    rw [e9ω, e12ω]
    show (0 : Int32) = _
    grind
  | kω + 1, hkω => by
    have ihω := zEs_del (s := s) (u := u) (hour := hour) hn kω (by omega)
    have aω := zDe_6 (s := s) (n := n) (v := u) (i := kω) (by omega) n hn
    have egω : ∀ fω, gd (zDel u (upd (zDe s n u n) 5 hour) kω).1 kω fω = gd (zDe s n u n) kω fω := fun fω => (zDel_o kω (by omega)).trans (upd_n _ _ (by omega))
    have e5ω : (zDel u (upd (zDe s n u n) 5 hour) kω).1 5 = hour := (zDel_o kω (by omega)).trans (upd_s _ _ _)
    have e2ω : (zDel u (upd (zDe s n u n) 5 hour) kω).1 2 = s 2 := (zDel_o kω (by omega)).trans ((upd_n _ _ (by decide)).trans ((zDe_hi (by omega) n hn).trans (zDe1_o (by omega))))
    have e3ω := aω.2 3 (by decide) (by decide) (by decide)
    have e4ω := aω.2 4 (by decide) (by decide) (by decide)
    have e55ω := aω.2 5 (by decide) (by decide) (by decide)
    have e7ω := aω.2 7 (by decide) (by decide) (by decide)
    have hiffω : zInV (zDel u (upd (zDe s n u n) 5 hour) kω).1 kω (nI u) ↔ zInV s kω (nI u) := by
      unfold zInV
      rw [egω, egω, e7ω, aω.1]
      by_cases hin : zInV s kω (nI u)
      · rw [if_pos ⟨by omega, hin⟩]
        exact ⟨fun _ => hin, fun _ => ⟨by decide, by decide, hin.2.2⟩⟩
      · rw [if_neg (fun zω => hin zω.2)]
    by_cases hin : zInV s kω (nI u)
    · rw [zEs_t hin, zDel_t (hiffω.mpr hin)]
      dsimp only
      rw [zDel1_9, zDel1_12, egω, egω, egω, e5ω, e2ω, e3ω, e4ω, e55ω, ihω]
      by_cases h1 : gd s kω 4 < hour
      · by_cases h2 : hour < gd s kω 3
        · rw [if_pos h1, if_pos h2, if_pos h2]
          grind
        · rw [if_pos h1, if_neg h2, if_neg h2]
          grind
      · by_cases h2 : hour < gd s kω 3
        · rw [if_neg h1, if_pos h2, if_pos h2]
          grind
        · rw [if_neg h1, if_neg h2, if_neg h2]
          grind
    · rw [zEs_f hin, zDel_f (mt hiffω.mp hin)]
      exact ihω
set_option maxRecDepth 20000 in
set_option maxHeartbeats 4000000 in
theorem ct_X6_wouldFill {K : zK} {M : mM} {nx : Nat} {c : Nat} {s : Nat → Int32} {n nv no : Nat} {past : Nat → Int32} {p o : Nat} {fp fr : Int32} {ty : Nat} {tx : Nat → Int32} {vb nxz : Int32} {nums : Nat → Int32} (hm : cR M c s n nv no (fun j q => past (287 * j + q)) p p o fp fr ty tx vb nxz nums) {v1 p1 r1 : Int32} : zCt K yX6_wouldFill cX6_wouldFill 4 zr_X6_wouldFill 4 [.ref c, .int v1, .int p1, .int r1] M nx 0 0 (zI (cTell M c s past p ty tx (spWFill s n v1 p1 r1))) := by
  refine z_enter [some (.ref c), some (.int v1), some (.int p1), some (.int r1)] (by decide +kernel) (Nat.le_of_ble_eq_true rfl) rfl (fun Bω okω hzω => ?_)
  obtain ⟨κω, πω, hmHω, hrω, hwω⟩ := hm.H
  obtain ⟨κTω, πTω, hmTω⟩ := hm.T
  have hn16ω := hrω.1.2.1
  have hn4ω := hrω.1.2.2.2.1
  have hn10ω := hrω.1.2.2.2.2.2
  refine z_aload_n okω dX6_wouldFill_0 rfl ?_
  refine z_getf okω dX6_wouldFill_1 zin_X6 rfl 1 (by decide) zw_320 hm.F rfl ?_
  refine z_aload_n okω dX6_wouldFill_4 rfl ?_
  refine z_getf okω dX6_wouldFill_5 zin_X6 rfl 0 (by decide) zw_319 hm.F rfl ?_
  refine z_callVv okω dX6_wouldFill_8 zm_X1_copyFrom zw_615 zi_X1_copyFrom hmTω.1 rfl (ct_X1_copyFrom hmTω hmHω (by omega) hrω) rfl rfl (by decide) (by decide) (by decide) (Nat.le_of_ble_eq_true rfl) (fun Mz2ω qz3ω => ?_)
  obtain ⟨κAω, hmTAω, hrAω, hfAω⟩ := qz3ω
  have hmAω := hm.trial hfAω ⟨κAω, πTω, hmTAω⟩
  refine z_aload_n okω dX6_wouldFill_11 rfl ?_
  refine z_getf okω dX6_wouldFill_12 zin_X6 rfl 1 (by decide) zw_320 hmAω.F rfl ?_
  refine z_iload_n okω dX6_wouldFill_15 rfl ?_
  refine z_iload_n okω dX6_wouldFill_16 rfl ?_
  refine z_iload_n okω dX6_wouldFill_17 rfl ?_
  refine z_callVi okω dX6_wouldFill_18 zm_X1_loadByRule zw_472 zi_X1_loadByRule hmTAω.1 rfl (ct_X1_loadByRule hmTAω hrAω hwω) rfl rfl (by decide) (by decide) (by decide) (Nat.le_of_ble_eq_true rfl) (fun xz4ω Mz5ω qz6ω => ?_)
  have hkpω := qz6ω
  rcases hr9 : (spFillS s n v1 p1 r1) with e9ω | q9ω
  · rw [hr9] at hkpω
    obtain ⟨hx9ω, hM9ω⟩ := hkpω
    obtain rfl := hM9ω.symm
    exact z_iret okω dX6_wouldFill_21 rfl rfl rfl (Nat.zero_le _) ⟨by rw [spWFill_S, hr9]; exact hx9ω, ⟨n, nv, no, o, fp, fr, vb, nxz, nums, hmAω⟩, hfAω.sub (by omega) (by omega)⟩
  · rw [hr9] at hkpω
    obtain ⟨hx9ω, ⟨κ9ω, π9ω, n9ω, nv9ω, no9ω, hm9ω, hrb9ω⟩, hf9ω⟩ := hkpω
    have hmBω := hmAω.trial hf9ω ⟨κ9ω, π9ω, hm9ω⟩
    exact z_iret okω dX6_wouldFill_21 rfl rfl rfl (Nat.zero_le _) ⟨by rw [spWFill_S, hr9]; exact hx9ω, ⟨n, nv, no, o, fp, fr, vb, nxz, nums, hmBω⟩, (hfAω.sub (by omega) (by omega)).tr (hf9ω.sub (by omega) (by omega))⟩

set_option maxRecDepth 20000 in
set_option maxHeartbeats 4000000 in
theorem ct_X6_wouldEarn {K : zK} {M : mM} {nx : Nat} {c : Nat} {s : Nat → Int32} {n nv no : Nat} {past : Nat → Int32} {p o : Nat} {fp fr : Int32} {ty : Nat} {tx : Nat → Int32} {vb nxz : Int32} {nums : Nat → Int32} (hm : cR M c s n nv no (fun j q => past (287 * j + q)) p p o fp fr ty tx vb nxz nums) {v1 : Int32} : zCt K yX6_wouldEarn cX6_wouldEarn 6 zr_X6_wouldEarn 3 [.ref c, .int v1] M nx 0 0 (zI (cTell M c s past p ty tx (spWEarn s n no v1))) := by
  refine z_enter [some (.ref c), some (.int v1), none, none, none, none] (by decide +kernel) (Nat.le_of_ble_eq_true rfl) rfl (fun Bω okω hzω => ?_)
  obtain ⟨κω, πω, hmHω, hrω, hwω⟩ := hm.H
  obtain ⟨κTω, πTω, hmTω⟩ := hm.T
  have hn16ω := hrω.1.2.1
  have hn4ω := hrω.1.2.2.2.1
  have hn10ω := hrω.1.2.2.2.2.2
  refine z_aload_n okω dX6_wouldEarn_0 rfl ?_
  refine z_getf okω dX6_wouldEarn_1 zin_X6 rfl 1 (by decide) zw_320 hm.F rfl ?_
  refine z_aload_n okω dX6_wouldEarn_4 rfl ?_
  refine z_getf okω dX6_wouldEarn_5 zin_X6 rfl 0 (by decide) zw_319 hm.F rfl ?_
  refine z_callVv okω dX6_wouldEarn_8 zm_X1_copyFrom zw_615 zi_X1_copyFrom hmTω.1 rfl (ct_X1_copyFrom hmTω hmHω (by omega) hrω) rfl rfl (by decide) (by decide) (by decide) (Nat.le_of_ble_eq_true rfl) (fun Mz2ω qz3ω => ?_)
  obtain ⟨κAω, hmTAω, hrAω, hfAω⟩ := qz3ω
  have hmAω := hm.trial hfAω ⟨κAω, πTω, hmTAω⟩
  have hmHAω := hmHω.kept (fun q9ω h9ω h8ω => hfAω q9ω (by omega))
  have hokω : zOKr (spDepart s n v1) := ok_depart hwω
  refine z_aload_n okω dX6_wouldEarn_11 rfl ?_
  refine z_getf okω dX6_wouldEarn_12 zin_X6 rfl 1 (by decide) zw_320 hmAω.F rfl ?_
  refine z_iload_n okω dX6_wouldEarn_15 rfl ?_
  refine z_callVi okω dX6_wouldEarn_16 zm_X1_sendOff zw_494 zi_X1_sendOff hmTAω.1 rfl (ct_X1_sendOff hmTAω hrAω hwω.sm hwω.P1 (fun u9ω hu9ω => (hwω.v u9ω hu9ω).2.2.1.1)) rfl rfl (by decide) (by decide) (by decide) (Nat.le_of_ble_eq_true rfl) (fun xz4ω Mz5ω qz6ω => ?_)
  have hkpω := qz6ω
  rcases hr9 : (spDepart s n v1) with e9ω | q9ω
  · rw [hr9] at hkpω hokω
    obtain ⟨hx9ω, hM9ω⟩ := hkpω
    obtain rfl := hM9ω.symm
    subst hx9ω
    refine z_istore_n okω dX6_wouldEarn_19 (by decide) rfl ?_
    refine z_aload_n okω dX6_wouldEarn_20 rfl ?_
    refine z_getf okω dX6_wouldEarn_21 zin_X6 rfl 1 (by decide) zw_320 hmAω.F rfl ?_
    refine z_iload_n okω dX6_wouldEarn_24 rfl ?_
    refine z_callVa okω dX6_wouldEarn_25 zm_X1_vehicleAt zw_579 zi_X1_vehicleAt hmTAω.1 rfl (ct_X1_vehicleAt hmTAω hrAω) rfl rfl (by decide) (by decide) (by decide) (Nat.le_of_ble_eq_true rfl) (fun xz7ω Mz8ω qz9ω => ?_)
    obtain ⟨hMeω, hcsqω⟩ := qz9ω
    obtain rfl := hMeω.symm
    rcases hcsqω with ⟨hng25ω, rfl⟩ | ⟨jz25ω, hjz25ω, hcz25ω, hgd25ω, rfl⟩
    · refine z_astore_nN okω dX6_wouldEarn_28 (by decide) rfl ?_
      refine z_iload_n okω dX6_wouldEarn_29 rfl ?_
      refine z_if_lt (tgt := 37) okω dX6_wouldEarn_30 (by decide) (fun _ => ?_) (fun q9ω => absurd hokω q9ω)
      refine z_iload_n okω dX6_wouldEarn_37 rfl ?_
      exact z_iret okω dX6_wouldEarn_38 rfl rfl rfl (Nat.zero_le _) ⟨(spWEarn_e hr9).symm, ⟨n, nv, no, o, fp, fr, vb, nxz, nums, hmAω⟩, hfAω.sub (by omega) (by omega)⟩
    · refine z_astore_n okω dX6_wouldEarn_28 (by decide) rfl ?_
      refine z_iload_n okω dX6_wouldEarn_29 rfl ?_
      refine z_if_lt (tgt := 37) okω dX6_wouldEarn_30 (by decide) (fun _ => ?_) (fun q9ω => absurd hokω q9ω)
      refine z_iload_n okω dX6_wouldEarn_37 rfl ?_
      exact z_iret okω dX6_wouldEarn_38 rfl rfl rfl (Nat.zero_le _) ⟨(spWEarn_e hr9).symm, ⟨n, nv, no, o, fp, fr, vb, nxz, nums, hmAω⟩, hfAω.sub (by omega) (by omega)⟩
  · rw [hr9] at hkpω hokω
    obtain ⟨hx9ω, ⟨κ9ω, π9ω, n9ω, nv9ω, no9ω, hm9ω, hrb9ω⟩, hf9ω⟩ := hkpω
    subst hx9ω
    obtain ⟨u9ω, hu9ω, hv9ω, hvehω, h20ω, hlsω, hq1ω, hq2ω⟩ := depart_inv hwω hr9
    rw [hq1ω] at hrb9ω
    obtain ⟨hx0ω, nw9ω, nvw9ω, now9ω, hw8ω⟩ := hokω
    rw [hq1ω] at hw8ω
    have hNzω : zN (zDe s n u9ω n) n nv no := zDe_N hrω.1 n
    have hw9ω := hw8ω.same hNzω
    have hrzω : hRel κ9ω (zDe s n u9ω n) n nv no := hrb9ω.same hNzω
    have hmBω := hmAω.trial hf9ω ⟨κ9ω, π9ω, hm9ω⟩
    have hmHBω := hmHAω.kept (fun q9ω h9ω h8ω => hf9ω q9ω (by omega))
    refine z_istore_n okω dX6_wouldEarn_19 (by decide) rfl ?_
    refine z_aload_n okω dX6_wouldEarn_20 rfl ?_
    refine z_getf okω dX6_wouldEarn_21 zin_X6 rfl 1 (by decide) zw_320 hmBω.F rfl ?_
    refine z_iload_n okω dX6_wouldEarn_24 rfl ?_
    refine z_callVa okω dX6_wouldEarn_25 zm_X1_vehicleAt zw_579 zi_X1_vehicleAt hm9ω.1 rfl (ct_X1_vehicleAt hm9ω hrzω) rfl rfl (by decide) (by decide) (by decide) (Nat.le_of_ble_eq_true rfl) (fun xz10ω Mz11ω qz12ω => ?_)
    obtain ⟨hMeω, hcsqω⟩ := qz12ω
    obtain rfl := hMeω.symm
    rcases hcsqω with ⟨hng25ω, rfl⟩ | ⟨jz25ω, hjz25ω, hcz25ω, hgd25ω, rfl⟩
    · refine z_astore_nN okω dX6_wouldEarn_28 (by decide) rfl ?_
      refine z_iload_n okω dX6_wouldEarn_29 rfl ?_
      refine z_if_lt (tgt := 37) okω dX6_wouldEarn_30 (by decide) (fun q9ω => absurd q9ω (Int32.not_lt.mpr hx0ω)) (fun _ => ?_)
      refine z_aload_nN okω dX6_wouldEarn_33 rfl ?_
      refine z_ifnonnullN okω dX6_wouldEarn_34 ?_
      refine z_iload_n okω dX6_wouldEarn_37 rfl ?_
      exact z_iret okω dX6_wouldEarn_38 rfl rfl rfl (Nat.zero_le _) (absurd (show zVeh (zDe s n u9ω n) v1 from ⟨hvehω.1, by rw [(zDe_hi (by omega) n hn16ω).trans (zDe1_o (by omega))]; exact hvehω.2⟩) hng25ω)
    · refine z_astore_n okω dX6_wouldEarn_28 (by decide) rfl ?_
      refine z_iload_n okω dX6_wouldEarn_29 rfl ?_
      refine z_if_lt (tgt := 37) okω dX6_wouldEarn_30 (by decide) (fun q9ω => absurd q9ω (Int32.not_lt.mpr hx0ω)) (fun _ => ?_)
      refine z_aload_n okω dX6_wouldEarn_33 rfl ?_
      refine z_ifnonnull (tgt := 39) okω dX6_wouldEarn_34 (by decide) ?_
      refine z_aload_n okω dX6_wouldEarn_39 rfl ?_
      refine z_getf okω dX6_wouldEarn_40 zin_X6 rfl 1 (by decide) zw_320 hmBω.F rfl ?_
      refine z_iload_n okω dX6_wouldEarn_43 rfl ?_
      have hjuω : jz25ω = u9ω := (nI_eq (a := jz25ω) (b := u9ω) (by omega) (by omega)).mp (hcz25ω.symm.trans hv9ω)
      refine h_putH7 okω dX6_wouldEarn_44 zw_238 hm9ω (fun M44ω hm44ω hf44ω => ?_)
      have hmCω := hmBω.trial hf44ω ⟨_, _, hm44ω⟩
      have hmHCω := hmHBω.kept (fun q9ω h9ω h8ω => hf44ω q9ω (by omega))
      have hvzω : ∀ fω, vd (upd (zDe s n u9ω n) 5 q9ω.2) u9ω fω = vd (zDe s n u9ω n) u9ω fω := fun f9ω => upd_n _ _ (by omega)
      have hgzω : ∀ iω fω, gd (upd (zDe s n u9ω n) 5 q9ω.2) iω fω = gd (zDe s n u9ω n) iω fω := fun i9ω f9ω => upd_n _ _ (by omega)
      have h21ω : vd (upd (zDe s n u9ω n) 5 q9ω.2) u9ω 2 = 1 := (hvzω 2).trans ((zDe_v hn16ω).trans zDe1_v)
      have h21dω : vd (zDe s n u9ω n) u9ω 2 = 1 := (zDe_v hn16ω).trans zDe1_v
      have hrCω : hRel (kU κ9ω 4 0 7 q9ω.2) (upd (zDe s n u9ω n) 5 q9ω.2) n nv no := hrzω.setS (fun a9ω j9ω h9ω => kU_o h9ω) (fun q8ω h9ω => upd_n _ _ (by omega)) (by have h9ω := hrzω.2.1; simp [kU, upd, h9ω])
      refine z_aload_n okω dX6_wouldEarn_47 rfl ?_
      refine z_getf okω dX6_wouldEarn_48 zin_X6 rfl 1 (by decide) zw_320 hmCω.F rfl ?_
      refine z_aload_n okω dX6_wouldEarn_51 rfl ?_
      refine z_callVi okω dX6_wouldEarn_52 zm_X1_deliverLoad zw_620 zi_X1_deliverLoad hm44ω.1 rfl (ct_X1_deliverLoad hm44ω hrCω (v := jz25ω) (by omega) (by rw [upd_s]; exact hx0ω) (fun c9ω h9ω => by rw [hgzω, hgzω]; exact ⟨(hw9ω.g c9ω h9ω).2.2.1.1, (hw9ω.g c9ω h9ω).2.2.1.2.1⟩) (fun c9ω h9ω hin9ω => by rw [hgzω]; rw [hjuω] at hin9ω; refine hw9ω.in2 hu9ω (by rw [h21dω]; decide) c9ω h9ω ?_; unfold zInV at hin9ω ⊢; rw [hgzω, hgzω] at hin9ω; exact hin9ω)) rfl rfl (by decide) (by decide) (by decide) (Nat.le_of_ble_eq_true rfl) (fun xz13ω Mz14ω qz15ω => ?_)
      obtain ⟨hdqω, κDω, hmTDω, hrDω, hfDω⟩ := qz15ω
      have hmDω := hmCω.trial hfDω ⟨_, _, hmTDω⟩
      have hmHDω := hmHCω.kept (fun q9ω h9ω h8ω => hfDω q9ω (by omega))
      rw [hjuω] at hrDω
      have hvdω : ∀ fω, fω < 8 → vd (zDel u9ω (upd (zDe s n u9ω n) 5 q9ω.2) n).1 u9ω fω = vd (zDe s n u9ω n) u9ω fω := fun f9ω hf9ω => (zDel_o n (by omega)).trans (hvzω f9ω)
      refine z_pop okω dX6_wouldEarn_55 rfl ?_
      refine z_aload_n okω dX6_wouldEarn_56 rfl ?_
      refine z_getf okω dX6_wouldEarn_57 zin_X6 rfl 1 (by decide) zw_320 hmDω.F rfl ?_
      refine z_aload_n okω dX6_wouldEarn_60 rfl ?_
      refine z_callVv okω dX6_wouldEarn_61 zm_X1_takeOffers zw_621 zi_X1_takeOffers hmTDω.1 rfl (ct_X1_takeOffers hmTDω hrDω (v := jz25ω) (by omega) (by rw [hjuω, hvdω 2 (by decide), h21dω]; decide) (fun o9ω h9ω => by rw [show od (zDel u9ω (upd (zDe s n u9ω n) 5 q9ω.2) n).1 o9ω 3 = od (zDe s n u9ω n) o9ω 3 from (zDel_o n (by omega)).trans (upd_n _ _ (by omega))]; exact hw9ω.of o9ω h9ω)) rfl rfl (by decide) (by decide) (by decide) (Nat.le_of_ble_eq_true rfl) (fun Mz17ω qz18ω => ?_)
      obtain ⟨κEω, πEω, noEω, hoEω, hmTEω, hrEω, hfEω⟩ := qz18ω
      have hmEω := hmDω.trial hfEω ⟨_, _, hmTEω⟩
      have hmHEω := hmHDω.kept (fun q9ω h9ω h8ω => hfEω q9ω (by omega))
      rw [hjuω] at hrEω
      refine z_aload_n okω dX6_wouldEarn_64 rfl ?_
      refine z_getf okω dX6_wouldEarn_65 zin_X6 rfl 1 (by decide) zw_320 hmEω.F rfl ?_
      refine z_getf okω dX6_wouldEarn_68 zin_X1 rfl 8 (by decide) zw_240 hmTEω.1 rfl ?_
      refine z_aload_n okω dX6_wouldEarn_71 rfl ?_
      refine z_getf okω dX6_wouldEarn_72 zin_X6 rfl 0 (by decide) zw_319 hmEω.F rfl ?_
      refine z_getf okω dX6_wouldEarn_75 zin_X1 rfl 8 (by decide) zw_240 hmHEω.1 rfl ?_
      refine z_isub okω dX6_wouldEarn_78 ?_
      refine z_istore okω dX6_wouldEarn_79 (by decide) rfl ?_
      refine z_aload_n okω dX6_wouldEarn_81 rfl ?_
      refine z_getf okω dX6_wouldEarn_82 zin_X6 rfl 1 (by decide) zw_320 hmEω.F rfl ?_
      refine z_getf okω dX6_wouldEarn_85 zin_X1 rfl 11 (by decide) zw_246 hmTEω.1 rfl ?_
      refine z_aload_n okω dX6_wouldEarn_88 rfl ?_
      refine z_getf okω dX6_wouldEarn_89 zin_X6 rfl 0 (by decide) zw_319 hmEω.F rfl ?_
      refine z_getf okω dX6_wouldEarn_92 zin_X1 rfl 11 (by decide) zw_246 hmHEω.1 rfl ?_
      refine z_isub okω dX6_wouldEarn_95 ?_
      refine z_istore okω dX6_wouldEarn_96 (by decide) rfl ?_
      refine z_ldc okω dX6_wouldEarn_98 zw_622 ?_
      refine z_iload okω dX6_wouldEarn_100 rfl ?_
      refine z_iadd okω dX6_wouldEarn_102 ?_
      refine z_iload okω dX6_wouldEarn_103 rfl ?_
      refine z_isub okω dX6_wouldEarn_105 ?_
      refine z_aload_n okω dX6_wouldEarn_106 rfl ?_
      refine z_getf okω dX6_wouldEarn_107 zin_X5 rfl 7 (by decide) zw_171 (hmTEω.2.2.2.2.2.1 jz25ω (by omega)).1 rfl ?_
      refine z_iadd okω dX6_wouldEarn_110 ?_
      refine z_iret okω dX6_wouldEarn_111 rfl rfl rfl (Nat.zero_le _) ⟨?_, ⟨n, nv, no, o, fp, fr, vb, nxz, nums, hmEω⟩, ((((hfAω.sub (by omega) (by omega)).tr (hf9ω.sub (by omega) (by omega))).tr (hf44ω.sub (by omega) (by omega))).tr (hfDω.sub (by omega) (by omega))).tr (hfEω.sub (by omega) (by omega))⟩
      rw [spWEarn_q (by omega) hv9ω hvehω h20ω hlsω]
      unfold zEa
      have hz0ω : ∀ q8ω, (q8ω < 6 ∨ 237 ≤ q8ω) → q8ω ≠ 5 → (zDel u9ω (upd (zDe s n u9ω n) 5 q9ω.2) n).1 q8ω = s q8ω := fun q8ω h9ω h8ω => (zDel_o n (by omega)).trans ((upd_n _ _ h8ω).trans ((zDe_hi (by omega) n hn16ω).trans (zDe1_o (by omega))))
      have hz5ω : (zDel u9ω (upd (zDe s n u9ω n) 5 q9ω.2) n).1 5 = q9ω.2 := (zDel_o n (by omega)).trans (upd_s _ _ _)
      have hesω := zEs_del (s := s) (u := u9ω) (hour := q9ω.2) hn16ω n (Nat.le_refl _)
      have hE9ω := hrEω.2.1.2.2.2.2.1
      have hE12ω := hrEω.2.1.2.2.2.2.2.2.2
      rw [pv_lo (by decide), zTake_o (by decide) (by decide)] at hE9ω hE12ω
      have hH9ω := hrω.2.1.2.2.2.2.1
      have hH12ω := hrω.2.1.2.2.2.2.2.2.2
      have hEvω := (hrEω.2.2.2.2.1 u9ω hu9ω).2.2.2.1
      rw [vd_pv, if_pos rfl, hvdω 6 (by decide), (zDe_v hn16ω).trans zDe1_v, hvdω 0 (by decide), (zDe_v hn16ω).trans zDe1_v, hvdω 1 (by decide), (zDe_v hn16ω).trans zDe1_v, hvdω 3 (by decide), (zDe_v hn16ω).trans zDe1_v, hz5ω] at hEvω
      have hb6ω := (hwω.v u9ω hu9ω).2.2.2.2 (by rw [h20ω]; decide)
      have hcgω := zTake_cg (p := zGoal s n u9ω) (h := q9ω.2) no s (zDel u9ω (upd (zDe s n u9ω n) 5 q9ω.2) n).1 (vd s u9ω 0) (vd s u9ω 1) 0 (fun q8ω h9ω => hz0ω q8ω (by omega) (by omega))
      simp at hEvω
      rw [hcgω, hb6ω, Int32.zero_add] at hEvω
      rw [hjuω, hE9ω, hE12ω, hH9ω, hH12ω, hEvω, ← hq2ω, hesω]
      grind

