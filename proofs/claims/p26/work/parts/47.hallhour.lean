theorem zWF.to {s : Nat → Int32} {n nv no no' : Nat} (h : zWF s n nv no) (hN : zN s n nv no') : zWF s n nv no' := by
  have eω : no = no' := (nI_eq (a := no) (b := no') (by have := h.N.2.2.2.2.2; omega) (by have := hN.2.2.2.2.2; omega)).mp (h.N.2.2.2.2.1.symm.trans hN.2.2.2.2.1)
  rw [← eω]
  exact h
theorem zHv_WF2 {s : Nat → Int32} {n nv no no' : Nat} (h : zWF s n nv no) {v : Nat} (hv : v ≤ nv) (hN : zN (zHv n s v).1 n nv no') : zWF (zHv n s v).1 n nv no' := by
  obtain ⟨o1ω, _, h2ω⟩ := zHv_WF h v hv
  exact h2ω.to hN
theorem zWF.S0 {s : Nat → Int32} {n nv no : Nat} (h : zWF s n nv no) : zS0 s n := fun iω hiω => (h.g iω hiω).2.2.2.2.1
theorem zWF.P1 {s : Nat → Int32} {n nv no : Nat} (h : zWF s n nv no) : zP1 s n := fun iω hiω => (h.g iω hiω).1
theorem i_ne0 {x : Int32} (h : 0 ≤ x) (h0 : ¬ x = 0) : 0 < x := by
  rcases Int32.lt_or_eq_of_le h with h9ω | h9ω
  · exact h9ω
  · exact absurd h9ω.symm h0
/-- the vehicle of an arrival, at its end -/
theorem hRel.arr {κ κ' : hK} {s : Nat → Int32} {n nv no no' v : Nat} {x : Int32} (h0 : zN s n nv no) (hv : v < nv) (h : hRel κ (pv (zTake (vd (zDel v s n).1 v 3) ((zDel v s n).1 5) no (zDel v s n).1 (vd (zDel v s n).1 v 0) (vd (zDel v s n).1 v 1) 0).1 v 6 x) n nv no') (hx : x = (zTake (vd (zDel v s n).1 v 3) ((zDel v s n).1 5) no (zDel v s n).1 (vd (zDel v s n).1 v 0) (vd (zDel v s n).1 v 1) 0).2) (h1 : vd s v 2 = 1) (hκ : ∀ a j, ¬ (a = 1 ∧ j = v) → κ' a j = κ a j) (hk : κ' 1 v = upd (upd (κ 1 v) 3 2) 6 (κ 4 0 7 + κ 1 v 5)) : hRel κ' (zArr1 s n v).1 n nv no' := by
  have hnω := h0.2.1
  have hnvω := h0.2.2.2.1
  have hcoω : cO (zDel v s n).1 = no := cO_N (zDel_N h0 n)
  have edω : ∀ jzω, jzω < 8 → vd (zDel v s n).1 v jzω = vd s v jzω := fun jzω hjzω => zDel_o n (by omega)
  have e5ω : (zDel v s n).1 5 = s 5 := zDel_o n (by omega)
  have etω : ∀ jzω, jzω < 8 → vd (zTake (vd (zDel v s n).1 v 3) ((zDel v s n).1 5) no (zDel v s n).1 (vd (zDel v s n).1 v 0) (vd (zDel v s n).1 v 1) 0).1 v jzω = vd s v jzω := fun jzω hjzω => (zTake_o (by omega) (by omega) no _ _ _ _).trans (edω jzω hjzω)
  have htmω := h.tm
  rw [pv_lo (by decide), zTake_o (by decide) (by decide), e5ω] at htmω
  have hkvω := h.2.2.2.2.1 v hv
  unfold kV at hkvω
  simp only [vd_pv, etω _ (by decide : 0 < 8), etω _ (by decide : 1 < 8), etω _ (by decide : 2 < 8), etω _ (by decide : 3 < 8), etω _ (by decide : 4 < 8), etω _ (by decide : 5 < 8), etω _ (by decide : 7 < 8)] at hkvω
  have hxxω : x = (zTake (vd s v 3) (s 5) (cO (zDel v s n).1) (zDel v s n).1 (vd s v 0) (vd s v 1) 0).2 := by
    rw [hx, hcoω, edω 0 (by decide), edω 1 (by decide), edω 3 (by decide), e5ω]
  refine h.setV hv hκ (fun qω h9ω => ?_) ?_
  · simp only [zArr1]
    rw [pv_o (by decide) h9ω, pv_o (by decide) h9ω, pv_o (by decide) h9ω, pv_o (by decide) h9ω, hcoω]
  · rw [hk]
    unfold kV
    have hvvω := fun (kzω : Nat) (hkzω : kzω < 8) => zArr1_v (s := s) (v := v) (n := n) (k := kzω) (by omega) hkzω hnω
    rw [hvvω 0 (by decide), hvvω 1 (by decide), hvvω 2 (by decide), hvvω 3 (by decide), hvvω 4 (by decide), hvvω 5 (by decide), hvvω 6 (by decide), hvvω 7 (by decide), ← hxxω]
    simp [h1] at hkvω
    simp [upd, hkvω, htmω]
set_option maxRecDepth 20000 in
set_option maxHeartbeats 4000000 in
theorem ct_X1_moveVehicles {K : zK} {M : mM} {nx : Nat} {b : Nat} {κ : hK} {π : Nat → Nat} (hm : hPicP M b κ π) {s : Nat → Int32} {n nv no : Nat} (hr : hRel κ s n nv no) (hwf : zWF s n nv no) : zCt K yX1_moveVehicles cX1_moveVehicles 4 zr_X1_moveVehicles 2 [.ref b] M nx 0 0 (zI (fun x M' => x = (zHv n s nv).2 ∧ ∃ κ' π' no', no' ≤ no ∧ hPicP M' b κ' π' ∧ hRel κ' ((zHv n s nv).1) n nv no' ∧ zFr M M' b 35)) := by
  refine z_enter [some (.ref b), none, none, none] (by decide +kernel) (Nat.le_of_ble_eq_true rfl) rfl (fun Bω okω hzω => ?_)
  have hn4ω := hr.1.2.2.2.1
  refine z_iconst (v := 0) okω dX1_moveVehicles_0 (by decide) ?_
  refine z_istore_n okω dX1_moveVehicles_1 (by decide) rfl ?_
  refine z_iconst (v := 0) okω dX1_moveVehicles_2 (by decide) ?_
  refine z_istore_n okω dX1_moveVehicles_3 (by decide) rfl ?_
  have loop4ω : ∀ (tω iω : Nat) (yω : Int32) (M1ω : mM) (κ1ω : hK) (π1ω : Nat → Nat) (no1ω : Nat) (vzq3ω : Option Value), nv < iω + tω → iω ≤ nv → yω = (zHv n s iω).2 → no1ω ≤ no → hPicP M1ω b κ1ω π1ω → hRel κ1ω (zHv n s iω).1 n nv no1ω → zFr M M1ω b 35 → zV 4 Bω (zE Bω (zI (fun xω M'ω => xω = (zHv n s nv).2 ∧ ∃ κ'ω π'ω no'ω, no'ω ≤ no ∧ hPicP M'ω b κ'ω π'ω ∧ hRel κ'ω ((zHv n s nv).1) n nv no'ω ∧ zFr M M'ω b 35)) 0 0) 4 [some (.ref b), some (.int yω), some (.int (nI iω)), vzq3ω] [] M1ω 0 0 := by
    intro tω
    induction tω with
    | zero => intro iω yω M1ω κ1ω π1ω no1ω vzq3ω h1ω h2ω; exact absurd h1ω (by omega)
    | succ tω ihω =>
      intro iω yω M1ω κ1ω π1ω no1ω vzq3ω h1ω h2ω hyω honω hm1ω hr1ω hf1ω
      have hvdω := hr1ω.vehs
      have hw1ω := zHv_WF2 hwf h2ω hr1ω.1
      refine z_iload_n okω dX1_moveVehicles_4 rfl ?_
      refine z_aload_n okω dX1_moveVehicles_5 rfl ?_
      refine z_getf okω dX1_moveVehicles_6 zin_X1 rfl 5 (by decide) zw_194 hm1ω.1 rfl ?_
      refine z_icmp_ge (tgt := 93) okω dX1_moveVehicles_9 (by decide) (fun cz9ω => ?_) (fun cz9ω => ?_)
      · have hinω : iω = nv := by rw [hvdω, nI_leI (by omega) (by omega)] at cz9ω; omega
        rw [hinω] at hyω hr1ω
        refine z_iload_n okω dX1_moveVehicles_93 rfl ?_
        exact z_iret okω dX1_moveVehicles_94 rfl rfl rfl (Nat.zero_le _) ⟨hyω, _, _, _, honω, hm1ω, hr1ω, hf1ω⟩
      · have hinω : iω < nv := by rw [hvdω, nI_leI (by omega) (by omega)] at cz9ω; omega
        have hkvω := hr1ω.2.2.2.2.1 iω hinω
        have hv2ω := (hw1ω.v iω hinω).2.2.1.1
        refine z_aload_n okω dX1_moveVehicles_12 rfl ?_
        refine z_getf okω dX1_moveVehicles_13 zin_X1 rfl 1 (by decide) zw_187 hm1ω.1 rfl ?_
        refine z_iload_n okω dX1_moveVehicles_16 rfl ?_
        refine h_ldV (j := iω) okω dX1_moveVehicles_17 hm1ω rfl (by omega) ?_
        refine z_astore_n okω dX1_moveVehicles_18 (by decide) rfl ?_
        refine z_aload_n okω dX1_moveVehicles_19 rfl ?_
        refine z_getf okω dX1_moveVehicles_20 zin_X5 rfl 3 (by decide) zw_120 (hm1ω.2.2.2.2.2.1 iω (by omega)).1 rfl ?_
        refine z_if_eq (tgt := 87) okω dX1_moveVehicles_23 (by decide) (fun cz23ω => ?_) (fun cz23ω => ?_)
        · have hbω : ¬ (0 < vd (zHv n s iω).1 iω 2 ∧ vd (zHv n s iω).1 iω 4 = (zHv n s iω).1 5) := fun z9ω => by have h9ω := z9ω.1; rw [← hkvω.2.2.1, cz23ω] at h9ω; exact absurd h9ω (by decide)
          refine z_iinc okω dX1_moveVehicles_87 rfl (zinc _) (by decide) rfl ?_
          refine z_goto (tgt := 4) okω dX1_moveVehicles_90 (by decide) ?_
          first | exact ihω (iω + 1) _ _ _ _ _ _ (by omega) (by omega) (by rw [zHv_no hbω]; exact hyω) honω hm1ω (by rw [zHv_no hbω]; exact hr1ω) hf1ω | exact ihω (iω + 1) _ _ _ _ _ _ (by omega) (by omega) (by rw [zHv_ret hbω hstω]; exact hyω) honω hm1ω (by rw [zHv_ret hbω hstω]; exact hr2ω) (by repeat (first | assumption | exact zFr.rf | refine zFr.tr (by assumption) ?_)) | exact ihω (iω + 1) _ _ _ _ _ _ (by omega) (by omega) (by rw [zHv_arr hbω hstω, hyω, hdqω]; rfl) (Nat.le_trans ho3ω honω) hm1ω (by rw [zHv_arr hbω hstω]; exact hRel.arr hr1ω.1 hinω hr3ω (by rw [hv6ω, Int32.zero_add]) hstω (fun a9ω j9ω h9ω => (kU_o h9ω).trans (kU_o h9ω)) (by rw [kU_u, kU_u]; rfl)) (by repeat (first | assumption | exact zFr.rf | refine zFr.tr (by assumption) ?_))
        · have hs0ω : ¬ vd (zHv n s iω).1 iω 2 = 0 := by rw [← hkvω.2.2.1]; exact cz23ω
          have hhoω := (hkvω.2.2.2.2.2 hs0ω).2.2
          refine z_aload_n okω dX1_moveVehicles_26 rfl ?_
          refine z_getf okω dX1_moveVehicles_27 zin_X5 rfl 6 (by decide) zw_128 (hm1ω.2.2.2.2.2.1 iω (by omega)).1 rfl ?_
          refine z_aload_n okω dX1_moveVehicles_30 rfl ?_
          refine z_getf okω dX1_moveVehicles_31 zin_X1 rfl 7 (by decide) zw_198 hm1ω.1 rfl ?_
          refine z_icmp_eq (tgt := 40) okω dX1_moveVehicles_34 (by decide) (fun cz34ω => ?_) (fun cz34ω => ?_)
          · have hbω : (0 < vd (zHv n s iω).1 iω 2 ∧ vd (zHv n s iω).1 iω 4 = (zHv n s iω).1 5) := ⟨i_ne0 hv2ω hs0ω, by rw [← hhoω, ← hr1ω.tm]; exact cz34ω⟩
            refine z_aload_n okω dX1_moveVehicles_40 rfl ?_
            refine z_getf okω dX1_moveVehicles_41 zin_X5 rfl 3 (by decide) zw_120 (hm1ω.2.2.2.2.2.1 iω (by omega)).1 rfl ?_
            refine z_iconst (v := 1) okω dX1_moveVehicles_44 (by decide) ?_
            refine z_icmp_ne (tgt := 82) okω dX1_moveVehicles_45 (by decide) (fun cz45ω => ?_) (fun cz45ω => ?_)
            · have hstω : ¬ vd (zHv n s iω).1 iω 2 = 1 := by rw [← hkvω.2.2.1]; exact cz45ω
              refine z_aload_n okω dX1_moveVehicles_82 rfl ?_
              refine z_aload_n okω dX1_moveVehicles_83 rfl ?_
              refine z_callVv okω dX1_moveVehicles_84 zm_X1_comeBack zw_563 zi_X1_comeBack hm1ω.1 rfl (ct_X1_comeBack hm1ω hr1ω hinω) rfl rfl (by decide) (by decide) (by decide) (Nat.le_of_ble_eq_true rfl) (fun Mz2ω qz3ω => ?_)
              obtain ⟨kq2ω, hm4ω, hr2ω, hf2ω⟩ := qz3ω
              refine z_iinc okω dX1_moveVehicles_87 rfl (zinc _) (by decide) rfl ?_
              refine z_goto (tgt := 4) okω dX1_moveVehicles_90 (by decide) ?_
              first | exact ihω (iω + 1) _ _ _ _ _ _ (by omega) (by omega) (by rw [zHv_no hbω]; exact hyω) honω hm4ω (by rw [zHv_no hbω]; exact hr1ω) hf1ω | exact ihω (iω + 1) _ _ _ _ _ _ (by omega) (by omega) (by rw [zHv_ret hbω hstω]; exact hyω) honω hm4ω (by rw [zHv_ret hbω hstω]; exact hr2ω) (by repeat (first | assumption | exact zFr.rf | refine zFr.tr (by assumption) ?_)) | exact ihω (iω + 1) _ _ _ _ _ _ (by omega) (by omega) (by rw [zHv_arr hbω hstω, hyω, hdqω]; rfl) (Nat.le_trans ho3ω honω) hm4ω (by rw [zHv_arr hbω hstω]; exact hRel.arr hr1ω.1 hinω hr3ω (by rw [hv6ω, Int32.zero_add]) hstω (fun a9ω j9ω h9ω => (kU_o h9ω).trans (kU_o h9ω)) (by rw [kU_u, kU_u]; rfl)) (by repeat (first | assumption | exact zFr.rf | refine zFr.tr (by assumption) ?_))
            · have hstω : vd (zHv n s iω).1 iω 2 = 1 := by rw [← hkvω.2.2.1]; exact cz45ω
              have hwdω := zDel_WF hw1ω (hw1ω.in2 hinω hs0ω) n (Nat.le_refl _)
              have edω : ∀ jzω, jzω < 8 → vd (zDel iω (zHv n s iω).1 n).1 iω jzω = vd (zHv n s iω).1 iω jzω := fun jzω hjzω => zDel_o n (by have := hr1ω.1.2.1; omega)
              have hv6ω : vd (zDel iω (zHv n s iω).1 n).1 iω 6 = 0 := (edω 6 (by decide)).trans ((hw1ω.v iω hinω).2.2.2.2 (by rw [hstω]; decide))
              refine z_iload_n okω dX1_moveVehicles_48 rfl ?_
              refine z_aload_n okω dX1_moveVehicles_49 rfl ?_
              refine z_aload_n okω dX1_moveVehicles_50 rfl ?_
              refine z_callVi okω dX1_moveVehicles_51 zm_X1_deliverLoad zw_547 zi_X1_deliverLoad hm1ω.1 rfl (ct_X1_deliverLoad hm1ω hr1ω (by omega) hw1ω.tm.1 (fun c9ω h9ω => ⟨(hw1ω.g c9ω h9ω).2.2.1.1, (hw1ω.g c9ω h9ω).2.2.1.2.1⟩) (hw1ω.in2 hinω hs0ω)) rfl rfl (by decide) (by decide) (by decide) (Nat.le_of_ble_eq_true rfl) (fun xz5ω Mz6ω qz7ω => ?_)
              obtain ⟨hdqω, kq2ω, hm8ω, hr2ω, hf2ω⟩ := qz7ω
              refine z_iadd okω dX1_moveVehicles_54 ?_
              refine z_istore_n okω dX1_moveVehicles_55 (by decide) rfl ?_
              refine z_aload_n okω dX1_moveVehicles_56 rfl ?_
              refine z_aload_n okω dX1_moveVehicles_57 rfl ?_
              refine z_callVv okω dX1_moveVehicles_58 zm_X1_takeOffers zw_551 zi_X1_takeOffers hm8ω.1 rfl (ct_X1_takeOffers hm8ω hr2ω hinω (by rw [edω 2 (by decide)]; exact hs0ω) hwdω.of) rfl rfl (by decide) (by decide) (by decide) (Nat.le_of_ble_eq_true rfl) (fun Mz10ω qz11ω => ?_)
              obtain ⟨kq3ω, pq3ω, oq3ω, ho3ω, hm12ω, hr3ω, hf3ω⟩ := qz11ω
              refine z_aload_n okω dX1_moveVehicles_61 rfl ?_
              refine z_iconst (v := 2) okω dX1_moveVehicles_62 (by decide) ?_
              refine h_putV3 okω dX1_moveVehicles_63 zw_120 hm12ω (by omega) (fun Mz14ω hm13ω frz15ω => ?_)
              refine z_aload_n okω dX1_moveVehicles_66 rfl ?_
              refine z_aload_n okω dX1_moveVehicles_67 rfl ?_
              refine z_getf okω dX1_moveVehicles_68 zin_X1 rfl 7 (by decide) zw_198 hm13ω.1 rfl ?_
              refine z_aload_n okω dX1_moveVehicles_71 rfl ?_
              refine z_getf okω dX1_moveVehicles_72 zin_X5 rfl 5 (by decide) zw_126 (hm13ω.2.2.2.2.2.1 iω (by omega)).1 rfl ?_
              refine z_iadd okω dX1_moveVehicles_75 ?_
              refine h_putV6 okω dX1_moveVehicles_76 zw_128 hm13ω (by omega) (fun Mz17ω hm16ω frz18ω => ?_)
              refine z_goto (tgt := 87) okω dX1_moveVehicles_79 (by decide) ?_
              refine z_iinc okω dX1_moveVehicles_87 rfl (zinc _) (by decide) rfl ?_
              refine z_goto (tgt := 4) okω dX1_moveVehicles_90 (by decide) ?_
              first | exact ihω (iω + 1) _ _ _ _ _ _ (by omega) (by omega) (by rw [zHv_no hbω]; exact hyω) honω hm16ω (by rw [zHv_no hbω]; exact hr1ω) hf1ω | exact ihω (iω + 1) _ _ _ _ _ _ (by omega) (by omega) (by rw [zHv_ret hbω hstω]; exact hyω) honω hm16ω (by rw [zHv_ret hbω hstω]; exact hr2ω) (by repeat (first | assumption | exact zFr.rf | refine zFr.tr (by assumption) ?_)) | exact ihω (iω + 1) _ _ _ _ _ _ (by omega) (by omega) (by rw [zHv_arr hbω hstω, hyω, hdqω]; rfl) (Nat.le_trans ho3ω honω) hm16ω (by rw [zHv_arr hbω hstω]; exact hRel.arr hr1ω.1 hinω hr3ω (by rw [hv6ω, Int32.zero_add]) hstω (fun a9ω j9ω h9ω => (kU_o h9ω).trans (kU_o h9ω)) (by rw [kU_u, kU_u]; rfl)) (by repeat (first | assumption | exact zFr.rf | refine zFr.tr (by assumption) ?_))
          · have hbω : ¬ (0 < vd (zHv n s iω).1 iω 2 ∧ vd (zHv n s iω).1 iω 4 = (zHv n s iω).1 5) := fun z9ω => cz34ω (by rw [hhoω, hr1ω.tm]; exact z9ω.2)
            refine z_goto (tgt := 87) okω dX1_moveVehicles_37 (by decide) ?_
            refine z_iinc okω dX1_moveVehicles_87 rfl (zinc _) (by decide) rfl ?_
            refine z_goto (tgt := 4) okω dX1_moveVehicles_90 (by decide) ?_
            first | exact ihω (iω + 1) _ _ _ _ _ _ (by omega) (by omega) (by rw [zHv_no hbω]; exact hyω) honω hm1ω (by rw [zHv_no hbω]; exact hr1ω) hf1ω | exact ihω (iω + 1) _ _ _ _ _ _ (by omega) (by omega) (by rw [zHv_ret hbω hstω]; exact hyω) honω hm1ω (by rw [zHv_ret hbω hstω]; exact hr2ω) (by repeat (first | assumption | exact zFr.rf | refine zFr.tr (by assumption) ?_)) | exact ihω (iω + 1) _ _ _ _ _ _ (by omega) (by omega) (by rw [zHv_arr hbω hstω, hyω, hdqω]; rfl) (Nat.le_trans ho3ω honω) hm1ω (by rw [zHv_arr hbω hstω]; exact hRel.arr hr1ω.1 hinω hr3ω (by rw [hv6ω, Int32.zero_add]) hstω (fun a9ω j9ω h9ω => (kU_o h9ω).trans (kU_o h9ω)) (by rw [kU_u, kU_u]; rfl)) (by repeat (first | assumption | exact zFr.rf | refine zFr.tr (by assumption) ?_))
  exact loop4ω (nv + 1) 0 _ _ _ _ _ _ (by omega) (by omega) rfl (Nat.le_refl _) hm hr (by repeat (first | assumption | exact zFr.rf | refine zFr.tr (by assumption) ?_))

set_option maxRecDepth 20000 in
set_option maxHeartbeats 4000000 in
theorem ct_X1_letPass {K : zK} {M : mM} {nx : Nat} {b : Nat} {κ : hK} {π : Nat → Nat} (hm : hPicP M b κ π) {s : Nat → Int32} {n nv no : Nat} (hr : hRel κ s n nv no) {h : Int32} (hwf : zWF s n nv no) : zCt K yX1_letPass cX1_letPass 4 zr_X1_letPass 3 [.ref b, .int h] M nx 0 0 (zI (kPost M b (spPass s n nv h))) := by
  refine z_enter [some (.ref b), some (.int h), none, none] (by decide +kernel) (Nat.le_of_ble_eq_true rfl) rfl (fun Bω okω hzω => ?_)
  have hn4ω := hr.1.2.2.2.1
  refine z_iload_n okω dX1_letPass_0 rfl ?_
  refine z_iconst (v := 1) okω dX1_letPass_1 (by decide) ?_
  refine z_bipush (v := 99) okω dX1_letPass_2 (by decide) ?_
  refine z_callSNi okω dX1_letPass_4 zm_X6_isWithin (fun _ h => h.2.2.2.2.2.2.1) zw_296 (ct_X6_isWithin) rfl rfl (by decide) (by decide) (by decide) (Nat.le_of_ble_eq_true rfl) (fun xz1ω Mz2ω qz3ω => ?_)
  obtain ⟨rfl, hMeω⟩ := qz3ω
  obtain rfl := hMeω.symm
  refine z_if_ne (tgt := 13) okω dX1_letPass_7 (by decide) (fun cz7ω => ?_) (fun cz7ω => ?_)
  · have hb7ω := Decidable.not_not.mp (mt b2_0.mpr cz7ω)
    refine z_aload_n okω dX1_letPass_13 rfl ?_
    refine z_getf okω dX1_letPass_14 zin_X1 rfl 7 (by decide) zw_198 hm.1 rfl ?_
    refine z_iload_n okω dX1_letPass_17 rfl ?_
    refine z_iadd okω dX1_letPass_18 ?_
    refine z_sipush (v := 9000) okω dX1_letPass_19 (by decide) ?_
    refine z_icmp_le (tgt := 28) okω dX1_letPass_22 (by decide) (fun cz22ω => ?_) (fun cz22ω => ?_)
    · have htlω : ¬ 9000 < s 5 + h := Int32.not_lt.mpr (by rw [← hr.tm]; exact cz22ω)
      obtain ⟨mzω, hmz1ω, hmz2ω, hmeω⟩ := zW_nat (a := 1) (b := 99) (by decide) (by decide) hb7ω
      refine z_iconst (v := 0) okω dX1_letPass_28 (by decide) ?_
      refine z_istore_n okω dX1_letPass_29 (by decide) rfl ?_
      refine z_iconst (v := 0) okω dX1_letPass_30 (by decide) ?_
      refine z_istore_n okω dX1_letPass_31 (by decide) rfl ?_
      have loop32ω : ∀ (tω iω : Nat) (yω : Int32) (M1ω : mM) (κ1ω : hK) (π1ω : Nat → Nat) (no1ω : Nat), mzω < iω + tω → iω ≤ mzω → yω = (zPass n nv s iω).2 → hPicP M1ω b κ1ω π1ω → hRel κ1ω (zPass n nv s iω).1 n nv no1ω → zFr M M1ω b 35 → zV 4 Bω (zE Bω (zI (kPost M b (spPass s n nv h))) 0 0) 32 [some (.ref b), some (.int h), some (.int yω), some (.int (nI iω))] [] M1ω 0 0 := by
        intro tω
        induction tω with
        | zero => intro iω yω M1ω κ1ω π1ω no1ω h1ω h2ω; exact absurd h1ω (by omega)
        | succ tω ihω =>
          intro iω yω M1ω κ1ω π1ω no1ω h1ω h2ω hyω hm1ω hr1ω hf1ω
          obtain ⟨o9ω, _, hw9ω⟩ := zPass_WF hwf (by omega) (by rw [← hmeω]; exact Int32.not_lt.mp htlω) iω h2ω
          have hw1ω := hw9ω.to hr1ω.1
          refine z_iload_n okω dX1_letPass_32 rfl ?_
          refine z_iload_n okω dX1_letPass_33 rfl ?_
          refine z_icmp_ge (tgt := 68) okω dX1_letPass_34 (by decide) (fun cz34ω => ?_) (fun cz34ω => ?_)
          · have hinω : iω = mzω := by rw [hmeω, nI_leI (by omega) (by omega)] at cz34ω; omega
            rw [hinω] at hyω hr1ω
            refine z_iload_n okω dX1_letPass_68 rfl ?_
            exact z_iret okω dX1_letPass_69 rfl rfl rfl (Nat.zero_le _) (kPost_ok hm1ω hr1ω hf1ω (by unfold spPass; rw [if_pos hb7ω, if_neg htlω, show tN h = mzω from by rw [hmeω]; exact tN_nI (by omega), hyω]))
          · have hinω : iω < mzω := by rw [hmeω, nI_leI (by omega) (by omega)] at cz34ω; omega
            have htiω : (zPass n nv s iω).1 5 < 9000 := by rw [zPass_5]; exact i_lt9 hwf.tm.1 (by rw [← hmeω]; exact Int32.not_lt.mp htlω) hinω (by omega) hwf.tm.2
            refine z_aload_n okω dX1_letPass_37 rfl ?_
            refine z_dup okω dX1_letPass_38 rfl ?_
            refine z_getf okω dX1_letPass_39 zin_X1 rfl 7 (by decide) zw_198 hm1ω.1 rfl ?_
            refine z_iconst (v := 1) okω dX1_letPass_42 (by decide) ?_
            refine z_iadd okω dX1_letPass_43 ?_
            refine h_putH7 okω dX1_letPass_44 zw_198 hm1ω (fun Mz5ω hm4ω frz6ω => ?_)
            have hrTω : hRel (kU κ1ω 4 0 7 (κ1ω 4 0 7 + 1)) (zTick (zPass n nv s iω).1) n nv no1ω := hr1ω.setS (fun a9ω j9ω h9ω => kU_o h9ω) (fun q9ω h9ω => upd_n _ _ (by omega)) (by have h9ω := hr1ω.2.1; simp [zTick, kU, upd, h9ω])
            refine z_iload_n okω dX1_letPass_47 rfl ?_
            refine z_aload_n okω dX1_letPass_48 rfl ?_
            refine z_callVi okω dX1_letPass_49 zm_X1_moveVehicles zw_543 zi_X1_moveVehicles hm4ω.1 rfl (ct_X1_moveVehicles hm4ω hrTω (hw1ω.tick htiω)) rfl rfl (by decide) (by decide) (by decide) (Nat.le_of_ble_eq_true rfl) (fun xz7ω Mz8ω qz9ω => ?_)
            obtain ⟨hvqω, kq2ω, pq2ω, oq2ω, ho2ω, hm10ω, hr2ω, hf2ω⟩ := qz9ω
            have hw2ω := zHv_WF2 (hw1ω.tick htiω) (Nat.le_refl _) hr2ω.1
            refine z_iadd okω dX1_letPass_52 ?_
            refine z_istore_n okω dX1_letPass_53 (by decide) rfl ?_
            refine z_aload_n okω dX1_letPass_54 rfl ?_
            refine z_callVv okω dX1_letPass_55 zm_X1_dropOldOffers zw_567 zi_X1_dropOldOffers hm10ω.1 rfl (ct_X1_dropOldOffers hm10ω hr2ω) rfl rfl (by decide) (by decide) (by decide) (Nat.le_of_ble_eq_true rfl) (fun Mz12ω qz13ω => ?_)
            obtain ⟨kq3ω, pq3ω, oq3ω, ho3ω, hm14ω, hr3ω, hf3ω⟩ := qz13ω
            obtain ⟨o8ω, _, hw8ω⟩ := zOld_WF (cO (zHv n (zTick (zPass n nv s iω).1) nv).1) _ _ (by rw [cO_N hw2ω.N]; exact Nat.le_refl _) hw2ω
            refine z_aload_n okω dX1_letPass_58 rfl ?_
            refine z_callVv okω dX1_letPass_59 zm_X1_payFees zw_571 zi_X1_payFees hm14ω.1 rfl (ct_X1_payFees hm14ω hr3ω hw8ω.S0) rfl rfl (by decide) (by decide) (by decide) (Nat.le_of_ble_eq_true rfl) (fun Mz16ω qz17ω => ?_)
            obtain ⟨kq4ω, hm18ω, hr4ω, hf4ω⟩ := qz17ω
            refine z_iinc okω dX1_letPass_62 rfl (zinc _) (by decide) rfl ?_
            refine z_goto (tgt := 32) okω dX1_letPass_65 (by decide) ?_
            exact ihω (iω + 1) _ _ _ _ _ (by omega) (by omega) (by rw [hyω, hvqω]; rfl) hm18ω hr4ω (by repeat (first | assumption | exact zFr.rf | refine zFr.tr (by assumption) ?_))
      exact loop32ω (mzω + 1) 0 _ _ _ _ _ (by omega) (by omega) rfl hm hr (by repeat (first | assumption | exact zFr.rf | refine zFr.tr (by assumption) ?_))
    · refine z_ldc okω dX1_letPass_25 zw_370 ?_
      exact z_iret okω dX1_letPass_27 rfl rfl rfl (Nat.zero_le _) (kPost_e (by unfold spPass; rw [if_pos hb7ω, if_pos (by rw [← hr.tm]; exact Int32.not_le.mp cz22ω)]))
  · have hb7ω := b2_0.mp cz7ω
    refine z_ldc okω dX1_letPass_10 zw_406 ?_
    exact z_iret okω dX1_letPass_12 rfl rfl rfl (Nat.zero_le _) (kPost_e (by unfold spPass; rw [if_neg hb7ω]))


