theorem zCause_ne (e : Int32) : ¬ (if e = -1000001 then (2 : Int32) else 3) = 0 := by
  split <;> decide
theorem zPl_in {tx : Nat → Int32} {ty f i : Nat} {s : Nat → Int32} {a c : Int32} {q : Nat × Nat × (Nat → Int32)} {e : Int32} (h : i < ty) (hr : zRd tx ty i = some q) (hc : spCall s (tN (s 3)) (tN (s 4)) (tN (s 6)) q.1 q.2.2 = .inl e) (he : e < 0) : zPl tx ty (f + 1) i s a c = (s, zCause e, nI i, c + 1) := by
  rw [zPl_s h hr hc, if_neg (Int32.not_le.mpr (show zVal (.inl e) < 0 from he))]
  rfl
theorem zPl_on {tx : Nat → Int32} {ty f i : Nat} {s : Nat → Int32} {a c : Int32} {q : Nat × Nat × (Nat → Int32)} {r : (Nat → Int32) × Int32} (h : i < ty) (hr : zRd tx ty i = some q) (hc : spCall s (tN (s 3)) (tN (s 4)) (tN (s 6)) q.1 q.2.2 = .inr r) (he : 0 ≤ r.2) : zPl tx ty (f + 1) i s a c = zPl tx ty f q.2.1 r.1 (nI i) (c + 1) := by
  rw [zPl_s h hr hc, if_pos (show 0 ≤ zVal (.inr r) from he)]
  rfl
set_option maxRecDepth 20000 in
set_option maxHeartbeats 4000000 in
theorem ct_X6_tryText {K : zK} {M : mM} {nx : Nat} {c : Nat} {s : Nat → Int32} {n nv no : Nat} {rows : Nat → Nat → Int32} {kk p o : Nat} {fp fr : Int32} {ty : Nat} {tx : Nat → Int32} {vb nxz : Int32} {nums : Nat → Int32} (hm : cR M c s n nv no rows kk p o fp fr ty tx vb nxz nums) : zCt K yX6_tryText cX6_tryText 3 zr_X6_tryText 7 [.ref c] M nx 0 0 (zI (cTry M c s n nv no rows kk p o ty tx (zPl tx ty (ty + 1) 0 s 0 0))) := by
  refine z_enter [some (.ref c), none, none] (by decide +kernel) (Nat.le_of_ble_eq_true rfl) rfl (fun Bω okω hzω => ?_)
  obtain ⟨κω, πω, hmHω, hrω, hwω⟩ := hm.H
  obtain ⟨κTω, πTω, hmTω⟩ := hm.T
  have hb5ω := hm.B
  refine z_aload_n okω dX6_tryText_0 rfl ?_
  refine z_getf okω dX6_tryText_1 zin_X6 rfl 1 (by decide) zw_320 hm.F rfl ?_
  refine z_aload_n okω dX6_tryText_4 rfl ?_
  refine z_getf okω dX6_tryText_5 zin_X6 rfl 0 (by decide) zw_319 hm.F rfl ?_
  refine z_callVv okω dX6_tryText_8 zm_X1_copyFrom zw_615 zi_X1_copyFrom hmTω.1 rfl (ct_X1_copyFrom hmTω hmHω (by omega) hrω) rfl rfl (by decide) (by decide) (by decide) (Nat.le_of_ble_eq_true rfl) (fun Mz2ω qz3ω => ?_)
  obtain ⟨κAω, hmTAω, hrAω, hfAω⟩ := qz3ω
  have hmAω := hm.trial hfAω ⟨κAω, πTω, hmTAω⟩
  have hTAω : cHall _ (c + 36) s n nv no := ⟨κAω, πTω, hmTAω, hrAω, hwω⟩
  have fzAω : zFr M _ c 251 := hfAω.sub (by omega) (by omega)
  refine z_aload_n okω dX6_tryText_11 rfl ?_
  refine z_iconst (v := 0) okω dX6_tryText_12 (by decide) ?_
  refine z_putf (T := TX6) (N := 6) (ty := .int) okω dX6_tryText_13 zin_X6 tyX6 tyX6_ok nmX6 rfl 5 (by decide) zw_324 rfl hmAω.F (by decide +kernel) rfl rfl (Nat.le_of_ble_eq_true rfl) ?_
  refine zV_up (fun Mp13ω he13ω hu13ω => ?_)
  have hm4ω := hmAω.fpr he13ω hu13ω
  have hT13ω := hTAω.kept (fun q9ω h9ω h8ω => hu13ω q9ω (by omega))
  have fz13ω : zFr _ Mp13ω c 251 := fun q9ω h9ω => hu13ω q9ω (by omega)
  refine z_iconst (v := 0) okω dX6_tryText_16 (by decide) ?_
  refine z_istore_n okω dX6_tryText_17 (by decide) rfl ?_
  refine z_iconst (v := 0) okω dX6_tryText_18 (by decide) ?_
  refine z_istore_n okω dX6_tryText_19 (by decide) rfl ?_
  have loop20ω : ∀ (tω iω : Nat) (M1ω : mM) (stω : Nat) (sz1ω : Nat → Int32) (n1ω nv1ω no1ω : Nat) (aqω fp1ω vb1ω nx1ω : Int32) (nu1ω : Nat → Int32), 80 < iω + tω → iω ≤ 80 → zPl tx ty (ty + 1 - iω) stω sz1ω aqω (nI iω) = (zPl tx ty (ty + 1) 0 s 0 0) → iω ≤ stω → stω ≤ ty → cHall M1ω (c + 36) sz1ω n1ω nv1ω no1ω → cR M1ω c s n nv no rows kk p o fp1ω 0 ty tx vb1ω nx1ω nu1ω → zFr M M1ω c 251 → zV 3 Bω (zE Bω (zI (cTry M c s n nv no rows kk p o ty tx (zPl tx ty (ty + 1) 0 s 0 0))) 0 0) 20 [some (.ref c), some (.int (nI stω)), some (.int (nI iω))] [] M1ω 0 0 := by
    intro tω
    induction tω with
    | zero => intro iω M1ω stω sz1ω n1ω nv1ω no1ω aqω fp1ω vb1ω nx1ω nu1ω h1ω h2ω; exact absurd h1ω (by omega)
    | succ tω ihω =>
      intro iω M1ω stω sz1ω n1ω nv1ω no1ω aqω fp1ω vb1ω nx1ω nu1ω h1ω h2ω hzpω hisω hstω hT1ω hm1ω hf1ω
      have hN1ω : zN sz1ω n1ω nv1ω no1ω := by obtain ⟨_, _, _, h9ω, _⟩ := hT1ω; exact h9ω.1
      have hN3ω := tN_3 hN1ω
      refine z_iload_n okω dX6_tryText_20 rfl ?_
      refine z_bipush (v := 80) okω dX6_tryText_21 (by decide) ?_
      refine z_icmp_ge (tgt := 93) okω dX6_tryText_23 (by decide) (fun cz23ω => ?_) (fun cz23ω => ?_)
      · have hinω : iω = 80 := by have h9ω := (nI_leI (a := 80) (by omega) (by omega)).mp cz23ω; omega
        refine z_bipush (v := 80) okω dX6_tryText_93 (by decide) ?_
        exact z_iret okω dX6_tryText_95 rfl rfl rfl (Nat.zero_le _) ⟨_, _, _, _, _, hm1ω, ⟨n1ω, nv1ω, no1ω, by rw [← hzpω, zPl_o (by omega)]; exact hT1ω⟩, by rw [← hzpω, zPl_o (by omega)], fun _ => ⟨by rw [← hzpω, zPl_o (by omega)]; rw [hinω]; rfl, iω, by omega, by rw [hinω]; rfl⟩, fun z9ω => absurd rfl z9ω, (by repeat (first | assumption | exact zFr.rf | refine zFr.tr (by assumption) ?_))⟩
      · have hinω : iω < 80 := by have h9ω := mt (nI_leI (a := 80) (b := iω) (by omega) (by omega)).mpr cz23ω; omega
        refine z_iload_n okω dX6_tryText_26 rfl ?_
        refine z_aload_n okω dX6_tryText_27 rfl ?_
        refine z_getf okω dX6_tryText_28 zin_X6 rfl 3 (by decide) zw_322 hm1ω.F rfl ?_
        refine z_getf okω dX6_tryText_31 zin_X4 rfl 2 (by decide) zw_302 hm1ω.S rfl ?_
        refine z_icmp_lt (tgt := 39) okω dX6_tryText_34 (by decide) (fun cz34ω => ?_) (fun cz34ω => ?_)
        · have hltω : stω < ty := by have h9ω := Int32.lt_iff_toInt_lt.mp cz34ω; rw [nI_toInt (by omega), nI_toInt (by omega)] at h9ω; omega
          refine z_aload_n okω dX6_tryText_39 rfl ?_
          refine z_iload_n okω dX6_tryText_40 rfl ?_
          refine z_putf (T := TX6) (N := 6) (ty := .int) okω dX6_tryText_41 zin_X6 tyX6 tyX6_ok nmX6 rfl 4 (by decide) zw_323 rfl hm1ω.F (by decide +kernel) rfl rfl (Nat.le_of_ble_eq_true rfl) ?_
          refine zV_up (fun Mp41ω he41ω hu41ω => ?_)
          have hm7ω := hm1ω.fpr he41ω hu41ω
          have hT41ω := hT1ω.kept (fun q9ω h9ω h8ω => hu41ω q9ω (by omega))
          have fz41ω : zFr _ Mp41ω c 251 := fun q9ω h9ω => hu41ω q9ω (by omega)
          refine z_aload_n okω dX6_tryText_44 rfl ?_
          refine z_aload_n okω dX6_tryText_45 rfl ?_
          refine z_getf okω dX6_tryText_46 zin_X6 rfl 3 (by decide) zw_322 hm7ω.F rfl ?_
          refine z_iload_n okω dX6_tryText_49 rfl ?_
          refine z_callVi okω dX6_tryText_50 zm_X4_readCommand zw_661 zi_X4_readCommand hm7ω.S rfl (ct_X4_readCommand hm7ω (by omega)) rfl rfl (by decide) (by decide) (by decide) (Nat.le_of_ble_eq_true rfl) (fun xz10ω Mz11ω qz12ω => ?_)
          obtain ⟨hrcω, hfRω⟩ := qz12ω
          have hTRω := hT41ω.kept (fun q9ω h9ω h8ω => hfRω q9ω (by omega))
          have fzRω : zFr _ _ c 251 := hfRω.sub (by omega) (by omega)
          rcases hrd : zRd tx ty stω with _ | q7ω
          · rw [hrd] at hrcω
            obtain ⟨hx7ω, vb7ω, nx7ω, nu7ω, hmR0ω⟩ := hrcω
            rw [hx7ω]
            refine z_if_eq (tgt := 66) okω dX6_tryText_53 (by decide) (fun _ => ?_) (fun q9ω => absurd (by decide) q9ω)
            refine z_iconst (v := 1) okω dX6_tryText_66 (by decide) ?_
            refine z_putf (T := TX6) (N := 6) (ty := .int) okω dX6_tryText_67 zin_X6 tyX6 tyX6_ok nmX6 rfl 5 (by decide) zw_324 rfl hmR0ω.F (by decide +kernel) rfl rfl (Nat.le_of_ble_eq_true rfl) ?_
            refine zV_up (fun Mp67ω he67ω hu67ω => ?_)
            have hm13ω := hmR0ω.fpr he67ω hu67ω
            have hT67ω := hTRω.kept (fun q9ω h9ω h8ω => hu67ω q9ω (by omega))
            have fz67ω : zFr _ Mp67ω c 251 := fun q9ω h9ω => hu67ω q9ω (by omega)
            refine z_aload_n okω dX6_tryText_70 rfl ?_
            refine z_getf okω dX6_tryText_71 zin_X6 rfl 5 (by decide) zw_324 hm13ω.F rfl ?_
            refine z_if_eq (tgt := 79) okω dX6_tryText_74 (by decide) (fun q9ω => absurd q9ω (by decide)) (fun _ => ?_)
            refine z_iload_n okω dX6_tryText_77 rfl ?_
            exact z_iret okω dX6_tryText_78 rfl rfl rfl (Nat.zero_le _) ⟨_, _, _, _, _, hm13ω, ⟨n1ω, nv1ω, no1ω, by rw [← hzpω, show ty + 1 - iω = (ty - iω) + 1 from by omega, zPl_n hltω hrd]; exact hT67ω⟩, by rw [← hzpω, show ty + 1 - iω = (ty - iω) + 1 from by omega, zPl_n hltω hrd], fun z9ω => absurd z9ω (by decide), fun _ => ⟨by rw [← hzpω, show ty + 1 - iω = (ty - iω) + 1 from by omega, zPl_n hltω hrd], stω, by omega, rfl⟩, (by repeat (first | assumption | exact zFr.rf | refine zFr.tr (by assumption) ?_))⟩
          · rw [hrd] at hrcω
            obtain ⟨hx7ω, hq7ω, hst7ω, hty7ω, nu7ω, hmR1ω, hnu7ω⟩ := hrcω
            rw [hx7ω]
            refine z_if_eq (tgt := 66) okω dX6_tryText_53 (by decide) (fun q9ω => absurd q9ω (by decide)) (fun _ => ?_)
            refine z_aload_n okω dX6_tryText_56 rfl ?_
            refine z_callVi okω dX6_tryText_57 zm_X6_perform zw_745 zi_X6_perform hmR1ω.F rfl (ct_X6_perform hmR1ω hq7ω rfl hTRω) rfl rfl (by decide) (by decide) (by decide) (Nat.le_of_ble_eq_true rfl) (fun xz16ω Mz17ω qz18ω => ?_)
            have hpfω := qz18ω
            have hceω : spCall sz1ω (tN (sz1ω 3)) (tN (sz1ω 4)) (tN (sz1ω 6)) q7ω.1 q7ω.2.2 = spCall sz1ω n1ω nv1ω no1ω q7ω.1 nu7ω := by rw [hN3ω.1, hN3ω.2.1, hN3ω.2.2]; exact (spCall_t hnu7ω).symm
            rcases hr7 : spCall sz1ω n1ω nv1ω no1ω q7ω.1 nu7ω with e7ω | s7ω
            · rw [hr7] at hpfω
              have hclω := hceω.trans hr7
              obtain ⟨he7ω, hx8ω, hM8ω⟩ := hpfω
              obtain rfl := hM8ω.symm
              rw [hx8ω]
              have hmP0ω := hmR1ω
              refine z_callSi okω dX6_tryText_60 zm_X6_reasonOf zw_749 zw_750 (ct_X6_reasonOf) rfl rfl (by decide) (by decide) (by decide) (Nat.le_of_ble_eq_true rfl) (fun xz19ω Mz20ω qz21ω => ?_)
              obtain ⟨hxrω, hMeω⟩ := qz21ω
              obtain rfl := hMeω.symm
              rw [hxrω, if_neg (Int32.not_le.mpr he7ω)]
              refine z_goto (tgt := 67) okω dX6_tryText_63 (by decide) ?_
              refine z_putf (T := TX6) (N := 6) (ty := .int) okω dX6_tryText_67 zin_X6 tyX6 tyX6_ok nmX6 rfl 5 (by decide) zw_324 rfl hmP0ω.F (by decide +kernel) rfl rfl (Nat.le_of_ble_eq_true rfl) ?_
              refine zV_up (fun Mp67ω he67ω hu67ω => ?_)
              have hm22ω := hmP0ω.fpr he67ω hu67ω
              have hT67ω := hTRω.kept (fun q9ω h9ω h8ω => hu67ω q9ω (by omega))
              have fz67ω : zFr _ Mp67ω c 251 := fun q9ω h9ω => hu67ω q9ω (by omega)
              refine z_aload_n okω dX6_tryText_70 rfl ?_
              refine z_getf okω dX6_tryText_71 zin_X6 rfl 5 (by decide) zw_324 hm22ω.F rfl ?_
              refine z_if_eq (tgt := 79) okω dX6_tryText_74 (by decide) (fun q9ω => absurd q9ω (zCause_ne e7ω)) (fun _ => ?_)
              refine z_iload_n okω dX6_tryText_77 rfl ?_
              exact z_iret okω dX6_tryText_78 rfl rfl rfl (Nat.zero_le _) ⟨_, _, _, _, _, hm22ω, ⟨n1ω, nv1ω, no1ω, by rw [← hzpω, show ty + 1 - iω = (ty - iω) + 1 from by omega, zPl_in hltω hrd hclω he7ω]; exact hT67ω⟩, by rw [← hzpω, show ty + 1 - iω = (ty - iω) + 1 from by omega, zPl_in hltω hrd hclω he7ω]; rfl, fun z9ω => absurd z9ω (zCause_ne e7ω), fun _ => ⟨by rw [← hzpω, show ty + 1 - iω = (ty - iω) + 1 from by omega, zPl_in hltω hrd hclω he7ω], stω, by omega, rfl⟩, (by repeat (first | assumption | exact zFr.rf | refine zFr.tr (by assumption) ?_))⟩
            · rw [hr7] at hpfω
              have hclω := hceω.trans hr7
              obtain ⟨hy7ω, hx8ω, ⟨n8ω, nv8ω, no8ω, hTPω⟩, hfPω⟩ := hpfω
              have hmP1ω := hmR1ω.trial hfPω hTPω.any
              have fzPω : zFr _ _ c 251 := hfPω.sub (by omega) (by omega)
              refine z_callSi okω dX6_tryText_60 zm_X6_reasonOf zw_749 zw_750 (ct_X6_reasonOf) rfl rfl (by decide) (by decide) (by decide) (Nat.le_of_ble_eq_true rfl) (fun xz25ω Mz26ω qz27ω => ?_)
              obtain ⟨hxrω, hMeω⟩ := qz27ω
              obtain rfl := hMeω.symm
              rw [hxrω, if_pos hx8ω]
              refine z_goto (tgt := 67) okω dX6_tryText_63 (by decide) ?_
              refine z_putf (T := TX6) (N := 6) (ty := .int) okω dX6_tryText_67 zin_X6 tyX6 tyX6_ok nmX6 rfl 5 (by decide) zw_324 rfl hmP1ω.F (by decide +kernel) rfl rfl (Nat.le_of_ble_eq_true rfl) ?_
              refine zV_up (fun Mp67ω he67ω hu67ω => ?_)
              have hm28ω := hmP1ω.fpr he67ω hu67ω
              have hT67ω := hTPω.kept (fun q9ω h9ω h8ω => hu67ω q9ω (by omega))
              have fz67ω : zFr _ Mp67ω c 251 := fun q9ω h9ω => hu67ω q9ω (by omega)
              refine z_aload_n okω dX6_tryText_70 rfl ?_
              refine z_getf okω dX6_tryText_71 zin_X6 rfl 5 (by decide) zw_324 hm28ω.F rfl ?_
              refine z_if_eq (tgt := 79) okω dX6_tryText_74 (by decide) (fun _ => ?_) (fun q9ω => absurd rfl q9ω)
              refine z_aload_n okω dX6_tryText_79 rfl ?_
              refine z_getf okω dX6_tryText_80 zin_X6 rfl 3 (by decide) zw_322 hm28ω.F rfl ?_
              refine z_getf okω dX6_tryText_83 zin_X4 rfl 4 (by decide) zw_306 hm28ω.S rfl ?_
              refine z_istore_n okω dX6_tryText_86 (by decide) rfl ?_
              refine z_iinc okω dX6_tryText_87 rfl (zinc _) (by decide) rfl ?_
              refine z_goto (tgt := 20) okω dX6_tryText_90 (by decide) ?_
              rw [show ty + 1 - iω = (ty + 1 - (iω + 1)) + 1 from by omega, zPl_on hltω hrd hclω hy7ω, nI_1] at hzpω
              exact ihω (iω + 1) _ q7ω.2.1 s7ω.1 n8ω nv8ω no8ω (nI stω) _ _ _ _ (by omega) (by omega) hzpω (by omega) hty7ω hT67ω hm28ω (by repeat (first | assumption | exact zFr.rf | refine zFr.tr (by assumption) ?_))
        · have hgeω : ¬ stω < ty := fun z9ω => cz34ω (by rw [Int32.lt_iff_toInt_lt, nI_toInt (by omega), nI_toInt (by omega)]; omega)
          refine z_iload_n okω dX6_tryText_37 rfl ?_
          exact z_iret okω dX6_tryText_38 rfl rfl rfl (Nat.zero_le _) ⟨_, _, _, _, _, hm1ω, ⟨n1ω, nv1ω, no1ω, by rw [← hzpω, zPl_o (by omega)]; exact hT1ω⟩, by rw [← hzpω, zPl_o (by omega)], fun _ => ⟨by rw [← hzpω, zPl_o (by omega)], iω, by omega, rfl⟩, fun z9ω => absurd rfl z9ω, (by repeat (first | assumption | exact zFr.rf | refine zFr.tr (by assumption) ?_))⟩
  exact loop20ω 81 0 _ 0 s n nv no 0 _ _ _ _ (by omega) (by omega) rfl (Nat.le_refl 0) (Nat.zero_le _) hT13ω hm4ω (by repeat (first | assumption | exact zFr.rf | refine zFr.tr (by assumption) ?_))

theorem nI_nf {i : Nat} (h : i ≤ 80) : ¬ nI i = -1000004 := fun zω => by
  have h9ω := congrArg Int32.toInt zω
  rw [nI_toInt (by omega)] at h9ω
  have eω : (-1000004 : Int32).toInt = -1000004 := rfl
  omega
set_option maxRecDepth 20000 in
set_option maxHeartbeats 4000000 in
theorem ct_X6_fault {K : zK} {M : mM} {nx : Nat} {c : Nat} {s : Nat → Int32} {n nv no : Nat} {past : Nat → Int32} {p o : Nat} {fp fr : Int32} {ty : Nat} {tx : Nat → Int32} {vb nxz : Int32} {nums : Nat → Int32} (hm : cR M c s n nv no (fun j q => past (287 * j + q)) p p o fp fr ty tx vb nxz nums) {its : Int32} : zCt K yX6_fault cX6_fault 2 zr_X6_fault 8 [.ref c, .int its] M nx 0 0 (zI (cTell M c s past p ty tx (spFault (zPl tx ty (ty + 1) 0 s 0 0) its))) := by
  refine z_enter [some (.ref c), some (.int its)] (by decide +kernel) (Nat.le_of_ble_eq_true rfl) rfl (fun Bω okω hzω => ?_)
  refine z_iload_n okω dX6_fault_0 rfl ?_
  refine z_iconst (v := 0) okω dX6_fault_1 (by decide) ?_
  refine z_iconst (v := 1) okω dX6_fault_2 (by decide) ?_
  refine z_callSi okω dX6_fault_3 zm_X6_isWithin zw_342 zw_343 (ct_X6_isWithin) rfl rfl (by decide) (by decide) (by decide) (Nat.le_of_ble_eq_true rfl) (fun xz1ω Mz2ω qz3ω => ?_)
  obtain ⟨rfl, hMeω⟩ := qz3ω
  obtain rfl := hMeω.symm
  refine z_if_ne (tgt := 12) okω dX6_fault_6 (by decide) (fun cz6ω => ?_) (fun cz6ω => ?_)
  · have hb6ω := Decidable.not_not.mp (mt b2_0.mpr cz6ω)
    refine z_aload_n okω dX6_fault_12 rfl ?_
    refine z_callVi okω dX6_fault_13 zm_X6_tryText zw_657 zi_X6_tryText hm.F rfl (ct_X6_tryText hm) rfl rfl (by decide) (by decide) (by decide) (Nat.le_of_ble_eq_true rfl) (fun xz4ω Mz5ω qz6ω => ?_)
    obtain ⟨fpYω, frYω, vbYω, nxYω, nuYω, hmYω, ⟨nYω, nvYω, noYω, hTYω⟩, hfrω, hok0ω, hbadω, hfYω⟩ := qz6ω
    refine z_pop okω dX6_fault_16 rfl ?_
    refine z_aload_n okω dX6_fault_17 rfl ?_
    refine z_getf okω dX6_fault_18 zin_X6 rfl 5 (by decide) zw_324 hmYω.F rfl ?_
    refine z_if_ne (tgt := 27) okω dX6_fault_21 (by decide) (fun cz21ω => ?_) (fun cz21ω => ?_)
    · refine z_iload_n okω dX6_fault_27 rfl ?_
      refine z_if_ne (tgt := 38) okω dX6_fault_28 (by decide) (fun cz28ω => ?_) (fun cz28ω => ?_)
      · refine z_aload_n okω dX6_fault_38 rfl ?_
        refine z_getf okω dX6_fault_39 zin_X6 rfl 5 (by decide) zw_324 hmYω.F rfl ?_
        exact z_iret okω dX6_fault_42 rfl rfl rfl (Nat.zero_le _) ⟨by obtain ⟨hb1ω, i9ω, hi9ω, hb2ω⟩ := hbadω cz21ω; unfold spFault zPx; rw [if_pos hb6ω, if_neg (fun z9ω => cz21ω (hfrω.trans z9ω))]; first | (rw [if_pos (Or.inr cz28ω)]; exact hb1ω) | (rw [if_neg (fun z9ω => z9ω.elim (fun y9ω => nI_nf hi9ω (hb2ω.symm.trans (hb1ω.trans y9ω))) cz28ω)]; exact hfrω), ⟨n, nv, no, o, fpYω, frYω, vbYω, nxYω, nuYω, hmYω⟩, hfYω⟩
      · refine z_aload_n okω dX6_fault_31 rfl ?_
        refine z_getf okω dX6_fault_32 zin_X6 rfl 4 (by decide) zw_323 hmYω.F rfl ?_
        refine z_goto (tgt := 42) okω dX6_fault_35 (by decide) ?_
        exact z_iret okω dX6_fault_42 rfl rfl rfl (Nat.zero_le _) ⟨by obtain ⟨hb1ω, i9ω, hi9ω, hb2ω⟩ := hbadω cz21ω; unfold spFault zPx; rw [if_pos hb6ω, if_neg (fun z9ω => cz21ω (hfrω.trans z9ω))]; first | (rw [if_pos (Or.inr cz28ω)]; exact hb1ω) | (rw [if_neg (fun z9ω => z9ω.elim (fun y9ω => nI_nf hi9ω (hb2ω.symm.trans (hb1ω.trans y9ω))) cz28ω)]; exact hfrω), ⟨n, nv, no, o, fpYω, frYω, vbYω, nxYω, nuYω, hmYω⟩, hfYω⟩
    · skip
      refine z_ldc okω dX6_fault_24 zw_569 ?_
      exact z_iret okω dX6_fault_26 rfl rfl rfl (Nat.zero_le _) ⟨by unfold spFault zPx; rw [if_pos hb6ω, if_pos (hfrω.symm.trans cz21ω), if_pos (Or.inl rfl)], ⟨n, nv, no, o, fpYω, frYω, vbYω, nxYω, nuYω, hmYω⟩, hfYω⟩
  · have hb6ω := b2_0.mp cz6ω
    refine z_ldc okω dX6_fault_9 zw_345 ?_
    exact z_iret okω dX6_fault_11 rfl rfl rfl (Nat.zero_le _) ⟨(if_neg hb6ω).symm, ⟨n, nv, no, o, fp, fr, vb, nxz, nums, hm⟩, zFr.rf⟩

theorem cHall.to36 {M : mM} {b : Nat} {s : Nat → Int32} {n nv no : Nat} (h : cHall M b s n nv no) : ∃ κ π, hPicP M b κ π ∧ hRel κ s n nv no ∧ zWF s n nv no := h
