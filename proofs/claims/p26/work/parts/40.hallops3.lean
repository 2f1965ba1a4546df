theorem z_mmax {K : zK} {yn : MethodName} {cc : ByteArray} {nL : Nat} {ret : Option FieldType} {d mc ms : Nat} {B : zB} {Q : State → Prop} {pc : Nat} {L : List (Option Value)} {rest : List Value} {M : mM} {k n : Nat} {ix : Nat} {x y : Int32} (ok : zOk K yn cc nL ret d mc ms B) (hd : decode cc pc = .ok (.invokestatic ix, 3)) (hw : Cond.methodLink yn.cls ix Lib.Math.max.name ∈ zgw) (hw2 : Cond.static Lib.Math.max.name ∈ zgw) (hw3 : Cond.initialized "java/lang/Math" ∈ zgw) (hw4 : Cond.code Lib.Math.max.name Lib.Math.max.code 2 (some .int) ∈ zgw) (hd1 : 1 ≤ d) (hcat : (rest.map fun v => v.category).sum ≤ 8) (hkk : k ≤ mc) (hnn : n ≤ ms)
    (kk : zV nL B Q (pc + 3) L (.int (if x < y then y else x) :: rest) M k n) : zV nL B Q pc L (.int y :: .int x :: rest) M k n := by
  obtain ⟨p, l, e, R, s, m, args, below, meth, c, D, E, A⟩ := B
  obtain ⟨⟨hx, hb, hml, hr, hown⟩, hts, hlocks, hK, hA, hnm, hR, hF, hT⟩ := ok
  intro H ls locs hl hM hz hS
  exact va_mmax hx hb (by rw [hml]; exact hl.1.symm) hown (hts _ hw) (hts _ hw2) (hts _ hw3) (hts _ hw4) (Nat.le_trans hd1 hR.1) (by have h2 := hR.2.1; omega) (Nat.le_trans hkk hR.2.2.1) (Nat.le_trans hnn hR.2.2.2) hd (kk H ls locs hl hM hz hS)
theorem z_mmin {K : zK} {yn : MethodName} {cc : ByteArray} {nL : Nat} {ret : Option FieldType} {d mc ms : Nat} {B : zB} {Q : State → Prop} {pc : Nat} {L : List (Option Value)} {rest : List Value} {M : mM} {k n : Nat} {ix : Nat} {x y : Int32} (ok : zOk K yn cc nL ret d mc ms B) (hd : decode cc pc = .ok (.invokestatic ix, 3)) (hw : Cond.methodLink yn.cls ix Lib.Math.min.name ∈ zgw) (hw2 : Cond.static Lib.Math.min.name ∈ zgw) (hw3 : Cond.initialized "java/lang/Math" ∈ zgw) (hw4 : Cond.code Lib.Math.min.name Lib.Math.min.code 2 (some .int) ∈ zgw) (hd1 : 1 ≤ d) (hcat : (rest.map fun v => v.category).sum ≤ 8) (hkk : k ≤ mc) (hnn : n ≤ ms)
    (kk : zV nL B Q (pc + 3) L (.int (if y < x then y else x) :: rest) M k n) : zV nL B Q pc L (.int y :: .int x :: rest) M k n := by
  obtain ⟨p, l, e, R, s, m, args, below, meth, c, D, E, A⟩ := B
  obtain ⟨⟨hx, hb, hml, hr, hown⟩, hts, hlocks, hK, hA, hnm, hR, hF, hT⟩ := ok
  intro H ls locs hl hM hz hS
  exact va_mmin hx hb (by rw [hml]; exact hl.1.symm) hown (hts _ hw) (hts _ hw2) (hts _ hw3) (hts _ hw4) (Nat.le_trans hd1 hR.1) (by have h2 := hR.2.1; omega) (Nat.le_trans hkk hR.2.2.1) (Nat.le_trans hnn hR.2.2.2) hd (kk H ls locs hl hM hz hS)
/-- only scalars differ (time, coins, counts) -/
theorem hRel.setS {κ κ' : hK} {s s' : Nat → Int32} {n nv no : Nat} (h : hRel κ s n nv no) (hκ : ∀ a j, ¬ (a = 4 ∧ j = 0) → κ' a j = κ a j) (hs : ∀ q, (q < 5 ∨ q = 6 ∨ 13 ≤ q) → s' q = s q) (hv : κ' 4 0 4 = κ 4 0 4 ∧ κ' 4 0 5 = κ 4 0 5 ∧ κ' 4 0 6 = κ 4 0 6 ∧ κ' 4 0 7 = s' 5 ∧ κ' 4 0 8 = s' 9 ∧ κ' 4 0 9 = s' 10 ∧ κ' 4 0 10 = s' 11 ∧ κ' 4 0 11 = s' 12) : hRel κ' s' n nv no := by
  obtain ⟨h1, h2, h3, h4, h5, h6⟩ := h
  have hn := h1.2.1
  refine ⟨zN_cong h1 (hs _ (by omega)) (hs _ (by omega)) (hs _ (by omega)), ?_, fun j hj => ?_, fun j hj => ?_, fun j hj => ?_, fun j hj k hk => ?_⟩
  · rw [hs 3 (by omega), hs 4 (by omega), hs 6 (by omega)]
    exact ⟨hv.1.trans h2.1, hv.2.1.trans h2.2.1, hv.2.2.1.trans h2.2.2.1, hv.2.2.2⟩
  · rw [hκ 3 0 (by omega), hs j (by omega)]
    exact h3 j hj
  · rw [hκ 0 j (by omega)]
    have hg : ∀ k, k < 12 → gd s' j k = gd s j k := fun k hk => hs _ (by omega)
    have h9 := h4 j hj
    unfold kC at h9 ⊢
    rw [hg 0 (by decide), hg 1 (by decide), hg 2 (by decide), hg 3 (by decide), hg 4 (by decide), hg 5 (by decide), hg 6 (by decide), hg 7 (by decide), hg 8 (by decide), hg 9 (by decide), hg 10 (by decide), hg 11 (by decide)]
    exact h9
  · rw [hκ 1 j (by omega)]
    have hg : ∀ k, k < 8 → vd s' j k = vd s j k := fun k hk => hs _ (by omega)
    have h9 := h5 j hj
    unfold kV at h9 ⊢
    rw [hg 0 (by decide), hg 1 (by decide), hg 2 (by decide), hg 3 (by decide), hg 4 (by decide), hg 5 (by decide), hg 6 (by decide), hg 7 (by decide)]
    exact h9
  · rw [hκ 2 j (by omega)]
    exact (h6 j hj k hk).trans (hs _ (by omega)).symm
/-- vehicle i and scalars differ -/
theorem hRel.setVS {κ κ' : hK} {s s' : Nat → Int32} {n nv no i : Nat} (h : hRel κ s n nv no) (hi : i < nv) (hκ : ∀ a j, ¬ (a = 1 ∧ j = i) → ¬ (a = 4 ∧ j = 0) → κ' a j = κ a j) (hs : ∀ q, (q < 5 ∨ q = 6 ∨ 13 ≤ q) → (q < 205 + 8 * i ∨ 205 + 8 * i + 8 ≤ q) → s' q = s q) (hv : κ' 4 0 4 = κ 4 0 4 ∧ κ' 4 0 5 = κ 4 0 5 ∧ κ' 4 0 6 = κ 4 0 6 ∧ κ' 4 0 7 = s' 5 ∧ κ' 4 0 8 = s' 9 ∧ κ' 4 0 9 = s' 10 ∧ κ' 4 0 10 = s' 11 ∧ κ' 4 0 11 = s' 12) (hc : kV (κ' 1 i) (vd s' i)) : hRel κ' s' n nv no := by
  obtain ⟨h1, h2, h3, h4, h5, h6⟩ := h
  have hn := h1.2.1
  have hn4 := h1.2.2.2.1
  refine ⟨zN_cong h1 (hs _ (by omega) (by omega)) (hs _ (by omega) (by omega)) (hs _ (by omega) (by omega)), ?_, fun j hj => ?_, fun j hj => ?_, fun j hj => ?_, fun j hj k hk => ?_⟩
  · rw [hs 3 (by omega) (by omega), hs 4 (by omega) (by omega), hs 6 (by omega) (by omega)]
    exact ⟨hv.1.trans h2.1, hv.2.1.trans h2.2.1, hv.2.2.1.trans h2.2.2.1, hv.2.2.2⟩
  · rw [hκ 3 0 (by omega) (by omega), hs j (by omega) (by omega)]
    exact h3 j hj
  · rw [hκ 0 j (by omega) (by omega)]
    have hg : ∀ k, k < 12 → gd s' j k = gd s j k := fun k hk => hs _ (by omega) (by omega)
    have h9 := h4 j hj
    unfold kC at h9 ⊢
    rw [hg 0 (by decide), hg 1 (by decide), hg 2 (by decide), hg 3 (by decide), hg 4 (by decide), hg 5 (by decide), hg 6 (by decide), hg 7 (by decide), hg 8 (by decide), hg 9 (by decide), hg 10 (by decide), hg 11 (by decide)]
    exact h9
  · by_cases hji : j = i
    · rw [hji]
      exact hc
    · rw [hκ 1 j (by omega) (by omega)]
      have hg : ∀ k, k < 8 → vd s' j k = vd s j k := fun k hk => hs _ (by omega) (by omega)
      have h9 := h5 j hj
      unfold kV at h9 ⊢
      rw [hg 0 (by decide), hg 1 (by decide), hg 2 (by decide), hg 3 (by decide), hg 4 (by decide), hg 5 (by decide), hg 6 (by decide), hg 7 (by decide)]
      exact h9
  · rw [hκ 2 j (by omega) (by omega)]
    exact (h6 j hj k hk).trans (hs _ (by omega) (by omega)).symm
/-- consignment i and scalars differ -/
theorem hRel.setCS {κ κ' : hK} {s s' : Nat → Int32} {n nv no i : Nat} (h : hRel κ s n nv no) (hi : i < n) (hκ : ∀ a j, ¬ (a = 0 ∧ j = i) → ¬ (a = 4 ∧ j = 0) → κ' a j = κ a j) (hs : ∀ q, (q < 5 ∨ q = 6 ∨ 13 ≤ q) → (q < 13 + 12 * i ∨ 13 + 12 * i + 12 ≤ q) → s' q = s q) (hv : κ' 4 0 4 = κ 4 0 4 ∧ κ' 4 0 5 = κ 4 0 5 ∧ κ' 4 0 6 = κ 4 0 6 ∧ κ' 4 0 7 = s' 5 ∧ κ' 4 0 8 = s' 9 ∧ κ' 4 0 9 = s' 10 ∧ κ' 4 0 10 = s' 11 ∧ κ' 4 0 11 = s' 12) (hc : kC (κ' 0 i) (gd s' i)) : hRel κ' s' n nv no := by
  obtain ⟨h1, h2, h3, h4, h5, h6⟩ := h
  have hn := h1.2.1
  have hn4 := h1.2.2.2.1
  refine ⟨zN_cong h1 (hs _ (by omega) (by omega)) (hs _ (by omega) (by omega)) (hs _ (by omega) (by omega)), ?_, fun j hj => ?_, fun j hj => ?_, fun j hj => ?_, fun j hj k hk => ?_⟩
  · rw [hs 3 (by omega) (by omega), hs 4 (by omega) (by omega), hs 6 (by omega) (by omega)]
    exact ⟨hv.1.trans h2.1, hv.2.1.trans h2.2.1, hv.2.2.1.trans h2.2.2.1, hv.2.2.2⟩
  · rw [hκ 3 0 (by omega) (by omega), hs j (by omega) (by omega)]
    exact h3 j hj
  · by_cases hji : j = i
    · rw [hji]
      exact hc
    · rw [hκ 0 j (by omega) (by omega)]
      have hg : ∀ k, k < 12 → gd s' j k = gd s j k := fun k hk => hs _ (by omega) (by omega)
      have h9 := h4 j hj
      unfold kC at h9 ⊢
      rw [hg 0 (by decide), hg 1 (by decide), hg 2 (by decide), hg 3 (by decide), hg 4 (by decide), hg 5 (by decide), hg 6 (by decide), hg 7 (by decide), hg 8 (by decide), hg 9 (by decide), hg 10 (by decide), hg 11 (by decide)]
      exact h9
  · rw [hκ 1 j (by omega) (by omega)]
    have hg : ∀ k, k < 8 → vd s' j k = vd s j k := fun k hk => hs _ (by omega) (by omega)
    have h9 := h5 j hj
    unfold kV at h9 ⊢
    rw [hg 0 (by decide), hg 1 (by decide), hg 2 (by decide), hg 3 (by decide), hg 4 (by decide), hg 5 (by decide), hg 6 (by decide), hg 7 (by decide)]
    exact h9
  · rw [hκ 2 j (by omega) (by omega)]
    exact (h6 j hj k hk).trans (hs _ (by omega) (by omega)).symm
theorem zFee_o {s : Nat → Int32} {q : Nat} (h : q ≠ 11) : ∀ c, zFee s c q = s q
  | 0 => rfl
  | c + 1 => by rw [zFee, upd_n _ _ h]; exact zFee_o h c
theorem zFee_S0 {s : Nat → Int32} {n i : Nat} (h : zS0 s n) : zS0 (zFee s i) n := fun j hj => by
  unfold gd
  rw [zFee_o (by omega)]
  exact h j hj
set_option maxRecDepth 20000 in
set_option maxHeartbeats 4000000 in
theorem ct_X1_payFees {K : zK} {M : mM} {nx : Nat} {b : Nat} {κ : hK} {π : Nat → Nat} (hm : hPicP M b κ π) {s : Nat → Int32} {n nv no : Nat} (hr : hRel κ s n nv no) (h0 : zS0 s n) : zCt K yX1_payFees cX1_payFees 3 zr_X1_payFees 1 [.ref b] M nx 0 0 (zU (fun M' => ∃ κ', hPicP M' b κ' π ∧ hRel κ' (zFee s n) n nv no ∧ zFr M M' b 35)) := by
  refine z_enter [some (.ref b), none, none] (by decide +kernel) (Nat.le_of_ble_eq_true rfl) rfl (fun B ok hz => ?_)
  have hmd := hr.made
  have hn16 := hr.1.2.1
  refine z_iconst (v := 0) ok dX1_payFees_0 (by decide) ?_
  refine z_istore_n ok dX1_payFees_1 (by decide) rfl ?_
  have loop2 : ∀ (t i : Nat) (M1 : mM) (κ1 : hK) (vzq2 : Option Value), n < i + t → i ≤ n → hPicP M1 b κ1 π → hRel κ1 (zFee s i) n nv no → zFr M M1 b 35 → zV 3 B (zE B (zU (fun M' => ∃ κ', hPicP M' b κ' π ∧ hRel κ' (zFee s n) n nv no ∧ zFr M M' b 35)) 0 0) 2 [some (.ref b), some (.int (nI i)), vzq2] [] M1 0 0 := by
    intro t
    induction t with
    | zero => intro i M1 κ1 vzq2 h1 h2; exact absurd h1 (by omega)
    | succ t ih =>
      intro i M1 κ1 vzq2 h1 h2 hm1 hr1 hf1
      have hmd := hr1.made
      have h01 : zS0 (zFee s i) n := zFee_S0 h0
      refine z_iload_n ok dX1_payFees_2 rfl ?_
      refine z_aload_n ok dX1_payFees_3 rfl ?_
      refine z_getf ok dX1_payFees_4 zin_X1 rfl 4 (by decide) zw_192 hm1.1 rfl ?_
      refine z_icmp_ge (tgt := 67) ok dX1_payFees_7 (by decide) (fun cz7 => ?_) (fun cz7 => ?_)
      · have hin : i = n := by rw [hmd, nI_leI (by omega) (by omega)] at cz7; omega
        rw [hin] at hr1
        exact z_vret ok dX1_payFees_67 rfl rfl (Nat.zero_le _) ⟨_, hm1, hr1, hf1⟩
      · have hin : i < n := by rw [hmd, nI_leI (by omega) (by omega)] at cz7; omega
        refine z_aload_n ok dX1_payFees_10 rfl ?_
        refine z_getf ok dX1_payFees_11 zin_X1 rfl 0 (by decide) zw_186 hm1.1 rfl ?_
        refine z_iload_n ok dX1_payFees_14 rfl ?_
        refine h_ldC (j := i) ok dX1_payFees_15 hm1 rfl (by omega) ?_
        refine z_astore_n ok dX1_payFees_16 (by decide) rfl ?_
        refine z_aload_n ok dX1_payFees_17 rfl ?_
        refine z_callVi ok dX1_payFees_18 zm_X0_isInHall zw_308 zi_X0_isInHall (hm1.2.2.2.2.1 i (by omega)).1 rfl (ct_isHere2 hm1 hr1 h01 hin) rfl rfl (by decide) (by decide) (by decide) (Nat.le_of_ble_eq_true rfl) (fun xz1 Mz2 qz3 => ?_)
        obtain ⟨rfl, hMe⟩ := qz3
        obtain rfl := hMe.symm
        refine z_if_eq (tgt := 61) ok dX1_payFees_21 (by decide) (fun cz21 => ?_) (fun cz21 => ?_)
        · have hb0 := b2_0.mp cz21
          have hb : ¬ (zHere (zFee s i) i ∧ zFee s i 1 < zFee s i 5 - gd (zFee s i) i 10) := fun z9 => hb0 z9.1
          refine z_iinc ok dX1_payFees_61 rfl (zinc _) (by decide) rfl ?_
          refine z_goto (tgt := 2) ok dX1_payFees_64 (by decide) ?_
          first | exact ih (i + 1) _ _ _ (by omega) (by omega) hm1 (by rw [zFee_f hb]; exact hr1.setS (fun _ _ _ => rfl) (fun q9 h9 => upd_n _ _ (by omega)) (by have h9 := hr1.2.1; simp [kU, upd, h9])) hf1 | exact ih (i + 1) _ _ _ (by omega) (by omega) hm1 (by rw [zFee_t hb]; exact hr1.setS (fun _ _ h9 => kU_o (by omega)) (fun q9 h9 => upd_n _ _ (by omega)) (by have h9 := hr1.2.1; simp [kU, upd, h9, hsz9])) (by repeat (first | assumption | exact zFr.rf | refine zFr.tr (by assumption) ?_))
        · have hb0 := Decidable.not_not.mp (mt b2_0.mpr cz21)
          have hcc := hr1.c hin
          have hts := hr1.2.2.1 1 (by decide)
          have hsz9 := hcc.2.1
          refine z_aload_n ok dX1_payFees_24 rfl ?_
          refine z_getf ok dX1_payFees_25 zin_X1 rfl 7 (by decide) zw_198 hm1.1 rfl ?_
          refine z_aload_n ok dX1_payFees_28 rfl ?_
          refine z_getf ok dX1_payFees_29 zin_X0 rfl 8 (by decide) zw_63 (hm1.2.2.2.2.1 i (by omega)).1 rfl ?_
          refine z_isub ok dX1_payFees_32 ?_
          refine z_aload_n ok dX1_payFees_33 rfl ?_
          refine z_getf ok dX1_payFees_34 zin_X1 rfl 3 (by decide) zw_190 hm1.1 rfl ?_
          refine z_iconst (v := 1) ok dX1_payFees_37 (by decide) ?_
          refine h_ldT ok dX1_payFees_38 hm1 rfl (by decide) ?_
          rw [hr1.tm, hcc.2.2.2.2.2.2.2.1, hts]
          refine z_icmp_le (tgt := 61) ok dX1_payFees_39 (by decide) (fun cz39 => ?_) (fun cz39 => ?_)
          · have hb : ¬ (zHere (zFee s i) i ∧ zFee s i 1 < zFee s i 5 - gd (zFee s i) i 10) := fun z9 => absurd z9.2 (Int32.not_lt.mpr cz39)
            refine z_iinc ok dX1_payFees_61 rfl (zinc _) (by decide) rfl ?_
            refine z_goto (tgt := 2) ok dX1_payFees_64 (by decide) ?_
            first | exact ih (i + 1) _ _ _ (by omega) (by omega) hm1 (by rw [zFee_f hb]; exact hr1.setS (fun _ _ _ => rfl) (fun q9 h9 => upd_n _ _ (by omega)) (by have h9 := hr1.2.1; simp [kU, upd, h9])) hf1 | exact ih (i + 1) _ _ _ (by omega) (by omega) hm1 (by rw [zFee_t hb]; exact hr1.setS (fun _ _ h9 => kU_o (by omega)) (fun q9 h9 => upd_n _ _ (by omega)) (by have h9 := hr1.2.1; simp [kU, upd, h9, hsz9])) (by repeat (first | assumption | exact zFr.rf | refine zFr.tr (by assumption) ?_))
          · have hb : (zHere (zFee s i) i ∧ zFee s i 1 < zFee s i 5 - gd (zFee s i) i 10) := ⟨hb0, i_nle cz39⟩
            refine z_aload_n ok dX1_payFees_42 rfl ?_
            refine z_dup ok dX1_payFees_43 rfl ?_
            refine z_getf ok dX1_payFees_44 zin_X1 rfl 10 (by decide) zw_204 hm1.1 rfl ?_
            refine z_aload_n ok dX1_payFees_47 rfl ?_
            refine z_getf ok dX1_payFees_48 zin_X0 rfl 2 (by decide) zw_45 (hm1.2.2.2.2.1 i (by omega)).1 rfl ?_
            refine z_bipush (v := 9) ok dX1_payFees_51 (by decide) ?_
            refine z_iadd ok dX1_payFees_53 ?_
            refine z_bipush (v := 10) ok dX1_payFees_54 (by decide) ?_
            refine z_idiv ok dX1_payFees_56 (by decide) ?_
            refine z_iadd ok dX1_payFees_57 ?_
            refine h_putH10 ok dX1_payFees_58 zw_204 hm1 (fun Mz5 hm4 frz6 => ?_)
            refine z_iinc ok dX1_payFees_61 rfl (zinc _) (by decide) rfl ?_
            refine z_goto (tgt := 2) ok dX1_payFees_64 (by decide) ?_
            first | exact ih (i + 1) _ _ _ (by omega) (by omega) hm4 (by rw [zFee_f hb]; exact hr1.setS (fun _ _ _ => rfl) (fun q9 h9 => upd_n _ _ (by omega)) (by have h9 := hr1.2.1; simp [kU, upd, h9])) hf1 | exact ih (i + 1) _ _ _ (by omega) (by omega) hm4 (by rw [zFee_t hb]; exact hr1.setS (fun _ _ h9 => kU_o (by omega)) (fun q9 h9 => upd_n _ _ (by omega)) (by have h9 := hr1.2.1; simp [kU, upd, h9, hsz9])) (by repeat (first | assumption | exact zFr.rf | refine zFr.tr (by assumption) ?_))
  exact loop2 (n + 1) 0 _ _ _ (by omega) (by omega) hm hr (by repeat (first | assumption | exact zFr.rf | refine zFr.tr (by assumption) ?_))


