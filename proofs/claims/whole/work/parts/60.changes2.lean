theorem fillS_nat {s : Nat → Int32} {n nv no : Nat} {v p r : Int32} {q : (Nat → Int32) × Int32} (h : zWF s n nv no) (hq : spFillS s n v p r = .inr q) : ∃ m, m < 65536 ∧ q.2 = nI m := by
  unfold spFillS at hq
  have hnvω := h.N.2.2.2.1
  by_cases hc : zVeh s v ∧ zW 1 4 p ∧ zW 0 2 r
  · rw [if_pos hc] at hq
    obtain ⟨uzω, huzω, huvω⟩ := zVeh_nat h.N hc.1.1 hc.1.2
    have huω : tN v = uzω := by rw [huvω]; exact tN_nI (by omega)
    rw [huω] at hq
    by_cases h0 : 0 < vd s uzω 2
    · rw [if_pos h0] at hq
      cases hq
    · rw [if_neg h0] at hq
      cases hq
      exact nI_of16 (zFill_WF (p := p) (r := r) huzω n s 0 0 h (fun iω _ => b_0 iω)).2
  · rw [if_neg hc] at hq
    cases hq
theorem ct_bitCount2 {K : zK} {M : mM} {nx m : Nat} {x : Int32} (hx : x = nI m) (hm : m < 65536) : zCt K yJ6_bitCount_0f7a4 cJ6_bitCount_0f7a4 1 zr_J6_bitCount_0f7a4 0 [.int x] M nx 0 0 (zI (fun y M' => y = zBits x 16 ∧ M' = M)) := by
  rw [hx]
  exact ct_J6_bitCount_0f7a4 hm
set_option maxRecDepth 20000 in
set_option maxHeartbeats 4000000 in
theorem ct_X6_fill {K : zK} {M : mM} {nx : Nat} {c : Nat} {s : Nat → Int32} {n nv no : Nat} {past : Nat → Int32} {p o : Nat} {fp fr : Int32} {ty : Nat} {tx : Nat → Int32} {vb nxz : Int32} {nums : Nat → Int32} (hm : cR M c s n nv no (fun j q => past (287 * j + q)) p p o fp fr ty tx vb nxz nums) {v1 p1 r1 : Int32} : zCt K yX6_fill cX6_fill 5 zr_X6_fill 4 [.ref c, .int v1, .int p1, .int r1] M nx 0 0 (zI (cPost M c s past p ty tx (spFill s n v1 p1 r1))) := by
  refine z_enter [some (.ref c), some (.int v1), some (.int p1), some (.int r1), none] (by decide +kernel) (Nat.le_of_ble_eq_true rfl) rfl (fun Bω okω hzω => ?_)
  refine z_aload_n okω dX6_fill_0 rfl ?_
  refine z_getf okω dX6_fill_1 zin_X6 rfl 2 (by decide) zw_321 hm.F rfl ?_
  refine z_aload_n okω dX6_fill_4 rfl ?_
  refine z_getf okω dX6_fill_5 zin_X6 rfl 0 (by decide) zw_319 hm.F rfl ?_
  refine z_callVv okω dX6_fill_8 zm_X2_prepare zw_346 zi_X2_prepare hm.Y rfl (ct_X2_prepare hm) rfl rfl (by decide) (by decide) (by decide) (Nat.le_of_ble_eq_true rfl) (fun Mz2ω qz3ω => ?_)
  obtain ⟨hmPω, hfPω⟩ := qz3ω
  obtain ⟨κ1ω, π1ω, hmHω, hr1ω, hw1ω⟩ := hmPω.H
  refine z_aload_n okω dX6_fill_11 rfl ?_
  refine z_aload_n okω dX6_fill_12 rfl ?_
  refine z_getf okω dX6_fill_13 zin_X6 rfl 0 (by decide) zw_319 hmPω.F rfl ?_
  refine z_iload_n okω dX6_fill_16 rfl ?_
  refine z_iload_n okω dX6_fill_17 rfl ?_
  refine z_iload_n okω dX6_fill_18 rfl ?_
  refine z_callVi okω dX6_fill_19 zm_X1_loadByRule zw_472 zi_X1_loadByRule hmHω.1 rfl (ct_X1_loadByRule hmHω hr1ω hw1ω) rfl rfl (by decide) (by decide) (by decide) (Nat.le_of_ble_eq_true rfl) (fun xz4ω Mz5ω qz6ω => ?_)
  have hkpω := qz6ω
  have hokω : zOKr (spFillS s n v1 p1 r1) := ok_fillS hw1ω
  rcases hr9 : (spFillS s n v1 p1 r1) with e9ω | q9ω
  · rw [hr9] at hkpω hokω
    obtain ⟨hx9ω, hM9ω⟩ := hkpω
    obtain rfl := hM9ω.symm
    subst hx9ω
    refine z_callVi okω dX6_fill_22 zm_X6_changed zw_382 zi_X6_changed hmPω.F rfl (ct_X6_changedN hokω) rfl rfl (by decide) (by decide) (by decide) (Nat.le_of_ble_eq_true rfl) (fun xz7ω Mz8ω qz9ω => ?_)
    obtain ⟨hxeω, hMeω⟩ := qz9ω
    obtain rfl := hMeω.symm
    rw [hxeω]
    refine z_istore okω dX6_fill_25 (by decide) rfl ?_
    refine z_iload okω dX6_fill_27 rfl ?_
    refine z_if_ge (tgt := 37) okω dX6_fill_29 (by decide) (fun q9ω => absurd q9ω (Int32.not_le.mpr hokω)) (fun _ => ?_)
    refine z_iload okω dX6_fill_32 rfl ?_
    refine z_goto (tgt := 42) okω dX6_fill_34 (by decide) ?_
    exact z_iret okω dX6_fill_42 rfl rfl rfl (Nat.zero_le _) ⟨hfPω, by rw [spFill_S, hr9]; exact ⟨rfl, n, nv, no, o, fp, fr, vb, nxz, nums, hmPω.back⟩⟩
  · rw [hr9] at hkpω hokω
    obtain ⟨hx9ω, ⟨κ9ω, π9ω, n9ω, nv9ω, no9ω, hm9ω, hrb9ω⟩, hf9ω⟩ := hkpω
    subst hx9ω
    obtain ⟨hx0ω, nw9ω, nvw9ω, now9ω, hw9ω⟩ := hokω
    have hR9ω := hmPω.hall hf9ω ⟨κ9ω, π9ω, hm9ω, hrb9ω, hw9ω.same hrb9ω.1⟩
    refine z_callVi okω dX6_fill_22 zm_X6_changed zw_382 zi_X6_changed hR9ω.F rfl (ct_X6_changedP hR9ω hx0ω) rfl rfl (by decide) (by decide) (by decide) (Nat.le_of_ble_eq_true rfl) (fun xz10ω Mz11ω qz12ω => ?_)
    obtain ⟨hxeω, hRCω, hfCω⟩ := qz12ω
    rw [hxeω]
    refine z_istore okω dX6_fill_25 (by decide) rfl ?_
    refine z_iload okω dX6_fill_27 rfl ?_
    refine z_if_ge (tgt := 37) okω dX6_fill_29 (by decide) (fun _ => ?_) (fun q9ω => absurd hx0ω q9ω)
    obtain ⟨mz9ω, hm16ω, hmeω⟩ := fillS_nat hw1ω hr9
    refine z_iload okω dX6_fill_37 rfl ?_
    refine z_callSi okω dX6_fill_39 zm_J6_bitCount_0f7a4 zw_484 zw_485 (ct_bitCount2 hmeω hm16ω) rfl rfl (by decide) (by decide) (by decide) (Nat.le_of_ble_eq_true rfl) (fun xz13ω Mz14ω qz15ω => ?_)
    obtain ⟨hbxω, hMeω⟩ := qz15ω
    obtain rfl := hMeω.symm
    rw [hbxω]
    exact z_iret okω dX6_fill_42 rfl rfl rfl (Nat.zero_le _) ⟨(hfPω.tr (hf9ω.sub (by omega) (by omega))).tr hfCω, by rw [spFill_S, hr9]; exact ⟨rfl, hRCω.past hm.B.1⟩⟩

theorem cR.dec {M M' : mM} {c : Nat} {s : Nat → Int32} {n nv no : Nat} {rows : Nat → Nat → Int32} {p o q9 : Nat} {fp fr : Int32} {ty : Nat} {tx : Nat → Int32} {vb nxz : Int32} {nums : Nat → Int32} (h : cR M c s n nv no rows p p o fp fr ty tx vb nxz nums) (hp : p = q9 + 1) (hY : M' (c + 71) = some (.inr (2, [.ref (c + 72), .int (nI o), .int (nI q9)]))) (hf : ∀ q, q ≠ c + 71 → M' q = M q) : cR M' c s n nv no rows q9 q9 o fp fr ty tx vb nxz nums := by
  have hbω := h.B
  refine cR.mk ((hf _ (by omega)).trans h.F) hY (h.A.kept (hf _ (by omega))) ((hf _ (by omega)).trans h.S) (h.C.kept (hf _ (by omega))) (h.U.kept (hf _ (by omega))) ⟨by omega, Nat.le_refl _, by omega, hbω.2.2.2⟩ (h.H.kept (fun qω h1ω h2ω => hf _ (by omega))) (h.T.kept (fun qω h1ω h2ω => hf _ (by omega))) (fun iω hiω => (h.R iω hiω).kept (fun qω h1ω h2ω => hf _ (by omega))) (fun jω hjω => (h.W jω (by omega)).kept (fun qω h1ω h2ω => hf _ (by omega)))
set_option maxRecDepth 20000 in
set_option maxHeartbeats 4000000 in
theorem ct_X2_restore {K : zK} {M : mM} {nx : Nat} {c : Nat} {s : Nat → Int32} {n nv no : Nat} {rows : Nat → Nat → Int32} {p o : Nat} {fp fr : Int32} {ty : Nat} {tx : Nat → Int32} {vb nxz : Int32} {nums : Nat → Int32} (hm : cR M c s n nv no rows p p o fp fr ty tx vb nxz nums) : zCt K yX2_restore cX2_restore 2 zr_X2_restore 3 [.ref (c + 71), .ref (c + 1)] M nx 0 0 (zI (fun x M' => (p = 0 ∧ x = -1000002 ∧ M' = M) ∨ (¬ p = 0 ∧ x = nI (p - 1) ∧ (∃ n' nv' no', cR M' c (rows (p - 1)) n' nv' no' rows (p - 1) (p - 1) o fp fr ty tx vb nxz nums) ∧ zFr M M' c 251))) := by
  refine z_enter [some (.ref (c + 71)), some (.ref (c + 1))] (by decide +kernel) (Nat.le_of_ble_eq_true rfl) rfl (fun Bω okω hzω => ?_)
  have hb5ω := hm.B
  refine z_aload_n okω dX2_restore_0 rfl ?_
  refine z_getf okω dX2_restore_1 zin_X2 rfl 2 (by decide) zw_283 hm.Y rfl ?_
  refine z_if_gt (tgt := 10) okω dX2_restore_4 (by decide) (fun cz4ω => ?_) (fun cz4ω => ?_)
  · have hp0ω : ¬ p = 0 := fun z9ω => by rw [z9ω] at cz4ω; exact absurd cz4ω (by decide)
    obtain ⟨pzω, hpzω⟩ : ∃ zω, p = zω + 1 := ⟨p - 1, by omega⟩
    have hl5ω := Nat.mod_lt (o + pzω) (show 5 > 0 by decide)
    refine z_aload_n okω dX2_restore_10 rfl ?_
    refine z_dup okω dX2_restore_11 rfl ?_
    refine z_getf okω dX2_restore_12 zin_X2 rfl 2 (by decide) zw_283 hm.Y rfl ?_
    refine z_iconst (v := 1) okω dX2_restore_15 (by decide) ?_
    refine z_isub okω dX2_restore_16 ?_
    refine z_putf (T := TX2) (N := 3) (ty := .int) okω dX2_restore_17 zin_X2 tyX2 tyX2_ok nmX2 rfl 2 (by decide) zw_283 rfl hm.Y (by decide +kernel) rfl rfl (Nat.le_of_ble_eq_true rfl) ?_
    refine zV_up (fun M17ω he17ω hu17ω => ?_)
    have hmDω := hm.dec hpzω (by rw [he17ω, hpzω, nI_pred]; rfl) hu17ω
    obtain ⟨κHω, πHω, hmHω, hrHω, hwHω⟩ := hmDω.H
    obtain ⟨nRω, nvRω, noRω, κRω, πRω, hmRω, hrRω, hwRω⟩ := hm.W pzω (by omega)
    have hmR2ω := hmRω.kept (fun q9ω h9ω h8ω => hu17ω q9ω (by omega))
    refine z_aload_n okω dX2_restore_20 rfl ?_
    refine z_aload_n okω dX2_restore_21 rfl ?_
    refine z_getf okω dX2_restore_22 zin_X2 rfl 0 (by decide) zw_281 hmDω.Y rfl ?_
    refine z_aload_n okω dX2_restore_25 rfl ?_
    refine z_getf okω dX2_restore_26 zin_X2 rfl 1 (by decide) zw_282 hmDω.Y rfl ?_
    refine z_aload_n okω dX2_restore_29 rfl ?_
    refine z_getf okω dX2_restore_30 zin_X2 rfl 2 (by decide) zw_283 hmDω.Y rfl ?_
    refine z_iadd okω dX2_restore_33 ?_
    refine z_iconst (v := 5) okω dX2_restore_34 (by decide) ?_
    refine z_irem okω dX2_restore_35 (by decide) ?_
    refine h_ldR (j := ((o + pzω) % 5)) okω dX2_restore_36 hmDω.A rfl (by rw [nI_add]; exact i5 (o + pzω) (by omega)) (by omega) (by decide) ?_
    refine z_callVv okω dX2_restore_37 zm_X1_copyFrom zw_350 zi_X1_copyFrom hmHω.1 rfl (ct_X1_copyFrom hmHω hmR2ω (by omega) hrRω) rfl rfl (by decide) (by decide) (by decide) (Nat.le_of_ble_eq_true rfl) (fun Mz2ω qz3ω => ?_)
    obtain ⟨κQω, hmQω, hrQω, hfQω⟩ := qz3ω
    have hmEω := hmDω.hall hfQω ⟨κQω, πHω, hmQω, hrQω, hwRω⟩
    refine z_aload_n okω dX2_restore_40 rfl ?_
    refine z_getf okω dX2_restore_41 zin_X2 rfl 2 (by decide) zw_283 hmEω.Y rfl ?_
    exact z_iret okω dX2_restore_44 rfl rfl rfl (Nat.zero_le _) (Or.inr ⟨hp0ω, by rw [hpzω]; rfl, ⟨nRω, nvRω, noRω, by rw [show p - 1 = pzω from by omega]; exact hmEω⟩, fun q9ω h9ω => (hfQω q9ω (by omega)).trans (hu17ω q9ω (by omega))⟩)
  · have hp0ω : p = 0 := by have h9ω := Int32.not_lt.mp cz4ω; have h8ω := Int32.le_iff_toInt_le.mp h9ω; rw [nI_toInt (by omega)] at h8ω; have e0ω : (0 : Int32).toInt = 0 := rfl; omega
    refine z_ldc okω dX2_restore_7 zw_639 ?_
    exact z_iret okω dX2_restore_9 rfl rfl rfl (Nat.zero_le _) (Or.inl ⟨hp0ω, rfl, rfl⟩)

set_option maxRecDepth 20000 in
set_option maxHeartbeats 4000000 in
theorem ct_X6_undo {K : zK} {M : mM} {nx : Nat} {c : Nat} {s : Nat → Int32} {n nv no : Nat} {past : Nat → Int32} {p o : Nat} {fp fr : Int32} {ty : Nat} {tx : Nat → Int32} {vb nxz : Int32} {nums : Nat → Int32} (hm : cR M c s n nv no (fun j q => past (287 * j + q)) p p o fp fr ty tx vb nxz nums) : zCt K yX6_undo cX6_undo 1 zr_X6_undo 4 [.ref c] M nx 0 0 (zI (fun x M' => (p = 0 ∧ x = -1000002 ∧ M' = M) ∨ (¬ p = 0 ∧ x = nI (p - 1) ∧ cPic M' c (fun j => past (287 * (p - 1) + j)) past (p - 1) ty tx ∧ zFr M M' c 251))) := by
  refine z_enter [some (.ref c)] (by decide +kernel) (Nat.le_of_ble_eq_true rfl) rfl (fun Bω okω hzω => ?_)
  refine z_aload_n okω dX6_undo_0 rfl ?_
  refine z_getf okω dX6_undo_1 zin_X6 rfl 2 (by decide) zw_321 hm.F rfl ?_
  refine z_aload_n okω dX6_undo_4 rfl ?_
  refine z_getf okω dX6_undo_5 zin_X6 rfl 0 (by decide) zw_319 hm.F rfl ?_
  refine z_callVi okω dX6_undo_8 zm_X2_restore zw_635 zi_X2_restore hm.Y rfl (ct_X2_restore hm) rfl rfl (by decide) (by decide) (by decide) (Nat.le_of_ble_eq_true rfl) (fun xz1ω Mz2ω qz3ω => ?_)
  exact z_iret okω dX6_undo_11 rfl rfl rfl (Nat.zero_le _) (by rcases qz3ω with h9ω | ⟨h9ω, h8ω, ⟨n9ω, nv9ω, no9ω, hmEω⟩, h7ω⟩; exact Or.inl h9ω; exact Or.inr ⟨h9ω, h8ω, ⟨n9ω, nv9ω, no9ω, o, fp, fr, vb, nxz, nums, hmEω⟩, h7ω⟩)

theorem nar_ch {x : Int32} (h0 : 0 ≤ x.toInt) (h1 : x.toInt < 65536) : (x.toUInt32 % 65536).toInt32 = x := by
  refine Int32.toInt_inj.mp ?_
  obtain ⟨mω, hmω, heω⟩ := nI_of (x := x) (Int32.not_lt.mpr (Int32.le_iff_toInt_le.mpr h0))
  rw [heω, nI_toInt hmω] at h1
  subst heω
  have hm2ω : mω < 65536 := by omega
  have eω : (nI mω).toUInt32 % 65536 = UInt32.ofNat mω := by
    refine UInt32.toNat_inj.mp ?_
    rw [UInt32.toNat_mod]
    show (BitVec.ofNat 32 mω).toNat % 65536 = _
    rw [BitVec.toNat_ofNat]
    show mω % 2 ^ 32 % 65536 = mω % 2 ^ 32
    rw [Nat.mod_eq_of_lt (by omega : mω < 2 ^ 32), Nat.mod_eq_of_lt hm2ω]
  rw [eω]
  rfl
theorem h_stc {K : zK} {yn : MethodName} {cc : ByteArray} {nL : Nat} {ret : Option FieldType} {d mc ms : Nat} {B : zB} {Q : State → Prop} {pc : Nat} {L : List (Option Value)} {rest : List Value} {M : mM} {k n : Nat} {a N j : Nat} {g : Nat → Int32} {i x : Int32} (ok : zOk K yn cc nL ret d mc ms B) (hd : decode cc pc = .ok (.castore, 1)) (hm : zArc M a N g) (hi : i = nI j) (hj : j < N) (hN : N < 2 ^ 31) (hx : vp_nar .char x = x) (kk : ∀ M1 : mM, zArc M1 a N (upd g j x) → (∀ q, q ≠ a → M1 q = M q) → zV nL B Q (pc + 1) L rest M1 k n) : zV nL B Q pc L (.int x :: .int i :: .ref a :: rest) M k n := by
  subst hi
  obtain ⟨fω, h1ω, h2ω⟩ := hm
  refine z_castore ok hd h1ω (vp_in_nI hj hN) ?_
  refine kk _ ⟨_, mU_s, fun qω hqω => ?_⟩ (fun qω hqω => mU_n hqω)
  rw [nI_clamp (by omega), hx]
  by_cases h9 : qω = j
  · rw [h9, upd_s, upd_s]
  · rw [upd_n _ _ h9, upd_n _ _ h9]
    exact h2ω qω hqω
theorem h_ldc {K : zK} {yn : MethodName} {cc : ByteArray} {nL : Nat} {ret : Option FieldType} {d mc ms : Nat} {B : zB} {Q : State → Prop} {pc : Nat} {L : List (Option Value)} {rest : List Value} {M : mM} {k n : Nat} {a N j : Nat} {g : Nat → Int32} {i : Int32} (ok : zOk K yn cc nL ret d mc ms B) (hd : decode cc pc = .ok (.caload, 1)) (hm : zArc M a N g) (hi : i = nI j) (hj : j < N) (hN : N < 2 ^ 31) (kk : zV nL B Q (pc + 1) L (.int (g j) :: rest) M k n) : zV nL B Q pc L (.int i :: .ref a :: rest) M k n := by
  subst hi
  obtain ⟨fω, h1ω, h2ω⟩ := hm
  refine z_caload ok hd h1ω (vp_in_nI hj hN) ?_
  rw [nI_clamp (by omega), h2ω j hj]
  exact kk
theorem cR.typed {M M' : mM} {c : Nat} {s : Nat → Int32} {n nv no : Nat} {rows : Nat → Nat → Int32} {kk p o : Nat} {fp fr : Int32} {ty ty2 : Nat} {tx tx2 : Nat → Int32} {vb nxz vb2 nx2 : Int32} {nums nu2 : Nat → Int32} (h : cR M c s n nv no rows kk p o fp fr ty tx vb nxz nums) (hS : M' (c + 248) = some (.inr (4, [.ref (c + 249), .ref (c + 250), .int (nI ty2), .int vb2, .int nx2]))) (hC : zArc M' (c + 249) 80 tx2) (hU : zArr M' (c + 250) 5 nu2) (h80 : ty2 ≤ 80) (hf : zFr M M' (c + 248) 3) : cR M' c s n nv no rows kk p o fp fr ty2 tx2 vb2 nx2 nu2 := by
  have hbω := h.B
  refine cR.mk ((hf _ (by omega)).trans h.F) ((hf _ (by omega)).trans h.Y) (h.A.kept (hf _ (by omega))) hS hC hU ⟨hbω.1, hbω.2.1, hbω.2.2.1, hbω.2.2.2.1, h80⟩ (h.H.kept (fun qω h1ω h2ω => hf _ (by omega))) (h.T.kept (fun qω h1ω h2ω => hf _ (by omega))) (fun iω hiω => (h.R iω hiω).kept (fun qω h1ω h2ω => hf _ (by omega))) (fun jω hjω => (h.W jω hjω).kept (fun qω h1ω h2ω => hf _ (by have := Nat.mod_lt (o + jω) (show 5 > 0 by decide); omega)))
set_option maxRecDepth 20000 in
set_option maxHeartbeats 4000000 in
theorem ct_X4_append {K : zK} {M : mM} {nx : Nat} {c : Nat} {s : Nat → Int32} {n nv no : Nat} {rows : Nat → Nat → Int32} {kk p o : Nat} {fp fr : Int32} {ty : Nat} {tx : Nat → Int32} {vb nxz : Int32} {nums : Nat → Int32} (hm : cR M c s n nv no rows kk p o fp fr ty tx vb nxz nums) {ch : Int32} (hch : zW 32 126 ch) : zCt K yX4_append cX4_append 2 zr_X4_append 0 [.ref (c + 248), .int ch] M nx 0 0 (zI (fun x M' => (ty = 80 ∧ x = -1000003 ∧ M' = M) ∨ (¬ ty = 80 ∧ x = nI (ty + 1) ∧ cR M' c s n nv no rows kk p o fp fr (ty + 1) (upd tx ty ch) vb nxz nums ∧ zFr M M' c 251))) := by
  refine z_enter [some (.ref (c + 248)), some (.int ch)] (by decide +kernel) (Nat.le_of_ble_eq_true rfl) rfl (fun Bω okω hzω => ?_)
  have hb5ω := hm.B
  have c1ω := Int32.le_iff_toInt_le.mp hch.1
  have c2ω := Int32.le_iff_toInt_le.mp hch.2
  have e32ω : (32 : Int32).toInt = 32 := rfl
  have e126ω : (126 : Int32).toInt = 126 := rfl
  refine z_aload_n okω dX4_append_0 rfl ?_
  refine z_getf okω dX4_append_1 zin_X4 rfl 2 (by decide) zw_301 hm.S rfl ?_
  refine z_bipush (v := 80) okω dX4_append_4 (by decide) ?_
  refine z_icmp_lt (tgt := 12) okω dX4_append_6 (by decide) (fun cz6ω => ?_) (fun cz6ω => ?_)
  · have h80ω : ty < 80 := by have h9ω := Int32.lt_iff_toInt_lt.mp cz6ω; rw [nI_toInt (by omega)] at h9ω; have e4ω : (80 : Int32).toInt = 80 := rfl; omega
    refine z_aload_n okω dX4_append_12 rfl ?_
    refine z_getf okω dX4_append_13 zin_X4 rfl 0 (by decide) zw_298 hm.S rfl ?_
    refine z_aload_n okω dX4_append_16 rfl ?_
    refine z_getf okω dX4_append_17 zin_X4 rfl 2 (by decide) zw_301 hm.S rfl ?_
    refine z_iload_n okω dX4_append_20 rfl ?_
    refine h_stc okω dX4_append_21 hm.C rfl h80ω (by decide) (nar_ch (x := ch) (by omega) (by omega)) (fun M21ω hc21ω hu21ω => ?_)
    have hS21ω := (hu21ω _ (by omega)).trans hm.S
    refine z_aload_n okω dX4_append_22 rfl ?_
    refine z_dup okω dX4_append_23 rfl ?_
    refine z_getf okω dX4_append_24 zin_X4 rfl 2 (by decide) zw_301 hS21ω rfl ?_
    refine z_iconst (v := 1) okω dX4_append_27 (by decide) ?_
    refine z_iadd okω dX4_append_28 ?_
    refine z_putf (T := TX4) (N := 5) (ty := .int) okω dX4_append_29 zin_X4 tyX4 tyX4_ok nmX4 rfl 2 (by decide) zw_301 rfl hS21ω (by decide +kernel) rfl rfl (Nat.le_of_ble_eq_true rfl) ?_
    refine zV_up (fun M29ω he29ω hu29ω => ?_)
    have hmEω := hm.typed (M' := M29ω) (ty2 := ty + 1) (he29ω.trans (by rw [← nI_1]; rfl)) (hc21ω.kept (hu29ω _ (by omega))) (hm.U.kept ((hu29ω _ (by omega)).trans (hu21ω _ (by omega)))) (by omega) (fun q9ω h9ω => (hu29ω q9ω (by omega)).trans (hu21ω q9ω (by omega)))
    refine z_aload_n okω dX4_append_32 rfl ?_
    refine z_getf okω dX4_append_33 zin_X4 rfl 2 (by decide) zw_301 hmEω.S rfl ?_
    exact z_iret okω dX4_append_36 rfl rfl rfl (Nat.zero_le _) (Or.inr ⟨by omega, rfl, hmEω, fun q9ω h9ω => (hu29ω q9ω (by omega)).trans (hu21ω q9ω (by omega))⟩)
  · have h80ω : ty = 80 := by have h9ω := mt Int32.lt_iff_toInt_lt.mpr cz6ω; rw [nI_toInt (by omega)] at h9ω; have e4ω : (80 : Int32).toInt = 80 := rfl; omega
    refine z_ldc okω dX4_append_9 zw_648 ?_
    exact z_iret okω dX4_append_11 rfl rfl rfl (Nat.zero_le _) (Or.inl ⟨h80ω, rfl, rfl⟩)

set_option maxRecDepth 20000 in
set_option maxHeartbeats 4000000 in
theorem ct_X6_type {K : zK} {M : mM} {nx : Nat} {c : Nat} {s : Nat → Int32} {n nv no : Nat} {past : Nat → Int32} {p o : Nat} {fp fr : Int32} {ty : Nat} {tx : Nat → Int32} {vb nxz : Int32} {nums : Nat → Int32} (hm : cR M c s n nv no (fun j q => past (287 * j + q)) p p o fp fr ty tx vb nxz nums) {ch : Int32} : zCt K yX6_type cX6_type 2 zr_X6_type 1 [.ref c, .int ch] M nx 0 0 (zI (fun x M' => (¬ zW 32 126 ch ∧ x = -1000001 ∧ M' = M) ∨ (zW 32 126 ch ∧ ty = 80 ∧ x = -1000003 ∧ M' = M) ∨ (zW 32 126 ch ∧ ¬ ty = 80 ∧ x = nI (ty + 1) ∧ cPic M' c s past p (ty + 1) (upd tx ty ch) ∧ zFr M M' c 251))) := by
  refine z_enter [some (.ref c), some (.int ch)] (by decide +kernel) (Nat.le_of_ble_eq_true rfl) rfl (fun Bω okω hzω => ?_)
  refine z_iload_n okω dX6_type_0 rfl ?_
  refine z_bipush (v := 32) okω dX6_type_1 (by decide) ?_
  refine z_bipush (v := 126) okω dX6_type_3 (by decide) ?_
  refine z_callSi okω dX6_type_5 zm_X6_isWithin zw_342 zw_343 (ct_X6_isWithin) rfl rfl (by decide) (by decide) (by decide) (Nat.le_of_ble_eq_true rfl) (fun xz1ω Mz2ω qz3ω => ?_)
  obtain ⟨rfl, hMeω⟩ := qz3ω
  obtain rfl := hMeω.symm
  refine z_if_ne (tgt := 14) okω dX6_type_8 (by decide) (fun cz8ω => ?_) (fun cz8ω => ?_)
  · have hb8ω := Decidable.not_not.mp (mt b2_0.mpr cz8ω)
    refine z_aload_n okω dX6_type_14 rfl ?_
    refine z_getf okω dX6_type_15 zin_X6 rfl 3 (by decide) zw_322 hm.F rfl ?_
    refine z_iload_n okω dX6_type_18 rfl ?_
    refine z_i2c okω dX6_type_19 ?_
    have c1ω := Int32.le_iff_toInt_le.mp hb8ω.1
    have c2ω := Int32.le_iff_toInt_le.mp hb8ω.2
    have e32ω : (32 : Int32).toInt = 32 := rfl
    have e126ω : (126 : Int32).toInt = 126 := rfl
    rw [nar_ch (x := ch) (by omega) (by omega)]
    refine z_callVi okω dX6_type_20 zm_X4_append zw_644 zi_X4_append hm.S rfl (ct_X4_append hm hb8ω) rfl rfl (by decide) (by decide) (by decide) (Nat.le_of_ble_eq_true rfl) (fun xz4ω Mz5ω qz6ω => ?_)
    have hqaω := qz6ω
    exact z_iret okω dX6_type_23 rfl rfl rfl (Nat.zero_le _) (Or.inr (by rcases hqaω with ⟨h9ω, h8ω, h7ω⟩ | ⟨h9ω, h8ω, h7ω, h6ω⟩; exact Or.inl ⟨hb8ω, h9ω, h8ω, h7ω⟩; exact Or.inr ⟨hb8ω, h9ω, h8ω, ⟨n, nv, no, o, fp, fr, vb, nxz, nums, h7ω⟩, h6ω⟩))
  · have hb8ω := b2_0.mp cz8ω
    refine z_ldc okω dX6_type_11 zw_345 ?_
    exact z_iret okω dX6_type_13 rfl rfl rfl (Nat.zero_le _) (Or.inl ⟨hb8ω, rfl, rfl⟩)

set_option maxRecDepth 20000 in
set_option maxHeartbeats 4000000 in
theorem ct_X6_clearText {K : zK} {M : mM} {nx : Nat} {c : Nat} {s : Nat → Int32} {n nv no : Nat} {past : Nat → Int32} {p o : Nat} {fp fr : Int32} {ty : Nat} {tx : Nat → Int32} {vb nxz : Int32} {nums : Nat → Int32} (hm : cR M c s n nv no (fun j q => past (287 * j + q)) p p o fp fr ty tx vb nxz nums) : zCt K yX6_clearText cX6_clearText 2 zr_X6_clearText 0 [.ref c] M nx 0 0 (zI (fun x M' => x = nI ty ∧ cPic M' c s past p 0 tx ∧ zFr M M' c 251)) := by
  refine z_enter [some (.ref c), none] (by decide +kernel) (Nat.le_of_ble_eq_true rfl) rfl (fun Bω okω hzω => ?_)
  refine z_aload_n okω dX6_clearText_0 rfl ?_
  refine z_getf okω dX6_clearText_1 zin_X6 rfl 3 (by decide) zw_322 hm.F rfl ?_
  refine z_getf okω dX6_clearText_4 zin_X4 rfl 2 (by decide) zw_302 hm.S rfl ?_
  refine z_istore_n okω dX6_clearText_7 (by decide) rfl ?_
  refine z_aload_n okω dX6_clearText_8 rfl ?_
  refine z_getf okω dX6_clearText_9 zin_X6 rfl 3 (by decide) zw_322 hm.F rfl ?_
  refine z_iconst (v := 0) okω dX6_clearText_12 (by decide) ?_
  refine z_putf (T := TX4) (N := 5) (ty := .int) okω dX6_clearText_13 zin_X4 tyX4 tyX4_ok nmX4 rfl 2 (by decide) zw_302 rfl hm.S (by decide +kernel) rfl rfl (Nat.le_of_ble_eq_true rfl) ?_
  refine zV_up (fun M13ω he13ω hu13ω => ?_)
  refine z_iload_n okω dX6_clearText_16 rfl ?_
  exact z_iret okω dX6_clearText_17 rfl rfl rfl (Nat.zero_le _) ⟨rfl, ⟨n, nv, no, o, fp, fr, vb, nxz, nums, hm.typed (ty2 := 0) he13ω (hm.C.kept (hu13ω _ (by omega))) (hm.U.kept (hu13ω _ (by omega))) (by omega) (fun q9ω h9ω => hu13ω q9ω (by omega))⟩, fun q9ω h9ω => hu13ω q9ω (by omega)⟩

