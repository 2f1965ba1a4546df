theorem zinc2 (i : Nat) : nI i + Int32.ofInt 1 = nI (i + 1) := nI_1 i
theorem l_slen {K : zK} {yn : MethodName} {cc : ByteArray} {nL : Nat} {ret : Option FieldType} {d mc ms : Nat} {B : zB} {Q : State → Prop} {pc : Nat} {L : List (Option Value)} {rest : List Value} {M : mM} {k n : Nat} (ok : zOk K yn cc nL ret d mc ms B) (hd : decode cc pc = .ok (.arraylength, 1))
    (kk : zV nL B Q (pc + 1) L (.int (Int32.ofNat (K.1 1)) :: rest) M k n) : zV nL B Q pc L (.ref (K.1 0) :: rest) M k n := by
  obtain ⟨pω, lω, eω, Rω, sω, mω, argsω, belowω, methω, cω, Dω, Eω, Aω⟩ := B
  obtain ⟨⟨hxω, hbω, hmlω, hrω, hownω⟩, htsω, hlocksω, hK, hAω, hnmω, hRω, hFω, hTω⟩ := ok
  intro Hω lsω locsω hlω hMω hzω hSω
  exact va_slen hxω hbω hTω.1 hTω.2.1 hTω.2.2.1 hSω hd (kk Hω lsω locsω hlω hMω hzω hSω)
theorem l_sld {K : zK} {yn : MethodName} {cc : ByteArray} {nL : Nat} {ret : Option FieldType} {d mc ms : Nat} {B : zB} {Q : State → Prop} {pc : Nat} {L : List (Option Value)} {rest : List Value} {M : mM} {k n : Nat} (j : Nat) {i : Int32} (ok : zOk K yn cc nL ret d mc ms B) (hd : decode cc pc = .ok (.iaload, 1)) (hi : i = nI j) (hj : j < K.1 1)
    (kk : zV nL B Q (pc + 1) L (.int (K.2 j) :: rest) M k n) : zV nL B Q pc L (.int i :: .ref (K.1 0) :: rest) M k n := by
  obtain ⟨pω, lω, eω, Rω, sω, mω, argsω, belowω, methω, cω, Dω, Eω, Aω⟩ := B
  obtain ⟨⟨hxω, hbω, hmlω, hrω, hownω⟩, htsω, hlocksω, hK, hAω, hnmω, hRω, hFω, hTω⟩ := ok
  intro Hω lsω locsω hlω hMω hzω hSω
  subst hi
  have h260ω := hTω.2.2.2
  refine va_sld hxω hbω hTω.1 hTω.2.1 hTω.2.2.1 hSω (vp_in_nI hj (by omega)) hd ?_
  rw [nI_clamp (by omega)]
  exact kk Hω lsω locsω hlω hMω hzω hSω
theorem l_len {K : zK} {yn : MethodName} {cc : ByteArray} {nL : Nat} {ret : Option FieldType} {d mc ms : Nat} {B : zB} (ok : zOk K yn cc nL ret d mc ms B) : K.1 1 ≤ 260 := by
  obtain ⟨pω, lω, eω, Rω, sω, mω, argsω, belowω, methω, cω, Dω, Eω, Aω⟩ := B
  exact ok.2.2.2.2.2.2.2.2.2.2.2

set_option maxRecDepth 20000 in
set_option maxHeartbeats 4000000 in
theorem ct_L_cell {K : zK} {M : mM} {nx : Nat} {j : Nat} (hj : j < 1000) : zCt K yL_cell cL_cell 2 zr_L_cell 0 [.ref (K.1 0), .int (nI j)] M nx 0 0 (zI (fun _ M' => M' = M)) := by
  refine z_enter [some (.ref (K.1 0)), some (.int (nI j))] (by decide +kernel) (Nat.le_of_ble_eq_true rfl) rfl (fun Bω okω hzω => ?_)
  refine z_iload_n okω dL_cell_0 rfl ?_
  refine z_aload_n okω dL_cell_1 rfl ?_
  refine l_slen okω dL_cell_2 ?_
  have h260ω := l_len okω
  refine z_icmp_ge (tgt := 12) okω dL_cell_3 (by decide) (fun cz3ω => ?_) (fun cz3ω => ?_)
  · refine z_ldc okω dL_cell_12 zw_323 ?_
    refine z_iload_n okω dL_cell_14 rfl ?_
    refine z_iconst (v := 3) okω dL_cell_15 (by decide) ?_
    refine z_iadd okω dL_cell_16 ?_
    refine z_imul okω dL_cell_17 ?_
    exact z_iret okω dL_cell_18 rfl rfl rfl (Nat.zero_le _) rfl
  · refine z_aload_n okω dL_cell_6 rfl ?_
    refine z_iload_n okω dL_cell_7 rfl ?_
    refine l_sld j okω dL_cell_8 rfl (Nat.not_le.mp (fun zω => cz3ω ((nI_leI (by omega) (by omega)).mpr zω))) ?_
    refine z_goto (tgt := 18) okω dL_cell_9 (by decide) ?_
    exact z_iret okω dL_cell_18 rfl rfl rfl (Nat.zero_le _) rfl

set_option maxRecDepth 20000 in
set_option maxHeartbeats 4000000 in
theorem ct_L_low {K : zK} {M : mM} {nx : Nat} {v : Int32} {W : Nat} (hW : 0 < W) (hW2 : W < 2 ^ 31) : zCt K yL_low cL_low 2 zr_L_low 0 [.int v, .int (nI W)] M nx 0 0 (zI (fun x M' => (∃ Y, Y < W ∧ x = nI Y) ∧ M' = M)) := by
  refine z_enter [some (.int v), some (.int (nI W))] (by decide +kernel) (Nat.le_of_ble_eq_true rfl) rfl (fun Bω okω hzω => ?_)
  refine z_iload_n okω dL_low_0 rfl ?_
  refine z_ldc okω dL_low_1 zw_327 ?_
  refine z_iand okω dL_low_3 ?_
  refine z_iload_n okω dL_low_4 rfl ?_
  refine z_irem okω dL_low_5 (fun zω => by have h9ω := congrArg Int32.toInt zω; rw [nI_toInt hW2] at h9ω; exact absurd (Int.natCast_eq_zero.mp h9ω) (by omega)) ?_
  exact z_iret okω dL_low_6 rfl rfl rfl (Nat.zero_le _) ⟨⟨_, Nat.mod_lt _ hW, by rw [pk_and v 31 (by decide), pk_rem (Nat.mod_lt _ (by decide)) hW hW2]⟩, rfl⟩

set_option maxRecDepth 20000 in
set_option maxHeartbeats 4000000 in
theorem ct_L_is {K : zK} {M : mM} {nx : Nat} {m : Nat} {s : Nat → Int32} {n nv no : Nat} (hm : lP M m s n nv no) (hw : zWF s n nv no) {c : Int32} : zCt K yL_is cL_is 3 zr_L_is 0 [.ref m, .ref (m + 2), .int c] M nx 0 0 (zI (fun x M' => x = b2 (zGoods s c) ∧ M' = M)) := by
  refine z_enter [some (.ref m), some (.ref (m + 2)), some (.int c)] (by decide +kernel) (Nat.le_of_ble_eq_true rfl) rfl (fun Bω okω hzω => ?_)
  have hNω := hw.N
  have hn16ω := hNω.2.1
  have hnv4ω := hNω.2.2.2.1
  have hno10ω := hNω.2.2.2.2.2
  refine z_iload_n okω dL_is_0 rfl ?_
  refine z_if_lt (tgt := 26) okω dL_is_1 (by decide) (fun cz1ω => ?_) (fun cz1ω => ?_)
  · refine z_iconst (v := 0) okω dL_is_26 (by decide) ?_
    exact z_iret okω dL_is_27 rfl rfl rfl (Nat.zero_le _) ⟨by first | exact b2_f (fun zω => zω.1 cz1ω) | exact b2_f (fun zω => zω.2.1 cz8ω) | exact b2_f (fun zω => zω.2.2 (by rw [nI_clamp (by omega)]; exact Int32.le_antisymm h6zω.2 cz19ω)) | exact b2_t ⟨cz1ω, cz8ω, fun zω => by rw [nI_clamp (by omega)] at zω; rw [zω] at cz19ω; exact cz19ω (by decide)⟩, rfl⟩
  · refine z_iload_n okω dL_is_4 rfl ?_
    refine z_aload_n okω dL_is_5 rfl ?_
    refine z_iconst (v := 3) okω dL_is_6 (by decide) ?_
    refine l_ldG (t := 3) okω dL_is_7 hm rfl (by decide) ?_
    refine z_icmp_ge (tgt := 26) okω dL_is_8 (by decide) (fun cz8ω => ?_) (fun cz8ω => ?_)
    · refine z_iconst (v := 0) okω dL_is_26 (by decide) ?_
      exact z_iret okω dL_is_27 rfl rfl rfl (Nat.zero_le _) ⟨by first | exact b2_f (fun zω => zω.1 cz1ω) | exact b2_f (fun zω => zω.2.1 cz8ω) | exact b2_f (fun zω => zω.2.2 (by rw [nI_clamp (by omega)]; exact Int32.le_antisymm h6zω.2 cz19ω)) | exact b2_t ⟨cz1ω, cz8ω, fun zω => by rw [nI_clamp (by omega)] at zω; rw [zω] at cz19ω; exact cz19ω (by decide)⟩, rfl⟩
    · obtain ⟨jzω, hjzω, hczω⟩ := i_nat (n := n) (by omega) cz1ω (by rw [hNω.1] at cz8ω; exact cz8ω)
      subst hczω
      have hgzω := hw.g jzω hjzω
      have h6zω := hgzω.2.2.2.2.1
      refine z_aload_n okω dL_is_11 rfl ?_
      refine z_iconst (v := 4) okω dL_is_12 (by decide) ?_
      refine z_iload_n okω dL_is_13 rfl ?_
      refine z_imul okω dL_is_14 ?_
      refine z_iconst (v := 2) okω dL_is_15 (by decide) ?_
      refine z_iadd okω dL_is_16 ?_
      refine l_ld6 jzω okω dL_is_17 hm (lx4_2 jzω) hjzω ?_
      refine z_iconst (v := 5) okω dL_is_18 (by decide) ?_
      refine z_icmp_ge (tgt := 26) okω dL_is_19 (by decide) (fun cz19ω => ?_) (fun cz19ω => ?_)
      · refine z_iconst (v := 0) okω dL_is_26 (by decide) ?_
        exact z_iret okω dL_is_27 rfl rfl rfl (Nat.zero_le _) ⟨by first | exact b2_f (fun zω => zω.1 cz1ω) | exact b2_f (fun zω => zω.2.1 cz8ω) | exact b2_f (fun zω => zω.2.2 (by rw [nI_clamp (by omega)]; exact Int32.le_antisymm h6zω.2 cz19ω)) | exact b2_t ⟨cz1ω, cz8ω, fun zω => by rw [nI_clamp (by omega)] at zω; rw [zω] at cz19ω; exact cz19ω (by decide)⟩, rfl⟩
      · refine z_iconst (v := 1) okω dL_is_22 (by decide) ?_
        refine z_goto (tgt := 27) okω dL_is_23 (by decide) ?_
        exact z_iret okω dL_is_27 rfl rfl rfl (Nat.zero_le _) ⟨by first | exact b2_f (fun zω => zω.1 cz1ω) | exact b2_f (fun zω => zω.2.1 cz8ω) | exact b2_f (fun zω => zω.2.2 (by rw [nI_clamp (by omega)]; exact Int32.le_antisymm h6zω.2 cz19ω)) | exact b2_t ⟨cz1ω, cz8ω, fun zω => by rw [nI_clamp (by omega)] at zω; rw [zω] at cz19ω; exact cz19ω (by decide)⟩, rfl⟩

theorem add_bit {L : Int32} {c : Nat} (hc : c < 32) (h : bt L c = false) : L + zbit c = L ||| zbit c := by
  apply Int32.toBitVec_inj.mp
  rw [Int32.toBitVec_add, Int32.toBitVec_or]
  apply BitVec.add_eq_or_of_and_eq_zero
  have h2ω : (L &&& zbit c) = 0 := b_ext (fun iω hiω => by
    rw [b_and, b_0, zbit_bt hc hiω]
    by_cases e : iω = c
    · subst e; simp [h]
    · simp [e])
  simpa using congrArg Int32.toBitVec h2ω
theorem zLs_add {s : Nat → Int32} {v : Int32} {i : Nat} (hi : i < 16) (hb : zInV s i v) : zLs s i v + zbit i = zLs s (i + 1) v := by
  have h9ω : bt (zLs s i v) i = false := by
    unfold zLs
    rw [zOr_bit (by omega) i (by omega)]
    simp
  rw [add_bit (by omega) h9ω]
  exact zOr_t hb
theorem zLs_no {s : Nat → Int32} {v : Int32} {i : Nat} (hb : ¬ zInV s i v) : zLs s i v + 0 = zLs s (i + 1) v := by
  rw [Int32.add_zero]
  exact (Int32.or_zero).symm.trans (zOr_f hb)
theorem zInV_l {s : Nat → Int32} {n nv no i v : Nat} (hw : zWF s n nv no) (hi : i < n) (hv : v < 4) : zInV s i (nI v) ↔ ((gd s i 6 = 1 ∨ gd s i 6 = 2) ∧ zEn (gd s i 7) = nI v) := by
  rw [zEn_nI hv]
  constructor
  · exact fun zω => ⟨zInV_12 zω, zω.2.2⟩
  · rintro ⟨h | h, h2⟩
    · exact ⟨by rw [h]; decide, by rw [h]; decide, h2⟩
    · exact ⟨by rw [h]; decide, by rw [h]; decide, h2⟩
set_option maxRecDepth 20000 in
set_option maxHeartbeats 4000000 in
theorem ct_L_load0 {K : zK} {M : mM} {nx : Nat} {m : Nat} {s : Nat → Int32} {n nv no : Nat} (hm : lP M m s n nv no) (hw : zWF s n nv no) {v : Nat} (hvv : v < 4) : zCt K yL_load cL_load 8 zr_L_load 0 [.ref m, .ref (m + 1), .ref (m + 2), .int (nI v), .int 0] M nx 0 0 (zI (fun x M' => x = zLs s n (nI v) ∧ M' = M)) := by
  refine z_enter [some (.ref m), some (.ref (m + 1)), some (.ref (m + 2)), some (.int (nI v)), some (.int 0), none, none, none] (by decide +kernel) (Nat.le_of_ble_eq_true rfl) rfl (fun Bω okω hzω => ?_)
  have hNω := hw.N
  have hn16ω := hNω.2.1
  have hnv4ω := hNω.2.2.2.1
  have hno10ω := hNω.2.2.2.2.2
  refine z_iconst (v := 0) okω dL_load_0 (by decide) ?_
  refine z_istore okω dL_load_1 (by decide) rfl ?_
  refine z_iconst (v := 0) okω dL_load_3 (by decide) ?_
  refine z_istore okω dL_load_4 (by decide) rfl ?_
  have loop6ω : ∀ (tω iω : Nat) (yω : Int32) (vzq7ω : Option Value), n < iω + tω → iω ≤ n → yω = zLs s iω (nI v) → zV 8 Bω (zE Bω (zI (fun xω M'ω => xω = zLs s n (nI v) ∧ M'ω = M)) 0 0) 6 [some (.ref m), some (.ref (m + 1)), some (.ref (m + 2)), some (.int (nI v)), some (.int 0), some (.int yω), some (.int (nI iω)), vzq7ω] [] M 0 0 := by
    intro tω
    induction tω with
    | zero => intro iω yω vzq7ω h1ω h2ω; exact absurd h1ω (by omega)
    | succ tω ihω =>
      intro iω yω vzq7ω h1ω h2ω hyω
      refine z_iload okω dL_load_6 rfl ?_
      refine z_aload_n okω dL_load_8 rfl ?_
      refine z_iconst (v := 3) okω dL_load_9 (by decide) ?_
      refine l_ldG (t := 3) okω dL_load_10 hm rfl (by decide) ?_
      refine z_icmp_ge (tgt := 98) okω dL_load_11 (by decide) (fun cz11ω => ?_) (fun cz11ω => ?_)
      · have hinω : iω = n := by rw [hNω.1, nI_leI (by omega) (by omega)] at cz11ω; omega
        refine z_iload okω dL_load_98 rfl ?_
        exact z_iret okω dL_load_100 rfl rfl rfl (Nat.zero_le _) ⟨by rw [hyω, hinω], rfl⟩
      · have hinω : iω < n := by rw [hNω.1, nI_leI (by omega) (by omega)] at cz11ω; omega
        refine z_aload_n okω dL_load_14 rfl ?_
        refine z_iconst (v := 4) okω dL_load_15 (by decide) ?_
        refine z_iload okω dL_load_16 rfl ?_
        refine z_imul okω dL_load_18 ?_
        refine z_iconst (v := 2) okω dL_load_19 (by decide) ?_
        refine z_iadd okω dL_load_20 ?_
        refine l_ld6 iω okω dL_load_21 hm (lx4_2 iω) hinω ?_
        refine z_iconst (v := 1) okω dL_load_22 (by decide) ?_
        refine z_icmp_eq (tgt := 38) okω dL_load_23 (by decide) (fun cz23ω => ?_) (fun cz23ω => ?_)
        · refine z_aload_n okω dL_load_38 rfl ?_
          refine z_iconst (v := 4) okω dL_load_39 (by decide) ?_
          refine z_iload okω dL_load_40 rfl ?_
          refine z_imul okω dL_load_42 ?_
          refine z_iconst (v := 3) okω dL_load_43 (by decide) ?_
          refine z_iadd okω dL_load_44 ?_
          refine l_ld7 iω okω dL_load_45 hm (lx4_3 iω) hinω ?_
          refine z_iload_n okω dL_load_46 rfl ?_
          refine z_icmp_ne (tgt := 54) okω dL_load_47 (by decide) (fun cz47ω => ?_) (fun cz47ω => ?_)
          · have hbω : ¬ zInV s iω (nI v) := fun zω => cz47ω ((zInV_l hw hinω hvv).mp zω).2
            refine z_iconst (v := 0) okω dL_load_54 (by decide) ?_
            refine z_istore okω dL_load_55 (by decide) rfl ?_
            refine z_iload okω dL_load_57 rfl ?_
            refine z_iload okω dL_load_59 rfl ?_
            refine z_if_ne (tgt := 68) okω dL_load_61 (by decide) (fun q9ω => absurd rfl q9ω) (fun _ => ?_)
            refine z_iconst (v := 0) okω dL_load_64 (by decide) ?_
            refine z_goto (tgt := 89) okω dL_load_65 (by decide) ?_
            refine z_iadd okω dL_load_89 ?_
            refine z_istore okω dL_load_90 (by decide) rfl ?_
            refine z_iinc okω dL_load_92 rfl (zinc2 _) (by decide) rfl ?_
            refine z_goto (tgt := 6) okω dL_load_95 (by decide) ?_
            exact ihω (iω + 1) _ _ (by omega) (by omega) (by rw [hyω]; first | exact zLs_add (by omega) hbω | exact zLs_no hbω)
          · have hbω : zInV s iω (nI v) := (zInV_l hw hinω hvv).mpr ⟨by first | exact Or.inl cz23ω | exact Or.inr cz35ω, cz47ω⟩
            refine z_iconst (v := 1) okω dL_load_50 (by decide) ?_
            refine z_goto (tgt := 55) okω dL_load_51 (by decide) ?_
            refine z_istore okω dL_load_55 (by decide) rfl ?_
            refine z_iload okω dL_load_57 rfl ?_
            refine z_iload okω dL_load_59 rfl ?_
            refine z_if_ne (tgt := 68) okω dL_load_61 (by decide) (fun _ => ?_) (fun q9ω => absurd q9ω (by decide))
            refine z_iload okω dL_load_68 rfl ?_
            refine z_if_ne (tgt := 80) okω dL_load_70 (by decide) (fun q9ω => absurd rfl q9ω) (fun _ => ?_)
            refine z_iconst (v := 1) okω dL_load_73 (by decide) ?_
            refine z_iload okω dL_load_74 rfl ?_
            refine z_ishl okω dL_load_76 ?_
            refine z_goto (tgt := 89) okω dL_load_77 (by decide) ?_
            refine z_iadd okω dL_load_89 ?_
            refine z_istore okω dL_load_90 (by decide) rfl ?_
            refine z_iinc okω dL_load_92 rfl (zinc2 _) (by decide) rfl ?_
            refine z_goto (tgt := 6) okω dL_load_95 (by decide) ?_
            exact ihω (iω + 1) _ _ (by omega) (by omega) (by rw [hyω]; first | exact zLs_add (by omega) hbω | exact zLs_no hbω)
        · refine z_aload_n okω dL_load_26 rfl ?_
          refine z_iconst (v := 4) okω dL_load_27 (by decide) ?_
          refine z_iload okω dL_load_28 rfl ?_
          refine z_imul okω dL_load_30 ?_
          refine z_iconst (v := 2) okω dL_load_31 (by decide) ?_
          refine z_iadd okω dL_load_32 ?_
          refine l_ld6 iω okω dL_load_33 hm (lx4_2 iω) hinω ?_
          refine z_iconst (v := 2) okω dL_load_34 (by decide) ?_
          refine z_icmp_ne (tgt := 54) okω dL_load_35 (by decide) (fun cz35ω => ?_) (fun cz35ω => ?_)
          · have hbω : ¬ zInV s iω (nI v) := fun zω => (((zInV_l hw hinω hvv).mp zω).1).elim cz23ω cz35ω
            refine z_iconst (v := 0) okω dL_load_54 (by decide) ?_
            refine z_istore okω dL_load_55 (by decide) rfl ?_
            refine z_iload okω dL_load_57 rfl ?_
            refine z_iload okω dL_load_59 rfl ?_
            refine z_if_ne (tgt := 68) okω dL_load_61 (by decide) (fun q9ω => absurd rfl q9ω) (fun _ => ?_)
            refine z_iconst (v := 0) okω dL_load_64 (by decide) ?_
            refine z_goto (tgt := 89) okω dL_load_65 (by decide) ?_
            refine z_iadd okω dL_load_89 ?_
            refine z_istore okω dL_load_90 (by decide) rfl ?_
            refine z_iinc okω dL_load_92 rfl (zinc2 _) (by decide) rfl ?_
            refine z_goto (tgt := 6) okω dL_load_95 (by decide) ?_
            exact ihω (iω + 1) _ _ (by omega) (by omega) (by rw [hyω]; first | exact zLs_add (by omega) hbω | exact zLs_no hbω)
          · refine z_aload_n okω dL_load_38 rfl ?_
            refine z_iconst (v := 4) okω dL_load_39 (by decide) ?_
            refine z_iload okω dL_load_40 rfl ?_
            refine z_imul okω dL_load_42 ?_
            refine z_iconst (v := 3) okω dL_load_43 (by decide) ?_
            refine z_iadd okω dL_load_44 ?_
            refine l_ld7 iω okω dL_load_45 hm (lx4_3 iω) hinω ?_
            refine z_iload_n okω dL_load_46 rfl ?_
            refine z_icmp_ne (tgt := 54) okω dL_load_47 (by decide) (fun cz47ω => ?_) (fun cz47ω => ?_)
            · have hbω : ¬ zInV s iω (nI v) := fun zω => cz47ω ((zInV_l hw hinω hvv).mp zω).2
              refine z_iconst (v := 0) okω dL_load_54 (by decide) ?_
              refine z_istore okω dL_load_55 (by decide) rfl ?_
              refine z_iload okω dL_load_57 rfl ?_
              refine z_iload okω dL_load_59 rfl ?_
              refine z_if_ne (tgt := 68) okω dL_load_61 (by decide) (fun q9ω => absurd rfl q9ω) (fun _ => ?_)
              refine z_iconst (v := 0) okω dL_load_64 (by decide) ?_
              refine z_goto (tgt := 89) okω dL_load_65 (by decide) ?_
              refine z_iadd okω dL_load_89 ?_
              refine z_istore okω dL_load_90 (by decide) rfl ?_
              refine z_iinc okω dL_load_92 rfl (zinc2 _) (by decide) rfl ?_
              refine z_goto (tgt := 6) okω dL_load_95 (by decide) ?_
              exact ihω (iω + 1) _ _ (by omega) (by omega) (by rw [hyω]; first | exact zLs_add (by omega) hbω | exact zLs_no hbω)
            · have hbω : zInV s iω (nI v) := (zInV_l hw hinω hvv).mpr ⟨by first | exact Or.inl cz23ω | exact Or.inr cz35ω, cz47ω⟩
              refine z_iconst (v := 1) okω dL_load_50 (by decide) ?_
              refine z_goto (tgt := 55) okω dL_load_51 (by decide) ?_
              refine z_istore okω dL_load_55 (by decide) rfl ?_
              refine z_iload okω dL_load_57 rfl ?_
              refine z_iload okω dL_load_59 rfl ?_
              refine z_if_ne (tgt := 68) okω dL_load_61 (by decide) (fun _ => ?_) (fun q9ω => absurd q9ω (by decide))
              refine z_iload okω dL_load_68 rfl ?_
              refine z_if_ne (tgt := 80) okω dL_load_70 (by decide) (fun q9ω => absurd rfl q9ω) (fun _ => ?_)
              refine z_iconst (v := 1) okω dL_load_73 (by decide) ?_
              refine z_iload okω dL_load_74 rfl ?_
              refine z_ishl okω dL_load_76 ?_
              refine z_goto (tgt := 89) okω dL_load_77 (by decide) ?_
              refine z_iadd okω dL_load_89 ?_
              refine z_istore okω dL_load_90 (by decide) rfl ?_
              refine z_iinc okω dL_load_92 rfl (zinc2 _) (by decide) rfl ?_
              refine z_goto (tgt := 6) okω dL_load_95 (by decide) ?_
              exact ihω (iω + 1) _ _ (by omega) (by omega) (by rw [hyω]; first | exact zLs_add (by omega) hbω | exact zLs_no hbω)
  exact loop6ω (n + 1) 0 _ _ (by omega) (by omega) rfl

set_option maxRecDepth 20000 in
set_option maxHeartbeats 4000000 in
theorem ct_L_load1 {K : zK} {M : mM} {nx : Nat} {m : Nat} {s : Nat → Int32} {n nv no : Nat} (hm : lP M m s n nv no) (hw : zWF s n nv no) {v : Nat} (hvv : v < 4) : zCt K yL_load cL_load 8 zr_L_load 0 [.ref m, .ref (m + 1), .ref (m + 2), .int (nI v), .int 1] M nx 0 0 (zI (fun x M' => x = zLd s n (nI v) 1 ∧ M' = M)) := by
  refine z_enter [some (.ref m), some (.ref (m + 1)), some (.ref (m + 2)), some (.int (nI v)), some (.int 1), none, none, none] (by decide +kernel) (Nat.le_of_ble_eq_true rfl) rfl (fun Bω okω hzω => ?_)
  have hNω := hw.N
  have hn16ω := hNω.2.1
  have hnv4ω := hNω.2.2.2.1
  have hno10ω := hNω.2.2.2.2.2
  refine z_iconst (v := 0) okω dL_load_0 (by decide) ?_
  refine z_istore okω dL_load_1 (by decide) rfl ?_
  refine z_iconst (v := 0) okω dL_load_3 (by decide) ?_
  refine z_istore okω dL_load_4 (by decide) rfl ?_
  have loop6ω : ∀ (tω iω : Nat) (yω : Int32) (vzq7ω : Option Value), n < iω + tω → iω ≤ n → yω = zLd s iω (nI v) 1 → zV 8 Bω (zE Bω (zI (fun xω M'ω => xω = zLd s n (nI v) 1 ∧ M'ω = M)) 0 0) 6 [some (.ref m), some (.ref (m + 1)), some (.ref (m + 2)), some (.int (nI v)), some (.int 1), some (.int yω), some (.int (nI iω)), vzq7ω] [] M 0 0 := by
    intro tω
    induction tω with
    | zero => intro iω yω vzq7ω h1ω h2ω; exact absurd h1ω (by omega)
    | succ tω ihω =>
      intro iω yω vzq7ω h1ω h2ω hyω
      refine z_iload okω dL_load_6 rfl ?_
      refine z_aload_n okω dL_load_8 rfl ?_
      refine z_iconst (v := 3) okω dL_load_9 (by decide) ?_
      refine l_ldG (t := 3) okω dL_load_10 hm rfl (by decide) ?_
      refine z_icmp_ge (tgt := 98) okω dL_load_11 (by decide) (fun cz11ω => ?_) (fun cz11ω => ?_)
      · have hinω : iω = n := by rw [hNω.1, nI_leI (by omega) (by omega)] at cz11ω; omega
        refine z_iload okω dL_load_98 rfl ?_
        exact z_iret okω dL_load_100 rfl rfl rfl (Nat.zero_le _) ⟨by rw [hyω, hinω], rfl⟩
      · have hinω : iω < n := by rw [hNω.1, nI_leI (by omega) (by omega)] at cz11ω; omega
        refine z_aload_n okω dL_load_14 rfl ?_
        refine z_iconst (v := 4) okω dL_load_15 (by decide) ?_
        refine z_iload okω dL_load_16 rfl ?_
        refine z_imul okω dL_load_18 ?_
        refine z_iconst (v := 2) okω dL_load_19 (by decide) ?_
        refine z_iadd okω dL_load_20 ?_
        refine l_ld6 iω okω dL_load_21 hm (lx4_2 iω) hinω ?_
        refine z_iconst (v := 1) okω dL_load_22 (by decide) ?_
        refine z_icmp_eq (tgt := 38) okω dL_load_23 (by decide) (fun cz23ω => ?_) (fun cz23ω => ?_)
        · refine z_aload_n okω dL_load_38 rfl ?_
          refine z_iconst (v := 4) okω dL_load_39 (by decide) ?_
          refine z_iload okω dL_load_40 rfl ?_
          refine z_imul okω dL_load_42 ?_
          refine z_iconst (v := 3) okω dL_load_43 (by decide) ?_
          refine z_iadd okω dL_load_44 ?_
          refine l_ld7 iω okω dL_load_45 hm (lx4_3 iω) hinω ?_
          refine z_iload_n okω dL_load_46 rfl ?_
          refine z_icmp_ne (tgt := 54) okω dL_load_47 (by decide) (fun cz47ω => ?_) (fun cz47ω => ?_)
          · have hbω : ¬ zInV s iω (nI v) := fun zω => cz47ω ((zInV_l hw hinω hvv).mp zω).2
            refine z_iconst (v := 0) okω dL_load_54 (by decide) ?_
            refine z_istore okω dL_load_55 (by decide) rfl ?_
            refine z_iload okω dL_load_57 rfl ?_
            refine z_iload okω dL_load_59 rfl ?_
            refine z_if_ne (tgt := 68) okω dL_load_61 (by decide) (fun q9ω => absurd rfl q9ω) (fun _ => ?_)
            refine z_iconst (v := 0) okω dL_load_64 (by decide) ?_
            refine z_goto (tgt := 89) okω dL_load_65 (by decide) ?_
            refine z_iadd okω dL_load_89 ?_
            refine z_istore okω dL_load_90 (by decide) rfl ?_
            refine z_iinc okω dL_load_92 rfl (zinc2 _) (by decide) rfl ?_
            refine z_goto (tgt := 6) okω dL_load_95 (by decide) ?_
            exact ihω (iω + 1) _ _ (by omega) (by omega) (by rw [hyω]; first | exact zSum_t hbω | exact zSum_f hbω)
          · have hbω : zInV s iω (nI v) := (zInV_l hw hinω hvv).mpr ⟨by first | exact Or.inl cz23ω | exact Or.inr cz35ω, cz47ω⟩
            refine z_iconst (v := 1) okω dL_load_50 (by decide) ?_
            refine z_goto (tgt := 55) okω dL_load_51 (by decide) ?_
            refine z_istore okω dL_load_55 (by decide) rfl ?_
            refine z_iload okω dL_load_57 rfl ?_
            refine z_iload okω dL_load_59 rfl ?_
            refine z_if_ne (tgt := 68) okω dL_load_61 (by decide) (fun _ => ?_) (fun q9ω => absurd q9ω (by decide))
            refine z_iload okω dL_load_68 rfl ?_
            refine z_if_ne (tgt := 80) okω dL_load_70 (by decide) (fun _ => ?_) (fun q9ω => absurd q9ω (by decide))
            refine z_aload_n okω dL_load_80 rfl ?_
            refine z_iconst (v := 4) okω dL_load_81 (by decide) ?_
            refine z_iload okω dL_load_82 rfl ?_
            refine z_imul okω dL_load_84 ?_
            refine z_iload okω dL_load_85 rfl ?_
            refine z_iadd okω dL_load_87 ?_
            refine l_ld1 iω okω dL_load_88 hm (lx4_1 iω) hinω ?_
            refine z_iadd okω dL_load_89 ?_
            refine z_istore okω dL_load_90 (by decide) rfl ?_
            refine z_iinc okω dL_load_92 rfl (zinc2 _) (by decide) rfl ?_
            refine z_goto (tgt := 6) okω dL_load_95 (by decide) ?_
            exact ihω (iω + 1) _ _ (by omega) (by omega) (by rw [hyω]; first | exact zSum_t hbω | exact zSum_f hbω)
        · refine z_aload_n okω dL_load_26 rfl ?_
          refine z_iconst (v := 4) okω dL_load_27 (by decide) ?_
          refine z_iload okω dL_load_28 rfl ?_
          refine z_imul okω dL_load_30 ?_
          refine z_iconst (v := 2) okω dL_load_31 (by decide) ?_
          refine z_iadd okω dL_load_32 ?_
          refine l_ld6 iω okω dL_load_33 hm (lx4_2 iω) hinω ?_
          refine z_iconst (v := 2) okω dL_load_34 (by decide) ?_
          refine z_icmp_ne (tgt := 54) okω dL_load_35 (by decide) (fun cz35ω => ?_) (fun cz35ω => ?_)
          · have hbω : ¬ zInV s iω (nI v) := fun zω => (((zInV_l hw hinω hvv).mp zω).1).elim cz23ω cz35ω
            refine z_iconst (v := 0) okω dL_load_54 (by decide) ?_
            refine z_istore okω dL_load_55 (by decide) rfl ?_
            refine z_iload okω dL_load_57 rfl ?_
            refine z_iload okω dL_load_59 rfl ?_
            refine z_if_ne (tgt := 68) okω dL_load_61 (by decide) (fun q9ω => absurd rfl q9ω) (fun _ => ?_)
            refine z_iconst (v := 0) okω dL_load_64 (by decide) ?_
            refine z_goto (tgt := 89) okω dL_load_65 (by decide) ?_
            refine z_iadd okω dL_load_89 ?_
            refine z_istore okω dL_load_90 (by decide) rfl ?_
            refine z_iinc okω dL_load_92 rfl (zinc2 _) (by decide) rfl ?_
            refine z_goto (tgt := 6) okω dL_load_95 (by decide) ?_
            exact ihω (iω + 1) _ _ (by omega) (by omega) (by rw [hyω]; first | exact zSum_t hbω | exact zSum_f hbω)
          · refine z_aload_n okω dL_load_38 rfl ?_
            refine z_iconst (v := 4) okω dL_load_39 (by decide) ?_
            refine z_iload okω dL_load_40 rfl ?_
            refine z_imul okω dL_load_42 ?_
            refine z_iconst (v := 3) okω dL_load_43 (by decide) ?_
            refine z_iadd okω dL_load_44 ?_
            refine l_ld7 iω okω dL_load_45 hm (lx4_3 iω) hinω ?_
            refine z_iload_n okω dL_load_46 rfl ?_
            refine z_icmp_ne (tgt := 54) okω dL_load_47 (by decide) (fun cz47ω => ?_) (fun cz47ω => ?_)
            · have hbω : ¬ zInV s iω (nI v) := fun zω => cz47ω ((zInV_l hw hinω hvv).mp zω).2
              refine z_iconst (v := 0) okω dL_load_54 (by decide) ?_
              refine z_istore okω dL_load_55 (by decide) rfl ?_
              refine z_iload okω dL_load_57 rfl ?_
              refine z_iload okω dL_load_59 rfl ?_
              refine z_if_ne (tgt := 68) okω dL_load_61 (by decide) (fun q9ω => absurd rfl q9ω) (fun _ => ?_)
              refine z_iconst (v := 0) okω dL_load_64 (by decide) ?_
              refine z_goto (tgt := 89) okω dL_load_65 (by decide) ?_
              refine z_iadd okω dL_load_89 ?_
              refine z_istore okω dL_load_90 (by decide) rfl ?_
              refine z_iinc okω dL_load_92 rfl (zinc2 _) (by decide) rfl ?_
              refine z_goto (tgt := 6) okω dL_load_95 (by decide) ?_
              exact ihω (iω + 1) _ _ (by omega) (by omega) (by rw [hyω]; first | exact zSum_t hbω | exact zSum_f hbω)
            · have hbω : zInV s iω (nI v) := (zInV_l hw hinω hvv).mpr ⟨by first | exact Or.inl cz23ω | exact Or.inr cz35ω, cz47ω⟩
              refine z_iconst (v := 1) okω dL_load_50 (by decide) ?_
              refine z_goto (tgt := 55) okω dL_load_51 (by decide) ?_
              refine z_istore okω dL_load_55 (by decide) rfl ?_
              refine z_iload okω dL_load_57 rfl ?_
              refine z_iload okω dL_load_59 rfl ?_
              refine z_if_ne (tgt := 68) okω dL_load_61 (by decide) (fun _ => ?_) (fun q9ω => absurd q9ω (by decide))
              refine z_iload okω dL_load_68 rfl ?_
              refine z_if_ne (tgt := 80) okω dL_load_70 (by decide) (fun _ => ?_) (fun q9ω => absurd q9ω (by decide))
              refine z_aload_n okω dL_load_80 rfl ?_
              refine z_iconst (v := 4) okω dL_load_81 (by decide) ?_
              refine z_iload okω dL_load_82 rfl ?_
              refine z_imul okω dL_load_84 ?_
              refine z_iload okω dL_load_85 rfl ?_
              refine z_iadd okω dL_load_87 ?_
              refine l_ld1 iω okω dL_load_88 hm (lx4_1 iω) hinω ?_
              refine z_iadd okω dL_load_89 ?_
              refine z_istore okω dL_load_90 (by decide) rfl ?_
              refine z_iinc okω dL_load_92 rfl (zinc2 _) (by decide) rfl ?_
              refine z_goto (tgt := 6) okω dL_load_95 (by decide) ?_
              exact ihω (iω + 1) _ _ (by omega) (by omega) (by rw [hyω]; first | exact zSum_t hbω | exact zSum_f hbω)
  exact loop6ω (n + 1) 0 _ _ (by omega) (by omega) rfl

set_option maxRecDepth 20000 in
set_option maxHeartbeats 4000000 in
theorem ct_L_load2 {K : zK} {M : mM} {nx : Nat} {m : Nat} {s : Nat → Int32} {n nv no : Nat} (hm : lP M m s n nv no) (hw : zWF s n nv no) {v : Nat} (hvv : v < 4) : zCt K yL_load cL_load 8 zr_L_load 0 [.ref m, .ref (m + 1), .ref (m + 2), .int (nI v), .int 2] M nx 0 0 (zI (fun x M' => x = zLd s n (nI v) 2 ∧ M' = M)) := by
  refine z_enter [some (.ref m), some (.ref (m + 1)), some (.ref (m + 2)), some (.int (nI v)), some (.int 2), none, none, none] (by decide +kernel) (Nat.le_of_ble_eq_true rfl) rfl (fun Bω okω hzω => ?_)
  have hNω := hw.N
  have hn16ω := hNω.2.1
  have hnv4ω := hNω.2.2.2.1
  have hno10ω := hNω.2.2.2.2.2
  refine z_iconst (v := 0) okω dL_load_0 (by decide) ?_
  refine z_istore okω dL_load_1 (by decide) rfl ?_
  refine z_iconst (v := 0) okω dL_load_3 (by decide) ?_
  refine z_istore okω dL_load_4 (by decide) rfl ?_
  have loop6ω : ∀ (tω iω : Nat) (yω : Int32) (vzq7ω : Option Value), n < iω + tω → iω ≤ n → yω = zLd s iω (nI v) 2 → zV 8 Bω (zE Bω (zI (fun xω M'ω => xω = zLd s n (nI v) 2 ∧ M'ω = M)) 0 0) 6 [some (.ref m), some (.ref (m + 1)), some (.ref (m + 2)), some (.int (nI v)), some (.int 2), some (.int yω), some (.int (nI iω)), vzq7ω] [] M 0 0 := by
    intro tω
    induction tω with
    | zero => intro iω yω vzq7ω h1ω h2ω; exact absurd h1ω (by omega)
    | succ tω ihω =>
      intro iω yω vzq7ω h1ω h2ω hyω
      refine z_iload okω dL_load_6 rfl ?_
      refine z_aload_n okω dL_load_8 rfl ?_
      refine z_iconst (v := 3) okω dL_load_9 (by decide) ?_
      refine l_ldG (t := 3) okω dL_load_10 hm rfl (by decide) ?_
      refine z_icmp_ge (tgt := 98) okω dL_load_11 (by decide) (fun cz11ω => ?_) (fun cz11ω => ?_)
      · have hinω : iω = n := by rw [hNω.1, nI_leI (by omega) (by omega)] at cz11ω; omega
        refine z_iload okω dL_load_98 rfl ?_
        exact z_iret okω dL_load_100 rfl rfl rfl (Nat.zero_le _) ⟨by rw [hyω, hinω], rfl⟩
      · have hinω : iω < n := by rw [hNω.1, nI_leI (by omega) (by omega)] at cz11ω; omega
        refine z_aload_n okω dL_load_14 rfl ?_
        refine z_iconst (v := 4) okω dL_load_15 (by decide) ?_
        refine z_iload okω dL_load_16 rfl ?_
        refine z_imul okω dL_load_18 ?_
        refine z_iconst (v := 2) okω dL_load_19 (by decide) ?_
        refine z_iadd okω dL_load_20 ?_
        refine l_ld6 iω okω dL_load_21 hm (lx4_2 iω) hinω ?_
        refine z_iconst (v := 1) okω dL_load_22 (by decide) ?_
        refine z_icmp_eq (tgt := 38) okω dL_load_23 (by decide) (fun cz23ω => ?_) (fun cz23ω => ?_)
        · refine z_aload_n okω dL_load_38 rfl ?_
          refine z_iconst (v := 4) okω dL_load_39 (by decide) ?_
          refine z_iload okω dL_load_40 rfl ?_
          refine z_imul okω dL_load_42 ?_
          refine z_iconst (v := 3) okω dL_load_43 (by decide) ?_
          refine z_iadd okω dL_load_44 ?_
          refine l_ld7 iω okω dL_load_45 hm (lx4_3 iω) hinω ?_
          refine z_iload_n okω dL_load_46 rfl ?_
          refine z_icmp_ne (tgt := 54) okω dL_load_47 (by decide) (fun cz47ω => ?_) (fun cz47ω => ?_)
          · have hbω : ¬ zInV s iω (nI v) := fun zω => cz47ω ((zInV_l hw hinω hvv).mp zω).2
            refine z_iconst (v := 0) okω dL_load_54 (by decide) ?_
            refine z_istore okω dL_load_55 (by decide) rfl ?_
            refine z_iload okω dL_load_57 rfl ?_
            refine z_iload okω dL_load_59 rfl ?_
            refine z_if_ne (tgt := 68) okω dL_load_61 (by decide) (fun q9ω => absurd rfl q9ω) (fun _ => ?_)
            refine z_iconst (v := 0) okω dL_load_64 (by decide) ?_
            refine z_goto (tgt := 89) okω dL_load_65 (by decide) ?_
            refine z_iadd okω dL_load_89 ?_
            refine z_istore okω dL_load_90 (by decide) rfl ?_
            refine z_iinc okω dL_load_92 rfl (zinc2 _) (by decide) rfl ?_
            refine z_goto (tgt := 6) okω dL_load_95 (by decide) ?_
            exact ihω (iω + 1) _ _ (by omega) (by omega) (by rw [hyω]; first | exact zSum_t hbω | exact zSum_f hbω)
          · have hbω : zInV s iω (nI v) := (zInV_l hw hinω hvv).mpr ⟨by first | exact Or.inl cz23ω | exact Or.inr cz35ω, cz47ω⟩
            refine z_iconst (v := 1) okω dL_load_50 (by decide) ?_
            refine z_goto (tgt := 55) okω dL_load_51 (by decide) ?_
            refine z_istore okω dL_load_55 (by decide) rfl ?_
            refine z_iload okω dL_load_57 rfl ?_
            refine z_iload okω dL_load_59 rfl ?_
            refine z_if_ne (tgt := 68) okω dL_load_61 (by decide) (fun _ => ?_) (fun q9ω => absurd q9ω (by decide))
            refine z_iload okω dL_load_68 rfl ?_
            refine z_if_ne (tgt := 80) okω dL_load_70 (by decide) (fun _ => ?_) (fun q9ω => absurd q9ω (by decide))
            refine z_aload_n okω dL_load_80 rfl ?_
            refine z_iconst (v := 4) okω dL_load_81 (by decide) ?_
            refine z_iload okω dL_load_82 rfl ?_
            refine z_imul okω dL_load_84 ?_
            refine z_iload okω dL_load_85 rfl ?_
            refine z_iadd okω dL_load_87 ?_
            refine l_ld2 iω okω dL_load_88 hm (lx4_2 iω) hinω ?_
            refine z_iadd okω dL_load_89 ?_
            refine z_istore okω dL_load_90 (by decide) rfl ?_
            refine z_iinc okω dL_load_92 rfl (zinc2 _) (by decide) rfl ?_
            refine z_goto (tgt := 6) okω dL_load_95 (by decide) ?_
            exact ihω (iω + 1) _ _ (by omega) (by omega) (by rw [hyω]; first | exact zSum_t hbω | exact zSum_f hbω)
        · refine z_aload_n okω dL_load_26 rfl ?_
          refine z_iconst (v := 4) okω dL_load_27 (by decide) ?_
          refine z_iload okω dL_load_28 rfl ?_
          refine z_imul okω dL_load_30 ?_
          refine z_iconst (v := 2) okω dL_load_31 (by decide) ?_
          refine z_iadd okω dL_load_32 ?_
          refine l_ld6 iω okω dL_load_33 hm (lx4_2 iω) hinω ?_
          refine z_iconst (v := 2) okω dL_load_34 (by decide) ?_
          refine z_icmp_ne (tgt := 54) okω dL_load_35 (by decide) (fun cz35ω => ?_) (fun cz35ω => ?_)
          · have hbω : ¬ zInV s iω (nI v) := fun zω => (((zInV_l hw hinω hvv).mp zω).1).elim cz23ω cz35ω
            refine z_iconst (v := 0) okω dL_load_54 (by decide) ?_
            refine z_istore okω dL_load_55 (by decide) rfl ?_
            refine z_iload okω dL_load_57 rfl ?_
            refine z_iload okω dL_load_59 rfl ?_
            refine z_if_ne (tgt := 68) okω dL_load_61 (by decide) (fun q9ω => absurd rfl q9ω) (fun _ => ?_)
            refine z_iconst (v := 0) okω dL_load_64 (by decide) ?_
            refine z_goto (tgt := 89) okω dL_load_65 (by decide) ?_
            refine z_iadd okω dL_load_89 ?_
            refine z_istore okω dL_load_90 (by decide) rfl ?_
            refine z_iinc okω dL_load_92 rfl (zinc2 _) (by decide) rfl ?_
            refine z_goto (tgt := 6) okω dL_load_95 (by decide) ?_
            exact ihω (iω + 1) _ _ (by omega) (by omega) (by rw [hyω]; first | exact zSum_t hbω | exact zSum_f hbω)
          · refine z_aload_n okω dL_load_38 rfl ?_
            refine z_iconst (v := 4) okω dL_load_39 (by decide) ?_
            refine z_iload okω dL_load_40 rfl ?_
            refine z_imul okω dL_load_42 ?_
            refine z_iconst (v := 3) okω dL_load_43 (by decide) ?_
            refine z_iadd okω dL_load_44 ?_
            refine l_ld7 iω okω dL_load_45 hm (lx4_3 iω) hinω ?_
            refine z_iload_n okω dL_load_46 rfl ?_
            refine z_icmp_ne (tgt := 54) okω dL_load_47 (by decide) (fun cz47ω => ?_) (fun cz47ω => ?_)
            · have hbω : ¬ zInV s iω (nI v) := fun zω => cz47ω ((zInV_l hw hinω hvv).mp zω).2
              refine z_iconst (v := 0) okω dL_load_54 (by decide) ?_
              refine z_istore okω dL_load_55 (by decide) rfl ?_
              refine z_iload okω dL_load_57 rfl ?_
              refine z_iload okω dL_load_59 rfl ?_
              refine z_if_ne (tgt := 68) okω dL_load_61 (by decide) (fun q9ω => absurd rfl q9ω) (fun _ => ?_)
              refine z_iconst (v := 0) okω dL_load_64 (by decide) ?_
              refine z_goto (tgt := 89) okω dL_load_65 (by decide) ?_
              refine z_iadd okω dL_load_89 ?_
              refine z_istore okω dL_load_90 (by decide) rfl ?_
              refine z_iinc okω dL_load_92 rfl (zinc2 _) (by decide) rfl ?_
              refine z_goto (tgt := 6) okω dL_load_95 (by decide) ?_
              exact ihω (iω + 1) _ _ (by omega) (by omega) (by rw [hyω]; first | exact zSum_t hbω | exact zSum_f hbω)
            · have hbω : zInV s iω (nI v) := (zInV_l hw hinω hvv).mpr ⟨by first | exact Or.inl cz23ω | exact Or.inr cz35ω, cz47ω⟩
              refine z_iconst (v := 1) okω dL_load_50 (by decide) ?_
              refine z_goto (tgt := 55) okω dL_load_51 (by decide) ?_
              refine z_istore okω dL_load_55 (by decide) rfl ?_
              refine z_iload okω dL_load_57 rfl ?_
              refine z_iload okω dL_load_59 rfl ?_
              refine z_if_ne (tgt := 68) okω dL_load_61 (by decide) (fun _ => ?_) (fun q9ω => absurd q9ω (by decide))
              refine z_iload okω dL_load_68 rfl ?_
              refine z_if_ne (tgt := 80) okω dL_load_70 (by decide) (fun _ => ?_) (fun q9ω => absurd q9ω (by decide))
              refine z_aload_n okω dL_load_80 rfl ?_
              refine z_iconst (v := 4) okω dL_load_81 (by decide) ?_
              refine z_iload okω dL_load_82 rfl ?_
              refine z_imul okω dL_load_84 ?_
              refine z_iload okω dL_load_85 rfl ?_
              refine z_iadd okω dL_load_87 ?_
              refine l_ld2 iω okω dL_load_88 hm (lx4_2 iω) hinω ?_
              refine z_iadd okω dL_load_89 ?_
              refine z_istore okω dL_load_90 (by decide) rfl ?_
              refine z_iinc okω dL_load_92 rfl (zinc2 _) (by decide) rfl ?_
              refine z_goto (tgt := 6) okω dL_load_95 (by decide) ?_
              exact ihω (iω + 1) _ _ (by omega) (by omega) (by rw [hyω]; first | exact zSum_t hbω | exact zSum_f hbω)
  exact loop6ω (n + 1) 0 _ _ (by omega) (by omega) rfl

