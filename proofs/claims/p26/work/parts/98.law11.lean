theorem cof_no {s : Nat → Int32} {n : Nat} {k w : Int32} (h : ¬ zGoods s k) : spCof s n k w = -1000001 := if_neg (fun zω => h zω.1)
theorem cof_11 {s : Nat → Int32} {n : Nat} {k : Int32} : spCof s n k 11 = -1000001 := if_neg (fun zω => absurd zω.2 (by decide))
theorem cof_g {s : Nat → Int32} {n k j : Nat} {w : Int32} (hk : k < 2 ^ 31) (hg : zGoods s (nI k)) (hw : w = nI j) (hj : j < 9) : spCof s n (nI k) w = gd s k j := by
  subst hw
  refine (if_pos ⟨hg, zWq (A := 0) (Z := 10) rfl rfl ⟨by omega, by omega⟩ (by omega)⟩).trans ?_
  unfold tN
  rw [nI_clamp hk, nI_clamp (by omega)]
  exact if_pos ((nI_ltI (b := 9) (by omega) (by omega)).mpr hj)
theorem cof_9 {s : Nat → Int32} {n k : Nat} (hk : k < 2 ^ 31) (hg : zGoods s (nI k)) : spCof s n (nI k) 9 = zPt s n (gd s k 9) := by
  refine (if_pos ⟨hg, by decide⟩).trans ((if_neg (by decide)).trans ((if_pos rfl).trans ?_))
  unfold tN
  rw [nI_clamp hk]
theorem cof_10 {s : Nat → Int32} {n k : Nat} (hk : k < 2 ^ 31) (hg : zGoods s (nI k)) : spCof s n (nI k) 10 = (if zHere s k then s 5 else gd s k 11) - gd s k 10 := by
  refine (if_pos ⟨hg, by decide⟩).trans ((if_neg (by decide)).trans ((if_neg (by decide)).trans ?_))
  unfold tN
  rw [nI_clamp hk]
theorem zPt_add {s : Nat → Int32} {w : Int32} {i : Nat} (hi : i < 16) (hb : ¬ gd s i 6 = 5 ∧ gd s i 9 = w) : zPt s i w + zbit i = zPt s (i + 1) w := by
  have h9ω : bt (zPt s i w) i = false := by
    unfold zPt
    rw [zOr_bit (by omega) i (by omega)]
    simp
  rw [add_bit (by omega) h9ω]
  exact zOr_t hb
theorem zPt_no {s : Nat → Int32} {w : Int32} {i : Nat} (hb : ¬ (¬ gd s i 6 = 5 ∧ gd s i 9 = w)) : zPt s i w + 0 = zPt s (i + 1) w := by
  rw [Int32.add_zero]
  exact (Int32.or_zero).symm.trans (zOr_f hb)
theorem zHr_add {s : Nat → Int32} {i : Nat} (hi : i < 16) (hb : zHere s i) : zHr s i + zbit i = zHr s (i + 1) := by
  have h9ω : bt (zHr s i) i = false := by
    unfold zHr
    rw [zOr_bit (by omega) i (by omega)]
    simp
  rw [add_bit (by omega) h9ω]
  exact zOr_t hb
theorem zHr_no {s : Nat → Int32} {i : Nat} (hb : ¬ zHere s i) : zHr s i + 0 = zHr s (i + 1) := by
  rw [Int32.add_zero]
  exact (Int32.or_zero).symm.trans (zOr_f hb)
def zDn (s : Nat → Int32) (n : Nat) : Int32 := zSum (fun c => if gd s c 6 = 3 ∨ gd s c 6 = 4 then 1 else 0) n
theorem zDn_e {s : Nat → Int32} : ∀ n, zDn s n = zK3 s 3 n + zK3 s 4 n
  | 0 => rfl
  | nω + 1 => by
    show zDn s nω + (if gd s nω 6 = 3 ∨ gd s nω 6 = 4 then 1 else 0) = (zK3 s 3 nω + (if gd s nω 6 = 3 then 1 else 0)) + (zK3 s 4 nω + (if gd s nω 6 = 4 then 1 else 0))
    rw [zDn_e nω]
    by_cases h3 : gd s nω 6 = 3
    · rw [if_pos (Or.inl h3), if_pos h3, if_neg (by rw [h3]; decide), Int32.add_zero]
      rw [Int32.add_assoc, Int32.add_assoc, Int32.add_comm (zK3 s 4 nω) 1]
    · by_cases h4 : gd s nω 6 = 4
      · rw [if_pos (Or.inr h4), if_neg h3, if_pos h4, Int32.add_zero, Int32.add_assoc]
      · rw [if_neg (fun zω => zω.elim h3 h4), if_neg h3, if_neg h4, Int32.add_zero, Int32.add_zero, Int32.add_zero]
theorem zG_i {s : Nat → Int32} {n nv no i : Nat} (hN : zN s n nv no) (hi : i < n) : zGoods s (nI i) ↔ ¬ gd s i 6 = 5 := by
  have h16ω := hN.2.1
  constructor
  · exact fun zω => (zGoods_n hN zω (by omega)).2
  · intro hω
    refine ⟨nI_pos (by omega), ?_, ?_⟩
    · rw [hN.1, nI_leI (by omega) (by omega)]
      omega
    · rw [nI_clamp (by omega)]
      exact hω
theorem en_7 {g : Nat → Int32} (h : zG g) : (zEn (g 7) < 0 → g 7 = -1000004) ∧ (0 ≤ zEn (g 7) → g 7 = zEn (g 7)) := by
  rcases h.2.2.2.2.2.1 with h | ⟨vω, hvω, h⟩
  · exact ⟨fun _ => h, fun zω => by rw [h] at zω; exact absurd zω (by decide)⟩
  · rw [h, zEn_v2 hvω]
    exact ⟨fun zω => absurd zω (nI_pos (by omega)), fun _ => rfl⟩
theorem en_8 {g : Nat → Int32} (h : zG g) : (zEn (g 8) < 0 → g 8 = -1000004) ∧ (0 ≤ zEn (g 8) → g 8 = zEn (g 8)) := by
  rcases h.2.2.2.2.2.2 with h | h
  · exact ⟨fun _ => h, fun zω => by rw [h] at zω; exact absurd zω (by decide)⟩
  · rw [zEn_p h]
    exact ⟨fun zω => absurd h (Int32.not_le.mpr zω), fun _ => rfl⟩
theorem vof_g {s : Nat → Int32} {n nv no u j : Nat} {w : Int32} (hN : zN s n nv no) (hu : u < nv) (hw : w = nI j) (hj : j < 10) : spVof s n (nI u) w = zVo s n u j := by
  subst hw
  have h4ω := hN.2.2.2.1
  have eω := nI_toInt (n := j) (by omega)
  refine (if_pos ⟨zVeh_u hN hu, by rw [eω]; omega, by rw [eω]; omega⟩).trans ?_
  unfold tN
  rw [nI_clamp (by omega), nI_clamp (by omega)]
theorem vof_10 {s : Nat → Int32} {n : Nat} {v : Int32} : spVof s n v 10 = -1000001 := if_neg (fun zω => absurd zω.2.2 (by decide))
theorem vof_no {s : Nat → Int32} {n : Nat} {w : Int32} : spVof s n (s 4) w = -1000001 := if_neg (fun zω => zω.1.2 (Int32.le_refl _))
theorem oof_g {s : Nat → Int32} {n nv no k : Nat} (hN : zN s n nv no) (hk : k < 50) : spOof s (nI (k / 5)) (nI (k % 5)) = if k / 5 < no then od s (k / 5) (k % 5) else -1000004 := by
  have h10ω := hN.2.2.2.2.2
  refine (if_pos ⟨nI_pos (by omega), zWq (A := 0) (Z := 4) rfl rfl ⟨by omega, by omega⟩ (by omega)⟩).trans ?_
  unfold tN
  rw [nI_clamp (by omega), nI_clamp (by omega), hN.2.2.2.2.1]
  by_cases h : k / 5 < no
  · rw [if_pos h, if_pos ((nI_ltI (by omega) (by omega)).mpr h)]
  · rw [if_neg h, if_neg (fun zω => h ((nI_ltI (by omega) (by omega)).mp zω))]
theorem cnt_g {s : Nat → Int32} {n p j : Nat} {w : Int32} (hw : w = nI j) (hj : j < 13) : spCount s n (nI p) (nI 0) w = zCo s n (nI p) (nI 0) j := by
  subst hw
  have eω := nI_toInt (n := j) (by omega)
  refine (if_pos ⟨by rw [eω]; omega, by rw [eω]; omega⟩).trans ?_
  unfold tN
  rw [nI_clamp (by omega)]
theorem cnt_s {s : Nat → Int32} {n p j : Nat} {w : Int32} (hw : w = nI (20 + j)) (hj : j < 3) : spCount s n (nI p) (nI 0) w = s j := by
  subst hw
  have eω := nI_toInt (n := 20 + j) (by omega)
  refine (if_neg (fun zω => by have h9ω := zω.2; rw [eω] at h9ω; omega)).trans ((if_pos (zWq (A := 20) (Z := 22) rfl rfl ⟨by omega, by omega⟩ (by omega))).trans ?_)
  unfold tN
  rw [nI_clamp (by omega), Nat.add_sub_cancel_left]
theorem goal_n {s : Nat → Int32} {n nv no u : Nat} (hw : zWF s n nv no) (hu : u < nv) : (zEn (zGoal s n u) < 0 → zGoal s n u = -1000004) ∧ (0 ≤ zEn (zGoal s n u) → zGoal s n u = zEn (zGoal s n u)) := by
  rcases zGoal_1 hw hu with hω | hω
  · exact ⟨fun _ => hω, fun zω => by rw [hω] at zω; exact absurd zω (by decide)⟩
  · rw [zEn_14 hω]
    exact ⟨fun zω => absurd (Int32.le_trans (by decide) hω.1) (Int32.not_le.mpr zω), fun _ => rfl⟩
set_option maxRecDepth 20000 in
set_option maxHeartbeats 4000000 in
theorem ct_L_areGoods {K : zK} {M : mM} {nx : Nat} {c : Nat} {s : Nat → Int32} {n nv no : Nat} (hS : lS M c s n nv no) : zCt K yL_areGoods cL_areGoods 10 zr_L_areGoods 3 [.ref c, .ref (c + 251), .ref (c + 251 + 1), .ref (c + 251 + 2), .ref (c + 251 + 3)] M nx 0 0 (zI (fun x M' => x = 1 ∧ M' = M)) := by
  refine z_enter [some (.ref c), some (.ref (c + 251)), some (.ref (c + 251 + 1)), some (.ref (c + 251 + 2)), some (.ref (c + 251 + 3)), none, none, none, none, none] (by decide +kernel) (Nat.le_of_ble_eq_true rfl) rfl (fun Bω okω hzω => ?_)
  have hmω := hS.2.1
  have hoω := hS.1
  have hwω := hS.2.2.1
  have hxω := hS.2.2.2
  have hNω := hwω.N
  have hn16ω := hNω.2.1
  have hnv4ω := hNω.2.2.2.1
  have hno10ω := hNω.2.2.2.2.2
  obtain ⟨fsω, hsω⟩ := hoω.self
  refine z_iconst (v := 1) okω dL_areGoods_0 (by decide) ?_
  refine z_istore okω dL_areGoods_1 (by decide) rfl ?_
  refine z_iconst (v := 0) okω dL_areGoods_3 (by decide) ?_
  refine z_istore okω dL_areGoods_4 (by decide) rfl ?_
  have loop6ω : ∀ (t6ω i6ω : Nat) (vzq1ω vzq2ω vzq3ω : Option Value), 16 < i6ω + t6ω → i6ω ≤ 16 → zV 10 Bω (zE Bω (zI (fun xω M'ω => xω = 1 ∧ M'ω = M)) 0 0) 6 [some (.ref c), some (.ref (c + 251)), some (.ref (c + 251 + 1)), some (.ref (c + 251 + 2)), some (.ref (c + 251 + 3)), some (.int 1), some (.int (nI i6ω)), vzq1ω, vzq2ω, vzq3ω] [] M 0 0 := by
    intro t6ω
    induction t6ω with
    | zero => intro i6ω vzq1ω vzq2ω vzq3ω h16ω h26ω; exact absurd h16ω (by omega)
    | succ t6ω ih6ω =>
      intro i6ω vzq1ω vzq2ω vzq3ω h16ω h26ω 
      refine z_iload okω dL_areGoods_6 rfl ?_
      refine z_bipush (v := 16) okω dL_areGoods_8 (by decide) ?_
      refine z_icmp_ge (tgt := 372) okω dL_areGoods_10 (by decide) (fun cz10ω => ?_) (fun cz10ω => ?_)
      · refine z_iload okω dL_areGoods_372 rfl ?_
        exact z_iret okω dL_areGoods_374 rfl rfl rfl (Nat.zero_le _) ⟨rfl, rfl⟩
      · have hi16ω : i6ω < 16 := by have := mt (nI_leI (a := 16) (b := i6ω) (by omega) (by omega)).mpr cz10ω; omega
        refine z_iload okω dL_areGoods_13 rfl ?_
        refine z_if_eq (tgt := 372) okω dL_areGoods_15 (by decide) (fun q9ω => absurd q9ω (by decide)) (fun _ => ?_)
        refine z_iconst (v := 4) okω dL_areGoods_18 (by decide) ?_
        refine z_iload okω dL_areGoods_19 rfl ?_
        refine z_imul okω dL_areGoods_21 ?_
        refine z_istore okω dL_areGoods_22 (by decide) rfl ?_
        refine z_aload_n okω dL_areGoods_24 rfl ?_
        refine z_aload_n okω dL_areGoods_25 rfl ?_
        refine z_iload okω dL_areGoods_26 rfl ?_
        refine z_callSi okω dL_areGoods_28 zm_L_is zw_390 zw_391 (ct_L_is hmω hwω) rfl rfl (by decide) (by decide) (by decide) (Nat.le_of_ble_eq_true rfl) (fun xz1ω Mz2ω qz3ω => ?_)
        obtain ⟨rfl, hMeω⟩ := qz3ω
        obtain rfl := hMeω.symm
        refine z_if_ne (tgt := 56) okω dL_areGoods_31 (by decide) (fun cz31ω => ?_) (fun cz31ω => ?_)
        · have hgkω := Decidable.not_not.mp (mt b2_0.mpr cz31ω)
          have hk31ω : i6ω < 2 ^ 31 := by omega
          have hknω : i6ω < n := (zGoods_n hNω hgkω hk31ω).1
          have hgzω := hwω.g i6ω hknω
          refine z_iconst (v := 0) okω dL_areGoods_56 (by decide) ?_
          refine z_istore okω dL_areGoods_57 (by decide) rfl ?_
          refine z_iconst (v := 0) okω dL_areGoods_59 (by decide) ?_
          refine z_istore okω dL_areGoods_60 (by decide) rfl ?_
          have loop62ω : ∀ (t9ω i9ω : Nat) (yω : Int32), n < i9ω + t9ω → i9ω ≤ n → yω = zPt s i9ω (gd s i6ω 9) → zV 10 Bω (zE Bω (zI (fun xω M'ω => xω = 1 ∧ M'ω = M)) 0 0) 62 [some (.ref c), some (.ref (c + 251)), some (.ref (c + 251 + 1)), some (.ref (c + 251 + 2)), some (.ref (c + 251 + 3)), some (.int 1), some (.int (nI i6ω)), some (.int (4 * nI i6ω)), some (.int yω), some (.int (nI i9ω))] [] M 0 0 := by
            intro t9ω
            induction t9ω with
            | zero => intro i9ω yω h19ω h29ω; exact absurd h19ω (by omega)
            | succ t9ω ih9ω =>
              intro i9ω yω h19ω h29ω hyω
              refine z_iload okω dL_areGoods_62 rfl ?_
              refine z_aload_n okω dL_areGoods_64 rfl ?_
              refine z_iconst (v := 3) okω dL_areGoods_65 (by decide) ?_
              refine l_ldG (t := 3) okω dL_areGoods_66 hmω rfl (by decide) ?_
              refine z_icmp_ge (tgt := 118) okω dL_areGoods_67 (by decide) (fun cz67ω => ?_) (fun cz67ω => ?_)
              · have hinω : i9ω = n := by rw [hNω.1, nI_leI (by omega) (by omega)] at cz67ω; omega
                rw [hinω] at hyω
                refine z_aload_n okω dL_areGoods_118 rfl ?_
                refine z_iload okω dL_areGoods_119 rfl ?_
                refine z_iconst (v := 2) okω dL_areGoods_121 (by decide) ?_
                refine z_iadd okω dL_areGoods_122 ?_
                refine l_ld6 i6ω okω dL_areGoods_123 hmω (lx4_2 i6ω) (by first | assumption | omega) ?_
                refine z_iconst (v := 2) okω dL_areGoods_124 (by decide) ?_
                refine z_icmp_ge (tgt := 134) okω dL_areGoods_125 (by decide) (fun cz125ω => ?_) (fun cz125ω => ?_)
                · have hstω : (if zHere s i6ω then s 5 else gd s i6ω 11) = gd s i6ω 11 := if_neg (fun zω => absurd zω.2 (Int32.not_lt.mpr cz125ω))
                  refine z_aload okω dL_areGoods_134 rfl ?_
                  refine z_iload okω dL_areGoods_136 rfl ?_
                  refine z_iconst (v := 3) okω dL_areGoods_138 (by decide) ?_
                  refine z_iadd okω dL_areGoods_139 ?_
                  refine l_ld11 i6ω okω dL_areGoods_140 hmω (lx4_3 i6ω) (by first | assumption | omega) ?_
                  refine z_aload okω dL_areGoods_141 rfl ?_
                  refine z_iload okω dL_areGoods_143 rfl ?_
                  refine z_iconst (v := 2) okω dL_areGoods_145 (by decide) ?_
                  refine z_iadd okω dL_areGoods_146 ?_
                  refine l_ld10 i6ω okω dL_areGoods_147 hmω (lx4_2 i6ω) (by first | assumption | omega) ?_
                  refine z_isub okω dL_areGoods_148 ?_
                  refine z_istore okω dL_areGoods_149 (by decide) rfl ?_
                  refine z_aload_n okω dL_areGoods_151 rfl ?_
                  refine z_iload okω dL_areGoods_152 rfl ?_
                  refine z_iconst (v := 0) okω dL_areGoods_154 (by decide) ?_
                  refine z_callVi okω dL_areGoods_155 zm_X6_consignmentOf zw_595 zi_X6_consignmentOf hsω rfl (hoω.to_consignmentOf hNω) rfl rfl (by decide) (by decide) (by decide) (Nat.le_of_ble_eq_true rfl) (fun xz4ω Mz5ω qz6ω => ?_)
                  obtain ⟨rfl, hMeω⟩ := qz6ω
                  obtain rfl := hMeω.symm
                  refine zV_eqi (cof_g (j := 0) hk31ω hgkω rfl (by decide)) ?_
                  refine z_aload_n okω dL_areGoods_158 rfl ?_
                  refine z_iload okω dL_areGoods_159 rfl ?_
                  refine l_ld0 i6ω okω dL_areGoods_161 hmω (lx4_0 i6ω) (by first | assumption | omega) ?_
                  refine z_icmp_ne (tgt := 363) okω dL_areGoods_162 (by decide) (fun q9ω => absurd rfl q9ω) (fun _ => ?_)
                  refine z_aload_n okω dL_areGoods_165 rfl ?_
                  refine z_iload okω dL_areGoods_166 rfl ?_
                  refine z_iconst (v := 1) okω dL_areGoods_168 (by decide) ?_
                  refine z_callVi okω dL_areGoods_169 zm_X6_consignmentOf zw_595 zi_X6_consignmentOf hsω rfl (hoω.to_consignmentOf hNω) rfl rfl (by decide) (by decide) (by decide) (Nat.le_of_ble_eq_true rfl) (fun xz7ω Mz8ω qz9ω => ?_)
                  obtain ⟨rfl, hMeω⟩ := qz9ω
                  obtain rfl := hMeω.symm
                  refine zV_eqi (cof_g (j := 1) hk31ω hgkω rfl (by decide)) ?_
                  refine z_aload_n okω dL_areGoods_172 rfl ?_
                  refine z_iload okω dL_areGoods_173 rfl ?_
                  refine z_iconst (v := 1) okω dL_areGoods_175 (by decide) ?_
                  refine z_iadd okω dL_areGoods_176 ?_
                  refine l_ld1 i6ω okω dL_areGoods_177 hmω (lx4_1 i6ω) (by first | assumption | omega) ?_
                  refine z_icmp_ne (tgt := 363) okω dL_areGoods_178 (by decide) (fun q9ω => absurd rfl q9ω) (fun _ => ?_)
                  refine z_aload_n okω dL_areGoods_181 rfl ?_
                  refine z_iload okω dL_areGoods_182 rfl ?_
                  refine z_iconst (v := 2) okω dL_areGoods_184 (by decide) ?_
                  refine z_callVi okω dL_areGoods_185 zm_X6_consignmentOf zw_595 zi_X6_consignmentOf hsω rfl (hoω.to_consignmentOf hNω) rfl rfl (by decide) (by decide) (by decide) (Nat.le_of_ble_eq_true rfl) (fun xz10ω Mz11ω qz12ω => ?_)
                  obtain ⟨rfl, hMeω⟩ := qz12ω
                  obtain rfl := hMeω.symm
                  refine zV_eqi (cof_g (j := 2) hk31ω hgkω rfl (by decide)) ?_
                  refine z_aload_n okω dL_areGoods_188 rfl ?_
                  refine z_iload okω dL_areGoods_189 rfl ?_
                  refine z_iconst (v := 2) okω dL_areGoods_191 (by decide) ?_
                  refine z_iadd okω dL_areGoods_192 ?_
                  refine l_ld2 i6ω okω dL_areGoods_193 hmω (lx4_2 i6ω) (by first | assumption | omega) ?_
                  refine z_icmp_ne (tgt := 363) okω dL_areGoods_194 (by decide) (fun q9ω => absurd rfl q9ω) (fun _ => ?_)
                  refine z_aload_n okω dL_areGoods_197 rfl ?_
                  refine z_iload okω dL_areGoods_198 rfl ?_
                  refine z_iconst (v := 3) okω dL_areGoods_200 (by decide) ?_
                  refine z_callVi okω dL_areGoods_201 zm_X6_consignmentOf zw_595 zi_X6_consignmentOf hsω rfl (hoω.to_consignmentOf hNω) rfl rfl (by decide) (by decide) (by decide) (Nat.le_of_ble_eq_true rfl) (fun xz13ω Mz14ω qz15ω => ?_)
                  obtain ⟨rfl, hMeω⟩ := qz15ω
                  obtain rfl := hMeω.symm
                  refine zV_eqi (cof_g (j := 3) hk31ω hgkω rfl (by decide)) ?_
                  refine z_aload_n okω dL_areGoods_204 rfl ?_
                  refine z_iload okω dL_areGoods_205 rfl ?_
                  refine l_ld3 i6ω okω dL_areGoods_207 hmω (lx4_0 i6ω) (by first | assumption | omega) ?_
                  refine z_icmp_ne (tgt := 363) okω dL_areGoods_208 (by decide) (fun q9ω => absurd rfl q9ω) (fun _ => ?_)
                  refine z_aload_n okω dL_areGoods_211 rfl ?_
                  refine z_iload okω dL_areGoods_212 rfl ?_
                  refine z_iconst (v := 4) okω dL_areGoods_214 (by decide) ?_
                  refine z_callVi okω dL_areGoods_215 zm_X6_consignmentOf zw_595 zi_X6_consignmentOf hsω rfl (hoω.to_consignmentOf hNω) rfl rfl (by decide) (by decide) (by decide) (Nat.le_of_ble_eq_true rfl) (fun xz16ω Mz17ω qz18ω => ?_)
                  obtain ⟨rfl, hMeω⟩ := qz18ω
                  obtain rfl := hMeω.symm
                  refine zV_eqi (cof_g (j := 4) hk31ω hgkω rfl (by decide)) ?_
                  refine z_aload_n okω dL_areGoods_218 rfl ?_
                  refine z_iload okω dL_areGoods_219 rfl ?_
                  refine z_iconst (v := 1) okω dL_areGoods_221 (by decide) ?_
                  refine z_iadd okω dL_areGoods_222 ?_
                  refine l_ld4 i6ω okω dL_areGoods_223 hmω (lx4_1 i6ω) (by first | assumption | omega) ?_
                  refine z_icmp_ne (tgt := 363) okω dL_areGoods_224 (by decide) (fun q9ω => absurd rfl q9ω) (fun _ => ?_)
                  refine z_aload_n okω dL_areGoods_227 rfl ?_
                  refine z_iload okω dL_areGoods_228 rfl ?_
                  refine z_iconst (v := 5) okω dL_areGoods_230 (by decide) ?_
                  refine z_callVi okω dL_areGoods_231 zm_X6_consignmentOf zw_595 zi_X6_consignmentOf hsω rfl (hoω.to_consignmentOf hNω) rfl rfl (by decide) (by decide) (by decide) (Nat.le_of_ble_eq_true rfl) (fun xz19ω Mz20ω qz21ω => ?_)
                  obtain ⟨rfl, hMeω⟩ := qz21ω
                  obtain rfl := hMeω.symm
                  refine zV_eqi (cof_g (j := 5) hk31ω hgkω rfl (by decide)) ?_
                  refine z_aload_n okω dL_areGoods_234 rfl ?_
                  refine z_iload okω dL_areGoods_235 rfl ?_
                  refine z_iconst (v := 3) okω dL_areGoods_237 (by decide) ?_
                  refine z_iadd okω dL_areGoods_238 ?_
                  refine l_ld5 i6ω okω dL_areGoods_239 hmω (lx4_3 i6ω) (by first | assumption | omega) ?_
                  refine z_icmp_ne (tgt := 363) okω dL_areGoods_240 (by decide) (fun q9ω => absurd rfl q9ω) (fun _ => ?_)
                  refine z_aload_n okω dL_areGoods_243 rfl ?_
                  refine z_iload okω dL_areGoods_244 rfl ?_
                  refine z_bipush (v := 6) okω dL_areGoods_246 (by decide) ?_
                  refine z_callVi okω dL_areGoods_248 zm_X6_consignmentOf zw_595 zi_X6_consignmentOf hsω rfl (hoω.to_consignmentOf hNω) rfl rfl (by decide) (by decide) (by decide) (Nat.le_of_ble_eq_true rfl) (fun xz22ω Mz23ω qz24ω => ?_)
                  obtain ⟨rfl, hMeω⟩ := qz24ω
                  obtain rfl := hMeω.symm
                  refine zV_eqi (cof_g (j := 6) hk31ω hgkω rfl (by decide)) ?_
                  refine z_aload_n okω dL_areGoods_251 rfl ?_
                  refine z_iload okω dL_areGoods_252 rfl ?_
                  refine z_iconst (v := 2) okω dL_areGoods_254 (by decide) ?_
                  refine z_iadd okω dL_areGoods_255 ?_
                  refine l_ld6 i6ω okω dL_areGoods_256 hmω (lx4_2 i6ω) (by first | assumption | omega) ?_
                  refine z_icmp_ne (tgt := 363) okω dL_areGoods_257 (by decide) (fun q9ω => absurd rfl q9ω) (fun _ => ?_)
                  refine z_aload_n okω dL_areGoods_260 rfl ?_
                  refine z_iload okω dL_areGoods_261 rfl ?_
                  refine z_bipush (v := 7) okω dL_areGoods_263 (by decide) ?_
                  refine z_callVi okω dL_areGoods_265 zm_X6_consignmentOf zw_595 zi_X6_consignmentOf hsω rfl (hoω.to_consignmentOf hNω) rfl rfl (by decide) (by decide) (by decide) (Nat.le_of_ble_eq_true rfl) (fun xz25ω Mz26ω qz27ω => ?_)
                  obtain ⟨rfl, hMeω⟩ := qz27ω
                  obtain rfl := hMeω.symm
                  refine zV_eqi (cof_g (j := 7) hk31ω hgkω rfl (by decide)) ?_
                  refine z_aload_n okω dL_areGoods_268 rfl ?_
                  refine z_iload okω dL_areGoods_269 rfl ?_
                  refine z_iconst (v := 3) okω dL_areGoods_271 (by decide) ?_
                  refine z_iadd okω dL_areGoods_272 ?_
                  refine l_ld7 i6ω okω dL_areGoods_273 hmω (lx4_3 i6ω) (by first | assumption | omega) ?_
                  refine z_if_ge (tgt := 282) okω dL_areGoods_274 (by decide) (fun cz274ω => ?_) (fun cz274ω => ?_)
                  · refine z_aload_n okω dL_areGoods_282 rfl ?_
                    refine z_iload okω dL_areGoods_283 rfl ?_
                    refine z_iconst (v := 3) okω dL_areGoods_285 (by decide) ?_
                    refine z_iadd okω dL_areGoods_286 ?_
                    refine l_ld7 i6ω okω dL_areGoods_287 hmω (lx4_3 i6ω) (by first | assumption | omega) ?_
                    refine z_icmp_ne (tgt := 363) okω dL_areGoods_288 (by decide) (fun q9ω => absurd (by first | exact (en_7 hgzω).1 (Int32.not_le.mp cz274ω) | exact (en_7 hgzω).2 cz274ω) q9ω) (fun _ => ?_)
                    refine z_aload_n okω dL_areGoods_291 rfl ?_
                    refine z_iload okω dL_areGoods_292 rfl ?_
                    refine z_bipush (v := 8) okω dL_areGoods_294 (by decide) ?_
                    refine z_callVi okω dL_areGoods_296 zm_X6_consignmentOf zw_595 zi_X6_consignmentOf hsω rfl (hoω.to_consignmentOf hNω) rfl rfl (by decide) (by decide) (by decide) (Nat.le_of_ble_eq_true rfl) (fun xz28ω Mz29ω qz30ω => ?_)
                    obtain ⟨rfl, hMeω⟩ := qz30ω
                    obtain rfl := hMeω.symm
                    refine zV_eqi (cof_g (j := 8) hk31ω hgkω rfl (by decide)) ?_
                    refine z_aload okω dL_areGoods_299 rfl ?_
                    refine z_iload okω dL_areGoods_301 rfl ?_
                    refine l_ld8 i6ω okω dL_areGoods_303 hmω (lx4_0 i6ω) (by first | assumption | omega) ?_
                    refine z_if_ge (tgt := 312) okω dL_areGoods_304 (by decide) (fun cz304ω => ?_) (fun cz304ω => ?_)
                    · refine z_aload okω dL_areGoods_312 rfl ?_
                      refine z_iload okω dL_areGoods_314 rfl ?_
                      refine l_ld8 i6ω okω dL_areGoods_316 hmω (lx4_0 i6ω) (by first | assumption | omega) ?_
                      refine z_icmp_ne (tgt := 363) okω dL_areGoods_317 (by decide) (fun q9ω => absurd (by first | exact (en_8 hgzω).1 (Int32.not_le.mp cz304ω) | exact (en_8 hgzω).2 cz304ω) q9ω) (fun _ => ?_)
                      refine z_aload_n okω dL_areGoods_320 rfl ?_
                      refine z_iload okω dL_areGoods_321 rfl ?_
                      refine z_bipush (v := 9) okω dL_areGoods_323 (by decide) ?_
                      refine z_callVi okω dL_areGoods_325 zm_X6_consignmentOf zw_595 zi_X6_consignmentOf hsω rfl (hoω.to_consignmentOf hNω) rfl rfl (by decide) (by decide) (by decide) (Nat.le_of_ble_eq_true rfl) (fun xz31ω Mz32ω qz33ω => ?_)
                      obtain ⟨rfl, hMeω⟩ := qz33ω
                      obtain rfl := hMeω.symm
                      refine zV_eqi (cof_9 hk31ω hgkω) ?_
                      refine z_iload okω dL_areGoods_328 rfl ?_
                      refine z_icmp_ne (tgt := 363) okω dL_areGoods_330 (by decide) (fun q9ω => absurd hyω.symm q9ω) (fun _ => ?_)
                      refine z_aload_n okω dL_areGoods_333 rfl ?_
                      refine z_iload okω dL_areGoods_334 rfl ?_
                      refine z_bipush (v := 10) okω dL_areGoods_336 (by decide) ?_
                      refine z_callVi okω dL_areGoods_338 zm_X6_consignmentOf zw_595 zi_X6_consignmentOf hsω rfl (hoω.to_consignmentOf hNω) rfl rfl (by decide) (by decide) (by decide) (Nat.le_of_ble_eq_true rfl) (fun xz34ω Mz35ω qz36ω => ?_)
                      obtain ⟨rfl, hMeω⟩ := qz36ω
                      obtain rfl := hMeω.symm
                      refine zV_eqi (cof_10 hk31ω hgkω) ?_
                      refine z_iload okω dL_areGoods_341 rfl ?_
                      refine z_icmp_ne (tgt := 363) okω dL_areGoods_343 (by decide) (fun q9ω => absurd (by rw [hstω]) q9ω) (fun _ => ?_)
                      refine z_aload_n okω dL_areGoods_346 rfl ?_
                      refine z_iload okω dL_areGoods_347 rfl ?_
                      refine z_bipush (v := 11) okω dL_areGoods_349 (by decide) ?_
                      refine z_callVi okω dL_areGoods_351 zm_X6_consignmentOf zw_595 zi_X6_consignmentOf hsω rfl (hoω.to_consignmentOf hNω) rfl rfl (by decide) (by decide) (by decide) (Nat.le_of_ble_eq_true rfl) (fun xz37ω Mz38ω qz39ω => ?_)
                      obtain ⟨rfl, hMeω⟩ := qz39ω
                      obtain rfl := hMeω.symm
                      refine zV_eqi cof_11 ?_
                      refine z_ldc okω dL_areGoods_354 zw_409 ?_
                      refine z_icmp_ne (tgt := 363) okω dL_areGoods_356 (by decide) (fun q9ω => absurd rfl q9ω) (fun _ => ?_)
                      refine z_iconst (v := 1) okω dL_areGoods_359 (by decide) ?_
                      refine z_goto (tgt := 364) okω dL_areGoods_360 (by decide) ?_
                      refine z_istore okω dL_areGoods_364 (by decide) rfl ?_
                      refine z_iinc okω dL_areGoods_366 rfl (zinc2 _) (by decide) rfl ?_
                      refine z_goto (tgt := 6) okω dL_areGoods_369 (by decide) ?_
                      exact ih6ω (i6ω + 1) _ _ _ (by omega) (by omega)
                    · refine z_ldc okω dL_areGoods_307 zw_605 ?_
                      refine z_goto (tgt := 317) okω dL_areGoods_309 (by decide) ?_
                      refine z_icmp_ne (tgt := 363) okω dL_areGoods_317 (by decide) (fun q9ω => absurd (by first | exact (en_8 hgzω).1 (Int32.not_le.mp cz304ω) | exact (en_8 hgzω).2 cz304ω) q9ω) (fun _ => ?_)
                      refine z_aload_n okω dL_areGoods_320 rfl ?_
                      refine z_iload okω dL_areGoods_321 rfl ?_
                      refine z_bipush (v := 9) okω dL_areGoods_323 (by decide) ?_
                      refine z_callVi okω dL_areGoods_325 zm_X6_consignmentOf zw_595 zi_X6_consignmentOf hsω rfl (hoω.to_consignmentOf hNω) rfl rfl (by decide) (by decide) (by decide) (Nat.le_of_ble_eq_true rfl) (fun xz40ω Mz41ω qz42ω => ?_)
                      obtain ⟨rfl, hMeω⟩ := qz42ω
                      obtain rfl := hMeω.symm
                      refine zV_eqi (cof_9 hk31ω hgkω) ?_
                      refine z_iload okω dL_areGoods_328 rfl ?_
                      refine z_icmp_ne (tgt := 363) okω dL_areGoods_330 (by decide) (fun q9ω => absurd hyω.symm q9ω) (fun _ => ?_)
                      refine z_aload_n okω dL_areGoods_333 rfl ?_
                      refine z_iload okω dL_areGoods_334 rfl ?_
                      refine z_bipush (v := 10) okω dL_areGoods_336 (by decide) ?_
                      refine z_callVi okω dL_areGoods_338 zm_X6_consignmentOf zw_595 zi_X6_consignmentOf hsω rfl (hoω.to_consignmentOf hNω) rfl rfl (by decide) (by decide) (by decide) (Nat.le_of_ble_eq_true rfl) (fun xz43ω Mz44ω qz45ω => ?_)
                      obtain ⟨rfl, hMeω⟩ := qz45ω
                      obtain rfl := hMeω.symm
                      refine zV_eqi (cof_10 hk31ω hgkω) ?_
                      refine z_iload okω dL_areGoods_341 rfl ?_
                      refine z_icmp_ne (tgt := 363) okω dL_areGoods_343 (by decide) (fun q9ω => absurd (by rw [hstω]) q9ω) (fun _ => ?_)
                      refine z_aload_n okω dL_areGoods_346 rfl ?_
                      refine z_iload okω dL_areGoods_347 rfl ?_
                      refine z_bipush (v := 11) okω dL_areGoods_349 (by decide) ?_
                      refine z_callVi okω dL_areGoods_351 zm_X6_consignmentOf zw_595 zi_X6_consignmentOf hsω rfl (hoω.to_consignmentOf hNω) rfl rfl (by decide) (by decide) (by decide) (Nat.le_of_ble_eq_true rfl) (fun xz46ω Mz47ω qz48ω => ?_)
                      obtain ⟨rfl, hMeω⟩ := qz48ω
                      obtain rfl := hMeω.symm
                      refine zV_eqi cof_11 ?_
                      refine z_ldc okω dL_areGoods_354 zw_409 ?_
                      refine z_icmp_ne (tgt := 363) okω dL_areGoods_356 (by decide) (fun q9ω => absurd rfl q9ω) (fun _ => ?_)
                      refine z_iconst (v := 1) okω dL_areGoods_359 (by decide) ?_
                      refine z_goto (tgt := 364) okω dL_areGoods_360 (by decide) ?_
                      refine z_istore okω dL_areGoods_364 (by decide) rfl ?_
                      refine z_iinc okω dL_areGoods_366 rfl (zinc2 _) (by decide) rfl ?_
                      refine z_goto (tgt := 6) okω dL_areGoods_369 (by decide) ?_
                      exact ih6ω (i6ω + 1) _ _ _ (by omega) (by omega)
                  · refine z_ldc okω dL_areGoods_277 zw_605 ?_
                    refine z_goto (tgt := 288) okω dL_areGoods_279 (by decide) ?_
                    refine z_icmp_ne (tgt := 363) okω dL_areGoods_288 (by decide) (fun q9ω => absurd (by first | exact (en_7 hgzω).1 (Int32.not_le.mp cz274ω) | exact (en_7 hgzω).2 cz274ω) q9ω) (fun _ => ?_)
                    refine z_aload_n okω dL_areGoods_291 rfl ?_
                    refine z_iload okω dL_areGoods_292 rfl ?_
                    refine z_bipush (v := 8) okω dL_areGoods_294 (by decide) ?_
                    refine z_callVi okω dL_areGoods_296 zm_X6_consignmentOf zw_595 zi_X6_consignmentOf hsω rfl (hoω.to_consignmentOf hNω) rfl rfl (by decide) (by decide) (by decide) (Nat.le_of_ble_eq_true rfl) (fun xz49ω Mz50ω qz51ω => ?_)
                    obtain ⟨rfl, hMeω⟩ := qz51ω
                    obtain rfl := hMeω.symm
                    refine zV_eqi (cof_g (j := 8) hk31ω hgkω rfl (by decide)) ?_
                    refine z_aload okω dL_areGoods_299 rfl ?_
                    refine z_iload okω dL_areGoods_301 rfl ?_
                    refine l_ld8 i6ω okω dL_areGoods_303 hmω (lx4_0 i6ω) (by first | assumption | omega) ?_
                    refine z_if_ge (tgt := 312) okω dL_areGoods_304 (by decide) (fun cz304ω => ?_) (fun cz304ω => ?_)
                    · refine z_aload okω dL_areGoods_312 rfl ?_
                      refine z_iload okω dL_areGoods_314 rfl ?_
                      refine l_ld8 i6ω okω dL_areGoods_316 hmω (lx4_0 i6ω) (by first | assumption | omega) ?_
                      refine z_icmp_ne (tgt := 363) okω dL_areGoods_317 (by decide) (fun q9ω => absurd (by first | exact (en_8 hgzω).1 (Int32.not_le.mp cz304ω) | exact (en_8 hgzω).2 cz304ω) q9ω) (fun _ => ?_)
                      refine z_aload_n okω dL_areGoods_320 rfl ?_
                      refine z_iload okω dL_areGoods_321 rfl ?_
                      refine z_bipush (v := 9) okω dL_areGoods_323 (by decide) ?_
                      refine z_callVi okω dL_areGoods_325 zm_X6_consignmentOf zw_595 zi_X6_consignmentOf hsω rfl (hoω.to_consignmentOf hNω) rfl rfl (by decide) (by decide) (by decide) (Nat.le_of_ble_eq_true rfl) (fun xz52ω Mz53ω qz54ω => ?_)
                      obtain ⟨rfl, hMeω⟩ := qz54ω
                      obtain rfl := hMeω.symm
                      refine zV_eqi (cof_9 hk31ω hgkω) ?_
                      refine z_iload okω dL_areGoods_328 rfl ?_
                      refine z_icmp_ne (tgt := 363) okω dL_areGoods_330 (by decide) (fun q9ω => absurd hyω.symm q9ω) (fun _ => ?_)
                      refine z_aload_n okω dL_areGoods_333 rfl ?_
                      refine z_iload okω dL_areGoods_334 rfl ?_
                      refine z_bipush (v := 10) okω dL_areGoods_336 (by decide) ?_
                      refine z_callVi okω dL_areGoods_338 zm_X6_consignmentOf zw_595 zi_X6_consignmentOf hsω rfl (hoω.to_consignmentOf hNω) rfl rfl (by decide) (by decide) (by decide) (Nat.le_of_ble_eq_true rfl) (fun xz55ω Mz56ω qz57ω => ?_)
                      obtain ⟨rfl, hMeω⟩ := qz57ω
                      obtain rfl := hMeω.symm
                      refine zV_eqi (cof_10 hk31ω hgkω) ?_
                      refine z_iload okω dL_areGoods_341 rfl ?_
                      refine z_icmp_ne (tgt := 363) okω dL_areGoods_343 (by decide) (fun q9ω => absurd (by rw [hstω]) q9ω) (fun _ => ?_)
                      refine z_aload_n okω dL_areGoods_346 rfl ?_
                      refine z_iload okω dL_areGoods_347 rfl ?_
                      refine z_bipush (v := 11) okω dL_areGoods_349 (by decide) ?_
                      refine z_callVi okω dL_areGoods_351 zm_X6_consignmentOf zw_595 zi_X6_consignmentOf hsω rfl (hoω.to_consignmentOf hNω) rfl rfl (by decide) (by decide) (by decide) (Nat.le_of_ble_eq_true rfl) (fun xz58ω Mz59ω qz60ω => ?_)
                      obtain ⟨rfl, hMeω⟩ := qz60ω
                      obtain rfl := hMeω.symm
                      refine zV_eqi cof_11 ?_
                      refine z_ldc okω dL_areGoods_354 zw_409 ?_
                      refine z_icmp_ne (tgt := 363) okω dL_areGoods_356 (by decide) (fun q9ω => absurd rfl q9ω) (fun _ => ?_)
                      refine z_iconst (v := 1) okω dL_areGoods_359 (by decide) ?_
                      refine z_goto (tgt := 364) okω dL_areGoods_360 (by decide) ?_
                      refine z_istore okω dL_areGoods_364 (by decide) rfl ?_
                      refine z_iinc okω dL_areGoods_366 rfl (zinc2 _) (by decide) rfl ?_
                      refine z_goto (tgt := 6) okω dL_areGoods_369 (by decide) ?_
                      exact ih6ω (i6ω + 1) _ _ _ (by omega) (by omega)
                    · refine z_ldc okω dL_areGoods_307 zw_605 ?_
                      refine z_goto (tgt := 317) okω dL_areGoods_309 (by decide) ?_
                      refine z_icmp_ne (tgt := 363) okω dL_areGoods_317 (by decide) (fun q9ω => absurd (by first | exact (en_8 hgzω).1 (Int32.not_le.mp cz304ω) | exact (en_8 hgzω).2 cz304ω) q9ω) (fun _ => ?_)
                      refine z_aload_n okω dL_areGoods_320 rfl ?_
                      refine z_iload okω dL_areGoods_321 rfl ?_
                      refine z_bipush (v := 9) okω dL_areGoods_323 (by decide) ?_
                      refine z_callVi okω dL_areGoods_325 zm_X6_consignmentOf zw_595 zi_X6_consignmentOf hsω rfl (hoω.to_consignmentOf hNω) rfl rfl (by decide) (by decide) (by decide) (Nat.le_of_ble_eq_true rfl) (fun xz61ω Mz62ω qz63ω => ?_)
                      obtain ⟨rfl, hMeω⟩ := qz63ω
                      obtain rfl := hMeω.symm
                      refine zV_eqi (cof_9 hk31ω hgkω) ?_
                      refine z_iload okω dL_areGoods_328 rfl ?_
                      refine z_icmp_ne (tgt := 363) okω dL_areGoods_330 (by decide) (fun q9ω => absurd hyω.symm q9ω) (fun _ => ?_)
                      refine z_aload_n okω dL_areGoods_333 rfl ?_
                      refine z_iload okω dL_areGoods_334 rfl ?_
                      refine z_bipush (v := 10) okω dL_areGoods_336 (by decide) ?_
                      refine z_callVi okω dL_areGoods_338 zm_X6_consignmentOf zw_595 zi_X6_consignmentOf hsω rfl (hoω.to_consignmentOf hNω) rfl rfl (by decide) (by decide) (by decide) (Nat.le_of_ble_eq_true rfl) (fun xz64ω Mz65ω qz66ω => ?_)
                      obtain ⟨rfl, hMeω⟩ := qz66ω
                      obtain rfl := hMeω.symm
                      refine zV_eqi (cof_10 hk31ω hgkω) ?_
                      refine z_iload okω dL_areGoods_341 rfl ?_
                      refine z_icmp_ne (tgt := 363) okω dL_areGoods_343 (by decide) (fun q9ω => absurd (by rw [hstω]) q9ω) (fun _ => ?_)
                      refine z_aload_n okω dL_areGoods_346 rfl ?_
                      refine z_iload okω dL_areGoods_347 rfl ?_
                      refine z_bipush (v := 11) okω dL_areGoods_349 (by decide) ?_
                      refine z_callVi okω dL_areGoods_351 zm_X6_consignmentOf zw_595 zi_X6_consignmentOf hsω rfl (hoω.to_consignmentOf hNω) rfl rfl (by decide) (by decide) (by decide) (Nat.le_of_ble_eq_true rfl) (fun xz67ω Mz68ω qz69ω => ?_)
                      obtain ⟨rfl, hMeω⟩ := qz69ω
                      obtain rfl := hMeω.symm
                      refine zV_eqi cof_11 ?_
                      refine z_ldc okω dL_areGoods_354 zw_409 ?_
                      refine z_icmp_ne (tgt := 363) okω dL_areGoods_356 (by decide) (fun q9ω => absurd rfl q9ω) (fun _ => ?_)
                      refine z_iconst (v := 1) okω dL_areGoods_359 (by decide) ?_
                      refine z_goto (tgt := 364) okω dL_areGoods_360 (by decide) ?_
                      refine z_istore okω dL_areGoods_364 (by decide) rfl ?_
                      refine z_iinc okω dL_areGoods_366 rfl (zinc2 _) (by decide) rfl ?_
                      refine z_goto (tgt := 6) okω dL_areGoods_369 (by decide) ?_
                      exact ih6ω (i6ω + 1) _ _ _ (by omega) (by omega)
                · have hstω : (if zHere s i6ω then s 5 else gd s i6ω 11) = s 5 := if_pos ⟨(zG_i hNω hknω).mp hgkω, Int32.not_le.mp cz125ω⟩
                  refine z_aload_n okω dL_areGoods_128 rfl ?_
                  refine z_iconst (v := 5) okω dL_areGoods_129 (by decide) ?_
                  refine l_ldG (t := 5) okω dL_areGoods_130 hmω rfl (by decide) ?_
                  refine z_goto (tgt := 141) okω dL_areGoods_131 (by decide) ?_
                  refine z_aload okω dL_areGoods_141 rfl ?_
                  refine z_iload okω dL_areGoods_143 rfl ?_
                  refine z_iconst (v := 2) okω dL_areGoods_145 (by decide) ?_
                  refine z_iadd okω dL_areGoods_146 ?_
                  refine l_ld10 i6ω okω dL_areGoods_147 hmω (lx4_2 i6ω) (by first | assumption | omega) ?_
                  refine z_isub okω dL_areGoods_148 ?_
                  refine z_istore okω dL_areGoods_149 (by decide) rfl ?_
                  refine z_aload_n okω dL_areGoods_151 rfl ?_
                  refine z_iload okω dL_areGoods_152 rfl ?_
                  refine z_iconst (v := 0) okω dL_areGoods_154 (by decide) ?_
                  refine z_callVi okω dL_areGoods_155 zm_X6_consignmentOf zw_595 zi_X6_consignmentOf hsω rfl (hoω.to_consignmentOf hNω) rfl rfl (by decide) (by decide) (by decide) (Nat.le_of_ble_eq_true rfl) (fun xz70ω Mz71ω qz72ω => ?_)
                  obtain ⟨rfl, hMeω⟩ := qz72ω
                  obtain rfl := hMeω.symm
                  refine zV_eqi (cof_g (j := 0) hk31ω hgkω rfl (by decide)) ?_
                  refine z_aload_n okω dL_areGoods_158 rfl ?_
                  refine z_iload okω dL_areGoods_159 rfl ?_
                  refine l_ld0 i6ω okω dL_areGoods_161 hmω (lx4_0 i6ω) (by first | assumption | omega) ?_
                  refine z_icmp_ne (tgt := 363) okω dL_areGoods_162 (by decide) (fun q9ω => absurd rfl q9ω) (fun _ => ?_)
                  refine z_aload_n okω dL_areGoods_165 rfl ?_
                  refine z_iload okω dL_areGoods_166 rfl ?_
                  refine z_iconst (v := 1) okω dL_areGoods_168 (by decide) ?_
                  refine z_callVi okω dL_areGoods_169 zm_X6_consignmentOf zw_595 zi_X6_consignmentOf hsω rfl (hoω.to_consignmentOf hNω) rfl rfl (by decide) (by decide) (by decide) (Nat.le_of_ble_eq_true rfl) (fun xz73ω Mz74ω qz75ω => ?_)
                  obtain ⟨rfl, hMeω⟩ := qz75ω
                  obtain rfl := hMeω.symm
                  refine zV_eqi (cof_g (j := 1) hk31ω hgkω rfl (by decide)) ?_
                  refine z_aload_n okω dL_areGoods_172 rfl ?_
                  refine z_iload okω dL_areGoods_173 rfl ?_
                  refine z_iconst (v := 1) okω dL_areGoods_175 (by decide) ?_
                  refine z_iadd okω dL_areGoods_176 ?_
                  refine l_ld1 i6ω okω dL_areGoods_177 hmω (lx4_1 i6ω) (by first | assumption | omega) ?_
                  refine z_icmp_ne (tgt := 363) okω dL_areGoods_178 (by decide) (fun q9ω => absurd rfl q9ω) (fun _ => ?_)
                  refine z_aload_n okω dL_areGoods_181 rfl ?_
                  refine z_iload okω dL_areGoods_182 rfl ?_
                  refine z_iconst (v := 2) okω dL_areGoods_184 (by decide) ?_
                  refine z_callVi okω dL_areGoods_185 zm_X6_consignmentOf zw_595 zi_X6_consignmentOf hsω rfl (hoω.to_consignmentOf hNω) rfl rfl (by decide) (by decide) (by decide) (Nat.le_of_ble_eq_true rfl) (fun xz76ω Mz77ω qz78ω => ?_)
                  obtain ⟨rfl, hMeω⟩ := qz78ω
                  obtain rfl := hMeω.symm
                  refine zV_eqi (cof_g (j := 2) hk31ω hgkω rfl (by decide)) ?_
                  refine z_aload_n okω dL_areGoods_188 rfl ?_
                  refine z_iload okω dL_areGoods_189 rfl ?_
                  refine z_iconst (v := 2) okω dL_areGoods_191 (by decide) ?_
                  refine z_iadd okω dL_areGoods_192 ?_
                  refine l_ld2 i6ω okω dL_areGoods_193 hmω (lx4_2 i6ω) (by first | assumption | omega) ?_
                  refine z_icmp_ne (tgt := 363) okω dL_areGoods_194 (by decide) (fun q9ω => absurd rfl q9ω) (fun _ => ?_)
                  refine z_aload_n okω dL_areGoods_197 rfl ?_
                  refine z_iload okω dL_areGoods_198 rfl ?_
                  refine z_iconst (v := 3) okω dL_areGoods_200 (by decide) ?_
                  refine z_callVi okω dL_areGoods_201 zm_X6_consignmentOf zw_595 zi_X6_consignmentOf hsω rfl (hoω.to_consignmentOf hNω) rfl rfl (by decide) (by decide) (by decide) (Nat.le_of_ble_eq_true rfl) (fun xz79ω Mz80ω qz81ω => ?_)
                  obtain ⟨rfl, hMeω⟩ := qz81ω
                  obtain rfl := hMeω.symm
                  refine zV_eqi (cof_g (j := 3) hk31ω hgkω rfl (by decide)) ?_
                  refine z_aload_n okω dL_areGoods_204 rfl ?_
                  refine z_iload okω dL_areGoods_205 rfl ?_
                  refine l_ld3 i6ω okω dL_areGoods_207 hmω (lx4_0 i6ω) (by first | assumption | omega) ?_
                  refine z_icmp_ne (tgt := 363) okω dL_areGoods_208 (by decide) (fun q9ω => absurd rfl q9ω) (fun _ => ?_)
                  refine z_aload_n okω dL_areGoods_211 rfl ?_
                  refine z_iload okω dL_areGoods_212 rfl ?_
                  refine z_iconst (v := 4) okω dL_areGoods_214 (by decide) ?_
                  refine z_callVi okω dL_areGoods_215 zm_X6_consignmentOf zw_595 zi_X6_consignmentOf hsω rfl (hoω.to_consignmentOf hNω) rfl rfl (by decide) (by decide) (by decide) (Nat.le_of_ble_eq_true rfl) (fun xz82ω Mz83ω qz84ω => ?_)
                  obtain ⟨rfl, hMeω⟩ := qz84ω
                  obtain rfl := hMeω.symm
                  refine zV_eqi (cof_g (j := 4) hk31ω hgkω rfl (by decide)) ?_
                  refine z_aload_n okω dL_areGoods_218 rfl ?_
                  refine z_iload okω dL_areGoods_219 rfl ?_
                  refine z_iconst (v := 1) okω dL_areGoods_221 (by decide) ?_
                  refine z_iadd okω dL_areGoods_222 ?_
                  refine l_ld4 i6ω okω dL_areGoods_223 hmω (lx4_1 i6ω) (by first | assumption | omega) ?_
                  refine z_icmp_ne (tgt := 363) okω dL_areGoods_224 (by decide) (fun q9ω => absurd rfl q9ω) (fun _ => ?_)
                  refine z_aload_n okω dL_areGoods_227 rfl ?_
                  refine z_iload okω dL_areGoods_228 rfl ?_
                  refine z_iconst (v := 5) okω dL_areGoods_230 (by decide) ?_
                  refine z_callVi okω dL_areGoods_231 zm_X6_consignmentOf zw_595 zi_X6_consignmentOf hsω rfl (hoω.to_consignmentOf hNω) rfl rfl (by decide) (by decide) (by decide) (Nat.le_of_ble_eq_true rfl) (fun xz85ω Mz86ω qz87ω => ?_)
                  obtain ⟨rfl, hMeω⟩ := qz87ω
                  obtain rfl := hMeω.symm
                  refine zV_eqi (cof_g (j := 5) hk31ω hgkω rfl (by decide)) ?_
                  refine z_aload_n okω dL_areGoods_234 rfl ?_
                  refine z_iload okω dL_areGoods_235 rfl ?_
                  refine z_iconst (v := 3) okω dL_areGoods_237 (by decide) ?_
                  refine z_iadd okω dL_areGoods_238 ?_
                  refine l_ld5 i6ω okω dL_areGoods_239 hmω (lx4_3 i6ω) (by first | assumption | omega) ?_
                  refine z_icmp_ne (tgt := 363) okω dL_areGoods_240 (by decide) (fun q9ω => absurd rfl q9ω) (fun _ => ?_)
                  refine z_aload_n okω dL_areGoods_243 rfl ?_
                  refine z_iload okω dL_areGoods_244 rfl ?_
                  refine z_bipush (v := 6) okω dL_areGoods_246 (by decide) ?_
                  refine z_callVi okω dL_areGoods_248 zm_X6_consignmentOf zw_595 zi_X6_consignmentOf hsω rfl (hoω.to_consignmentOf hNω) rfl rfl (by decide) (by decide) (by decide) (Nat.le_of_ble_eq_true rfl) (fun xz88ω Mz89ω qz90ω => ?_)
                  obtain ⟨rfl, hMeω⟩ := qz90ω
                  obtain rfl := hMeω.symm
                  refine zV_eqi (cof_g (j := 6) hk31ω hgkω rfl (by decide)) ?_
                  refine z_aload_n okω dL_areGoods_251 rfl ?_
                  refine z_iload okω dL_areGoods_252 rfl ?_
                  refine z_iconst (v := 2) okω dL_areGoods_254 (by decide) ?_
                  refine z_iadd okω dL_areGoods_255 ?_
                  refine l_ld6 i6ω okω dL_areGoods_256 hmω (lx4_2 i6ω) (by first | assumption | omega) ?_
                  refine z_icmp_ne (tgt := 363) okω dL_areGoods_257 (by decide) (fun q9ω => absurd rfl q9ω) (fun _ => ?_)
                  refine z_aload_n okω dL_areGoods_260 rfl ?_
                  refine z_iload okω dL_areGoods_261 rfl ?_
                  refine z_bipush (v := 7) okω dL_areGoods_263 (by decide) ?_
                  refine z_callVi okω dL_areGoods_265 zm_X6_consignmentOf zw_595 zi_X6_consignmentOf hsω rfl (hoω.to_consignmentOf hNω) rfl rfl (by decide) (by decide) (by decide) (Nat.le_of_ble_eq_true rfl) (fun xz91ω Mz92ω qz93ω => ?_)
                  obtain ⟨rfl, hMeω⟩ := qz93ω
                  obtain rfl := hMeω.symm
                  refine zV_eqi (cof_g (j := 7) hk31ω hgkω rfl (by decide)) ?_
                  refine z_aload_n okω dL_areGoods_268 rfl ?_
                  refine z_iload okω dL_areGoods_269 rfl ?_
                  refine z_iconst (v := 3) okω dL_areGoods_271 (by decide) ?_
                  refine z_iadd okω dL_areGoods_272 ?_
                  refine l_ld7 i6ω okω dL_areGoods_273 hmω (lx4_3 i6ω) (by first | assumption | omega) ?_
                  refine z_if_ge (tgt := 282) okω dL_areGoods_274 (by decide) (fun cz274ω => ?_) (fun cz274ω => ?_)
                  · refine z_aload_n okω dL_areGoods_282 rfl ?_
                    refine z_iload okω dL_areGoods_283 rfl ?_
                    refine z_iconst (v := 3) okω dL_areGoods_285 (by decide) ?_
                    refine z_iadd okω dL_areGoods_286 ?_
                    refine l_ld7 i6ω okω dL_areGoods_287 hmω (lx4_3 i6ω) (by first | assumption | omega) ?_
                    refine z_icmp_ne (tgt := 363) okω dL_areGoods_288 (by decide) (fun q9ω => absurd (by first | exact (en_7 hgzω).1 (Int32.not_le.mp cz274ω) | exact (en_7 hgzω).2 cz274ω) q9ω) (fun _ => ?_)
                    refine z_aload_n okω dL_areGoods_291 rfl ?_
                    refine z_iload okω dL_areGoods_292 rfl ?_
                    refine z_bipush (v := 8) okω dL_areGoods_294 (by decide) ?_
                    refine z_callVi okω dL_areGoods_296 zm_X6_consignmentOf zw_595 zi_X6_consignmentOf hsω rfl (hoω.to_consignmentOf hNω) rfl rfl (by decide) (by decide) (by decide) (Nat.le_of_ble_eq_true rfl) (fun xz94ω Mz95ω qz96ω => ?_)
                    obtain ⟨rfl, hMeω⟩ := qz96ω
                    obtain rfl := hMeω.symm
                    refine zV_eqi (cof_g (j := 8) hk31ω hgkω rfl (by decide)) ?_
                    refine z_aload okω dL_areGoods_299 rfl ?_
                    refine z_iload okω dL_areGoods_301 rfl ?_
                    refine l_ld8 i6ω okω dL_areGoods_303 hmω (lx4_0 i6ω) (by first | assumption | omega) ?_
                    refine z_if_ge (tgt := 312) okω dL_areGoods_304 (by decide) (fun cz304ω => ?_) (fun cz304ω => ?_)
                    · refine z_aload okω dL_areGoods_312 rfl ?_
                      refine z_iload okω dL_areGoods_314 rfl ?_
                      refine l_ld8 i6ω okω dL_areGoods_316 hmω (lx4_0 i6ω) (by first | assumption | omega) ?_
                      refine z_icmp_ne (tgt := 363) okω dL_areGoods_317 (by decide) (fun q9ω => absurd (by first | exact (en_8 hgzω).1 (Int32.not_le.mp cz304ω) | exact (en_8 hgzω).2 cz304ω) q9ω) (fun _ => ?_)
                      refine z_aload_n okω dL_areGoods_320 rfl ?_
                      refine z_iload okω dL_areGoods_321 rfl ?_
                      refine z_bipush (v := 9) okω dL_areGoods_323 (by decide) ?_
                      refine z_callVi okω dL_areGoods_325 zm_X6_consignmentOf zw_595 zi_X6_consignmentOf hsω rfl (hoω.to_consignmentOf hNω) rfl rfl (by decide) (by decide) (by decide) (Nat.le_of_ble_eq_true rfl) (fun xz97ω Mz98ω qz99ω => ?_)
                      obtain ⟨rfl, hMeω⟩ := qz99ω
                      obtain rfl := hMeω.symm
                      refine zV_eqi (cof_9 hk31ω hgkω) ?_
                      refine z_iload okω dL_areGoods_328 rfl ?_
                      refine z_icmp_ne (tgt := 363) okω dL_areGoods_330 (by decide) (fun q9ω => absurd hyω.symm q9ω) (fun _ => ?_)
                      refine z_aload_n okω dL_areGoods_333 rfl ?_
                      refine z_iload okω dL_areGoods_334 rfl ?_
                      refine z_bipush (v := 10) okω dL_areGoods_336 (by decide) ?_
                      refine z_callVi okω dL_areGoods_338 zm_X6_consignmentOf zw_595 zi_X6_consignmentOf hsω rfl (hoω.to_consignmentOf hNω) rfl rfl (by decide) (by decide) (by decide) (Nat.le_of_ble_eq_true rfl) (fun xz100ω Mz101ω qz102ω => ?_)
                      obtain ⟨rfl, hMeω⟩ := qz102ω
                      obtain rfl := hMeω.symm
                      refine zV_eqi (cof_10 hk31ω hgkω) ?_
                      refine z_iload okω dL_areGoods_341 rfl ?_
                      refine z_icmp_ne (tgt := 363) okω dL_areGoods_343 (by decide) (fun q9ω => absurd (by rw [hstω]) q9ω) (fun _ => ?_)
                      refine z_aload_n okω dL_areGoods_346 rfl ?_
                      refine z_iload okω dL_areGoods_347 rfl ?_
                      refine z_bipush (v := 11) okω dL_areGoods_349 (by decide) ?_
                      refine z_callVi okω dL_areGoods_351 zm_X6_consignmentOf zw_595 zi_X6_consignmentOf hsω rfl (hoω.to_consignmentOf hNω) rfl rfl (by decide) (by decide) (by decide) (Nat.le_of_ble_eq_true rfl) (fun xz103ω Mz104ω qz105ω => ?_)
                      obtain ⟨rfl, hMeω⟩ := qz105ω
                      obtain rfl := hMeω.symm
                      refine zV_eqi cof_11 ?_
                      refine z_ldc okω dL_areGoods_354 zw_409 ?_
                      refine z_icmp_ne (tgt := 363) okω dL_areGoods_356 (by decide) (fun q9ω => absurd rfl q9ω) (fun _ => ?_)
                      refine z_iconst (v := 1) okω dL_areGoods_359 (by decide) ?_
                      refine z_goto (tgt := 364) okω dL_areGoods_360 (by decide) ?_
                      refine z_istore okω dL_areGoods_364 (by decide) rfl ?_
                      refine z_iinc okω dL_areGoods_366 rfl (zinc2 _) (by decide) rfl ?_
                      refine z_goto (tgt := 6) okω dL_areGoods_369 (by decide) ?_
                      exact ih6ω (i6ω + 1) _ _ _ (by omega) (by omega)
                    · refine z_ldc okω dL_areGoods_307 zw_605 ?_
                      refine z_goto (tgt := 317) okω dL_areGoods_309 (by decide) ?_
                      refine z_icmp_ne (tgt := 363) okω dL_areGoods_317 (by decide) (fun q9ω => absurd (by first | exact (en_8 hgzω).1 (Int32.not_le.mp cz304ω) | exact (en_8 hgzω).2 cz304ω) q9ω) (fun _ => ?_)
                      refine z_aload_n okω dL_areGoods_320 rfl ?_
                      refine z_iload okω dL_areGoods_321 rfl ?_
                      refine z_bipush (v := 9) okω dL_areGoods_323 (by decide) ?_
                      refine z_callVi okω dL_areGoods_325 zm_X6_consignmentOf zw_595 zi_X6_consignmentOf hsω rfl (hoω.to_consignmentOf hNω) rfl rfl (by decide) (by decide) (by decide) (Nat.le_of_ble_eq_true rfl) (fun xz106ω Mz107ω qz108ω => ?_)
                      obtain ⟨rfl, hMeω⟩ := qz108ω
                      obtain rfl := hMeω.symm
                      refine zV_eqi (cof_9 hk31ω hgkω) ?_
                      refine z_iload okω dL_areGoods_328 rfl ?_
                      refine z_icmp_ne (tgt := 363) okω dL_areGoods_330 (by decide) (fun q9ω => absurd hyω.symm q9ω) (fun _ => ?_)
                      refine z_aload_n okω dL_areGoods_333 rfl ?_
                      refine z_iload okω dL_areGoods_334 rfl ?_
                      refine z_bipush (v := 10) okω dL_areGoods_336 (by decide) ?_
                      refine z_callVi okω dL_areGoods_338 zm_X6_consignmentOf zw_595 zi_X6_consignmentOf hsω rfl (hoω.to_consignmentOf hNω) rfl rfl (by decide) (by decide) (by decide) (Nat.le_of_ble_eq_true rfl) (fun xz109ω Mz110ω qz111ω => ?_)
                      obtain ⟨rfl, hMeω⟩ := qz111ω
                      obtain rfl := hMeω.symm
                      refine zV_eqi (cof_10 hk31ω hgkω) ?_
                      refine z_iload okω dL_areGoods_341 rfl ?_
                      refine z_icmp_ne (tgt := 363) okω dL_areGoods_343 (by decide) (fun q9ω => absurd (by rw [hstω]) q9ω) (fun _ => ?_)
                      refine z_aload_n okω dL_areGoods_346 rfl ?_
                      refine z_iload okω dL_areGoods_347 rfl ?_
                      refine z_bipush (v := 11) okω dL_areGoods_349 (by decide) ?_
                      refine z_callVi okω dL_areGoods_351 zm_X6_consignmentOf zw_595 zi_X6_consignmentOf hsω rfl (hoω.to_consignmentOf hNω) rfl rfl (by decide) (by decide) (by decide) (Nat.le_of_ble_eq_true rfl) (fun xz112ω Mz113ω qz114ω => ?_)
                      obtain ⟨rfl, hMeω⟩ := qz114ω
                      obtain rfl := hMeω.symm
                      refine zV_eqi cof_11 ?_
                      refine z_ldc okω dL_areGoods_354 zw_409 ?_
                      refine z_icmp_ne (tgt := 363) okω dL_areGoods_356 (by decide) (fun q9ω => absurd rfl q9ω) (fun _ => ?_)
                      refine z_iconst (v := 1) okω dL_areGoods_359 (by decide) ?_
                      refine z_goto (tgt := 364) okω dL_areGoods_360 (by decide) ?_
                      refine z_istore okω dL_areGoods_364 (by decide) rfl ?_
                      refine z_iinc okω dL_areGoods_366 rfl (zinc2 _) (by decide) rfl ?_
                      refine z_goto (tgt := 6) okω dL_areGoods_369 (by decide) ?_
                      exact ih6ω (i6ω + 1) _ _ _ (by omega) (by omega)
                  · refine z_ldc okω dL_areGoods_277 zw_605 ?_
                    refine z_goto (tgt := 288) okω dL_areGoods_279 (by decide) ?_
                    refine z_icmp_ne (tgt := 363) okω dL_areGoods_288 (by decide) (fun q9ω => absurd (by first | exact (en_7 hgzω).1 (Int32.not_le.mp cz274ω) | exact (en_7 hgzω).2 cz274ω) q9ω) (fun _ => ?_)
                    refine z_aload_n okω dL_areGoods_291 rfl ?_
                    refine z_iload okω dL_areGoods_292 rfl ?_
                    refine z_bipush (v := 8) okω dL_areGoods_294 (by decide) ?_
                    refine z_callVi okω dL_areGoods_296 zm_X6_consignmentOf zw_595 zi_X6_consignmentOf hsω rfl (hoω.to_consignmentOf hNω) rfl rfl (by decide) (by decide) (by decide) (Nat.le_of_ble_eq_true rfl) (fun xz115ω Mz116ω qz117ω => ?_)
                    obtain ⟨rfl, hMeω⟩ := qz117ω
                    obtain rfl := hMeω.symm
                    refine zV_eqi (cof_g (j := 8) hk31ω hgkω rfl (by decide)) ?_
                    refine z_aload okω dL_areGoods_299 rfl ?_
                    refine z_iload okω dL_areGoods_301 rfl ?_
                    refine l_ld8 i6ω okω dL_areGoods_303 hmω (lx4_0 i6ω) (by first | assumption | omega) ?_
                    refine z_if_ge (tgt := 312) okω dL_areGoods_304 (by decide) (fun cz304ω => ?_) (fun cz304ω => ?_)
                    · refine z_aload okω dL_areGoods_312 rfl ?_
                      refine z_iload okω dL_areGoods_314 rfl ?_
                      refine l_ld8 i6ω okω dL_areGoods_316 hmω (lx4_0 i6ω) (by first | assumption | omega) ?_
                      refine z_icmp_ne (tgt := 363) okω dL_areGoods_317 (by decide) (fun q9ω => absurd (by first | exact (en_8 hgzω).1 (Int32.not_le.mp cz304ω) | exact (en_8 hgzω).2 cz304ω) q9ω) (fun _ => ?_)
                      refine z_aload_n okω dL_areGoods_320 rfl ?_
                      refine z_iload okω dL_areGoods_321 rfl ?_
                      refine z_bipush (v := 9) okω dL_areGoods_323 (by decide) ?_
                      refine z_callVi okω dL_areGoods_325 zm_X6_consignmentOf zw_595 zi_X6_consignmentOf hsω rfl (hoω.to_consignmentOf hNω) rfl rfl (by decide) (by decide) (by decide) (Nat.le_of_ble_eq_true rfl) (fun xz118ω Mz119ω qz120ω => ?_)
                      obtain ⟨rfl, hMeω⟩ := qz120ω
                      obtain rfl := hMeω.symm
                      refine zV_eqi (cof_9 hk31ω hgkω) ?_
                      refine z_iload okω dL_areGoods_328 rfl ?_
                      refine z_icmp_ne (tgt := 363) okω dL_areGoods_330 (by decide) (fun q9ω => absurd hyω.symm q9ω) (fun _ => ?_)
                      refine z_aload_n okω dL_areGoods_333 rfl ?_
                      refine z_iload okω dL_areGoods_334 rfl ?_
                      refine z_bipush (v := 10) okω dL_areGoods_336 (by decide) ?_
                      refine z_callVi okω dL_areGoods_338 zm_X6_consignmentOf zw_595 zi_X6_consignmentOf hsω rfl (hoω.to_consignmentOf hNω) rfl rfl (by decide) (by decide) (by decide) (Nat.le_of_ble_eq_true rfl) (fun xz121ω Mz122ω qz123ω => ?_)
                      obtain ⟨rfl, hMeω⟩ := qz123ω
                      obtain rfl := hMeω.symm
                      refine zV_eqi (cof_10 hk31ω hgkω) ?_
                      refine z_iload okω dL_areGoods_341 rfl ?_
                      refine z_icmp_ne (tgt := 363) okω dL_areGoods_343 (by decide) (fun q9ω => absurd (by rw [hstω]) q9ω) (fun _ => ?_)
                      refine z_aload_n okω dL_areGoods_346 rfl ?_
                      refine z_iload okω dL_areGoods_347 rfl ?_
                      refine z_bipush (v := 11) okω dL_areGoods_349 (by decide) ?_
                      refine z_callVi okω dL_areGoods_351 zm_X6_consignmentOf zw_595 zi_X6_consignmentOf hsω rfl (hoω.to_consignmentOf hNω) rfl rfl (by decide) (by decide) (by decide) (Nat.le_of_ble_eq_true rfl) (fun xz124ω Mz125ω qz126ω => ?_)
                      obtain ⟨rfl, hMeω⟩ := qz126ω
                      obtain rfl := hMeω.symm
                      refine zV_eqi cof_11 ?_
                      refine z_ldc okω dL_areGoods_354 zw_409 ?_
                      refine z_icmp_ne (tgt := 363) okω dL_areGoods_356 (by decide) (fun q9ω => absurd rfl q9ω) (fun _ => ?_)
                      refine z_iconst (v := 1) okω dL_areGoods_359 (by decide) ?_
                      refine z_goto (tgt := 364) okω dL_areGoods_360 (by decide) ?_
                      refine z_istore okω dL_areGoods_364 (by decide) rfl ?_
                      refine z_iinc okω dL_areGoods_366 rfl (zinc2 _) (by decide) rfl ?_
                      refine z_goto (tgt := 6) okω dL_areGoods_369 (by decide) ?_
                      exact ih6ω (i6ω + 1) _ _ _ (by omega) (by omega)
                    · refine z_ldc okω dL_areGoods_307 zw_605 ?_
                      refine z_goto (tgt := 317) okω dL_areGoods_309 (by decide) ?_
                      refine z_icmp_ne (tgt := 363) okω dL_areGoods_317 (by decide) (fun q9ω => absurd (by first | exact (en_8 hgzω).1 (Int32.not_le.mp cz304ω) | exact (en_8 hgzω).2 cz304ω) q9ω) (fun _ => ?_)
                      refine z_aload_n okω dL_areGoods_320 rfl ?_
                      refine z_iload okω dL_areGoods_321 rfl ?_
                      refine z_bipush (v := 9) okω dL_areGoods_323 (by decide) ?_
                      refine z_callVi okω dL_areGoods_325 zm_X6_consignmentOf zw_595 zi_X6_consignmentOf hsω rfl (hoω.to_consignmentOf hNω) rfl rfl (by decide) (by decide) (by decide) (Nat.le_of_ble_eq_true rfl) (fun xz127ω Mz128ω qz129ω => ?_)
                      obtain ⟨rfl, hMeω⟩ := qz129ω
                      obtain rfl := hMeω.symm
                      refine zV_eqi (cof_9 hk31ω hgkω) ?_
                      refine z_iload okω dL_areGoods_328 rfl ?_
                      refine z_icmp_ne (tgt := 363) okω dL_areGoods_330 (by decide) (fun q9ω => absurd hyω.symm q9ω) (fun _ => ?_)
                      refine z_aload_n okω dL_areGoods_333 rfl ?_
                      refine z_iload okω dL_areGoods_334 rfl ?_
                      refine z_bipush (v := 10) okω dL_areGoods_336 (by decide) ?_
                      refine z_callVi okω dL_areGoods_338 zm_X6_consignmentOf zw_595 zi_X6_consignmentOf hsω rfl (hoω.to_consignmentOf hNω) rfl rfl (by decide) (by decide) (by decide) (Nat.le_of_ble_eq_true rfl) (fun xz130ω Mz131ω qz132ω => ?_)
                      obtain ⟨rfl, hMeω⟩ := qz132ω
                      obtain rfl := hMeω.symm
                      refine zV_eqi (cof_10 hk31ω hgkω) ?_
                      refine z_iload okω dL_areGoods_341 rfl ?_
                      refine z_icmp_ne (tgt := 363) okω dL_areGoods_343 (by decide) (fun q9ω => absurd (by rw [hstω]) q9ω) (fun _ => ?_)
                      refine z_aload_n okω dL_areGoods_346 rfl ?_
                      refine z_iload okω dL_areGoods_347 rfl ?_
                      refine z_bipush (v := 11) okω dL_areGoods_349 (by decide) ?_
                      refine z_callVi okω dL_areGoods_351 zm_X6_consignmentOf zw_595 zi_X6_consignmentOf hsω rfl (hoω.to_consignmentOf hNω) rfl rfl (by decide) (by decide) (by decide) (Nat.le_of_ble_eq_true rfl) (fun xz133ω Mz134ω qz135ω => ?_)
                      obtain ⟨rfl, hMeω⟩ := qz135ω
                      obtain rfl := hMeω.symm
                      refine zV_eqi cof_11 ?_
                      refine z_ldc okω dL_areGoods_354 zw_409 ?_
                      refine z_icmp_ne (tgt := 363) okω dL_areGoods_356 (by decide) (fun q9ω => absurd rfl q9ω) (fun _ => ?_)
                      refine z_iconst (v := 1) okω dL_areGoods_359 (by decide) ?_
                      refine z_goto (tgt := 364) okω dL_areGoods_360 (by decide) ?_
                      refine z_istore okω dL_areGoods_364 (by decide) rfl ?_
                      refine z_iinc okω dL_areGoods_366 rfl (zinc2 _) (by decide) rfl ?_
                      refine z_goto (tgt := 6) okω dL_areGoods_369 (by decide) ?_
                      exact ih6ω (i6ω + 1) _ _ _ (by omega) (by omega)
              · have hi9ω : i9ω < n := by rw [hNω.1, nI_leI (by omega) (by omega)] at cz67ω; omega
                refine z_iload okω dL_areGoods_70 rfl ?_
                refine z_aload_n okω dL_areGoods_72 rfl ?_
                refine z_aload_n okω dL_areGoods_73 rfl ?_
                refine z_iload okω dL_areGoods_74 rfl ?_
                refine z_callSi okω dL_areGoods_76 zm_L_is zw_390 zw_391 (ct_L_is hmω hwω) rfl rfl (by decide) (by decide) (by decide) (Nat.le_of_ble_eq_true rfl) (fun xz136ω Mz137ω qz138ω => ?_)
                obtain ⟨rfl, hMeω⟩ := qz138ω
                obtain rfl := hMeω.symm
                refine z_if_eq (tgt := 108) okω dL_areGoods_79 (by decide) (fun cz79ω => ?_) (fun cz79ω => ?_)
                · have hbω : ¬ (¬ gd s i9ω 6 = 5 ∧ gd s i9ω 9 = gd s i6ω 9) := fun zω => (b2_0.mp cz79ω) ((zG_i hNω hi9ω).mpr zω.1)
                  refine z_iconst (v := 0) okω dL_areGoods_108 (by decide) ?_
                  refine z_iadd okω dL_areGoods_109 ?_
                  refine z_istore okω dL_areGoods_110 (by decide) rfl ?_
                  refine z_iinc okω dL_areGoods_112 rfl (zinc2 _) (by decide) rfl ?_
                  refine z_goto (tgt := 62) okω dL_areGoods_115 (by decide) ?_
                  exact ih9ω (i9ω + 1) _ (by omega) (by omega) (by rw [hyω]; first | exact zPt_add (by omega) hbω | exact zPt_no hbω)
                · have hg9ω := (zG_i hNω hi9ω).mp (Decidable.not_not.mp (mt b2_0.mpr cz79ω))
                  refine z_aload okω dL_areGoods_82 rfl ?_
                  refine z_iconst (v := 4) okω dL_areGoods_84 (by decide) ?_
                  refine z_iload okω dL_areGoods_85 rfl ?_
                  refine z_imul okω dL_areGoods_87 ?_
                  refine z_iconst (v := 1) okω dL_areGoods_88 (by decide) ?_
                  refine z_iadd okω dL_areGoods_89 ?_
                  refine l_ld9 i9ω okω dL_areGoods_90 hmω (lx4_1 i9ω) (by first | assumption | omega) ?_
                  refine z_aload okω dL_areGoods_91 rfl ?_
                  refine z_iload okω dL_areGoods_93 rfl ?_
                  refine z_iconst (v := 1) okω dL_areGoods_95 (by decide) ?_
                  refine z_iadd okω dL_areGoods_96 ?_
                  refine l_ld9 i6ω okω dL_areGoods_97 hmω (lx4_1 i6ω) (by first | assumption | omega) ?_
                  refine z_icmp_ne (tgt := 108) okω dL_areGoods_98 (by decide) (fun cz98ω => ?_) (fun cz98ω => ?_)
                  · have hbω : ¬ (¬ gd s i9ω 6 = 5 ∧ gd s i9ω 9 = gd s i6ω 9) := fun zω => cz98ω zω.2
                    refine z_iconst (v := 0) okω dL_areGoods_108 (by decide) ?_
                    refine z_iadd okω dL_areGoods_109 ?_
                    refine z_istore okω dL_areGoods_110 (by decide) rfl ?_
                    refine z_iinc okω dL_areGoods_112 rfl (zinc2 _) (by decide) rfl ?_
                    refine z_goto (tgt := 62) okω dL_areGoods_115 (by decide) ?_
                    exact ih9ω (i9ω + 1) _ (by omega) (by omega) (by rw [hyω]; first | exact zPt_add (by omega) hbω | exact zPt_no hbω)
                  · have hbω : ¬ gd s i9ω 6 = 5 ∧ gd s i9ω 9 = gd s i6ω 9 := ⟨hg9ω, cz98ω⟩
                    refine z_iconst (v := 1) okω dL_areGoods_101 (by decide) ?_
                    refine z_iload okω dL_areGoods_102 rfl ?_
                    refine z_ishl okω dL_areGoods_104 ?_
                    refine z_goto (tgt := 109) okω dL_areGoods_105 (by decide) ?_
                    refine z_iadd okω dL_areGoods_109 ?_
                    refine z_istore okω dL_areGoods_110 (by decide) rfl ?_
                    refine z_iinc okω dL_areGoods_112 rfl (zinc2 _) (by decide) rfl ?_
                    refine z_goto (tgt := 62) okω dL_areGoods_115 (by decide) ?_
                    exact ih9ω (i9ω + 1) _ (by omega) (by omega) (by rw [hyω]; first | exact zPt_add (by omega) hbω | exact zPt_no hbω)
          exact loop62ω (n + 1) 0 _ (by omega) (by omega) rfl
        · have hgkω := b2_0.mp cz31ω
          refine z_aload_n okω dL_areGoods_34 rfl ?_
          refine z_iload okω dL_areGoods_35 rfl ?_
          refine z_iconst (v := 0) okω dL_areGoods_37 (by decide) ?_
          refine z_callVi okω dL_areGoods_38 zm_X6_consignmentOf zw_595 zi_X6_consignmentOf hsω rfl (hoω.to_consignmentOf hNω) rfl rfl (by decide) (by decide) (by decide) (Nat.le_of_ble_eq_true rfl) (fun xz139ω Mz140ω qz141ω => ?_)
          obtain ⟨rfl, hMeω⟩ := qz141ω
          obtain rfl := hMeω.symm
          refine zV_eqi (cof_no hgkω) ?_
          refine z_ldc okω dL_areGoods_41 zw_409 ?_
          refine z_icmp_ne (tgt := 50) okω dL_areGoods_43 (by decide) (fun q9ω => absurd rfl q9ω) (fun _ => ?_)
          refine z_iconst (v := 1) okω dL_areGoods_46 (by decide) ?_
          refine z_goto (tgt := 51) okω dL_areGoods_47 (by decide) ?_
          refine z_istore okω dL_areGoods_51 (by decide) rfl ?_
          refine z_goto (tgt := 366) okω dL_areGoods_53 (by decide) ?_
          refine z_iinc okω dL_areGoods_366 rfl (zinc2 _) (by decide) rfl ?_
          refine z_goto (tgt := 6) okω dL_areGoods_369 (by decide) ?_
          exact ih6ω (i6ω + 1) _ _ _ (by omega) (by omega)
  exact loop6ω 17 0 _ _ _ (by omega) (by omega)

set_option maxRecDepth 20000 in
set_option maxHeartbeats 4000000 in
theorem ct_L_isSo {K : zK} {M : mM} {nx : Nat} {c : Nat} {s : Nat → Int32} {n nv no : Nat} (hS : lS M c s n nv no) : zCt K yL_isSo cL_isSo 11 zr_L_isSo 4 [.ref c, .ref (c + 251), .ref (c + 251 + 1), .ref (c + 251 + 2), .ref (c + 251 + 3), .ref (c + 251 + 4), .ref (c + 251 + 5)] M nx 0 0 (zI (fun x M' => x = 1 ∧ M' = M)) := by
  refine z_enter [some (.ref c), some (.ref (c + 251)), some (.ref (c + 251 + 1)), some (.ref (c + 251 + 2)), some (.ref (c + 251 + 3)), some (.ref (c + 251 + 4)), some (.ref (c + 251 + 5)), none, none, none, none] (by decide +kernel) (Nat.le_of_ble_eq_true rfl) rfl (fun Bω okω hzω => ?_)
  have hmω := hS.2.1
  have hoω := hS.1
  have hwω := hS.2.2.1
  have hxω := hS.2.2.2
  have hNω := hwω.N
  have hn16ω := hNω.2.1
  have hnv4ω := hNω.2.2.2.1
  have hno10ω := hNω.2.2.2.2.2
  obtain ⟨fsω, hsω⟩ := hoω.self
  refine z_aload_n okω dL_isSo_0 rfl ?_
  refine z_aload_n okω dL_isSo_1 rfl ?_
  refine z_aload_n okω dL_isSo_2 rfl ?_
  refine z_aload_n okω dL_isSo_3 rfl ?_
  refine z_aload okω dL_isSo_4 rfl ?_
  refine z_callSi okω dL_isSo_6 zm_L_areGoods zw_592 zw_593 (ct_L_areGoods hS) rfl rfl (by decide) (by decide) (by decide) (Nat.le_of_ble_eq_true rfl) (fun xz1ω Mz2ω qz3ω => ?_)
  obtain ⟨rfl, hMeω⟩ := qz3ω
  obtain rfl := hMeω.symm
  refine z_istore okω dL_isSo_9 (by decide) rfl ?_
  refine z_iconst (v := 0) okω dL_isSo_11 (by decide) ?_
  refine z_istore okω dL_isSo_12 (by decide) rfl ?_
  have loop14ω : ∀ (t3ω i3ω : Nat) (vzq1ω vzq2ω : Option Value), nv < i3ω + t3ω → i3ω ≤ nv → zV 11 Bω (zE Bω (zI (fun xω M'ω => xω = 1 ∧ M'ω = M)) 0 0) 14 [some (.ref c), some (.ref (c + 251)), some (.ref (c + 251 + 1)), some (.ref (c + 251 + 2)), some (.ref (c + 251 + 3)), some (.ref (c + 251 + 4)), some (.ref (c + 251 + 5)), some (.int 1), some (.int (nI i3ω)), vzq1ω, vzq2ω] [] M 0 0 := by
    intro t3ω
    induction t3ω with
    | zero => intro i3ω vzq1ω vzq2ω h13ω h23ω; exact absurd h13ω (by omega)
    | succ t3ω ih3ω =>
      intro i3ω vzq1ω vzq2ω h13ω h23ω 
      refine z_iload okω dL_isSo_14 rfl ?_
      refine z_aload_n okω dL_isSo_16 rfl ?_
      refine z_iconst (v := 4) okω dL_isSo_17 (by decide) ?_
      refine l_ldG (t := 4) okω dL_isSo_18 hmω rfl (by decide) ?_
      refine z_icmp_ge (tgt := 318) okω dL_isSo_19 (by decide) (fun cz19ω => ?_) (fun cz19ω => ?_)
      · refine z_iconst (v := 0) okω dL_isSo_318 (by decide) ?_
        refine z_istore okω dL_isSo_319 (by decide) rfl ?_
        have loop321ω : ∀ (t5ω i5ω : Nat) (vzq1ω vzq2ω : Option Value), 50 < i5ω + t5ω → i5ω ≤ 50 → zV 11 Bω (zE Bω (zI (fun xω M'ω => xω = 1 ∧ M'ω = M)) 0 0) 321 [some (.ref c), some (.ref (c + 251)), some (.ref (c + 251 + 1)), some (.ref (c + 251 + 2)), some (.ref (c + 251 + 3)), some (.ref (c + 251 + 4)), some (.ref (c + 251 + 5)), some (.int 1), some (.int (nI i5ω)), vzq1ω, vzq2ω] [] M 0 0 := by
          intro t5ω
          induction t5ω with
          | zero => intro i5ω vzq1ω vzq2ω h15ω h25ω; exact absurd h15ω (by omega)
          | succ t5ω ih5ω =>
            intro i5ω vzq1ω vzq2ω h15ω h25ω 
            refine z_iload okω dL_isSo_321 rfl ?_
            refine z_bipush (v := 50) okω dL_isSo_323 (by decide) ?_
            refine z_icmp_ge (tgt := 382) okω dL_isSo_325 (by decide) (fun cz325ω => ?_) (fun cz325ω => ?_)
            · refine z_iconst (v := 0) okω dL_isSo_382 (by decide) ?_
              refine z_istore okω dL_isSo_383 (by decide) rfl ?_
              refine z_iconst (v := 0) okω dL_isSo_385 (by decide) ?_
              refine z_istore okω dL_isSo_386 (by decide) rfl ?_
              refine z_iconst (v := 0) okω dL_isSo_388 (by decide) ?_
              refine z_istore okω dL_isSo_389 (by decide) rfl ?_
              have loop391ω : ∀ (t9ω i9ω : Nat) (yω y2ω : Int32), n < i9ω + t9ω → i9ω ≤ n → yω = zHr s i9ω → y2ω = zDn s i9ω → zV 11 Bω (zE Bω (zI (fun xω M'ω => xω = 1 ∧ M'ω = M)) 0 0) 391 [some (.ref c), some (.ref (c + 251)), some (.ref (c + 251 + 1)), some (.ref (c + 251 + 2)), some (.ref (c + 251 + 3)), some (.ref (c + 251 + 4)), some (.ref (c + 251 + 5)), some (.int 1), some (.int yω), some (.int y2ω), some (.int (nI i9ω))] [] M 0 0 := by
                intro t9ω
                induction t9ω with
                | zero => intro i9ω yω y2ω h19ω h29ω; exact absurd h19ω (by omega)
                | succ t9ω ih9ω =>
                  intro i9ω yω y2ω h19ω h29ω hyω hy2ω
                  refine z_iload okω dL_isSo_391 rfl ?_
                  refine z_aload_n okω dL_isSo_393 rfl ?_
                  refine z_iconst (v := 3) okω dL_isSo_394 (by decide) ?_
                  refine l_ldG (t := 3) okω dL_isSo_395 hmω rfl (by decide) ?_
                  refine z_icmp_ge (tgt := 474) okω dL_isSo_396 (by decide) (fun cz396ω => ?_) (fun cz396ω => ?_)
                  · have hinω : i9ω = n := by rw [hNω.1, nI_leI (by omega) (by omega)] at cz396ω; omega
                    rw [hinω] at hyω hy2ω
                    refine z_iload okω dL_isSo_474 rfl ?_
                    refine z_if_eq (tgt := 631) okω dL_isSo_476 (by decide) (fun q9ω => absurd q9ω (by decide)) (fun _ => ?_)
                    refine z_aload_n okω dL_isSo_479 rfl ?_
                    refine z_iconst (v := 0) okω dL_isSo_480 (by decide) ?_
                    refine z_callVi okω dL_isSo_481 zm_X6_count zw_300 zi_X6_count hsω rfl (hoω.to_count hNω) rfl rfl (by decide) (by decide) (by decide) (Nat.le_of_ble_eq_true rfl) (fun xz4ω Mz5ω qz6ω => ?_)
                    obtain ⟨⟨p9ω, rfl⟩, hMeω⟩ := qz6ω
                    obtain rfl := hMeω.symm
                    refine zV_eqi ((cnt_g (j := 0) rfl (by decide)).trans (show zCo s n (nI p9ω) (nI 0) 0 = s 3 from rfl)) ?_
                    refine z_aload_n okω dL_isSo_484 rfl ?_
                    refine z_iconst (v := 3) okω dL_isSo_485 (by decide) ?_
                    refine l_ldG (t := 3) okω dL_isSo_486 hmω rfl (by decide) ?_
                    refine z_icmp_ne (tgt := 631) okω dL_isSo_487 (by decide) (fun q9ω => absurd rfl q9ω) (fun _ => ?_)
                    refine z_aload_n okω dL_isSo_490 rfl ?_
                    refine z_iconst (v := 1) okω dL_isSo_491 (by decide) ?_
                    refine z_callVi okω dL_isSo_492 zm_X6_count zw_300 zi_X6_count hsω rfl (hoω.to_count hNω) rfl rfl (by decide) (by decide) (by decide) (Nat.le_of_ble_eq_true rfl) (fun xz7ω Mz8ω qz9ω => ?_)
                    obtain ⟨⟨p9ω, rfl⟩, hMeω⟩ := qz9ω
                    obtain rfl := hMeω.symm
                    refine zV_eqi ((cnt_g (j := 1) rfl (by decide)).trans (show zCo s n (nI p9ω) (nI 0) 1 = s 4 from rfl)) ?_
                    refine z_aload_n okω dL_isSo_495 rfl ?_
                    refine z_iconst (v := 4) okω dL_isSo_496 (by decide) ?_
                    refine l_ldG (t := 4) okω dL_isSo_497 hmω rfl (by decide) ?_
                    refine z_icmp_ne (tgt := 631) okω dL_isSo_498 (by decide) (fun q9ω => absurd rfl q9ω) (fun _ => ?_)
                    refine z_aload_n okω dL_isSo_501 rfl ?_
                    refine z_iconst (v := 2) okω dL_isSo_502 (by decide) ?_
                    refine z_callVi okω dL_isSo_503 zm_X6_count zw_300 zi_X6_count hsω rfl (hoω.to_count hNω) rfl rfl (by decide) (by decide) (by decide) (Nat.le_of_ble_eq_true rfl) (fun xz10ω Mz11ω qz12ω => ?_)
                    obtain ⟨⟨p9ω, rfl⟩, hMeω⟩ := qz12ω
                    obtain rfl := hMeω.symm
                    refine zV_eqi ((cnt_g (j := 2) rfl (by decide)).trans (show zCo s n (nI p9ω) (nI 0) 2 = s 5 from rfl)) ?_
                    refine z_aload_n okω dL_isSo_506 rfl ?_
                    refine z_iconst (v := 5) okω dL_isSo_507 (by decide) ?_
                    refine l_ldG (t := 5) okω dL_isSo_508 hmω rfl (by decide) ?_
                    refine z_icmp_ne (tgt := 631) okω dL_isSo_509 (by decide) (fun q9ω => absurd rfl q9ω) (fun _ => ?_)
                    refine z_aload_n okω dL_isSo_512 rfl ?_
                    refine z_iconst (v := 3) okω dL_isSo_513 (by decide) ?_
                    refine z_callVi okω dL_isSo_514 zm_X6_count zw_300 zi_X6_count hsω rfl (hoω.to_count hNω) rfl rfl (by decide) (by decide) (by decide) (Nat.le_of_ble_eq_true rfl) (fun xz13ω Mz14ω qz15ω => ?_)
                    obtain ⟨⟨p9ω, rfl⟩, hMeω⟩ := qz15ω
                    obtain rfl := hMeω.symm
                    refine zV_eqi ((cnt_g (j := 3) rfl (by decide)).trans (show zCo s n (nI p9ω) (nI 0) 3 = zHr s n from rfl)) ?_
                    refine z_iload okω dL_isSo_517 rfl ?_
                    refine z_icmp_ne (tgt := 631) okω dL_isSo_519 (by decide) (fun q9ω => absurd hyω.symm q9ω) (fun _ => ?_)
                    refine z_aload_n okω dL_isSo_522 rfl ?_
                    refine z_iconst (v := 4) okω dL_isSo_523 (by decide) ?_
                    refine z_callVi okω dL_isSo_524 zm_X6_count zw_300 zi_X6_count hsω rfl (hoω.to_count hNω) rfl rfl (by decide) (by decide) (by decide) (Nat.le_of_ble_eq_true rfl) (fun xz16ω Mz17ω qz18ω => ?_)
                    obtain ⟨⟨p9ω, rfl⟩, hMeω⟩ := qz18ω
                    obtain rfl := hMeω.symm
                    refine zV_eqi ((cnt_g (j := 4) rfl (by decide)).trans (show zCo s n (nI p9ω) (nI 0) 4 = s 7 from rfl)) ?_
                    refine z_aload_n okω dL_isSo_527 rfl ?_
                    refine z_bipush (v := 7) okω dL_isSo_528 (by decide) ?_
                    refine l_ldG (t := 7) okω dL_isSo_530 hmω rfl (by decide) ?_
                    refine z_icmp_ne (tgt := 631) okω dL_isSo_531 (by decide) (fun q9ω => absurd rfl q9ω) (fun _ => ?_)
                    refine z_aload_n okω dL_isSo_534 rfl ?_
                    refine z_iconst (v := 5) okω dL_isSo_535 (by decide) ?_
                    refine z_callVi okω dL_isSo_536 zm_X6_count zw_300 zi_X6_count hsω rfl (hoω.to_count hNω) rfl rfl (by decide) (by decide) (by decide) (Nat.le_of_ble_eq_true rfl) (fun xz19ω Mz20ω qz21ω => ?_)
                    obtain ⟨⟨p9ω, rfl⟩, hMeω⟩ := qz21ω
                    obtain rfl := hMeω.symm
                    refine zV_eqi ((cnt_g (j := 5) rfl (by decide)).trans (show zCo s n (nI p9ω) (nI 0) 5 = s 8 from rfl)) ?_
                    refine z_aload_n okω dL_isSo_539 rfl ?_
                    refine z_bipush (v := 8) okω dL_isSo_540 (by decide) ?_
                    refine l_ldG (t := 8) okω dL_isSo_542 hmω rfl (by decide) ?_
                    refine z_icmp_ne (tgt := 631) okω dL_isSo_543 (by decide) (fun q9ω => absurd rfl q9ω) (fun _ => ?_)
                    refine z_aload_n okω dL_isSo_546 rfl ?_
                    refine z_iconst (v := 4) okω dL_isSo_547 (by decide) ?_
                    refine z_callVi okω dL_isSo_548 zm_X6_count zw_300 zi_X6_count hsω rfl (hoω.to_count hNω) rfl rfl (by decide) (by decide) (by decide) (Nat.le_of_ble_eq_true rfl) (fun xz22ω Mz23ω qz24ω => ?_)
                    obtain ⟨⟨p9ω, rfl⟩, hMeω⟩ := qz24ω
                    obtain rfl := hMeω.symm
                    refine zV_eqi ((cnt_g (j := 4) rfl (by decide)).trans (show zCo s n (nI p9ω) (nI 0) 4 = s 7 from rfl)) ?_
                    refine z_aload_n okω dL_isSo_551 rfl ?_
                    refine z_iconst (v := 5) okω dL_isSo_552 (by decide) ?_
                    refine z_callVi okω dL_isSo_553 zm_X6_count zw_300 zi_X6_count hsω rfl (hoω.to_count hNω) rfl rfl (by decide) (by decide) (by decide) (Nat.le_of_ble_eq_true rfl) (fun xz25ω Mz26ω qz27ω => ?_)
                    obtain ⟨⟨p9ω, rfl⟩, hMeω⟩ := qz27ω
                    obtain rfl := hMeω.symm
                    refine zV_eqi ((cnt_g (j := 5) rfl (by decide)).trans (show zCo s n (nI p9ω) (nI 0) 5 = s 8 from rfl)) ?_
                    refine z_iadd okω dL_isSo_556 ?_
                    refine z_iload okω dL_isSo_557 rfl ?_
                    refine z_icmp_ne (tgt := 631) okω dL_isSo_559 (by decide) (fun q9ω => absurd (by rw [hy2ω, zDn_e, hwω.c3, hwω.c4]) q9ω) (fun _ => ?_)
                    refine z_aload_n okω dL_isSo_562 rfl ?_
                    refine z_bipush (v := 6) okω dL_isSo_563 (by decide) ?_
                    refine z_callVi okω dL_isSo_565 zm_X6_count zw_300 zi_X6_count hsω rfl (hoω.to_count hNω) rfl rfl (by decide) (by decide) (by decide) (Nat.le_of_ble_eq_true rfl) (fun xz28ω Mz29ω qz30ω => ?_)
                    obtain ⟨⟨p9ω, rfl⟩, hMeω⟩ := qz30ω
                    obtain rfl := hMeω.symm
                    refine zV_eqi ((cnt_g (j := 6) rfl (by decide)).trans (show zCo s n (nI p9ω) (nI 0) 6 = s 9 from rfl)) ?_
                    refine z_aload_n okω dL_isSo_568 rfl ?_
                    refine z_bipush (v := 9) okω dL_isSo_569 (by decide) ?_
                    refine l_ldG (t := 9) okω dL_isSo_571 hmω rfl (by decide) ?_
                    refine z_icmp_ne (tgt := 631) okω dL_isSo_572 (by decide) (fun q9ω => absurd rfl q9ω) (fun _ => ?_)
                    refine z_aload_n okω dL_isSo_575 rfl ?_
                    refine z_bipush (v := 7) okω dL_isSo_576 (by decide) ?_
                    refine z_callVi okω dL_isSo_578 zm_X6_count zw_300 zi_X6_count hsω rfl (hoω.to_count hNω) rfl rfl (by decide) (by decide) (by decide) (Nat.le_of_ble_eq_true rfl) (fun xz31ω Mz32ω qz33ω => ?_)
                    obtain ⟨⟨p9ω, rfl⟩, hMeω⟩ := qz33ω
                    obtain rfl := hMeω.symm
                    refine zV_eqi ((cnt_g (j := 7) rfl (by decide)).trans (show zCo s n (nI p9ω) (nI 0) 7 = s 10 from rfl)) ?_
                    refine z_aload_n okω dL_isSo_581 rfl ?_
                    refine z_bipush (v := 10) okω dL_isSo_582 (by decide) ?_
                    refine l_ldG (t := 10) okω dL_isSo_584 hmω rfl (by decide) ?_
                    refine z_icmp_ne (tgt := 631) okω dL_isSo_585 (by decide) (fun q9ω => absurd rfl q9ω) (fun _ => ?_)
                    refine z_aload_n okω dL_isSo_588 rfl ?_
                    refine z_bipush (v := 8) okω dL_isSo_589 (by decide) ?_
                    refine z_callVi okω dL_isSo_591 zm_X6_count zw_300 zi_X6_count hsω rfl (hoω.to_count hNω) rfl rfl (by decide) (by decide) (by decide) (Nat.le_of_ble_eq_true rfl) (fun xz34ω Mz35ω qz36ω => ?_)
                    obtain ⟨⟨p9ω, rfl⟩, hMeω⟩ := qz36ω
                    obtain rfl := hMeω.symm
                    refine zV_eqi ((cnt_g (j := 8) rfl (by decide)).trans (show zCo s n (nI p9ω) (nI 0) 8 = s 11 from rfl)) ?_
                    refine z_aload_n okω dL_isSo_594 rfl ?_
                    refine z_bipush (v := 11) okω dL_isSo_595 (by decide) ?_
                    refine l_ldG (t := 11) okω dL_isSo_597 hmω rfl (by decide) ?_
                    refine z_icmp_ne (tgt := 631) okω dL_isSo_598 (by decide) (fun q9ω => absurd rfl q9ω) (fun _ => ?_)
                    refine z_aload_n okω dL_isSo_601 rfl ?_
                    refine z_bipush (v := 9) okω dL_isSo_602 (by decide) ?_
                    refine z_callVi okω dL_isSo_604 zm_X6_count zw_300 zi_X6_count hsω rfl (hoω.to_count hNω) rfl rfl (by decide) (by decide) (by decide) (Nat.le_of_ble_eq_true rfl) (fun xz37ω Mz38ω qz39ω => ?_)
                    obtain ⟨⟨p9ω, rfl⟩, hMeω⟩ := qz39ω
                    obtain rfl := hMeω.symm
                    refine zV_eqi ((cnt_g (j := 9) rfl (by decide)).trans (show zCo s n (nI p9ω) (nI 0) 9 = s 12 from rfl)) ?_
                    refine z_aload_n okω dL_isSo_607 rfl ?_
                    refine z_bipush (v := 12) okω dL_isSo_608 (by decide) ?_
                    refine l_ldG (t := 12) okω dL_isSo_610 hmω rfl (by decide) ?_
                    refine z_icmp_ne (tgt := 631) okω dL_isSo_611 (by decide) (fun q9ω => absurd rfl q9ω) (fun _ => ?_)
                    refine z_aload_n okω dL_isSo_614 rfl ?_
                    refine z_bipush (v := 10) okω dL_isSo_615 (by decide) ?_
                    refine z_callVi okω dL_isSo_617 zm_X6_count zw_300 zi_X6_count hsω rfl (hoω.to_count hNω) rfl rfl (by decide) (by decide) (by decide) (Nat.le_of_ble_eq_true rfl) (fun xz40ω Mz41ω qz42ω => ?_)
                    obtain ⟨⟨p9ω, rfl⟩, hMeω⟩ := qz42ω
                    obtain rfl := hMeω.symm
                    refine zV_eqi ((cnt_g (j := 10) rfl (by decide)).trans (show zCo s n (nI p9ω) (nI 0) 10 = s 6 from rfl)) ?_
                    refine z_aload_n okω dL_isSo_620 rfl ?_
                    refine z_bipush (v := 6) okω dL_isSo_621 (by decide) ?_
                    refine l_ldG (t := 6) okω dL_isSo_623 hmω rfl (by decide) ?_
                    refine z_icmp_ne (tgt := 631) okω dL_isSo_624 (by decide) (fun q9ω => absurd rfl q9ω) (fun _ => ?_)
                    refine z_iconst (v := 1) okω dL_isSo_627 (by decide) ?_
                    refine z_goto (tgt := 632) okω dL_isSo_628 (by decide) ?_
                    refine z_istore okω dL_isSo_632 (by decide) rfl ?_
                    refine z_iload okω dL_isSo_634 rfl ?_
                    refine z_if_eq (tgt := 701) okω dL_isSo_636 (by decide) (fun q9ω => absurd q9ω (by decide)) (fun _ => ?_)
                    refine z_aload_n okω dL_isSo_639 rfl ?_
                    refine z_bipush (v := 12) okω dL_isSo_640 (by decide) ?_
                    refine z_callVi okω dL_isSo_642 zm_X6_count zw_300 zi_X6_count hsω rfl (hoω.to_count hNω) rfl rfl (by decide) (by decide) (by decide) (Nat.le_of_ble_eq_true rfl) (fun xz43ω Mz44ω qz45ω => ?_)
                    obtain ⟨⟨p9ω, rfl⟩, hMeω⟩ := qz45ω
                    obtain rfl := hMeω.symm
                    refine zV_eqi ((cnt_g (j := 12) rfl (by decide)).trans (show zCo s n (nI p9ω) (nI 0) 12 = 0 from rfl)) ?_
                    refine z_if_ne (tgt := 701) okω dL_isSo_645 (by decide) (fun q9ω => absurd rfl q9ω) (fun _ => ?_)
                    refine z_aload_n okω dL_isSo_648 rfl ?_
                    refine z_bipush (v := 20) okω dL_isSo_649 (by decide) ?_
                    refine z_callVi okω dL_isSo_651 zm_X6_count zw_300 zi_X6_count hsω rfl (hoω.to_count hNω) rfl rfl (by decide) (by decide) (by decide) (Nat.le_of_ble_eq_true rfl) (fun xz46ω Mz47ω qz48ω => ?_)
                    obtain ⟨⟨p9ω, rfl⟩, hMeω⟩ := qz48ω
                    obtain rfl := hMeω.symm
                    refine zV_eqi (cnt_s (j := 0) rfl (by decide)) ?_
                    refine z_aload_n okω dL_isSo_654 rfl ?_
                    refine z_iconst (v := 0) okω dL_isSo_655 (by decide) ?_
                    refine l_ldG (t := 0) okω dL_isSo_656 hmω rfl (by decide) ?_
                    refine z_icmp_ne (tgt := 701) okω dL_isSo_657 (by decide) (fun q9ω => absurd rfl q9ω) (fun _ => ?_)
                    refine z_aload_n okω dL_isSo_660 rfl ?_
                    refine z_bipush (v := 21) okω dL_isSo_661 (by decide) ?_
                    refine z_callVi okω dL_isSo_663 zm_X6_count zw_300 zi_X6_count hsω rfl (hoω.to_count hNω) rfl rfl (by decide) (by decide) (by decide) (Nat.le_of_ble_eq_true rfl) (fun xz49ω Mz50ω qz51ω => ?_)
                    obtain ⟨⟨p9ω, rfl⟩, hMeω⟩ := qz51ω
                    obtain rfl := hMeω.symm
                    refine zV_eqi (cnt_s (j := 1) rfl (by decide)) ?_
                    refine z_aload_n okω dL_isSo_666 rfl ?_
                    refine z_iconst (v := 1) okω dL_isSo_667 (by decide) ?_
                    refine l_ldG (t := 1) okω dL_isSo_668 hmω rfl (by decide) ?_
                    refine z_icmp_ne (tgt := 701) okω dL_isSo_669 (by decide) (fun q9ω => absurd rfl q9ω) (fun _ => ?_)
                    refine z_aload_n okω dL_isSo_672 rfl ?_
                    refine z_bipush (v := 22) okω dL_isSo_673 (by decide) ?_
                    refine z_callVi okω dL_isSo_675 zm_X6_count zw_300 zi_X6_count hsω rfl (hoω.to_count hNω) rfl rfl (by decide) (by decide) (by decide) (Nat.le_of_ble_eq_true rfl) (fun xz52ω Mz53ω qz54ω => ?_)
                    obtain ⟨⟨p9ω, rfl⟩, hMeω⟩ := qz54ω
                    obtain rfl := hMeω.symm
                    refine zV_eqi (cnt_s (j := 2) rfl (by decide)) ?_
                    refine z_aload_n okω dL_isSo_678 rfl ?_
                    refine z_iconst (v := 2) okω dL_isSo_679 (by decide) ?_
                    refine l_ldG (t := 2) okω dL_isSo_680 hmω rfl (by decide) ?_
                    refine z_icmp_ne (tgt := 701) okω dL_isSo_681 (by decide) (fun q9ω => absurd rfl q9ω) (fun _ => ?_)
                    refine z_aload_n okω dL_isSo_684 rfl ?_
                    refine z_aload_n okω dL_isSo_685 rfl ?_
                    refine z_iconst (v := 4) okω dL_isSo_686 (by decide) ?_
                    refine l_ldG (t := 4) okω dL_isSo_687 hmω rfl (by decide) ?_
                    refine z_iconst (v := 0) okω dL_isSo_688 (by decide) ?_
                    refine z_callVi okω dL_isSo_689 zm_X6_vehicleOf zw_606 zi_X6_vehicleOf hsω rfl (hoω.to_vehicleOf hNω) rfl rfl (by decide) (by decide) (by decide) (Nat.le_of_ble_eq_true rfl) (fun xz55ω Mz56ω qz57ω => ?_)
                    obtain ⟨rfl, hMeω⟩ := qz57ω
                    obtain rfl := hMeω.symm
                    refine zV_eqi vof_no ?_
                    refine z_ldc okω dL_isSo_692 zw_409 ?_
                    refine z_icmp_ne (tgt := 701) okω dL_isSo_694 (by decide) (fun q9ω => absurd rfl q9ω) (fun _ => ?_)
                    refine z_iconst (v := 1) okω dL_isSo_697 (by decide) ?_
                    refine z_goto (tgt := 702) okω dL_isSo_698 (by decide) ?_
                    exact z_iret okω dL_isSo_702 rfl rfl rfl (Nat.zero_le _) ⟨rfl, rfl⟩
                  · have hi9ω : i9ω < n := by rw [hNω.1, nI_leI (by omega) (by omega)] at cz396ω; omega
                    refine z_iload okω dL_isSo_399 rfl ?_
                    refine z_aload_n okω dL_isSo_401 rfl ?_
                    refine z_aload_n okω dL_isSo_402 rfl ?_
                    refine z_iload okω dL_isSo_403 rfl ?_
                    refine z_callSi okω dL_isSo_405 zm_L_is zw_390 zw_391 (ct_L_is hmω hwω) rfl rfl (by decide) (by decide) (by decide) (Nat.le_of_ble_eq_true rfl) (fun xz58ω Mz59ω qz60ω => ?_)
                    obtain ⟨rfl, hMeω⟩ := qz60ω
                    obtain rfl := hMeω.symm
                    refine z_if_eq (tgt := 430) okω dL_isSo_408 (by decide) (fun cz408ω => ?_) (fun cz408ω => ?_)
                    · have hbω : ¬ zHere s i9ω := fun zω => (b2_0.mp cz408ω) ((zG_i hNω hi9ω).mpr zω.1)
                      refine z_iconst (v := 0) okω dL_isSo_430 (by decide) ?_
                      refine z_iadd okω dL_isSo_431 ?_
                      refine z_istore okω dL_isSo_432 (by decide) rfl ?_
                      refine z_iload okω dL_isSo_434 rfl ?_
                      refine z_aload_n okω dL_isSo_436 rfl ?_
                      refine z_iconst (v := 4) okω dL_isSo_437 (by decide) ?_
                      refine z_iload okω dL_isSo_438 rfl ?_
                      refine z_imul okω dL_isSo_440 ?_
                      refine z_iconst (v := 2) okω dL_isSo_441 (by decide) ?_
                      refine z_iadd okω dL_isSo_442 ?_
                      refine l_ld6 i9ω okω dL_isSo_443 hmω (lx4_2 i9ω) hi9ω ?_
                      refine z_iconst (v := 3) okω dL_isSo_444 (by decide) ?_
                      refine z_icmp_eq (tgt := 460) okω dL_isSo_445 (by decide) (fun cz445ω => ?_) (fun cz445ω => ?_)
                      · have hdω : gd s i9ω 6 = 3 ∨ gd s i9ω 6 = 4 := Or.inl cz445ω
                        refine z_iconst (v := 1) okω dL_isSo_460 (by decide) ?_
                        refine z_goto (tgt := 465) okω dL_isSo_461 (by decide) ?_
                        refine z_iadd okω dL_isSo_465 ?_
                        refine z_istore okω dL_isSo_466 (by decide) rfl ?_
                        refine z_iinc okω dL_isSo_468 rfl (zinc2 _) (by decide) rfl ?_
                        refine z_goto (tgt := 391) okω dL_isSo_471 (by decide) ?_
                        exact ih9ω (i9ω + 1) _ _ (by omega) (by omega) (by rw [hyω]; first | exact zHr_add (by omega) hbω | exact zHr_no hbω) (by rw [hy2ω]; first | exact zSum_t (p := fun c => gd s c 6 = 3 ∨ gd s c 6 = 4) hdω | exact zSum_f (p := fun c => gd s c 6 = 3 ∨ gd s c 6 = 4) hdω)
                      · refine z_aload_n okω dL_isSo_448 rfl ?_
                        refine z_iconst (v := 4) okω dL_isSo_449 (by decide) ?_
                        refine z_iload okω dL_isSo_450 rfl ?_
                        refine z_imul okω dL_isSo_452 ?_
                        refine z_iconst (v := 2) okω dL_isSo_453 (by decide) ?_
                        refine z_iadd okω dL_isSo_454 ?_
                        refine l_ld6 i9ω okω dL_isSo_455 hmω (lx4_2 i9ω) hi9ω ?_
                        refine z_iconst (v := 4) okω dL_isSo_456 (by decide) ?_
                        refine z_icmp_ne (tgt := 464) okω dL_isSo_457 (by decide) (fun cz457ω => ?_) (fun cz457ω => ?_)
                        · have hdω : ¬ (gd s i9ω 6 = 3 ∨ gd s i9ω 6 = 4) := fun zω => zω.elim cz445ω cz457ω
                          refine z_iconst (v := 0) okω dL_isSo_464 (by decide) ?_
                          refine z_iadd okω dL_isSo_465 ?_
                          refine z_istore okω dL_isSo_466 (by decide) rfl ?_
                          refine z_iinc okω dL_isSo_468 rfl (zinc2 _) (by decide) rfl ?_
                          refine z_goto (tgt := 391) okω dL_isSo_471 (by decide) ?_
                          exact ih9ω (i9ω + 1) _ _ (by omega) (by omega) (by rw [hyω]; first | exact zHr_add (by omega) hbω | exact zHr_no hbω) (by rw [hy2ω]; first | exact zSum_t (p := fun c => gd s c 6 = 3 ∨ gd s c 6 = 4) hdω | exact zSum_f (p := fun c => gd s c 6 = 3 ∨ gd s c 6 = 4) hdω)
                        · have hdω : gd s i9ω 6 = 3 ∨ gd s i9ω 6 = 4 := Or.inr cz457ω
                          refine z_iconst (v := 1) okω dL_isSo_460 (by decide) ?_
                          refine z_goto (tgt := 465) okω dL_isSo_461 (by decide) ?_
                          refine z_iadd okω dL_isSo_465 ?_
                          refine z_istore okω dL_isSo_466 (by decide) rfl ?_
                          refine z_iinc okω dL_isSo_468 rfl (zinc2 _) (by decide) rfl ?_
                          refine z_goto (tgt := 391) okω dL_isSo_471 (by decide) ?_
                          exact ih9ω (i9ω + 1) _ _ (by omega) (by omega) (by rw [hyω]; first | exact zHr_add (by omega) hbω | exact zHr_no hbω) (by rw [hy2ω]; first | exact zSum_t (p := fun c => gd s c 6 = 3 ∨ gd s c 6 = 4) hdω | exact zSum_f (p := fun c => gd s c 6 = 3 ∨ gd s c 6 = 4) hdω)
                    · have hg9ω := (zG_i hNω hi9ω).mp (Decidable.not_not.mp (mt b2_0.mpr cz408ω))
                      refine z_aload_n okω dL_isSo_411 rfl ?_
                      refine z_iconst (v := 4) okω dL_isSo_412 (by decide) ?_
                      refine z_iload okω dL_isSo_413 rfl ?_
                      refine z_imul okω dL_isSo_415 ?_
                      refine z_iconst (v := 2) okω dL_isSo_416 (by decide) ?_
                      refine z_iadd okω dL_isSo_417 ?_
                      refine l_ld6 i9ω okω dL_isSo_418 hmω (lx4_2 i9ω) hi9ω ?_
                      refine z_iconst (v := 2) okω dL_isSo_419 (by decide) ?_
                      refine z_icmp_ge (tgt := 430) okω dL_isSo_420 (by decide) (fun cz420ω => ?_) (fun cz420ω => ?_)
                      · have hbω : ¬ zHere s i9ω := fun zω => absurd zω.2 (Int32.not_lt.mpr cz420ω)
                        refine z_iconst (v := 0) okω dL_isSo_430 (by decide) ?_
                        refine z_iadd okω dL_isSo_431 ?_
                        refine z_istore okω dL_isSo_432 (by decide) rfl ?_
                        refine z_iload okω dL_isSo_434 rfl ?_
                        refine z_aload_n okω dL_isSo_436 rfl ?_
                        refine z_iconst (v := 4) okω dL_isSo_437 (by decide) ?_
                        refine z_iload okω dL_isSo_438 rfl ?_
                        refine z_imul okω dL_isSo_440 ?_
                        refine z_iconst (v := 2) okω dL_isSo_441 (by decide) ?_
                        refine z_iadd okω dL_isSo_442 ?_
                        refine l_ld6 i9ω okω dL_isSo_443 hmω (lx4_2 i9ω) hi9ω ?_
                        refine z_iconst (v := 3) okω dL_isSo_444 (by decide) ?_
                        refine z_icmp_eq (tgt := 460) okω dL_isSo_445 (by decide) (fun cz445ω => ?_) (fun cz445ω => ?_)
                        · have hdω : gd s i9ω 6 = 3 ∨ gd s i9ω 6 = 4 := Or.inl cz445ω
                          refine z_iconst (v := 1) okω dL_isSo_460 (by decide) ?_
                          refine z_goto (tgt := 465) okω dL_isSo_461 (by decide) ?_
                          refine z_iadd okω dL_isSo_465 ?_
                          refine z_istore okω dL_isSo_466 (by decide) rfl ?_
                          refine z_iinc okω dL_isSo_468 rfl (zinc2 _) (by decide) rfl ?_
                          refine z_goto (tgt := 391) okω dL_isSo_471 (by decide) ?_
                          exact ih9ω (i9ω + 1) _ _ (by omega) (by omega) (by rw [hyω]; first | exact zHr_add (by omega) hbω | exact zHr_no hbω) (by rw [hy2ω]; first | exact zSum_t (p := fun c => gd s c 6 = 3 ∨ gd s c 6 = 4) hdω | exact zSum_f (p := fun c => gd s c 6 = 3 ∨ gd s c 6 = 4) hdω)
                        · refine z_aload_n okω dL_isSo_448 rfl ?_
                          refine z_iconst (v := 4) okω dL_isSo_449 (by decide) ?_
                          refine z_iload okω dL_isSo_450 rfl ?_
                          refine z_imul okω dL_isSo_452 ?_
                          refine z_iconst (v := 2) okω dL_isSo_453 (by decide) ?_
                          refine z_iadd okω dL_isSo_454 ?_
                          refine l_ld6 i9ω okω dL_isSo_455 hmω (lx4_2 i9ω) hi9ω ?_
                          refine z_iconst (v := 4) okω dL_isSo_456 (by decide) ?_
                          refine z_icmp_ne (tgt := 464) okω dL_isSo_457 (by decide) (fun cz457ω => ?_) (fun cz457ω => ?_)
                          · have hdω : ¬ (gd s i9ω 6 = 3 ∨ gd s i9ω 6 = 4) := fun zω => zω.elim cz445ω cz457ω
                            refine z_iconst (v := 0) okω dL_isSo_464 (by decide) ?_
                            refine z_iadd okω dL_isSo_465 ?_
                            refine z_istore okω dL_isSo_466 (by decide) rfl ?_
                            refine z_iinc okω dL_isSo_468 rfl (zinc2 _) (by decide) rfl ?_
                            refine z_goto (tgt := 391) okω dL_isSo_471 (by decide) ?_
                            exact ih9ω (i9ω + 1) _ _ (by omega) (by omega) (by rw [hyω]; first | exact zHr_add (by omega) hbω | exact zHr_no hbω) (by rw [hy2ω]; first | exact zSum_t (p := fun c => gd s c 6 = 3 ∨ gd s c 6 = 4) hdω | exact zSum_f (p := fun c => gd s c 6 = 3 ∨ gd s c 6 = 4) hdω)
                          · have hdω : gd s i9ω 6 = 3 ∨ gd s i9ω 6 = 4 := Or.inr cz457ω
                            refine z_iconst (v := 1) okω dL_isSo_460 (by decide) ?_
                            refine z_goto (tgt := 465) okω dL_isSo_461 (by decide) ?_
                            refine z_iadd okω dL_isSo_465 ?_
                            refine z_istore okω dL_isSo_466 (by decide) rfl ?_
                            refine z_iinc okω dL_isSo_468 rfl (zinc2 _) (by decide) rfl ?_
                            refine z_goto (tgt := 391) okω dL_isSo_471 (by decide) ?_
                            exact ih9ω (i9ω + 1) _ _ (by omega) (by omega) (by rw [hyω]; first | exact zHr_add (by omega) hbω | exact zHr_no hbω) (by rw [hy2ω]; first | exact zSum_t (p := fun c => gd s c 6 = 3 ∨ gd s c 6 = 4) hdω | exact zSum_f (p := fun c => gd s c 6 = 3 ∨ gd s c 6 = 4) hdω)
                      · have hbω : zHere s i9ω := ⟨hg9ω, Int32.not_le.mp cz420ω⟩
                        refine z_iconst (v := 1) okω dL_isSo_423 (by decide) ?_
                        refine z_iload okω dL_isSo_424 rfl ?_
                        refine z_ishl okω dL_isSo_426 ?_
                        refine z_goto (tgt := 431) okω dL_isSo_427 (by decide) ?_
                        refine z_iadd okω dL_isSo_431 ?_
                        refine z_istore okω dL_isSo_432 (by decide) rfl ?_
                        refine z_iload okω dL_isSo_434 rfl ?_
                        refine z_aload_n okω dL_isSo_436 rfl ?_
                        refine z_iconst (v := 4) okω dL_isSo_437 (by decide) ?_
                        refine z_iload okω dL_isSo_438 rfl ?_
                        refine z_imul okω dL_isSo_440 ?_
                        refine z_iconst (v := 2) okω dL_isSo_441 (by decide) ?_
                        refine z_iadd okω dL_isSo_442 ?_
                        refine l_ld6 i9ω okω dL_isSo_443 hmω (lx4_2 i9ω) hi9ω ?_
                        refine z_iconst (v := 3) okω dL_isSo_444 (by decide) ?_
                        refine z_icmp_eq (tgt := 460) okω dL_isSo_445 (by decide) (fun cz445ω => ?_) (fun cz445ω => ?_)
                        · have hdω : gd s i9ω 6 = 3 ∨ gd s i9ω 6 = 4 := Or.inl cz445ω
                          refine z_iconst (v := 1) okω dL_isSo_460 (by decide) ?_
                          refine z_goto (tgt := 465) okω dL_isSo_461 (by decide) ?_
                          refine z_iadd okω dL_isSo_465 ?_
                          refine z_istore okω dL_isSo_466 (by decide) rfl ?_
                          refine z_iinc okω dL_isSo_468 rfl (zinc2 _) (by decide) rfl ?_
                          refine z_goto (tgt := 391) okω dL_isSo_471 (by decide) ?_
                          exact ih9ω (i9ω + 1) _ _ (by omega) (by omega) (by rw [hyω]; first | exact zHr_add (by omega) hbω | exact zHr_no hbω) (by rw [hy2ω]; first | exact zSum_t (p := fun c => gd s c 6 = 3 ∨ gd s c 6 = 4) hdω | exact zSum_f (p := fun c => gd s c 6 = 3 ∨ gd s c 6 = 4) hdω)
                        · refine z_aload_n okω dL_isSo_448 rfl ?_
                          refine z_iconst (v := 4) okω dL_isSo_449 (by decide) ?_
                          refine z_iload okω dL_isSo_450 rfl ?_
                          refine z_imul okω dL_isSo_452 ?_
                          refine z_iconst (v := 2) okω dL_isSo_453 (by decide) ?_
                          refine z_iadd okω dL_isSo_454 ?_
                          refine l_ld6 i9ω okω dL_isSo_455 hmω (lx4_2 i9ω) hi9ω ?_
                          refine z_iconst (v := 4) okω dL_isSo_456 (by decide) ?_
                          refine z_icmp_ne (tgt := 464) okω dL_isSo_457 (by decide) (fun cz457ω => ?_) (fun cz457ω => ?_)
                          · have hdω : ¬ (gd s i9ω 6 = 3 ∨ gd s i9ω 6 = 4) := fun zω => zω.elim cz445ω cz457ω
                            refine z_iconst (v := 0) okω dL_isSo_464 (by decide) ?_
                            refine z_iadd okω dL_isSo_465 ?_
                            refine z_istore okω dL_isSo_466 (by decide) rfl ?_
                            refine z_iinc okω dL_isSo_468 rfl (zinc2 _) (by decide) rfl ?_
                            refine z_goto (tgt := 391) okω dL_isSo_471 (by decide) ?_
                            exact ih9ω (i9ω + 1) _ _ (by omega) (by omega) (by rw [hyω]; first | exact zHr_add (by omega) hbω | exact zHr_no hbω) (by rw [hy2ω]; first | exact zSum_t (p := fun c => gd s c 6 = 3 ∨ gd s c 6 = 4) hdω | exact zSum_f (p := fun c => gd s c 6 = 3 ∨ gd s c 6 = 4) hdω)
                          · have hdω : gd s i9ω 6 = 3 ∨ gd s i9ω 6 = 4 := Or.inr cz457ω
                            refine z_iconst (v := 1) okω dL_isSo_460 (by decide) ?_
                            refine z_goto (tgt := 465) okω dL_isSo_461 (by decide) ?_
                            refine z_iadd okω dL_isSo_465 ?_
                            refine z_istore okω dL_isSo_466 (by decide) rfl ?_
                            refine z_iinc okω dL_isSo_468 rfl (zinc2 _) (by decide) rfl ?_
                            refine z_goto (tgt := 391) okω dL_isSo_471 (by decide) ?_
                            exact ih9ω (i9ω + 1) _ _ (by omega) (by omega) (by rw [hyω]; first | exact zHr_add (by omega) hbω | exact zHr_no hbω) (by rw [hy2ω]; first | exact zSum_t (p := fun c => gd s c 6 = 3 ∨ gd s c 6 = 4) hdω | exact zSum_f (p := fun c => gd s c 6 = 3 ∨ gd s c 6 = 4) hdω)
              exact loop391ω (n + 1) 0 _ _ (by omega) (by omega) rfl rfl
            · have hi50ω : i5ω < 50 := by have := mt (nI_leI (a := 50) (b := i5ω) (by omega) (by omega)).mpr cz325ω; omega
              refine z_iload okω dL_isSo_328 rfl ?_
              refine z_if_eq (tgt := 382) okω dL_isSo_330 (by decide) (fun q9ω => absurd q9ω (by decide)) (fun _ => ?_)
              refine z_aload_n okω dL_isSo_333 rfl ?_
              refine z_iload okω dL_isSo_334 rfl ?_
              refine z_iconst (v := 5) okω dL_isSo_336 (by decide) ?_
              refine z_idiv okω dL_isSo_337 (by decide) ?_
              refine zV_eqi (ydiv (d := 5) rfl (by omega) (by omega) (by omega)) ?_
              refine z_iload okω dL_isSo_338 rfl ?_
              refine z_iconst (v := 5) okω dL_isSo_340 (by decide) ?_
              refine z_irem okω dL_isSo_341 (by decide) ?_
              refine zV_eqi (yrem (d := 5) rfl (by omega) (by omega) (by omega)) ?_
              refine z_callVi okω dL_isSo_342 zm_X6_offerOf zw_291 zi_X6_offerOf hsω rfl (hoω.to_offerOf hNω) rfl rfl (by decide) (by decide) (by decide) (Nat.le_of_ble_eq_true rfl) (fun xz61ω Mz62ω qz63ω => ?_)
              obtain ⟨rfl, hMeω⟩ := qz63ω
              obtain rfl := hMeω.symm
              refine zV_eqi (oof_g hNω hi50ω) ?_
              refine z_iload okω dL_isSo_345 rfl ?_
              refine z_iconst (v := 5) okω dL_isSo_347 (by decide) ?_
              refine z_idiv okω dL_isSo_348 (by decide) ?_
              refine zV_eqi (ydiv (d := 5) rfl (by omega) (by omega) (by omega)) ?_
              refine z_aload_n okω dL_isSo_349 rfl ?_
              refine z_bipush (v := 6) okω dL_isSo_350 (by decide) ?_
              refine l_ldG (t := 6) okω dL_isSo_352 hmω rfl (by decide) ?_
              refine z_icmp_ge (tgt := 364) okω dL_isSo_353 (by decide) (fun cz353ω => ?_) (fun cz353ω => ?_)
              · have hofω : ¬ i5ω / 5 < no := by rw [hNω.2.2.2.2.1, nI_leI (by omega) (by omega)] at cz353ω; omega
                refine z_ldc okω dL_isSo_364 zw_605 ?_
                refine z_icmp_ne (tgt := 373) okω dL_isSo_366 (by decide) (fun q9ω => absurd (by first | exact if_pos hofω | exact if_neg hofω) q9ω) (fun _ => ?_)
                refine z_iconst (v := 1) okω dL_isSo_369 (by decide) ?_
                refine z_goto (tgt := 374) okω dL_isSo_370 (by decide) ?_
                refine z_istore okω dL_isSo_374 (by decide) rfl ?_
                refine z_iinc okω dL_isSo_376 rfl (zinc2 _) (by decide) rfl ?_
                refine z_goto (tgt := 321) okω dL_isSo_379 (by decide) ?_
                exact ih5ω (i5ω + 1) _ _ (by omega) (by omega)
              · have hofω : i5ω / 5 < no := by rw [hNω.2.2.2.2.1, nI_leI (by omega) (by omega)] at cz353ω; omega
                refine z_aload okω dL_isSo_356 rfl ?_
                refine z_iload okω dL_isSo_358 rfl ?_
                refine l_ldF (u := i5ω / 5) (t := i5ω % 5) okω dL_isSo_360 hmω (congrArg nI (by omega)) hofω (by omega) ?_
                refine z_goto (tgt := 366) okω dL_isSo_361 (by decide) ?_
                refine z_icmp_ne (tgt := 373) okω dL_isSo_366 (by decide) (fun q9ω => absurd (by first | exact if_pos hofω | exact if_neg hofω) q9ω) (fun _ => ?_)
                refine z_iconst (v := 1) okω dL_isSo_369 (by decide) ?_
                refine z_goto (tgt := 374) okω dL_isSo_370 (by decide) ?_
                refine z_istore okω dL_isSo_374 (by decide) rfl ?_
                refine z_iinc okω dL_isSo_376 rfl (zinc2 _) (by decide) rfl ?_
                refine z_goto (tgt := 321) okω dL_isSo_379 (by decide) ?_
                exact ih5ω (i5ω + 1) _ _ (by omega) (by omega)
        exact loop321ω 51 0 _ _ (by omega) (by omega)
      · have hi3ω : i3ω < nv := by rw [hNω.2.2.1, nI_leI (by omega) (by omega)] at cz19ω; omega
        have hroomω := hxω.room hwω hi3ω
        refine z_iload okω dL_isSo_22 rfl ?_
        refine z_if_eq (tgt := 318) okω dL_isSo_24 (by decide) (fun q9ω => absurd q9ω (by decide)) (fun _ => ?_)
        refine z_bipush (v := 8) okω dL_isSo_27 (by decide) ?_
        refine z_iload okω dL_isSo_29 rfl ?_
        refine z_imul okω dL_isSo_31 ?_
        refine z_istore okω dL_isSo_32 (by decide) rfl ?_
        refine z_aload_n okω dL_isSo_34 rfl ?_
        refine z_aload_n okω dL_isSo_35 rfl ?_
        refine z_aload_n okω dL_isSo_36 rfl ?_
        refine z_aload okω dL_isSo_37 rfl ?_
        refine z_iload okω dL_isSo_39 rfl ?_
        refine z_callSi okω dL_isSo_41 zm_L_goal zw_468 zw_469 (ct_L_goal hmω hwω hi3ω) rfl rfl (by decide) (by decide) (by decide) (Nat.le_of_ble_eq_true rfl) (fun xz64ω Mz65ω qz66ω => ?_)
        obtain ⟨rfl, hMeω⟩ := qz66ω
        obtain rfl := hMeω.symm
        refine z_istore okω dL_isSo_44 (by decide) rfl ?_
        refine z_aload_n okω dL_isSo_46 rfl ?_
        refine z_iload okω dL_isSo_47 rfl ?_
        refine z_iconst (v := 0) okω dL_isSo_49 (by decide) ?_
        refine z_callVi okω dL_isSo_50 zm_X6_vehicleOf zw_606 zi_X6_vehicleOf hsω rfl (hoω.to_vehicleOf hNω) rfl rfl (by decide) (by decide) (by decide) (Nat.le_of_ble_eq_true rfl) (fun xz67ω Mz68ω qz69ω => ?_)
        obtain ⟨rfl, hMeω⟩ := qz69ω
        obtain rfl := hMeω.symm
        refine zV_eqi ((vof_g (j := 0) hNω hi3ω rfl (by decide)).trans (show zVo s n i3ω 0 = vd s i3ω 0 from rfl)) ?_
        refine z_aload okω dL_isSo_53 rfl ?_
        refine z_iload okω dL_isSo_55 rfl ?_
        refine l_ldV (u := i3ω) (t := 0) okω dL_isSo_57 hmω (lx8_0 i3ω) hi3ω (by decide) ?_
        refine z_icmp_ne (tgt := 263) okω dL_isSo_58 (by decide) (fun q9ω => absurd rfl q9ω) (fun _ => ?_)
        refine z_aload_n okω dL_isSo_61 rfl ?_
        refine z_iload okω dL_isSo_62 rfl ?_
        refine z_iconst (v := 1) okω dL_isSo_64 (by decide) ?_
        refine z_callVi okω dL_isSo_65 zm_X6_vehicleOf zw_606 zi_X6_vehicleOf hsω rfl (hoω.to_vehicleOf hNω) rfl rfl (by decide) (by decide) (by decide) (Nat.le_of_ble_eq_true rfl) (fun xz70ω Mz71ω qz72ω => ?_)
        obtain ⟨rfl, hMeω⟩ := qz72ω
        obtain rfl := hMeω.symm
        refine zV_eqi ((vof_g (j := 1) hNω hi3ω rfl (by decide)).trans (show zVo s n i3ω 1 = vd s i3ω 1 from rfl)) ?_
        refine z_aload okω dL_isSo_68 rfl ?_
        refine z_iload okω dL_isSo_70 rfl ?_
        refine z_iconst (v := 1) okω dL_isSo_72 (by decide) ?_
        refine z_iadd okω dL_isSo_73 ?_
        refine l_ldV (u := i3ω) (t := 1) okω dL_isSo_74 hmω (lx8_1 i3ω) hi3ω (by decide) ?_
        refine z_icmp_ne (tgt := 263) okω dL_isSo_75 (by decide) (fun q9ω => absurd rfl q9ω) (fun _ => ?_)
        refine z_aload_n okω dL_isSo_78 rfl ?_
        refine z_iload okω dL_isSo_79 rfl ?_
        refine z_iconst (v := 2) okω dL_isSo_81 (by decide) ?_
        refine z_callVi okω dL_isSo_82 zm_X6_vehicleOf zw_606 zi_X6_vehicleOf hsω rfl (hoω.to_vehicleOf hNω) rfl rfl (by decide) (by decide) (by decide) (Nat.le_of_ble_eq_true rfl) (fun xz73ω Mz74ω qz75ω => ?_)
        obtain ⟨rfl, hMeω⟩ := qz75ω
        obtain rfl := hMeω.symm
        refine zV_eqi ((vof_g (j := 2) hNω hi3ω rfl (by decide)).trans (show zVo s n i3ω 2 = vd s i3ω 2 from rfl)) ?_
        refine z_aload okω dL_isSo_85 rfl ?_
        refine z_iload okω dL_isSo_87 rfl ?_
        refine z_iconst (v := 2) okω dL_isSo_89 (by decide) ?_
        refine z_iadd okω dL_isSo_90 ?_
        refine l_ldV (u := i3ω) (t := 2) okω dL_isSo_91 hmω (lx8_2 i3ω) hi3ω (by decide) ?_
        refine z_icmp_ne (tgt := 263) okω dL_isSo_92 (by decide) (fun q9ω => absurd rfl q9ω) (fun _ => ?_)
        refine z_aload_n okω dL_isSo_95 rfl ?_
        refine z_iload okω dL_isSo_96 rfl ?_
        refine z_iconst (v := 3) okω dL_isSo_98 (by decide) ?_
        refine z_callVi okω dL_isSo_99 zm_X6_vehicleOf zw_606 zi_X6_vehicleOf hsω rfl (hoω.to_vehicleOf hNω) rfl rfl (by decide) (by decide) (by decide) (Nat.le_of_ble_eq_true rfl) (fun xz76ω Mz77ω qz78ω => ?_)
        obtain ⟨rfl, hMeω⟩ := qz78ω
        obtain rfl := hMeω.symm
        refine zV_eqi ((vof_g (j := 3) hNω hi3ω rfl (by decide)).trans (show zVo s n i3ω 3 = zLd s n (nI i3ω) 1 from rfl)) ?_
        refine z_aload_n okω dL_isSo_102 rfl ?_
        refine z_aload_n okω dL_isSo_103 rfl ?_
        refine z_aload_n okω dL_isSo_104 rfl ?_
        refine z_iload okω dL_isSo_105 rfl ?_
        refine z_iconst (v := 1) okω dL_isSo_107 (by decide) ?_
        refine z_callSi okω dL_isSo_108 zm_L_load zw_471 zw_472 (ct_L_load1 hmω hwω (v := i3ω) (by omega)) rfl rfl (by decide) (by decide) (by decide) (Nat.le_of_ble_eq_true rfl) (fun xz79ω Mz80ω qz81ω => ?_)
        obtain ⟨rfl, hMeω⟩ := qz81ω
        obtain rfl := hMeω.symm
        refine z_icmp_ne (tgt := 263) okω dL_isSo_111 (by decide) (fun q9ω => absurd rfl q9ω) (fun _ => ?_)
        refine z_aload_n okω dL_isSo_114 rfl ?_
        refine z_iload okω dL_isSo_115 rfl ?_
        refine z_iconst (v := 4) okω dL_isSo_117 (by decide) ?_
        refine z_callVi okω dL_isSo_118 zm_X6_vehicleOf zw_606 zi_X6_vehicleOf hsω rfl (hoω.to_vehicleOf hNω) rfl rfl (by decide) (by decide) (by decide) (Nat.le_of_ble_eq_true rfl) (fun xz82ω Mz83ω qz84ω => ?_)
        obtain ⟨rfl, hMeω⟩ := qz84ω
        obtain rfl := hMeω.symm
        refine zV_eqi ((vof_g (j := 4) hNω hi3ω rfl (by decide)).trans (show zVo s n i3ω 4 = zLd s n (nI i3ω) 2 from rfl)) ?_
        refine z_aload_n okω dL_isSo_121 rfl ?_
        refine z_aload_n okω dL_isSo_122 rfl ?_
        refine z_aload_n okω dL_isSo_123 rfl ?_
        refine z_iload okω dL_isSo_124 rfl ?_
        refine z_iconst (v := 2) okω dL_isSo_126 (by decide) ?_
        refine z_callSi okω dL_isSo_127 zm_L_load zw_471 zw_472 (ct_L_load2 hmω hwω (v := i3ω) (by omega)) rfl rfl (by decide) (by decide) (by decide) (Nat.le_of_ble_eq_true rfl) (fun xz85ω Mz86ω qz87ω => ?_)
        obtain ⟨rfl, hMeω⟩ := qz87ω
        obtain rfl := hMeω.symm
        refine z_icmp_ne (tgt := 263) okω dL_isSo_130 (by decide) (fun q9ω => absurd rfl q9ω) (fun _ => ?_)
        refine z_aload_n okω dL_isSo_133 rfl ?_
        refine z_iload okω dL_isSo_134 rfl ?_
        refine z_iconst (v := 5) okω dL_isSo_136 (by decide) ?_
        refine z_callVi okω dL_isSo_137 zm_X6_vehicleOf zw_606 zi_X6_vehicleOf hsω rfl (hoω.to_vehicleOf hNω) rfl rfl (by decide) (by decide) (by decide) (Nat.le_of_ble_eq_true rfl) (fun xz88ω Mz89ω qz90ω => ?_)
        obtain ⟨rfl, hMeω⟩ := qz90ω
        obtain rfl := hMeω.symm
        refine zV_eqi ((vof_g (j := 5) hNω hi3ω rfl (by decide)).trans (show zVo s n i3ω 5 = zLs s n (nI i3ω) from rfl)) ?_
        refine z_aload_n okω dL_isSo_140 rfl ?_
        refine z_aload_n okω dL_isSo_141 rfl ?_
        refine z_aload_n okω dL_isSo_142 rfl ?_
        refine z_iload okω dL_isSo_143 rfl ?_
        refine z_iconst (v := 0) okω dL_isSo_145 (by decide) ?_
        refine z_callSi okω dL_isSo_146 zm_L_load zw_471 zw_472 (ct_L_load0 hmω hwω (v := i3ω) (by omega)) rfl rfl (by decide) (by decide) (by decide) (Nat.le_of_ble_eq_true rfl) (fun xz91ω Mz92ω qz93ω => ?_)
        obtain ⟨rfl, hMeω⟩ := qz93ω
        obtain rfl := hMeω.symm
        refine z_icmp_ne (tgt := 263) okω dL_isSo_149 (by decide) (fun q9ω => absurd rfl q9ω) (fun _ => ?_)
        refine z_aload_n okω dL_isSo_152 rfl ?_
        refine z_iload okω dL_isSo_153 rfl ?_
        refine z_bipush (v := 6) okω dL_isSo_155 (by decide) ?_
        refine z_callVi okω dL_isSo_157 zm_X6_vehicleOf zw_606 zi_X6_vehicleOf hsω rfl (hoω.to_vehicleOf hNω) rfl rfl (by decide) (by decide) (by decide) (Nat.le_of_ble_eq_true rfl) (fun xz94ω Mz95ω qz96ω => ?_)
        obtain ⟨rfl, hMeω⟩ := qz96ω
        obtain rfl := hMeω.symm
        refine zV_eqi ((vof_g (j := 6) hNω hi3ω rfl (by decide)).trans (show zVo s n i3ω 6 = zGoal s n i3ω from rfl)) ?_
        refine z_iload okω dL_isSo_160 rfl ?_
        refine z_if_ge (tgt := 170) okω dL_isSo_162 (by decide) (fun cz162ω => ?_) (fun cz162ω => ?_)
        · refine z_iload okω dL_isSo_170 rfl ?_
          refine z_icmp_ne (tgt := 263) okω dL_isSo_172 (by decide) (fun q9ω => absurd (by first | exact (goal_n hwω hi3ω).1 (Int32.not_le.mp cz162ω) | exact (goal_n hwω hi3ω).2 cz162ω) q9ω) (fun _ => ?_)
          refine z_aload_n okω dL_isSo_175 rfl ?_
          refine z_iload okω dL_isSo_176 rfl ?_
          refine z_bipush (v := 7) okω dL_isSo_178 (by decide) ?_
          refine z_callVi okω dL_isSo_180 zm_X6_vehicleOf zw_606 zi_X6_vehicleOf hsω rfl (hoω.to_vehicleOf hNω) rfl rfl (by decide) (by decide) (by decide) (Nat.le_of_ble_eq_true rfl) (fun xz97ω Mz98ω qz99ω => ?_)
          obtain ⟨rfl, hMeω⟩ := qz99ω
          obtain rfl := hMeω.symm
          refine zV_eqi ((vof_g (j := 7) hNω hi3ω rfl (by decide)).trans (show zVo s n i3ω 7 = (if vd s i3ω 2 = 0 then -1000004 else vd s i3ω 4) from rfl)) ?_
          refine z_aload okω dL_isSo_183 rfl ?_
          refine z_iload okω dL_isSo_185 rfl ?_
          refine z_iconst (v := 2) okω dL_isSo_187 (by decide) ?_
          refine z_iadd okω dL_isSo_188 ?_
          refine l_ldV (u := i3ω) (t := 2) okω dL_isSo_189 hmω (lx8_2 i3ω) hi3ω (by decide) ?_
          refine z_if_ne (tgt := 198) okω dL_isSo_190 (by decide) (fun cz190ω => ?_) (fun cz190ω => ?_)
          · refine z_aload okω dL_isSo_198 rfl ?_
            refine z_iload okω dL_isSo_200 rfl ?_
            refine z_iconst (v := 4) okω dL_isSo_202 (by decide) ?_
            refine z_iadd okω dL_isSo_203 ?_
            refine l_ldV (u := i3ω) (t := 4) okω dL_isSo_204 hmω (lx8_4 i3ω) hi3ω (by decide) ?_
            refine z_icmp_ne (tgt := 263) okω dL_isSo_205 (by decide) (fun q9ω => absurd (by first | exact if_pos cz190ω | exact if_neg cz190ω) q9ω) (fun _ => ?_)
            refine z_aload_n okω dL_isSo_208 rfl ?_
            refine z_iload okω dL_isSo_209 rfl ?_
            refine z_bipush (v := 8) okω dL_isSo_211 (by decide) ?_
            refine z_callVi okω dL_isSo_213 zm_X6_vehicleOf zw_606 zi_X6_vehicleOf hsω rfl (hoω.to_vehicleOf hNω) rfl rfl (by decide) (by decide) (by decide) (Nat.le_of_ble_eq_true rfl) (fun xz100ω Mz101ω qz102ω => ?_)
            obtain ⟨rfl, hMeω⟩ := qz102ω
            obtain rfl := hMeω.symm
            refine zV_eqi ((vof_g (j := 8) hNω hi3ω rfl (by decide)).trans (show zVo s n i3ω 8 = vd s i3ω 6 from rfl)) ?_
            refine z_aload okω dL_isSo_216 rfl ?_
            refine z_iload okω dL_isSo_218 rfl ?_
            refine z_bipush (v := 6) okω dL_isSo_220 (by decide) ?_
            refine z_iadd okω dL_isSo_222 ?_
            refine l_ldV (u := i3ω) (t := 6) okω dL_isSo_223 hmω (lx8_6 i3ω) hi3ω (by decide) ?_
            refine z_icmp_ne (tgt := 263) okω dL_isSo_224 (by decide) (fun q9ω => absurd rfl q9ω) (fun _ => ?_)
            refine z_aload_n okω dL_isSo_227 rfl ?_
            refine z_iload okω dL_isSo_228 rfl ?_
            refine z_bipush (v := 9) okω dL_isSo_230 (by decide) ?_
            refine z_callVi okω dL_isSo_232 zm_X6_vehicleOf zw_606 zi_X6_vehicleOf hsω rfl (hoω.to_vehicleOf hNω) rfl rfl (by decide) (by decide) (by decide) (Nat.le_of_ble_eq_true rfl) (fun xz103ω Mz104ω qz105ω => ?_)
            obtain ⟨rfl, hMeω⟩ := qz105ω
            obtain rfl := hMeω.symm
            refine zV_eqi ((vof_g (j := 9) hNω hi3ω rfl (by decide)).trans (show zVo s n i3ω 9 = vd s i3ω 7 from rfl)) ?_
            refine z_aload okω dL_isSo_235 rfl ?_
            refine z_iload okω dL_isSo_237 rfl ?_
            refine z_bipush (v := 7) okω dL_isSo_239 (by decide) ?_
            refine z_iadd okω dL_isSo_241 ?_
            refine l_ldV (u := i3ω) (t := 7) okω dL_isSo_242 hmω (lx8_7 i3ω) hi3ω (by decide) ?_
            refine z_icmp_ne (tgt := 263) okω dL_isSo_243 (by decide) (fun q9ω => absurd rfl q9ω) (fun _ => ?_)
            refine z_aload_n okω dL_isSo_246 rfl ?_
            refine z_iload okω dL_isSo_247 rfl ?_
            refine z_bipush (v := 10) okω dL_isSo_249 (by decide) ?_
            refine z_callVi okω dL_isSo_251 zm_X6_vehicleOf zw_606 zi_X6_vehicleOf hsω rfl (hoω.to_vehicleOf hNω) rfl rfl (by decide) (by decide) (by decide) (Nat.le_of_ble_eq_true rfl) (fun xz106ω Mz107ω qz108ω => ?_)
            obtain ⟨rfl, hMeω⟩ := qz108ω
            obtain rfl := hMeω.symm
            refine zV_eqi vof_10 ?_
            refine z_ldc okω dL_isSo_254 zw_409 ?_
            refine z_icmp_ne (tgt := 263) okω dL_isSo_256 (by decide) (fun q9ω => absurd rfl q9ω) (fun _ => ?_)
            refine z_iconst (v := 1) okω dL_isSo_259 (by decide) ?_
            refine z_goto (tgt := 264) okω dL_isSo_260 (by decide) ?_
            refine z_istore okω dL_isSo_264 (by decide) rfl ?_
            refine z_iload okω dL_isSo_266 rfl ?_
            refine z_if_eq (tgt := 309) okω dL_isSo_268 (by decide) (fun q9ω => absurd q9ω (by decide)) (fun _ => ?_)
            refine z_aload_n okω dL_isSo_271 rfl ?_
            refine z_iload okω dL_isSo_272 rfl ?_
            refine z_iconst (v := 3) okω dL_isSo_274 (by decide) ?_
            refine z_callVi okω dL_isSo_275 zm_X6_vehicleOf zw_606 zi_X6_vehicleOf hsω rfl (hoω.to_vehicleOf hNω) rfl rfl (by decide) (by decide) (by decide) (Nat.le_of_ble_eq_true rfl) (fun xz109ω Mz110ω qz111ω => ?_)
            obtain ⟨rfl, hMeω⟩ := qz111ω
            obtain rfl := hMeω.symm
            refine zV_eqi ((vof_g (j := 3) hNω hi3ω rfl (by decide)).trans (show zVo s n i3ω 3 = zLd s n (nI i3ω) 1 from rfl)) ?_
            refine z_aload_n okω dL_isSo_278 rfl ?_
            refine z_iload okω dL_isSo_279 rfl ?_
            refine z_iconst (v := 0) okω dL_isSo_281 (by decide) ?_
            refine z_callVi okω dL_isSo_282 zm_X6_vehicleOf zw_606 zi_X6_vehicleOf hsω rfl (hoω.to_vehicleOf hNω) rfl rfl (by decide) (by decide) (by decide) (Nat.le_of_ble_eq_true rfl) (fun xz112ω Mz113ω qz114ω => ?_)
            obtain ⟨rfl, hMeω⟩ := qz114ω
            obtain rfl := hMeω.symm
            refine zV_eqi ((vof_g (j := 0) hNω hi3ω rfl (by decide)).trans (show zVo s n i3ω 0 = vd s i3ω 0 from rfl)) ?_
            refine z_icmp_gt (tgt := 309) okω dL_isSo_285 (by decide) (fun q9ω => absurd hroomω.1 (Int32.not_le.mpr q9ω)) (fun _ => ?_)
            refine z_aload_n okω dL_isSo_288 rfl ?_
            refine z_iload okω dL_isSo_289 rfl ?_
            refine z_iconst (v := 4) okω dL_isSo_291 (by decide) ?_
            refine z_callVi okω dL_isSo_292 zm_X6_vehicleOf zw_606 zi_X6_vehicleOf hsω rfl (hoω.to_vehicleOf hNω) rfl rfl (by decide) (by decide) (by decide) (Nat.le_of_ble_eq_true rfl) (fun xz115ω Mz116ω qz117ω => ?_)
            obtain ⟨rfl, hMeω⟩ := qz117ω
            obtain rfl := hMeω.symm
            refine zV_eqi ((vof_g (j := 4) hNω hi3ω rfl (by decide)).trans (show zVo s n i3ω 4 = zLd s n (nI i3ω) 2 from rfl)) ?_
            refine z_aload_n okω dL_isSo_295 rfl ?_
            refine z_iload okω dL_isSo_296 rfl ?_
            refine z_iconst (v := 1) okω dL_isSo_298 (by decide) ?_
            refine z_callVi okω dL_isSo_299 zm_X6_vehicleOf zw_606 zi_X6_vehicleOf hsω rfl (hoω.to_vehicleOf hNω) rfl rfl (by decide) (by decide) (by decide) (Nat.le_of_ble_eq_true rfl) (fun xz118ω Mz119ω qz120ω => ?_)
            obtain ⟨rfl, hMeω⟩ := qz120ω
            obtain rfl := hMeω.symm
            refine zV_eqi ((vof_g (j := 1) hNω hi3ω rfl (by decide)).trans (show zVo s n i3ω 1 = vd s i3ω 1 from rfl)) ?_
            refine z_icmp_gt (tgt := 309) okω dL_isSo_302 (by decide) (fun q9ω => absurd hroomω.2 (Int32.not_le.mpr q9ω)) (fun _ => ?_)
            refine z_iconst (v := 1) okω dL_isSo_305 (by decide) ?_
            refine z_goto (tgt := 310) okω dL_isSo_306 (by decide) ?_
            refine z_istore okω dL_isSo_310 (by decide) rfl ?_
            refine z_iinc okω dL_isSo_312 rfl (zinc2 _) (by decide) rfl ?_
            refine z_goto (tgt := 14) okω dL_isSo_315 (by decide) ?_
            exact ih3ω (i3ω + 1) _ _ (by omega) (by omega)
          · refine z_ldc okω dL_isSo_193 zw_605 ?_
            refine z_goto (tgt := 205) okω dL_isSo_195 (by decide) ?_
            refine z_icmp_ne (tgt := 263) okω dL_isSo_205 (by decide) (fun q9ω => absurd (by first | exact if_pos cz190ω | exact if_neg cz190ω) q9ω) (fun _ => ?_)
            refine z_aload_n okω dL_isSo_208 rfl ?_
            refine z_iload okω dL_isSo_209 rfl ?_
            refine z_bipush (v := 8) okω dL_isSo_211 (by decide) ?_
            refine z_callVi okω dL_isSo_213 zm_X6_vehicleOf zw_606 zi_X6_vehicleOf hsω rfl (hoω.to_vehicleOf hNω) rfl rfl (by decide) (by decide) (by decide) (Nat.le_of_ble_eq_true rfl) (fun xz121ω Mz122ω qz123ω => ?_)
            obtain ⟨rfl, hMeω⟩ := qz123ω
            obtain rfl := hMeω.symm
            refine zV_eqi ((vof_g (j := 8) hNω hi3ω rfl (by decide)).trans (show zVo s n i3ω 8 = vd s i3ω 6 from rfl)) ?_
            refine z_aload okω dL_isSo_216 rfl ?_
            refine z_iload okω dL_isSo_218 rfl ?_
            refine z_bipush (v := 6) okω dL_isSo_220 (by decide) ?_
            refine z_iadd okω dL_isSo_222 ?_
            refine l_ldV (u := i3ω) (t := 6) okω dL_isSo_223 hmω (lx8_6 i3ω) hi3ω (by decide) ?_
            refine z_icmp_ne (tgt := 263) okω dL_isSo_224 (by decide) (fun q9ω => absurd rfl q9ω) (fun _ => ?_)
            refine z_aload_n okω dL_isSo_227 rfl ?_
            refine z_iload okω dL_isSo_228 rfl ?_
            refine z_bipush (v := 9) okω dL_isSo_230 (by decide) ?_
            refine z_callVi okω dL_isSo_232 zm_X6_vehicleOf zw_606 zi_X6_vehicleOf hsω rfl (hoω.to_vehicleOf hNω) rfl rfl (by decide) (by decide) (by decide) (Nat.le_of_ble_eq_true rfl) (fun xz124ω Mz125ω qz126ω => ?_)
            obtain ⟨rfl, hMeω⟩ := qz126ω
            obtain rfl := hMeω.symm
            refine zV_eqi ((vof_g (j := 9) hNω hi3ω rfl (by decide)).trans (show zVo s n i3ω 9 = vd s i3ω 7 from rfl)) ?_
            refine z_aload okω dL_isSo_235 rfl ?_
            refine z_iload okω dL_isSo_237 rfl ?_
            refine z_bipush (v := 7) okω dL_isSo_239 (by decide) ?_
            refine z_iadd okω dL_isSo_241 ?_
            refine l_ldV (u := i3ω) (t := 7) okω dL_isSo_242 hmω (lx8_7 i3ω) hi3ω (by decide) ?_
            refine z_icmp_ne (tgt := 263) okω dL_isSo_243 (by decide) (fun q9ω => absurd rfl q9ω) (fun _ => ?_)
            refine z_aload_n okω dL_isSo_246 rfl ?_
            refine z_iload okω dL_isSo_247 rfl ?_
            refine z_bipush (v := 10) okω dL_isSo_249 (by decide) ?_
            refine z_callVi okω dL_isSo_251 zm_X6_vehicleOf zw_606 zi_X6_vehicleOf hsω rfl (hoω.to_vehicleOf hNω) rfl rfl (by decide) (by decide) (by decide) (Nat.le_of_ble_eq_true rfl) (fun xz127ω Mz128ω qz129ω => ?_)
            obtain ⟨rfl, hMeω⟩ := qz129ω
            obtain rfl := hMeω.symm
            refine zV_eqi vof_10 ?_
            refine z_ldc okω dL_isSo_254 zw_409 ?_
            refine z_icmp_ne (tgt := 263) okω dL_isSo_256 (by decide) (fun q9ω => absurd rfl q9ω) (fun _ => ?_)
            refine z_iconst (v := 1) okω dL_isSo_259 (by decide) ?_
            refine z_goto (tgt := 264) okω dL_isSo_260 (by decide) ?_
            refine z_istore okω dL_isSo_264 (by decide) rfl ?_
            refine z_iload okω dL_isSo_266 rfl ?_
            refine z_if_eq (tgt := 309) okω dL_isSo_268 (by decide) (fun q9ω => absurd q9ω (by decide)) (fun _ => ?_)
            refine z_aload_n okω dL_isSo_271 rfl ?_
            refine z_iload okω dL_isSo_272 rfl ?_
            refine z_iconst (v := 3) okω dL_isSo_274 (by decide) ?_
            refine z_callVi okω dL_isSo_275 zm_X6_vehicleOf zw_606 zi_X6_vehicleOf hsω rfl (hoω.to_vehicleOf hNω) rfl rfl (by decide) (by decide) (by decide) (Nat.le_of_ble_eq_true rfl) (fun xz130ω Mz131ω qz132ω => ?_)
            obtain ⟨rfl, hMeω⟩ := qz132ω
            obtain rfl := hMeω.symm
            refine zV_eqi ((vof_g (j := 3) hNω hi3ω rfl (by decide)).trans (show zVo s n i3ω 3 = zLd s n (nI i3ω) 1 from rfl)) ?_
            refine z_aload_n okω dL_isSo_278 rfl ?_
            refine z_iload okω dL_isSo_279 rfl ?_
            refine z_iconst (v := 0) okω dL_isSo_281 (by decide) ?_
            refine z_callVi okω dL_isSo_282 zm_X6_vehicleOf zw_606 zi_X6_vehicleOf hsω rfl (hoω.to_vehicleOf hNω) rfl rfl (by decide) (by decide) (by decide) (Nat.le_of_ble_eq_true rfl) (fun xz133ω Mz134ω qz135ω => ?_)
            obtain ⟨rfl, hMeω⟩ := qz135ω
            obtain rfl := hMeω.symm
            refine zV_eqi ((vof_g (j := 0) hNω hi3ω rfl (by decide)).trans (show zVo s n i3ω 0 = vd s i3ω 0 from rfl)) ?_
            refine z_icmp_gt (tgt := 309) okω dL_isSo_285 (by decide) (fun q9ω => absurd hroomω.1 (Int32.not_le.mpr q9ω)) (fun _ => ?_)
            refine z_aload_n okω dL_isSo_288 rfl ?_
            refine z_iload okω dL_isSo_289 rfl ?_
            refine z_iconst (v := 4) okω dL_isSo_291 (by decide) ?_
            refine z_callVi okω dL_isSo_292 zm_X6_vehicleOf zw_606 zi_X6_vehicleOf hsω rfl (hoω.to_vehicleOf hNω) rfl rfl (by decide) (by decide) (by decide) (Nat.le_of_ble_eq_true rfl) (fun xz136ω Mz137ω qz138ω => ?_)
            obtain ⟨rfl, hMeω⟩ := qz138ω
            obtain rfl := hMeω.symm
            refine zV_eqi ((vof_g (j := 4) hNω hi3ω rfl (by decide)).trans (show zVo s n i3ω 4 = zLd s n (nI i3ω) 2 from rfl)) ?_
            refine z_aload_n okω dL_isSo_295 rfl ?_
            refine z_iload okω dL_isSo_296 rfl ?_
            refine z_iconst (v := 1) okω dL_isSo_298 (by decide) ?_
            refine z_callVi okω dL_isSo_299 zm_X6_vehicleOf zw_606 zi_X6_vehicleOf hsω rfl (hoω.to_vehicleOf hNω) rfl rfl (by decide) (by decide) (by decide) (Nat.le_of_ble_eq_true rfl) (fun xz139ω Mz140ω qz141ω => ?_)
            obtain ⟨rfl, hMeω⟩ := qz141ω
            obtain rfl := hMeω.symm
            refine zV_eqi ((vof_g (j := 1) hNω hi3ω rfl (by decide)).trans (show zVo s n i3ω 1 = vd s i3ω 1 from rfl)) ?_
            refine z_icmp_gt (tgt := 309) okω dL_isSo_302 (by decide) (fun q9ω => absurd hroomω.2 (Int32.not_le.mpr q9ω)) (fun _ => ?_)
            refine z_iconst (v := 1) okω dL_isSo_305 (by decide) ?_
            refine z_goto (tgt := 310) okω dL_isSo_306 (by decide) ?_
            refine z_istore okω dL_isSo_310 (by decide) rfl ?_
            refine z_iinc okω dL_isSo_312 rfl (zinc2 _) (by decide) rfl ?_
            refine z_goto (tgt := 14) okω dL_isSo_315 (by decide) ?_
            exact ih3ω (i3ω + 1) _ _ (by omega) (by omega)
        · refine z_ldc okω dL_isSo_165 zw_605 ?_
          refine z_goto (tgt := 172) okω dL_isSo_167 (by decide) ?_
          refine z_icmp_ne (tgt := 263) okω dL_isSo_172 (by decide) (fun q9ω => absurd (by first | exact (goal_n hwω hi3ω).1 (Int32.not_le.mp cz162ω) | exact (goal_n hwω hi3ω).2 cz162ω) q9ω) (fun _ => ?_)
          refine z_aload_n okω dL_isSo_175 rfl ?_
          refine z_iload okω dL_isSo_176 rfl ?_
          refine z_bipush (v := 7) okω dL_isSo_178 (by decide) ?_
          refine z_callVi okω dL_isSo_180 zm_X6_vehicleOf zw_606 zi_X6_vehicleOf hsω rfl (hoω.to_vehicleOf hNω) rfl rfl (by decide) (by decide) (by decide) (Nat.le_of_ble_eq_true rfl) (fun xz142ω Mz143ω qz144ω => ?_)
          obtain ⟨rfl, hMeω⟩ := qz144ω
          obtain rfl := hMeω.symm
          refine zV_eqi ((vof_g (j := 7) hNω hi3ω rfl (by decide)).trans (show zVo s n i3ω 7 = (if vd s i3ω 2 = 0 then -1000004 else vd s i3ω 4) from rfl)) ?_
          refine z_aload okω dL_isSo_183 rfl ?_
          refine z_iload okω dL_isSo_185 rfl ?_
          refine z_iconst (v := 2) okω dL_isSo_187 (by decide) ?_
          refine z_iadd okω dL_isSo_188 ?_
          refine l_ldV (u := i3ω) (t := 2) okω dL_isSo_189 hmω (lx8_2 i3ω) hi3ω (by decide) ?_
          refine z_if_ne (tgt := 198) okω dL_isSo_190 (by decide) (fun cz190ω => ?_) (fun cz190ω => ?_)
          · refine z_aload okω dL_isSo_198 rfl ?_
            refine z_iload okω dL_isSo_200 rfl ?_
            refine z_iconst (v := 4) okω dL_isSo_202 (by decide) ?_
            refine z_iadd okω dL_isSo_203 ?_
            refine l_ldV (u := i3ω) (t := 4) okω dL_isSo_204 hmω (lx8_4 i3ω) hi3ω (by decide) ?_
            refine z_icmp_ne (tgt := 263) okω dL_isSo_205 (by decide) (fun q9ω => absurd (by first | exact if_pos cz190ω | exact if_neg cz190ω) q9ω) (fun _ => ?_)
            refine z_aload_n okω dL_isSo_208 rfl ?_
            refine z_iload okω dL_isSo_209 rfl ?_
            refine z_bipush (v := 8) okω dL_isSo_211 (by decide) ?_
            refine z_callVi okω dL_isSo_213 zm_X6_vehicleOf zw_606 zi_X6_vehicleOf hsω rfl (hoω.to_vehicleOf hNω) rfl rfl (by decide) (by decide) (by decide) (Nat.le_of_ble_eq_true rfl) (fun xz145ω Mz146ω qz147ω => ?_)
            obtain ⟨rfl, hMeω⟩ := qz147ω
            obtain rfl := hMeω.symm
            refine zV_eqi ((vof_g (j := 8) hNω hi3ω rfl (by decide)).trans (show zVo s n i3ω 8 = vd s i3ω 6 from rfl)) ?_
            refine z_aload okω dL_isSo_216 rfl ?_
            refine z_iload okω dL_isSo_218 rfl ?_
            refine z_bipush (v := 6) okω dL_isSo_220 (by decide) ?_
            refine z_iadd okω dL_isSo_222 ?_
            refine l_ldV (u := i3ω) (t := 6) okω dL_isSo_223 hmω (lx8_6 i3ω) hi3ω (by decide) ?_
            refine z_icmp_ne (tgt := 263) okω dL_isSo_224 (by decide) (fun q9ω => absurd rfl q9ω) (fun _ => ?_)
            refine z_aload_n okω dL_isSo_227 rfl ?_
            refine z_iload okω dL_isSo_228 rfl ?_
            refine z_bipush (v := 9) okω dL_isSo_230 (by decide) ?_
            refine z_callVi okω dL_isSo_232 zm_X6_vehicleOf zw_606 zi_X6_vehicleOf hsω rfl (hoω.to_vehicleOf hNω) rfl rfl (by decide) (by decide) (by decide) (Nat.le_of_ble_eq_true rfl) (fun xz148ω Mz149ω qz150ω => ?_)
            obtain ⟨rfl, hMeω⟩ := qz150ω
            obtain rfl := hMeω.symm
            refine zV_eqi ((vof_g (j := 9) hNω hi3ω rfl (by decide)).trans (show zVo s n i3ω 9 = vd s i3ω 7 from rfl)) ?_
            refine z_aload okω dL_isSo_235 rfl ?_
            refine z_iload okω dL_isSo_237 rfl ?_
            refine z_bipush (v := 7) okω dL_isSo_239 (by decide) ?_
            refine z_iadd okω dL_isSo_241 ?_
            refine l_ldV (u := i3ω) (t := 7) okω dL_isSo_242 hmω (lx8_7 i3ω) hi3ω (by decide) ?_
            refine z_icmp_ne (tgt := 263) okω dL_isSo_243 (by decide) (fun q9ω => absurd rfl q9ω) (fun _ => ?_)
            refine z_aload_n okω dL_isSo_246 rfl ?_
            refine z_iload okω dL_isSo_247 rfl ?_
            refine z_bipush (v := 10) okω dL_isSo_249 (by decide) ?_
            refine z_callVi okω dL_isSo_251 zm_X6_vehicleOf zw_606 zi_X6_vehicleOf hsω rfl (hoω.to_vehicleOf hNω) rfl rfl (by decide) (by decide) (by decide) (Nat.le_of_ble_eq_true rfl) (fun xz151ω Mz152ω qz153ω => ?_)
            obtain ⟨rfl, hMeω⟩ := qz153ω
            obtain rfl := hMeω.symm
            refine zV_eqi vof_10 ?_
            refine z_ldc okω dL_isSo_254 zw_409 ?_
            refine z_icmp_ne (tgt := 263) okω dL_isSo_256 (by decide) (fun q9ω => absurd rfl q9ω) (fun _ => ?_)
            refine z_iconst (v := 1) okω dL_isSo_259 (by decide) ?_
            refine z_goto (tgt := 264) okω dL_isSo_260 (by decide) ?_
            refine z_istore okω dL_isSo_264 (by decide) rfl ?_
            refine z_iload okω dL_isSo_266 rfl ?_
            refine z_if_eq (tgt := 309) okω dL_isSo_268 (by decide) (fun q9ω => absurd q9ω (by decide)) (fun _ => ?_)
            refine z_aload_n okω dL_isSo_271 rfl ?_
            refine z_iload okω dL_isSo_272 rfl ?_
            refine z_iconst (v := 3) okω dL_isSo_274 (by decide) ?_
            refine z_callVi okω dL_isSo_275 zm_X6_vehicleOf zw_606 zi_X6_vehicleOf hsω rfl (hoω.to_vehicleOf hNω) rfl rfl (by decide) (by decide) (by decide) (Nat.le_of_ble_eq_true rfl) (fun xz154ω Mz155ω qz156ω => ?_)
            obtain ⟨rfl, hMeω⟩ := qz156ω
            obtain rfl := hMeω.symm
            refine zV_eqi ((vof_g (j := 3) hNω hi3ω rfl (by decide)).trans (show zVo s n i3ω 3 = zLd s n (nI i3ω) 1 from rfl)) ?_
            refine z_aload_n okω dL_isSo_278 rfl ?_
            refine z_iload okω dL_isSo_279 rfl ?_
            refine z_iconst (v := 0) okω dL_isSo_281 (by decide) ?_
            refine z_callVi okω dL_isSo_282 zm_X6_vehicleOf zw_606 zi_X6_vehicleOf hsω rfl (hoω.to_vehicleOf hNω) rfl rfl (by decide) (by decide) (by decide) (Nat.le_of_ble_eq_true rfl) (fun xz157ω Mz158ω qz159ω => ?_)
            obtain ⟨rfl, hMeω⟩ := qz159ω
            obtain rfl := hMeω.symm
            refine zV_eqi ((vof_g (j := 0) hNω hi3ω rfl (by decide)).trans (show zVo s n i3ω 0 = vd s i3ω 0 from rfl)) ?_
            refine z_icmp_gt (tgt := 309) okω dL_isSo_285 (by decide) (fun q9ω => absurd hroomω.1 (Int32.not_le.mpr q9ω)) (fun _ => ?_)
            refine z_aload_n okω dL_isSo_288 rfl ?_
            refine z_iload okω dL_isSo_289 rfl ?_
            refine z_iconst (v := 4) okω dL_isSo_291 (by decide) ?_
            refine z_callVi okω dL_isSo_292 zm_X6_vehicleOf zw_606 zi_X6_vehicleOf hsω rfl (hoω.to_vehicleOf hNω) rfl rfl (by decide) (by decide) (by decide) (Nat.le_of_ble_eq_true rfl) (fun xz160ω Mz161ω qz162ω => ?_)
            obtain ⟨rfl, hMeω⟩ := qz162ω
            obtain rfl := hMeω.symm
            refine zV_eqi ((vof_g (j := 4) hNω hi3ω rfl (by decide)).trans (show zVo s n i3ω 4 = zLd s n (nI i3ω) 2 from rfl)) ?_
            refine z_aload_n okω dL_isSo_295 rfl ?_
            refine z_iload okω dL_isSo_296 rfl ?_
            refine z_iconst (v := 1) okω dL_isSo_298 (by decide) ?_
            refine z_callVi okω dL_isSo_299 zm_X6_vehicleOf zw_606 zi_X6_vehicleOf hsω rfl (hoω.to_vehicleOf hNω) rfl rfl (by decide) (by decide) (by decide) (Nat.le_of_ble_eq_true rfl) (fun xz163ω Mz164ω qz165ω => ?_)
            obtain ⟨rfl, hMeω⟩ := qz165ω
            obtain rfl := hMeω.symm
            refine zV_eqi ((vof_g (j := 1) hNω hi3ω rfl (by decide)).trans (show zVo s n i3ω 1 = vd s i3ω 1 from rfl)) ?_
            refine z_icmp_gt (tgt := 309) okω dL_isSo_302 (by decide) (fun q9ω => absurd hroomω.2 (Int32.not_le.mpr q9ω)) (fun _ => ?_)
            refine z_iconst (v := 1) okω dL_isSo_305 (by decide) ?_
            refine z_goto (tgt := 310) okω dL_isSo_306 (by decide) ?_
            refine z_istore okω dL_isSo_310 (by decide) rfl ?_
            refine z_iinc okω dL_isSo_312 rfl (zinc2 _) (by decide) rfl ?_
            refine z_goto (tgt := 14) okω dL_isSo_315 (by decide) ?_
            exact ih3ω (i3ω + 1) _ _ (by omega) (by omega)
          · refine z_ldc okω dL_isSo_193 zw_605 ?_
            refine z_goto (tgt := 205) okω dL_isSo_195 (by decide) ?_
            refine z_icmp_ne (tgt := 263) okω dL_isSo_205 (by decide) (fun q9ω => absurd (by first | exact if_pos cz190ω | exact if_neg cz190ω) q9ω) (fun _ => ?_)
            refine z_aload_n okω dL_isSo_208 rfl ?_
            refine z_iload okω dL_isSo_209 rfl ?_
            refine z_bipush (v := 8) okω dL_isSo_211 (by decide) ?_
            refine z_callVi okω dL_isSo_213 zm_X6_vehicleOf zw_606 zi_X6_vehicleOf hsω rfl (hoω.to_vehicleOf hNω) rfl rfl (by decide) (by decide) (by decide) (Nat.le_of_ble_eq_true rfl) (fun xz166ω Mz167ω qz168ω => ?_)
            obtain ⟨rfl, hMeω⟩ := qz168ω
            obtain rfl := hMeω.symm
            refine zV_eqi ((vof_g (j := 8) hNω hi3ω rfl (by decide)).trans (show zVo s n i3ω 8 = vd s i3ω 6 from rfl)) ?_
            refine z_aload okω dL_isSo_216 rfl ?_
            refine z_iload okω dL_isSo_218 rfl ?_
            refine z_bipush (v := 6) okω dL_isSo_220 (by decide) ?_
            refine z_iadd okω dL_isSo_222 ?_
            refine l_ldV (u := i3ω) (t := 6) okω dL_isSo_223 hmω (lx8_6 i3ω) hi3ω (by decide) ?_
            refine z_icmp_ne (tgt := 263) okω dL_isSo_224 (by decide) (fun q9ω => absurd rfl q9ω) (fun _ => ?_)
            refine z_aload_n okω dL_isSo_227 rfl ?_
            refine z_iload okω dL_isSo_228 rfl ?_
            refine z_bipush (v := 9) okω dL_isSo_230 (by decide) ?_
            refine z_callVi okω dL_isSo_232 zm_X6_vehicleOf zw_606 zi_X6_vehicleOf hsω rfl (hoω.to_vehicleOf hNω) rfl rfl (by decide) (by decide) (by decide) (Nat.le_of_ble_eq_true rfl) (fun xz169ω Mz170ω qz171ω => ?_)
            obtain ⟨rfl, hMeω⟩ := qz171ω
            obtain rfl := hMeω.symm
            refine zV_eqi ((vof_g (j := 9) hNω hi3ω rfl (by decide)).trans (show zVo s n i3ω 9 = vd s i3ω 7 from rfl)) ?_
            refine z_aload okω dL_isSo_235 rfl ?_
            refine z_iload okω dL_isSo_237 rfl ?_
            refine z_bipush (v := 7) okω dL_isSo_239 (by decide) ?_
            refine z_iadd okω dL_isSo_241 ?_
            refine l_ldV (u := i3ω) (t := 7) okω dL_isSo_242 hmω (lx8_7 i3ω) hi3ω (by decide) ?_
            refine z_icmp_ne (tgt := 263) okω dL_isSo_243 (by decide) (fun q9ω => absurd rfl q9ω) (fun _ => ?_)
            refine z_aload_n okω dL_isSo_246 rfl ?_
            refine z_iload okω dL_isSo_247 rfl ?_
            refine z_bipush (v := 10) okω dL_isSo_249 (by decide) ?_
            refine z_callVi okω dL_isSo_251 zm_X6_vehicleOf zw_606 zi_X6_vehicleOf hsω rfl (hoω.to_vehicleOf hNω) rfl rfl (by decide) (by decide) (by decide) (Nat.le_of_ble_eq_true rfl) (fun xz172ω Mz173ω qz174ω => ?_)
            obtain ⟨rfl, hMeω⟩ := qz174ω
            obtain rfl := hMeω.symm
            refine zV_eqi vof_10 ?_
            refine z_ldc okω dL_isSo_254 zw_409 ?_
            refine z_icmp_ne (tgt := 263) okω dL_isSo_256 (by decide) (fun q9ω => absurd rfl q9ω) (fun _ => ?_)
            refine z_iconst (v := 1) okω dL_isSo_259 (by decide) ?_
            refine z_goto (tgt := 264) okω dL_isSo_260 (by decide) ?_
            refine z_istore okω dL_isSo_264 (by decide) rfl ?_
            refine z_iload okω dL_isSo_266 rfl ?_
            refine z_if_eq (tgt := 309) okω dL_isSo_268 (by decide) (fun q9ω => absurd q9ω (by decide)) (fun _ => ?_)
            refine z_aload_n okω dL_isSo_271 rfl ?_
            refine z_iload okω dL_isSo_272 rfl ?_
            refine z_iconst (v := 3) okω dL_isSo_274 (by decide) ?_
            refine z_callVi okω dL_isSo_275 zm_X6_vehicleOf zw_606 zi_X6_vehicleOf hsω rfl (hoω.to_vehicleOf hNω) rfl rfl (by decide) (by decide) (by decide) (Nat.le_of_ble_eq_true rfl) (fun xz175ω Mz176ω qz177ω => ?_)
            obtain ⟨rfl, hMeω⟩ := qz177ω
            obtain rfl := hMeω.symm
            refine zV_eqi ((vof_g (j := 3) hNω hi3ω rfl (by decide)).trans (show zVo s n i3ω 3 = zLd s n (nI i3ω) 1 from rfl)) ?_
            refine z_aload_n okω dL_isSo_278 rfl ?_
            refine z_iload okω dL_isSo_279 rfl ?_
            refine z_iconst (v := 0) okω dL_isSo_281 (by decide) ?_
            refine z_callVi okω dL_isSo_282 zm_X6_vehicleOf zw_606 zi_X6_vehicleOf hsω rfl (hoω.to_vehicleOf hNω) rfl rfl (by decide) (by decide) (by decide) (Nat.le_of_ble_eq_true rfl) (fun xz178ω Mz179ω qz180ω => ?_)
            obtain ⟨rfl, hMeω⟩ := qz180ω
            obtain rfl := hMeω.symm
            refine zV_eqi ((vof_g (j := 0) hNω hi3ω rfl (by decide)).trans (show zVo s n i3ω 0 = vd s i3ω 0 from rfl)) ?_
            refine z_icmp_gt (tgt := 309) okω dL_isSo_285 (by decide) (fun q9ω => absurd hroomω.1 (Int32.not_le.mpr q9ω)) (fun _ => ?_)
            refine z_aload_n okω dL_isSo_288 rfl ?_
            refine z_iload okω dL_isSo_289 rfl ?_
            refine z_iconst (v := 4) okω dL_isSo_291 (by decide) ?_
            refine z_callVi okω dL_isSo_292 zm_X6_vehicleOf zw_606 zi_X6_vehicleOf hsω rfl (hoω.to_vehicleOf hNω) rfl rfl (by decide) (by decide) (by decide) (Nat.le_of_ble_eq_true rfl) (fun xz181ω Mz182ω qz183ω => ?_)
            obtain ⟨rfl, hMeω⟩ := qz183ω
            obtain rfl := hMeω.symm
            refine zV_eqi ((vof_g (j := 4) hNω hi3ω rfl (by decide)).trans (show zVo s n i3ω 4 = zLd s n (nI i3ω) 2 from rfl)) ?_
            refine z_aload_n okω dL_isSo_295 rfl ?_
            refine z_iload okω dL_isSo_296 rfl ?_
            refine z_iconst (v := 1) okω dL_isSo_298 (by decide) ?_
            refine z_callVi okω dL_isSo_299 zm_X6_vehicleOf zw_606 zi_X6_vehicleOf hsω rfl (hoω.to_vehicleOf hNω) rfl rfl (by decide) (by decide) (by decide) (Nat.le_of_ble_eq_true rfl) (fun xz184ω Mz185ω qz186ω => ?_)
            obtain ⟨rfl, hMeω⟩ := qz186ω
            obtain rfl := hMeω.symm
            refine zV_eqi ((vof_g (j := 1) hNω hi3ω rfl (by decide)).trans (show zVo s n i3ω 1 = vd s i3ω 1 from rfl)) ?_
            refine z_icmp_gt (tgt := 309) okω dL_isSo_302 (by decide) (fun q9ω => absurd hroomω.2 (Int32.not_le.mpr q9ω)) (fun _ => ?_)
            refine z_iconst (v := 1) okω dL_isSo_305 (by decide) ?_
            refine z_goto (tgt := 310) okω dL_isSo_306 (by decide) ?_
            refine z_istore okω dL_isSo_310 (by decide) rfl ?_
            refine z_iinc okω dL_isSo_312 rfl (zinc2 _) (by decide) rfl ?_
            refine z_goto (tgt := 14) okω dL_isSo_315 (by decide) ?_
            exact ih3ω (i3ω + 1) _ _ (by omega) (by omega)
  exact loop14ω (nv + 1) 0 _ _ (by omega) (by omega)

