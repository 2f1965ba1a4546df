theorem zlk3 (x : Int32) : x = 0 ∨ x = 1 ∨ (¬ x = 0 ∧ ¬ x = 1) := by
  by_cases h0 : x = 0
  · exact Or.inl h0
  · by_cases h1 : x = 1
    · exact Or.inr (Or.inl h1)
    · exact Or.inr (Or.inr ⟨h0, h1⟩)
theorem zlk2 {x : Int32} {a b d : Int} (h0 : ¬ x = 0) (h1 : ¬ x = 1) : Op.lookupswitch.offset [(0, a), (1, b)] d x.toInt = d := by
  have e0ω : ¬ (0 : Int) = x.toInt := fun zω => h0 (Int32.toInt_inj.mp (zω.symm.trans (rfl : (0 : Int) = (0 : Int32).toInt)))
  have e1ω : ¬ (1 : Int) = x.toInt := fun zω => h1 (Int32.toInt_inj.mp (zω.symm.trans (rfl : (1 : Int) = (1 : Int32).toInt)))
  rw [Op.lookupswitch.offset_cons, if_neg e0ω, Op.lookupswitch.offset_cons, if_neg e1ω, Op.lookupswitch.offset_nil]
/-- within bounds in which nothing runs over -/
def zBd (g : Nat → Int32) : Prop := (0 ≤ (g 4).toInt ∧ (g 4).toInt ≤ 9999) ∧ (0 ≤ (g 5).toInt ∧ (g 5).toInt ≤ 15984) ∧ 0 ≤ (g 1).toInt ∧ (g 1).toInt ≤ 1584
theorem zdl {x y : Int32} (hx : 0 ≤ x.toInt ∧ x.toInt ≤ 1000000000) (hy : 0 ≤ y.toInt ∧ y.toInt ≤ 1000000000) : x - y < 0 ↔ x < y := by
  have eω : (x - y).toInt = x.toInt - y.toInt := by rw [Int32.toInt_sub, Int.bmod_eq_of_le (by omega) (by omega)]
  rw [Int32.lt_iff_toInt_lt, Int32.lt_iff_toInt_lt, eω]
  show _ < 0 ↔ _
  omega
theorem zml {x y : Int32} (hx : 0 ≤ x.toInt ∧ x.toInt ≤ 15984) (hy : 0 ≤ y.toInt ∧ y.toInt ≤ 1584) : 0 ≤ (x * y).toInt ∧ (x * y).toInt ≤ 1000000000 := by
  have h1ω : 0 ≤ x.toInt * y.toInt := Int.mul_nonneg hx.1 hy.1
  have h2ω : x.toInt * y.toInt ≤ 15984 * 1584 := Int.mul_le_mul hx.2 hy.2 hy.1 (by decide)
  rw [Int32.toInt_mul, Int.bmod_eq_of_le (by omega) (by omega)]
  omega
theorem zAhead_by {s : Nat → Int32} {c o : Nat} {r : Int32} (h : o < c) (hc : c < 2 ^ 31) : zAhead s c o r ↔ zBy s c o r < 0 := by
  constructor
  · rintro (h1 | ⟨_, h2⟩)
    · exact h1
    · have h3ω := Int32.lt_iff_toInt_lt.mp h2
      rw [nI_toInt hc, nI_toInt (by omega)] at h3ω
      omega
  · exact Or.inl
set_option maxRecDepth 20000 in
set_option maxHeartbeats 4000000 in
theorem ct_X0_comesAheadOf {K : zK} {M : mM} {nx : Nat} {b : Nat} {κ : hK} {π : Nat → Nat} (hm : hPicP M b κ π) {s : Nat → Int32} {n nv no : Nat} (hr : hRel κ s n nv no) {i j : Nat} (hi : i < n) (hj : j < n) {r : Int32} (hbi : zBd (gd s i)) (hbj : zBd (gd s j)) : zCt K yX0_comesAheadOf cX0_comesAheadOf 3 zr_X0_comesAheadOf 0 [.ref (b + 5 + i), .ref (b + 5 + j), .int r] M nx 0 0 (zI (fun x M' => x = b2 (zBy s i j r < 0) ∧ M' = M)) := by
  refine z_enter [some (.ref (b + 5 + i)), some (.ref (b + 5 + j)), some (.int r)] (by decide +kernel) (Nat.le_of_ble_eq_true rfl) rfl (fun Bω okω hzω => ?_)
  have hmdω := hr.made
  have hn16ω := hr.1.2.1
  have hciω := hr.c hi
  have hcjω := hr.c hj
  refine z_iload_n okω dX0_comesAheadOf_0 rfl ?_
  rcases zlk3 (r) with hsw1ω | hsw1ω | hsw1ω
  · refine z_lookup (off := 27) (tgt := 28) okω dX0_comesAheadOf_1 (by decide) (by rw [hsw1ω]; rfl) (by decide) ?_
    have hzbω : zBy s i j r < 0 ↔ κ 0 i 5 < κ 0 j 5 := by unfold zBy; rw [if_pos hsw1ω, hciω.2.2.2.2.1, hcjω.2.2.2.2.1]; exact zdl ⟨hbi.1.1, by have := hbi.1.2; omega⟩ ⟨hbj.1.1, by have := hbj.1.2; omega⟩
    refine z_aload_n okω dX0_comesAheadOf_28 rfl ?_
    refine z_getf okω dX0_comesAheadOf_29 zin_X0 rfl 5 (by decide) zw_53 (hm.2.2.2.2.1 i (by omega)).1 rfl ?_
    refine z_aload_n okω dX0_comesAheadOf_32 rfl ?_
    refine z_getf okω dX0_comesAheadOf_33 zin_X0 rfl 5 (by decide) zw_53 (hm.2.2.2.2.1 j (by omega)).1 rfl ?_
    refine z_icmp_ge (tgt := 43) okω dX0_comesAheadOf_36 (by decide) (fun cz36ω => ?_) (fun cz36ω => ?_)
    · refine z_iconst (v := 0) okω dX0_comesAheadOf_43 (by decide) ?_
      exact z_iret okω dX0_comesAheadOf_44 rfl rfl rfl (Nat.zero_le _) ⟨by first | exact b2_t (hzbω.mpr (by first | exact Int32.not_le.mp cz36ω | exact Int32.not_le.mp cz53ω | exact Int32.not_le.mp cz80ω)) | exact b2_f (fun z9ω => absurd (hzbω.mp z9ω) (by first | exact Int32.not_lt.mpr cz36ω | exact Int32.not_lt.mpr cz53ω | exact Int32.not_lt.mpr cz80ω)), rfl⟩
    · refine z_iconst (v := 1) okω dX0_comesAheadOf_39 (by decide) ?_
      refine z_goto (tgt := 44) okω dX0_comesAheadOf_40 (by decide) ?_
      exact z_iret okω dX0_comesAheadOf_44 rfl rfl rfl (Nat.zero_le _) ⟨by first | exact b2_t (hzbω.mpr (by first | exact Int32.not_le.mp cz36ω | exact Int32.not_le.mp cz53ω | exact Int32.not_le.mp cz80ω)) | exact b2_f (fun z9ω => absurd (hzbω.mp z9ω) (by first | exact Int32.not_lt.mpr cz36ω | exact Int32.not_lt.mpr cz53ω | exact Int32.not_lt.mpr cz80ω)), rfl⟩
  · refine z_lookup (off := 44) (tgt := 45) okω dX0_comesAheadOf_1 (by decide) (by rw [hsw1ω]; rfl) (by decide) ?_
    have hzbω : zBy s i j r < 0 ↔ κ 0 j 6 < κ 0 i 6 := by unfold zBy; rw [if_neg (by rw [hsw1ω]; decide), if_pos hsw1ω, hciω.2.2.2.2.2.1, hcjω.2.2.2.2.2.1]; exact zdl ⟨hbj.2.1.1, by have := hbj.2.1.2; omega⟩ ⟨hbi.2.1.1, by have := hbi.2.1.2; omega⟩
    refine z_aload_n okω dX0_comesAheadOf_45 rfl ?_
    refine z_getf okω dX0_comesAheadOf_46 zin_X0 rfl 6 (by decide) zw_56 (hm.2.2.2.2.1 i (by omega)).1 rfl ?_
    refine z_aload_n okω dX0_comesAheadOf_49 rfl ?_
    refine z_getf okω dX0_comesAheadOf_50 zin_X0 rfl 6 (by decide) zw_56 (hm.2.2.2.2.1 j (by omega)).1 rfl ?_
    refine z_icmp_le (tgt := 60) okω dX0_comesAheadOf_53 (by decide) (fun cz53ω => ?_) (fun cz53ω => ?_)
    · refine z_iconst (v := 0) okω dX0_comesAheadOf_60 (by decide) ?_
      exact z_iret okω dX0_comesAheadOf_61 rfl rfl rfl (Nat.zero_le _) ⟨by first | exact b2_t (hzbω.mpr (by first | exact Int32.not_le.mp cz36ω | exact Int32.not_le.mp cz53ω | exact Int32.not_le.mp cz80ω)) | exact b2_f (fun z9ω => absurd (hzbω.mp z9ω) (by first | exact Int32.not_lt.mpr cz36ω | exact Int32.not_lt.mpr cz53ω | exact Int32.not_lt.mpr cz80ω)), rfl⟩
    · refine z_iconst (v := 1) okω dX0_comesAheadOf_56 (by decide) ?_
      refine z_goto (tgt := 61) okω dX0_comesAheadOf_57 (by decide) ?_
      exact z_iret okω dX0_comesAheadOf_61 rfl rfl rfl (Nat.zero_le _) ⟨by first | exact b2_t (hzbω.mpr (by first | exact Int32.not_le.mp cz36ω | exact Int32.not_le.mp cz53ω | exact Int32.not_le.mp cz80ω)) | exact b2_f (fun z9ω => absurd (hzbω.mp z9ω) (by first | exact Int32.not_lt.mpr cz36ω | exact Int32.not_lt.mpr cz53ω | exact Int32.not_lt.mpr cz80ω)), rfl⟩
  · refine z_lookup (off := 61) (tgt := 62) okω dX0_comesAheadOf_1 (by decide) (zlk2 hsw1ω.1 hsw1ω.2) (by decide) ?_
    have hzbω : zBy s i j r < 0 ↔ κ 0 j 6 * κ 0 i 2 < κ 0 i 6 * κ 0 j 2 := by unfold zBy; rw [if_neg hsw1ω.1, if_neg hsw1ω.2, hciω.2.2.2.2.2.1, hcjω.2.2.2.2.2.1, hciω.2.1, hcjω.2.1]; exact zdl (zml hbj.2.1 hbi.2.2) (zml hbi.2.1 hbj.2.2)
    refine z_aload_n okω dX0_comesAheadOf_62 rfl ?_
    refine z_getf okω dX0_comesAheadOf_63 zin_X0 rfl 6 (by decide) zw_56 (hm.2.2.2.2.1 i (by omega)).1 rfl ?_
    refine z_aload_n okω dX0_comesAheadOf_66 rfl ?_
    refine z_getf okω dX0_comesAheadOf_67 zin_X0 rfl 2 (by decide) zw_44 (hm.2.2.2.2.1 j (by omega)).1 rfl ?_
    refine z_imul okω dX0_comesAheadOf_70 ?_
    refine z_aload_n okω dX0_comesAheadOf_71 rfl ?_
    refine z_getf okω dX0_comesAheadOf_72 zin_X0 rfl 6 (by decide) zw_56 (hm.2.2.2.2.1 j (by omega)).1 rfl ?_
    refine z_aload_n okω dX0_comesAheadOf_75 rfl ?_
    refine z_getf okω dX0_comesAheadOf_76 zin_X0 rfl 2 (by decide) zw_44 (hm.2.2.2.2.1 i (by omega)).1 rfl ?_
    refine z_imul okω dX0_comesAheadOf_79 ?_
    refine z_icmp_le (tgt := 87) okω dX0_comesAheadOf_80 (by decide) (fun cz80ω => ?_) (fun cz80ω => ?_)
    · refine z_iconst (v := 0) okω dX0_comesAheadOf_87 (by decide) ?_
      exact z_iret okω dX0_comesAheadOf_88 rfl rfl rfl (Nat.zero_le _) ⟨by first | exact b2_t (hzbω.mpr (by first | exact Int32.not_le.mp cz36ω | exact Int32.not_le.mp cz53ω | exact Int32.not_le.mp cz80ω)) | exact b2_f (fun z9ω => absurd (hzbω.mp z9ω) (by first | exact Int32.not_lt.mpr cz36ω | exact Int32.not_lt.mpr cz53ω | exact Int32.not_lt.mpr cz80ω)), rfl⟩
    · refine z_iconst (v := 1) okω dX0_comesAheadOf_83 (by decide) ?_
      refine z_goto (tgt := 88) okω dX0_comesAheadOf_84 (by decide) ?_
      exact z_iret okω dX0_comesAheadOf_88 rfl rfl rfl (Nat.zero_le _) ⟨by first | exact b2_t (hzbω.mpr (by first | exact Int32.not_le.mp cz36ω | exact Int32.not_le.mp cz53ω | exact Int32.not_le.mp cz80ω)) | exact b2_f (fun z9ω => absurd (hzbω.mp z9ω) (by first | exact Int32.not_lt.mpr cz36ω | exact Int32.not_lt.mpr cz53ω | exact Int32.not_lt.mpr cz80ω)), rfl⟩

def oV (b : Nat) (o : Option Nat) : Value := match o with
  | none => .null
  | some k => .ref (b + 5 + k)
set_option maxRecDepth 20000 in
set_option maxHeartbeats 4000000 in
theorem ct_X1_nextByRule {K : zK} {M : mM} {nx : Nat} {b : Nat} {κ : hK} {π : Nat → Nat} (hm : hPicP M b κ π) {s : Nat → Int32} {n nv no : Nat} (hr : hRel κ s n nv no) {p1 r sn : Int32} (hbd : ∀ c, c < n → gd s c 6 = 0 → zBd (gd s c)) : zCt K yX1_nextByRule cX1_nextByRule 8 zr_X1_nextByRule 1 [.ref b, .int p1, .int r, .int sn] M nx 0 0 (zA (fun vv M' => M' = M ∧ vv = oV b (zPick s sn p1 r n))) := by
  refine z_enter [some (.ref b), some (.int p1), some (.int r), some (.int sn), none, none, none, none] (by decide +kernel) (Nat.le_of_ble_eq_true rfl) rfl (fun Bω okω hzω => ?_)
  have hmdω := hr.made
  have hn16ω := hr.1.2.1
  refine z_null okω dX1_nextByRule_0 ?_
  refine z_astoreN okω dX1_nextByRule_1 (by decide) rfl ?_
  refine z_iconst (v := 0) okω dX1_nextByRule_3 (by decide) ?_
  refine z_istore okω dX1_nextByRule_4 (by decide) rfl ?_
  have loop6ω : ∀ (tω iω : Nat) (wq4ω : Value) (vzq6ω vzq7ω : Option Value), n < iω + tω → iω ≤ n → wq4ω = oV b (zPick s sn p1 r iω) → zV 8 Bω (zE Bω (zA (fun vvω M'ω => M'ω = M ∧ vvω = oV b (zPick s sn p1 r n))) 0 0) 6 [some (.ref b), some (.int p1), some (.int r), some (.int sn), some wq4ω, some (.int (nI iω)), vzq6ω, vzq7ω] [] M 0 0 := by
    intro tω
    induction tω with
    | zero => intro iω wq4ω vzq6ω vzq7ω h1ω h2ω; exact absurd h1ω (by omega)
    | succ tω ihω =>
      intro iω wq4ω vzq6ω vzq7ω h1ω h2ω hwω
      rcases hzp : zPick s sn p1 r iω with _ | kz9ω
      · have hw4ω : wq4ω = .null := by rw [hwω, hzp]; rfl
        subst hw4ω
        refine z_iload okω dX1_nextByRule_6 rfl ?_
        refine z_aload_n okω dX1_nextByRule_8 rfl ?_
        refine z_getf okω dX1_nextByRule_9 zin_X1 rfl 4 (by decide) zw_192 hm.1 rfl ?_
        refine z_icmp_ge (tgt := 88) okω dX1_nextByRule_12 (by decide) (fun cz12ω => ?_) (fun cz12ω => ?_)
        · have hinω : iω = n := by rw [hmdω, nI_leI (by omega) (by omega)] at cz12ω; omega
          refine z_aloadN okω dX1_nextByRule_88 rfl ?_
          exact z_aret okω dX1_nextByRule_90 rfl (Or.inl ⟨_, rfl⟩) (by first | exact Or.inl rfl | exact Or.inr ⟨_, rfl⟩) rfl (Nat.zero_le _) ⟨rfl, by rw [← hinω, hzp]; rfl⟩
        · have hinω : iω < n := by rw [hmdω, nI_leI (by omega) (by omega)] at cz12ω; omega
          have hccω := hr.c hinω
          refine z_aload_n okω dX1_nextByRule_15 rfl ?_
          refine z_getf okω dX1_nextByRule_16 zin_X1 rfl 0 (by decide) zw_186 hm.1 rfl ?_
          refine z_iload okω dX1_nextByRule_19 rfl ?_
          refine h_ldC (j := iω) okω dX1_nextByRule_21 hm rfl (by omega) ?_
          refine z_astore okω dX1_nextByRule_22 (by decide) rfl ?_
          refine z_aload okω dX1_nextByRule_24 rfl ?_
          refine z_getf okω dX1_nextByRule_26 zin_X0 rfl 7 (by decide) zw_60 (hm.2.2.2.2.1 iω (by omega)).1 rfl ?_
          refine z_if_ne (tgt := 54) okω dX1_nextByRule_29 (by decide) (fun cz29ω => ?_) (fun cz29ω => ?_)
          · have hbω : ¬ zMay s sn p1 iω := fun z9ω => cz29ω (hccω.2.2.2.2.2.2.1.trans z9ω.2.1)
            refine z_iconst (v := 0) okω dX1_nextByRule_54 (by decide) ?_
            refine z_istore okω dX1_nextByRule_55 (by decide) rfl ?_
            refine z_iload okω dX1_nextByRule_57 rfl ?_
            refine z_if_eq (tgt := 82) okω dX1_nextByRule_59 (by decide) (fun _ => ?_) (fun q9ω => absurd (by decide) q9ω)
            refine z_iinc okω dX1_nextByRule_82 rfl (zinc _) (by decide) rfl ?_
            refine z_goto (tgt := 6) okω dX1_nextByRule_85 (by decide) ?_
            first | exact ihω (iω + 1) _ _ _ (by omega) (by omega) (by rw [← zPick_keep hbω]; exact hwω) | exact ihω (iω + 1) _ _ _ (by omega) (by omega) (by rw [zPick_first hbω hzp]; rfl) | exact ihω (iω + 1) _ _ _ (by omega) (by omega) (by rw [zPick_new hbω hzp ((zAhead_by hpkω.1 (by omega)).mpr hahω)]; rfl) | exact ihω (iω + 1) _ _ _ (by omega) (by omega) (by rw [← zPick_old hzp (mt (zAhead_by hpkω.1 (by omega)).mp hahω)]; exact hwω)
          · have hs6ω : gd s iω 6 = 0 := hccω.2.2.2.2.2.2.1.symm.trans cz29ω
            refine z_aload okω dX1_nextByRule_32 rfl ?_
            refine z_getf okω dX1_nextByRule_34 zin_X0 rfl 1 (by decide) zw_42 (hm.2.2.2.2.1 iω (by omega)).1 rfl ?_
            refine z_iload_n okω dX1_nextByRule_37 rfl ?_
            refine z_icmp_ne (tgt := 54) okω dX1_nextByRule_38 (by decide) (fun cz38ω => ?_) (fun cz38ω => ?_)
            · have hbω : ¬ zMay s sn p1 iω := fun z9ω => cz38ω (hccω.1.trans z9ω.2.2.1)
              refine z_iconst (v := 0) okω dX1_nextByRule_54 (by decide) ?_
              refine z_istore okω dX1_nextByRule_55 (by decide) rfl ?_
              refine z_iload okω dX1_nextByRule_57 rfl ?_
              refine z_if_eq (tgt := 82) okω dX1_nextByRule_59 (by decide) (fun _ => ?_) (fun q9ω => absurd (by decide) q9ω)
              refine z_iinc okω dX1_nextByRule_82 rfl (zinc _) (by decide) rfl ?_
              refine z_goto (tgt := 6) okω dX1_nextByRule_85 (by decide) ?_
              first | exact ihω (iω + 1) _ _ _ (by omega) (by omega) (by rw [← zPick_keep hbω]; exact hwω) | exact ihω (iω + 1) _ _ _ (by omega) (by omega) (by rw [zPick_first hbω hzp]; rfl) | exact ihω (iω + 1) _ _ _ (by omega) (by omega) (by rw [zPick_new hbω hzp ((zAhead_by hpkω.1 (by omega)).mpr hahω)]; rfl) | exact ihω (iω + 1) _ _ _ (by omega) (by omega) (by rw [← zPick_old hzp (mt (zAhead_by hpkω.1 (by omega)).mp hahω)]; exact hwω)
            · have hs0ω : gd s iω 0 = p1 := hccω.1.symm.trans cz38ω
              refine z_iload_n okω dX1_nextByRule_41 rfl ?_
              refine z_iload okω dX1_nextByRule_42 rfl ?_
              refine z_ishr okω dX1_nextByRule_44 ?_
              refine z_iconst (v := 1) okω dX1_nextByRule_45 (by decide) ?_
              refine z_iand okω dX1_nextByRule_46 ?_
              refine z_if_ne (tgt := 54) okω dX1_nextByRule_47 (by decide) (fun cz47ω => ?_) (fun cz47ω => ?_)
              · have hbω : ¬ zMay s sn p1 iω := fun z9ω => cz47ω z9ω.2.2.2
                refine z_iconst (v := 0) okω dX1_nextByRule_54 (by decide) ?_
                refine z_istore okω dX1_nextByRule_55 (by decide) rfl ?_
                refine z_iload okω dX1_nextByRule_57 rfl ?_
                refine z_if_eq (tgt := 82) okω dX1_nextByRule_59 (by decide) (fun _ => ?_) (fun q9ω => absurd (by decide) q9ω)
                refine z_iinc okω dX1_nextByRule_82 rfl (zinc _) (by decide) rfl ?_
                refine z_goto (tgt := 6) okω dX1_nextByRule_85 (by decide) ?_
                first | exact ihω (iω + 1) _ _ _ (by omega) (by omega) (by rw [← zPick_keep hbω]; exact hwω) | exact ihω (iω + 1) _ _ _ (by omega) (by omega) (by rw [zPick_first hbω hzp]; rfl) | exact ihω (iω + 1) _ _ _ (by omega) (by omega) (by rw [zPick_new hbω hzp ((zAhead_by hpkω.1 (by omega)).mpr hahω)]; rfl) | exact ihω (iω + 1) _ _ _ (by omega) (by omega) (by rw [← zPick_old hzp (mt (zAhead_by hpkω.1 (by omega)).mp hahω)]; exact hwω)
              · have hbω : zMay s sn p1 iω := ⟨by rw [hs6ω]; decide, hs6ω, hs0ω, cz47ω⟩
                refine z_iconst (v := 1) okω dX1_nextByRule_50 (by decide) ?_
                refine z_goto (tgt := 55) okω dX1_nextByRule_51 (by decide) ?_
                refine z_istore okω dX1_nextByRule_55 (by decide) rfl ?_
                refine z_iload okω dX1_nextByRule_57 rfl ?_
                refine z_if_eq (tgt := 82) okω dX1_nextByRule_59 (by decide) (fun q9ω => absurd q9ω (by decide)) (fun _ => ?_)
                refine z_aloadN okω dX1_nextByRule_62 rfl ?_
                refine z_ifnullN (tgt := 78) okω dX1_nextByRule_64 (by decide) ?_
                refine z_aload okω dX1_nextByRule_78 rfl ?_
                refine z_astore okω dX1_nextByRule_80 (by decide) rfl ?_
                refine z_iinc okω dX1_nextByRule_82 rfl (zinc _) (by decide) rfl ?_
                refine z_goto (tgt := 6) okω dX1_nextByRule_85 (by decide) ?_
                first | exact ihω (iω + 1) _ _ _ (by omega) (by omega) (by rw [← zPick_keep hbω]; exact hwω) | exact ihω (iω + 1) _ _ _ (by omega) (by omega) (by rw [zPick_first hbω hzp]; rfl) | exact ihω (iω + 1) _ _ _ (by omega) (by omega) (by rw [zPick_new hbω hzp ((zAhead_by hpkω.1 (by omega)).mpr hahω)]; rfl) | exact ihω (iω + 1) _ _ _ (by omega) (by omega) (by rw [← zPick_old hzp (mt (zAhead_by hpkω.1 (by omega)).mp hahω)]; exact hwω)
      · have hw4ω : wq4ω = .ref (b + 5 + kz9ω) := by rw [hwω, hzp]; rfl
        subst hw4ω
        have hpkω := zPick_some hzp
        refine z_iload okω dX1_nextByRule_6 rfl ?_
        refine z_aload_n okω dX1_nextByRule_8 rfl ?_
        refine z_getf okω dX1_nextByRule_9 zin_X1 rfl 4 (by decide) zw_192 hm.1 rfl ?_
        refine z_icmp_ge (tgt := 88) okω dX1_nextByRule_12 (by decide) (fun cz12ω => ?_) (fun cz12ω => ?_)
        · have hinω : iω = n := by rw [hmdω, nI_leI (by omega) (by omega)] at cz12ω; omega
          refine z_aload okω dX1_nextByRule_88 rfl ?_
          exact z_aret okω dX1_nextByRule_90 rfl (Or.inl ⟨_, rfl⟩) (by first | exact Or.inl rfl | exact Or.inr ⟨_, rfl⟩) rfl (Nat.zero_le _) ⟨rfl, by rw [← hinω, hzp]; rfl⟩
        · have hinω : iω < n := by rw [hmdω, nI_leI (by omega) (by omega)] at cz12ω; omega
          have hccω := hr.c hinω
          refine z_aload_n okω dX1_nextByRule_15 rfl ?_
          refine z_getf okω dX1_nextByRule_16 zin_X1 rfl 0 (by decide) zw_186 hm.1 rfl ?_
          refine z_iload okω dX1_nextByRule_19 rfl ?_
          refine h_ldC (j := iω) okω dX1_nextByRule_21 hm rfl (by omega) ?_
          refine z_astore okω dX1_nextByRule_22 (by decide) rfl ?_
          refine z_aload okω dX1_nextByRule_24 rfl ?_
          refine z_getf okω dX1_nextByRule_26 zin_X0 rfl 7 (by decide) zw_60 (hm.2.2.2.2.1 iω (by omega)).1 rfl ?_
          refine z_if_ne (tgt := 54) okω dX1_nextByRule_29 (by decide) (fun cz29ω => ?_) (fun cz29ω => ?_)
          · have hbω : ¬ zMay s sn p1 iω := fun z9ω => cz29ω (hccω.2.2.2.2.2.2.1.trans z9ω.2.1)
            refine z_iconst (v := 0) okω dX1_nextByRule_54 (by decide) ?_
            refine z_istore okω dX1_nextByRule_55 (by decide) rfl ?_
            refine z_iload okω dX1_nextByRule_57 rfl ?_
            refine z_if_eq (tgt := 82) okω dX1_nextByRule_59 (by decide) (fun _ => ?_) (fun q9ω => absurd (by decide) q9ω)
            refine z_iinc okω dX1_nextByRule_82 rfl (zinc _) (by decide) rfl ?_
            refine z_goto (tgt := 6) okω dX1_nextByRule_85 (by decide) ?_
            first | exact ihω (iω + 1) _ _ _ (by omega) (by omega) (by rw [← zPick_keep hbω]; exact hwω) | exact ihω (iω + 1) _ _ _ (by omega) (by omega) (by rw [zPick_first hbω hzp]; rfl) | exact ihω (iω + 1) _ _ _ (by omega) (by omega) (by rw [zPick_new hbω hzp ((zAhead_by hpkω.1 (by omega)).mpr hahω)]; rfl) | exact ihω (iω + 1) _ _ _ (by omega) (by omega) (by rw [← zPick_old hzp (mt (zAhead_by hpkω.1 (by omega)).mp hahω)]; exact hwω)
          · have hs6ω : gd s iω 6 = 0 := hccω.2.2.2.2.2.2.1.symm.trans cz29ω
            refine z_aload okω dX1_nextByRule_32 rfl ?_
            refine z_getf okω dX1_nextByRule_34 zin_X0 rfl 1 (by decide) zw_42 (hm.2.2.2.2.1 iω (by omega)).1 rfl ?_
            refine z_iload_n okω dX1_nextByRule_37 rfl ?_
            refine z_icmp_ne (tgt := 54) okω dX1_nextByRule_38 (by decide) (fun cz38ω => ?_) (fun cz38ω => ?_)
            · have hbω : ¬ zMay s sn p1 iω := fun z9ω => cz38ω (hccω.1.trans z9ω.2.2.1)
              refine z_iconst (v := 0) okω dX1_nextByRule_54 (by decide) ?_
              refine z_istore okω dX1_nextByRule_55 (by decide) rfl ?_
              refine z_iload okω dX1_nextByRule_57 rfl ?_
              refine z_if_eq (tgt := 82) okω dX1_nextByRule_59 (by decide) (fun _ => ?_) (fun q9ω => absurd (by decide) q9ω)
              refine z_iinc okω dX1_nextByRule_82 rfl (zinc _) (by decide) rfl ?_
              refine z_goto (tgt := 6) okω dX1_nextByRule_85 (by decide) ?_
              first | exact ihω (iω + 1) _ _ _ (by omega) (by omega) (by rw [← zPick_keep hbω]; exact hwω) | exact ihω (iω + 1) _ _ _ (by omega) (by omega) (by rw [zPick_first hbω hzp]; rfl) | exact ihω (iω + 1) _ _ _ (by omega) (by omega) (by rw [zPick_new hbω hzp ((zAhead_by hpkω.1 (by omega)).mpr hahω)]; rfl) | exact ihω (iω + 1) _ _ _ (by omega) (by omega) (by rw [← zPick_old hzp (mt (zAhead_by hpkω.1 (by omega)).mp hahω)]; exact hwω)
            · have hs0ω : gd s iω 0 = p1 := hccω.1.symm.trans cz38ω
              refine z_iload_n okω dX1_nextByRule_41 rfl ?_
              refine z_iload okω dX1_nextByRule_42 rfl ?_
              refine z_ishr okω dX1_nextByRule_44 ?_
              refine z_iconst (v := 1) okω dX1_nextByRule_45 (by decide) ?_
              refine z_iand okω dX1_nextByRule_46 ?_
              refine z_if_ne (tgt := 54) okω dX1_nextByRule_47 (by decide) (fun cz47ω => ?_) (fun cz47ω => ?_)
              · have hbω : ¬ zMay s sn p1 iω := fun z9ω => cz47ω z9ω.2.2.2
                refine z_iconst (v := 0) okω dX1_nextByRule_54 (by decide) ?_
                refine z_istore okω dX1_nextByRule_55 (by decide) rfl ?_
                refine z_iload okω dX1_nextByRule_57 rfl ?_
                refine z_if_eq (tgt := 82) okω dX1_nextByRule_59 (by decide) (fun _ => ?_) (fun q9ω => absurd (by decide) q9ω)
                refine z_iinc okω dX1_nextByRule_82 rfl (zinc _) (by decide) rfl ?_
                refine z_goto (tgt := 6) okω dX1_nextByRule_85 (by decide) ?_
                first | exact ihω (iω + 1) _ _ _ (by omega) (by omega) (by rw [← zPick_keep hbω]; exact hwω) | exact ihω (iω + 1) _ _ _ (by omega) (by omega) (by rw [zPick_first hbω hzp]; rfl) | exact ihω (iω + 1) _ _ _ (by omega) (by omega) (by rw [zPick_new hbω hzp ((zAhead_by hpkω.1 (by omega)).mpr hahω)]; rfl) | exact ihω (iω + 1) _ _ _ (by omega) (by omega) (by rw [← zPick_old hzp (mt (zAhead_by hpkω.1 (by omega)).mp hahω)]; exact hwω)
              · have hbω : zMay s sn p1 iω := ⟨by rw [hs6ω]; decide, hs6ω, hs0ω, cz47ω⟩
                refine z_iconst (v := 1) okω dX1_nextByRule_50 (by decide) ?_
                refine z_goto (tgt := 55) okω dX1_nextByRule_51 (by decide) ?_
                refine z_istore okω dX1_nextByRule_55 (by decide) rfl ?_
                refine z_iload okω dX1_nextByRule_57 rfl ?_
                refine z_if_eq (tgt := 82) okω dX1_nextByRule_59 (by decide) (fun q9ω => absurd q9ω (by decide)) (fun _ => ?_)
                refine z_aload okω dX1_nextByRule_62 rfl ?_
                refine z_ifnull okω dX1_nextByRule_64 ?_
                refine z_aload okω dX1_nextByRule_67 rfl ?_
                refine z_aload okω dX1_nextByRule_69 rfl ?_
                refine z_iload_n okω dX1_nextByRule_71 rfl ?_
                refine z_callVi okω dX1_nextByRule_72 zm_X0_comesAheadOf zw_497 zi_X0_comesAheadOf (hm.2.2.2.2.1 iω (by omega)).1 rfl (ct_X0_comesAheadOf hm hr hinω (by omega) (hbd iω hinω hs6ω) (hbd kz9ω (by omega) hpkω.2.2.1)) rfl rfl (by decide) (by decide) (by decide) (Nat.le_of_ble_eq_true rfl) (fun xz1ω Mz2ω qz3ω => ?_)
                obtain ⟨hcqω, hMeω⟩ := qz3ω
                obtain rfl := hMeω.symm
                rw [hcqω]
                refine z_if_eq (tgt := 82) okω dX1_nextByRule_75 (by decide) (fun cz75ω => ?_) (fun cz75ω => ?_)
                · have hahω := b2_0.mp cz75ω
                  refine z_iinc okω dX1_nextByRule_82 rfl (zinc _) (by decide) rfl ?_
                  refine z_goto (tgt := 6) okω dX1_nextByRule_85 (by decide) ?_
                  first | exact ihω (iω + 1) _ _ _ (by omega) (by omega) (by rw [← zPick_keep hbω]; exact hwω) | exact ihω (iω + 1) _ _ _ (by omega) (by omega) (by rw [zPick_first hbω hzp]; rfl) | exact ihω (iω + 1) _ _ _ (by omega) (by omega) (by rw [zPick_new hbω hzp ((zAhead_by hpkω.1 (by omega)).mpr hahω)]; rfl) | exact ihω (iω + 1) _ _ _ (by omega) (by omega) (by rw [← zPick_old hzp (mt (zAhead_by hpkω.1 (by omega)).mp hahω)]; exact hwω)
                · have hahω := Decidable.not_not.mp (mt b2_0.mpr cz75ω)
                  refine z_aload okω dX1_nextByRule_78 rfl ?_
                  refine z_astore okω dX1_nextByRule_80 (by decide) rfl ?_
                  refine z_iinc okω dX1_nextByRule_82 rfl (zinc _) (by decide) rfl ?_
                  refine z_goto (tgt := 6) okω dX1_nextByRule_85 (by decide) ?_
                  first | exact ihω (iω + 1) _ _ _ (by omega) (by omega) (by rw [← zPick_keep hbω]; exact hwω) | exact ihω (iω + 1) _ _ _ (by omega) (by omega) (by rw [zPick_first hbω hzp]; rfl) | exact ihω (iω + 1) _ _ _ (by omega) (by omega) (by rw [zPick_new hbω hzp ((zAhead_by hpkω.1 (by omega)).mpr hahω)]; rfl) | exact ihω (iω + 1) _ _ _ (by omega) (by omega) (by rw [← zPick_old hzp (mt (zAhead_by hpkω.1 (by omega)).mp hahω)]; exact hwω)
  exact loop6ω (n + 1) 0 _ _ _ (by omega) (by omega) rfl

def spFillS (s : Nat → Int32) (n : Nat) (v place rule : Int32) : zRes := if zVeh s v ∧ zW 1 4 place ∧ zW 0 2 rule then (if 0 < vd s (tN v) 2 then .inl (-1000002) else .inr ((zFill n (tN v) place rule n s 0 0).1, (zFill n (tN v) place rule n s 0 0).2)) else .inl (-1000001)
theorem gd_zLoads {s : Nat → Int32} {c u k : Nat} : gd (zLoads s c u) c k = if k = 7 then nI u else if k = 6 then 1 else gd s c k := by
  unfold zLoads
  rw [gd_pg, gd_pg]
theorem zLoads_o {s : Nat → Int32} {c u q : Nat} (h : q < 13 + 12 * c ∨ 13 + 12 * c + 12 ≤ q) : zLoads s c u q = s q := (pg_o (by decide) h).trans (pg_o (by decide) h)
theorem zWF.load {s : Nat → Int32} {n nv no c u : Nat} (h : zWF s n nv no) (hc : c < n) (hu : u < nv) (hcan : zCan s n c u) : zWF (zLoads s c u) n nv no := by
  have hnω := h.N.2.1
  have hnvω := h.N.2.2.2.1
  obtain ⟨⟨h6ω, h2ω, hglω⟩, -, -⟩ := hcan
  have hoω : ∀ jzω, jzω < n → jzω ≠ c → ∀ kzω, kzω < 12 → gd (zLoads s c u) jzω kzω = gd s jzω kzω := fun jzω hjzω hjcω kzω hkzω => zLoads_o (by omega)
  have h6'ω : gd (zLoads s c u) c 6 = 1 := by rw [gd_zLoads, if_neg (by decide), if_pos rfl]
  have h7'ω : gd (zLoads s c u) c 7 = nI u := by rw [gd_zLoads, if_pos rfl]
  have hkω : ∀ kzω, kzω ≠ 6 → kzω ≠ 7 → gd (zLoads s c u) c kzω = gd s c kzω := fun kzω k6ω k7ω => by rw [gd_zLoads, if_neg k7ω, if_neg k6ω]
  have hctω : ∀ kzω, kzω ≠ 6 → kzω ≠ 7 → kzω < 12 → ∀ jzω, jzω < n → zCt1 (zLoads s c u) kzω jzω = zCt1 s kzω jzω := fun kzω k6ω k7ω k12ω jzω hjzω => by
    by_cases hjcω : jzω = c
    · rw [hjcω]
      unfold zCt1
      rw [h6'ω, hkω kzω k6ω k7ω, h6ω, if_neg (by decide), if_neg (by decide)]
    · exact zCt1_cong (hoω jzω hjzω hjcω 6 (by decide)) (hoω jzω hjzω hjcω kzω k12ω)
  have hc3ω : ∀ xω : Int32, ¬ xω = 0 → ¬ xω = 1 → zK3 (zLoads s c u) xω n = zK3 s xω n := fun xω x0ω x1ω => zK3_cong n (fun jzω hjzω => by
    by_cases hjcω : jzω = c
    · rw [hjcω, h6'ω, h6ω]
      exact ⟨fun zω => absurd zω.symm x1ω, fun zω => absurd zω.symm x0ω⟩
    · rw [hoω jzω hjzω hjcω 6 (by decide)])
  refine h.good hc (fun qω _ h9ω => zLoads_o h9ω) ?_ (by rw [zTot_cong n (hctω 1 (by decide) (by decide) (by decide))]; exact h.sz) (by rw [zTot_cong n (hctω 5 (by decide) (by decide) (by decide))]; exact h.wo) (fun _ => ⟨u, hu, h7'ω, fun _ => h2ω⟩) (fun wω hwω zω => ?_) ?_ ?_
  · have hgω := h.g c hc
    unfold zG at hgω ⊢
    rw [hkω 0 (by decide) (by decide), hkω 1 (by decide) (by decide), hkω 3 (by decide) (by decide), hkω 4 (by decide) (by decide), hkω 5 (by decide) (by decide), hkω 8 (by decide) (by decide), h6'ω, h7'ω]
    exact ⟨hgω.1, hgω.2.1, hgω.2.2.1, hgω.2.2.2.1, by decide, Or.inr ⟨u, by omega, rfl⟩, hgω.2.2.2.2.2.2⟩
  · have eω : wω = u := (nI_eq (a := wω) (b := u) (by omega) (by omega)).mp (zω.2.2.symm.trans h7'ω)
    rw [eω]
    refine ⟨fun jzω hjzω hjcω hinω => ?_, fun z2ω => absurd h2ω z2ω⟩
    rw [hkω 0 (by decide) (by decide)]
    have hgzω : zGoal s n u = gd s jzω 0 := by
      unfold zGoal
      rw [if_pos h2ω]
      rcases zLast_d (p := fun czω => zInV s czω (nI u)) (f := fun czω => gd s czω 0) (x := -1000004) n with ⟨h3ω, _⟩ | ⟨kzω, hkzω, h3ω, h4ω⟩
      · exact absurd hinω (h3ω jzω hjzω)
      · rw [h3ω]
        exact h.sm u hu kzω hkzω jzω hjzω h4ω hinω
    rcases hglω with h5ω | h5ω
    · rw [hgzω] at h5ω
      exact absurd h5ω (i_pos (h.g jzω hjzω).1.1).2
    · exact h5ω.symm.trans hgzω
  · rw [hc3ω 3 (by decide) (by decide), zLoads_o (by omega)]
    exact h.c3
  · rw [hc3ω 4 (by decide) (by decide), zLoads_o (by omega)]
    exact h.c4
theorem zTot_ge {s : Nat → Int32} {kz : Nat} : ∀ n, (∀ c, c < n → 0 ≤ zCt1 s kz c) → 0 ≤ zTot s kz n ∧ ∀ c, c < n → zCt1 s kz c ≤ zTot s kz n
  | 0, _ => ⟨Int.le_refl _, fun cω hcω => absurd hcω (by omega)⟩
  | nω + 1, hω => by
    obtain ⟨h1ω, h2ω⟩ := zTot_ge nω (fun cω hcω => hω cω (by omega))
    have h3ω := hω nω (by omega)
    rw [zTot]
    refine ⟨by omega, fun cω hcω => ?_⟩
    by_cases hcn : cω = nω
    · rw [hcn]
      omega
    · have h4ω := h2ω cω (by omega)
      omega
theorem zWF.ct1 {s : Nat → Int32} {n nv no : Nat} (h : zWF s n nv no) : ∀ c, c < n → 0 ≤ zCt1 s 1 c := fun cω hcω => by
  unfold zCt1
  split
  · exact Int.le_refl _
  · have h9ω := Int32.le_iff_toInt_le.mp (h.g cω hcω).2.1
    have e1ω : (1 : Int32).toInt = 1 := rfl
    omega
theorem zWF.ct5 {s : Nat → Int32} {n nv no : Nat} (h : zWF s n nv no) : ∀ c, c < n → 0 ≤ zCt1 s 5 c := fun cω hcω => by
  unfold zCt1
  split
  · exact Int.le_refl _
  · have h9ω := Int32.le_iff_toInt_le.mp (h.g cω hcω).2.2.2.1
    have e1ω : (0 : Int32).toInt = 0 := rfl
    omega
theorem zWF.bd {s : Nat → Int32} {n nv no c : Nat} (h : zWF s n nv no) (hc : c < n) (h6 : ¬ gd s c 6 = 5) : zBd (gd s c) := by
  have hnω := h.N.2.1
  have hgω := h.g c hc
  have a1ω := (zTot_ge n h.ct1).2 c hc
  have a5ω := (zTot_ge n h.ct5).2 c hc
  unfold zCt1 at a1ω a5ω
  rw [if_neg h6] at a1ω a5ω
  have b1ω := h.sz
  have b5ω := h.wo
  have c1ω := Int32.le_iff_toInt_le.mp hgω.2.1
  have c5ω := Int32.le_iff_toInt_le.mp hgω.2.2.2.1
  have d1ω := Int32.le_iff_toInt_le.mp hgω.2.2.1.1
  have d2ω := Int32.le_iff_toInt_le.mp hgω.2.2.1.2.1
  have d3ω := Int32.le_iff_toInt_le.mp hgω.2.2.1.2.2
  have e0ω : (0 : Int32).toInt = 0 := rfl
  have e1ω : (1 : Int32).toInt = 1 := rfl
  have e9ω : (9999 : Int32).toInt = 9999 := rfl
  unfold zBd
  omega
set_option maxRecDepth 20000 in
set_option maxHeartbeats 4000000 in
theorem ct_X1_loadByRule {K : zK} {M : mM} {nx : Nat} {b : Nat} {κ : hK} {π : Nat → Nat} (hm : hPicP M b κ π) {s : Nat → Int32} {n nv no : Nat} (hr : hRel κ s n nv no) {v p1 r : Int32} (hwf : zWF s n nv no) : zCt K yX1_loadByRule cX1_loadByRule 9 zr_X1_loadByRule 3 [.ref b, .int v, .int p1, .int r] M nx 0 0 (zI (kPost M b (spFillS s n v p1 r))) := by
  refine z_enter [some (.ref b), some (.int v), some (.int p1), some (.int r), none, none, none, none, none] (by decide +kernel) (Nat.le_of_ble_eq_true rfl) rfl (fun Bω okω hzω => ?_)
  have hn4ω := hr.1.2.2.2.1
  have hn16ω := hr.1.2.1
  refine z_aload_n okω dX1_loadByRule_0 rfl ?_
  refine z_iload_n okω dX1_loadByRule_1 rfl ?_
  refine z_callVa okω dX1_loadByRule_2 zm_X1_vehicleAt zw_441 zi_X1_vehicleAt hm.1 rfl (ct_X1_vehicleAt hm hr) rfl rfl (by decide) (by decide) (by decide) (Nat.le_of_ble_eq_true rfl) (fun xz1ω Mz2ω qz3ω => ?_)
  obtain ⟨hMeω, hcsqω⟩ := qz3ω
  obtain rfl := hMeω.symm
  rcases hcsqω with ⟨hng2ω, rfl⟩ | ⟨jz2ω, hjz2ω, hcz2ω, hgd2ω, rfl⟩
  · have hnull2ω := hng2ω
    refine z_astoreN okω dX1_loadByRule_5 (by decide) rfl ?_
    refine z_aloadN okω dX1_loadByRule_7 rfl ?_
    refine z_ifnullN (tgt := 30) okω dX1_loadByRule_9 (by decide) ?_
    refine z_ldc okω dX1_loadByRule_30 zw_406 ?_
    exact z_iret okω dX1_loadByRule_32 rfl rfl rfl (Nat.zero_le _) (kPost_e (by unfold spFillS; first | rw [if_neg (fun z9ω => hnull2ω z9ω.1)] | rw [if_neg (fun z9ω => hb18ω z9ω.2.1)] | rw [if_neg (fun z9ω => hb27ω z9ω.2.2)]))
  · have hkv2ω := hr.2.2.2.2.1 jz2ω hjz2ω
    have htcω : tN v = jz2ω := by rw [hcz2ω]; exact tN_nI (by omega)
    refine z_astore okω dX1_loadByRule_5 (by decide) rfl ?_
    refine z_aload okω dX1_loadByRule_7 rfl ?_
    refine z_ifnull okω dX1_loadByRule_9 ?_
    refine z_iload_n okω dX1_loadByRule_12 rfl ?_
    refine z_iconst (v := 1) okω dX1_loadByRule_13 (by decide) ?_
    refine z_iconst (v := 4) okω dX1_loadByRule_14 (by decide) ?_
    refine z_callSNi okω dX1_loadByRule_15 zm_X6_isWithin (fun _ hω => hω.2.2.2.2.2.2.1) zw_296 (ct_X6_isWithin) rfl rfl (by decide) (by decide) (by decide) (Nat.le_of_ble_eq_true rfl) (fun xz4ω Mz5ω qz6ω => ?_)
    obtain ⟨rfl, hMeω⟩ := qz6ω
    obtain rfl := hMeω.symm
    refine z_if_eq (tgt := 30) okω dX1_loadByRule_18 (by decide) (fun cz18ω => ?_) (fun cz18ω => ?_)
    · have hb18ω := b2_0.mp cz18ω
      refine z_ldc okω dX1_loadByRule_30 zw_406 ?_
      exact z_iret okω dX1_loadByRule_32 rfl rfl rfl (Nat.zero_le _) (kPost_e (by unfold spFillS; first | rw [if_neg (fun z9ω => hnull2ω z9ω.1)] | rw [if_neg (fun z9ω => hb18ω z9ω.2.1)] | rw [if_neg (fun z9ω => hb27ω z9ω.2.2)]))
    · have hb18ω := Decidable.not_not.mp (mt b2_0.mpr cz18ω)
      refine z_iload_n okω dX1_loadByRule_21 rfl ?_
      refine z_iconst (v := 0) okω dX1_loadByRule_22 (by decide) ?_
      refine z_iconst (v := 2) okω dX1_loadByRule_23 (by decide) ?_
      refine z_callSNi okω dX1_loadByRule_24 zm_X6_isWithin (fun _ hω => hω.2.2.2.2.2.2.1) zw_296 (ct_X6_isWithin) rfl rfl (by decide) (by decide) (by decide) (Nat.le_of_ble_eq_true rfl) (fun xz7ω Mz8ω qz9ω => ?_)
      obtain ⟨rfl, hMeω⟩ := qz9ω
      obtain rfl := hMeω.symm
      refine z_if_ne (tgt := 33) okω dX1_loadByRule_27 (by decide) (fun cz27ω => ?_) (fun cz27ω => ?_)
      · have hb27ω := Decidable.not_not.mp (mt b2_0.mpr cz27ω)
        refine z_aload okω dX1_loadByRule_33 rfl ?_
        refine z_getf okω dX1_loadByRule_35 zin_X5 rfl 3 (by decide) zw_120 (hm.2.2.2.2.2.1 jz2ω (by omega)).1 rfl ?_
        refine z_if_eq (tgt := 44) okω dX1_loadByRule_38 (by decide) (fun cz38ω => ?_) (fun cz38ω => ?_)
        · have hstω : vd s jz2ω 2 = 0 := hkv2ω.2.2.1.symm.trans cz38ω
          refine z_iconst (v := 0) okω dX1_loadByRule_44 (by decide) ?_
          refine z_istore okω dX1_loadByRule_45 (by decide) rfl ?_
          refine z_iconst (v := 0) okω dX1_loadByRule_47 (by decide) ?_
          refine z_istore okω dX1_loadByRule_48 (by decide) rfl ?_
          refine z_iconst (v := 0) okω dX1_loadByRule_50 (by decide) ?_
          refine z_istore okω dX1_loadByRule_51 (by decide) rfl ?_
          have loop53ω : ∀ (tω iω : Nat) (M1ω : mM) (κ1ω : hK) (sz1ω : Nat → Int32) (tq1ω lq1ω : Int32) (vzq8ω : Option Value), n < iω + tω → iω ≤ n → zFill n jz2ω p1 r (n - iω) sz1ω lq1ω tq1ω = zFill n jz2ω p1 r n s 0 0 → zWF sz1ω n nv no → hPicP M1ω b κ1ω π → hRel κ1ω sz1ω n nv no → zFr M M1ω b 35 → zV 9 Bω (zE Bω (zI (kPost M b (spFillS s n v p1 r))) 0 0) 53 [some (.ref b), some (.int v), some (.int p1), some (.int r), some (.ref (b + 21 + jz2ω)), some (.int tq1ω), some (.int lq1ω), some (.int (nI iω)), vzq8ω] [] M1ω 0 0 := by
            intro tω
            induction tω with
            | zero => intro iω M1ω κ1ω sz1ω tq1ω lq1ω vzq8ω h1ω h2ω; exact absurd h1ω (by omega)
            | succ tω ihω =>
              intro iω M1ω κ1ω sz1ω tq1ω lq1ω vzq8ω h1ω h2ω hzfω hw1ω hm1ω hr1ω hf1ω
              have hmdω := hr1ω.made
              refine z_iload okω dX1_loadByRule_53 rfl ?_
              refine z_aload_n okω dX1_loadByRule_55 rfl ?_
              refine z_getf okω dX1_loadByRule_56 zin_X1 rfl 4 (by decide) zw_192 hm1ω.1 rfl ?_
              refine z_icmp_ge (tgt := 137) okω dX1_loadByRule_59 (by decide) (fun cz59ω => ?_) (fun cz59ω => ?_)
              · have hinω : iω = n := by rw [hmdω, nI_leI (by omega) (by omega)] at cz59ω; omega
                have hz0ω : n - iω = 0 := by omega
                refine z_iload okω dX1_loadByRule_137 rfl ?_
                exact z_iret okω dX1_loadByRule_139 rfl rfl rfl (Nat.zero_le _) (kPost_ok hm1ω hr1ω hf1ω (by unfold spFillS; rw [if_pos ⟨hgd2ω, hb18ω, hb27ω⟩, htcω, if_neg (by rw [hstω]; decide), ← hzfω]; first | rw [zFill_none hzp67] | (rw [hz0ω]; rfl)))
              · have hinω : iω < n := by rw [hmdω, nI_leI (by omega) (by omega)] at cz59ω; omega
                refine z_aload_n okω dX1_loadByRule_62 rfl ?_
                refine z_iload_n okω dX1_loadByRule_63 rfl ?_
                refine z_iload_n okω dX1_loadByRule_64 rfl ?_
                refine z_iload okω dX1_loadByRule_65 rfl ?_
                refine z_callVa okω dX1_loadByRule_67 zm_X1_nextByRule zw_493 zi_X1_nextByRule hm1ω.1 rfl (ct_X1_nextByRule hm1ω hr1ω (fun cz9ω hcz9ω hs9ω => hw1ω.bd hcz9ω (by rw [hs9ω]; decide))) rfl rfl (by decide) (by decide) (by decide) (Nat.le_of_ble_eq_true rfl) (fun xz10ω Mz11ω qz12ω => ?_)
                obtain ⟨hMeω, hvq67ω⟩ := qz12ω
                obtain rfl := hMeω.symm
                rw [hvq67ω]
                rcases hzp67 : zPick sz1ω lq1ω p1 r n with _ | kz67ω
                · refine z_astoreN okω dX1_loadByRule_70 (by decide) rfl ?_
                  refine z_aloadN okω dX1_loadByRule_72 rfl ?_
                  refine z_ifnonnullN okω dX1_loadByRule_74 ?_
                  refine z_goto (tgt := 137) okω dX1_loadByRule_77 (by decide) ?_
                  refine z_iload okω dX1_loadByRule_137 rfl ?_
                  exact z_iret okω dX1_loadByRule_139 rfl rfl rfl (Nat.zero_le _) (kPost_ok hm1ω hr1ω hf1ω (by unfold spFillS; rw [if_pos ⟨hgd2ω, hb18ω, hb27ω⟩, htcω, if_neg (by rw [hstω]; decide), ← hzfω]; first | rw [zFill_none hzp67] | (rw [hz0ω]; rfl)))
                · have hpk67ω := zPick_some hzp67
                  have hkz67ω := hpk67ω.1
                  have hn67ω := (hm1ω.2.2.2.2.1 kz67ω (by omega)).2
                  refine z_astore okω dX1_loadByRule_70 (by decide) rfl ?_
                  refine z_aload okω dX1_loadByRule_72 rfl ?_
                  refine z_ifnonnull (tgt := 80) okω dX1_loadByRule_74 (by decide) ?_
                  refine z_iload okω dX1_loadByRule_80 rfl ?_
                  refine z_iconst (v := 1) okω dX1_loadByRule_82 (by decide) ?_
                  refine z_aload okω dX1_loadByRule_83 rfl ?_
                  refine z_getf okω dX1_loadByRule_85 zin_X0 rfl 0 (by decide) zw_40 (hm1ω.2.2.2.2.1 kz67ω (by omega)).1 rfl ?_
                  refine z_ishl okω dX1_loadByRule_88 ?_
                  refine z_ior okω dX1_loadByRule_89 ?_
                  refine z_istore okω dX1_loadByRule_90 (by decide) rfl ?_
                  refine z_aload_n okω dX1_loadByRule_92 rfl ?_
                  refine z_aload okω dX1_loadByRule_93 rfl ?_
                  refine z_aload okω dX1_loadByRule_95 rfl ?_
                  refine z_callVi okω dX1_loadByRule_97 zm_X1_canTake zw_445 zi_X1_canTake hm1ω.1 rfl (ct_X1_canTake hm1ω hr1ω hjz2ω hkz67ω (hw1ω.sm _ hjz2ω) hw1ω.P1) rfl rfl (by decide) (by decide) (by decide) (Nat.le_of_ble_eq_true rfl) (fun xz13ω Mz14ω qz15ω => ?_)
                  obtain ⟨rfl, hMeω⟩ := qz15ω
                  obtain rfl := hMeω.symm
                  refine z_if_eq (tgt := 131) okω dX1_loadByRule_100 (by decide) (fun cz100ω => ?_) (fun cz100ω => ?_)
                  · have hcaω := b2_0.mp cz100ω
                    refine z_iinc okω dX1_loadByRule_131 rfl (zinc _) (by decide) rfl ?_
                    refine z_goto (tgt := 53) okω dX1_loadByRule_134 (by decide) ?_
                    first | exact ihω (iω + 1) _ _ _ _ _ _ (by omega) (by omega) (by rw [show n - iω = (n - (iω + 1)) + 1 from by omega, zFill_not hzp67 hcaω] at hzfω; rw [hn67ω]; exact hzfω) hw1ω hm1ω hr1ω (by repeat (first | assumption | exact zFr.rf | refine zFr.tr (by assumption) ?_)) | exact ihω (iω + 1) _ _ _ _ _ _ (by omega) (by omega) (by rw [show n - iω = (n - (iω + 1)) + 1 from by omega, zFill_can hzp67 hcaω] at hzfω; rw [kU_n (by omega), kU_n (by omega), hn67ω]; exact hzfω) (hw1ω.load hkz67ω hjz2ω hcaω) hm1ω (hr1ω.setC (κ' := kU (kU κ1ω 0 kz67ω 7 1) 0 kz67ω 10 (κ1ω 1 jz2ω 0)) (s' := zLoads sz1ω kz67ω jz2ω) hkz67ω (fun a9ω j9ω h9ω => (kU_o h9ω).trans (kU_o h9ω)) (fun q9ω h9ω => zLoads_o h9ω) (by have h9ω := hcc67ω; unfold kC at h9ω ⊢; rw [kU_u, kU_u]; simp only [gd_zLoads]; simp [upd, h9ω, hnumω]; exact (zEn_v (v := jz2ω) (by omega) rfl).symm)) (by repeat (first | assumption | exact zFr.rf | refine zFr.tr (by assumption) ?_))
                  · have hcaω := Decidable.not_not.mp (mt b2_0.mpr cz100ω)
                    have hnumω := (hm1ω.2.2.2.2.2.1 jz2ω (by omega)).2
                    have hcc67ω := hr1ω.c hkz67ω
                    refine z_aload okω dX1_loadByRule_103 rfl ?_
                    refine z_iconst (v := 1) okω dX1_loadByRule_105 (by decide) ?_
                    refine h_putC7 okω dX1_loadByRule_106 zw_60 hm1ω (by omega) (fun Mz17ω hm16ω frz18ω => ?_)
                    refine z_aload okω dX1_loadByRule_109 rfl ?_
                    refine z_aload okω dX1_loadByRule_111 rfl ?_
                    refine z_getf okω dX1_loadByRule_113 zin_X5 rfl 0 (by decide) zw_112 (hm16ω.2.2.2.2.2.1 jz2ω (by omega)).1 rfl ?_
                    refine h_putC10 okω dX1_loadByRule_116 zw_69 hm16ω (by omega) (fun Mz20ω hm19ω frz21ω => ?_)
                    refine z_iload okω dX1_loadByRule_119 rfl ?_
                    refine z_iconst (v := 1) okω dX1_loadByRule_121 (by decide) ?_
                    refine z_aload okω dX1_loadByRule_122 rfl ?_
                    refine z_getf okω dX1_loadByRule_124 zin_X0 rfl 0 (by decide) zw_40 (hm19ω.2.2.2.2.1 kz67ω (by omega)).1 rfl ?_
                    refine z_ishl okω dX1_loadByRule_127 ?_
                    refine z_ior okω dX1_loadByRule_128 ?_
                    refine z_istore okω dX1_loadByRule_129 (by decide) rfl ?_
                    refine z_iinc okω dX1_loadByRule_131 rfl (zinc _) (by decide) rfl ?_
                    refine z_goto (tgt := 53) okω dX1_loadByRule_134 (by decide) ?_
                    first | exact ihω (iω + 1) _ _ _ _ _ _ (by omega) (by omega) (by rw [show n - iω = (n - (iω + 1)) + 1 from by omega, zFill_not hzp67 hcaω] at hzfω; rw [hn67ω]; exact hzfω) hw1ω hm19ω hr1ω (by repeat (first | assumption | exact zFr.rf | refine zFr.tr (by assumption) ?_)) | exact ihω (iω + 1) _ _ _ _ _ _ (by omega) (by omega) (by rw [show n - iω = (n - (iω + 1)) + 1 from by omega, zFill_can hzp67 hcaω] at hzfω; rw [kU_n (by omega), kU_n (by omega), hn67ω]; exact hzfω) (hw1ω.load hkz67ω hjz2ω hcaω) hm19ω (hr1ω.setC (κ' := kU (kU κ1ω 0 kz67ω 7 1) 0 kz67ω 10 (κ1ω 1 jz2ω 0)) (s' := zLoads sz1ω kz67ω jz2ω) hkz67ω (fun a9ω j9ω h9ω => (kU_o h9ω).trans (kU_o h9ω)) (fun q9ω h9ω => zLoads_o h9ω) (by have h9ω := hcc67ω; unfold kC at h9ω ⊢; rw [kU_u, kU_u]; simp only [gd_zLoads]; simp [upd, h9ω, hnumω]; exact (zEn_v (v := jz2ω) (by omega) rfl).symm)) (by repeat (first | assumption | exact zFr.rf | refine zFr.tr (by assumption) ?_))
          exact loop53ω (n + 1) 0 _ _ _ _ _ _ (by omega) (by omega) rfl hwf hm hr (by repeat (first | assumption | exact zFr.rf | refine zFr.tr (by assumption) ?_))
        · have hstω : 0 < vd s jz2ω 2 := i_ne0 (hwf.v jz2ω hjz2ω).2.2.1.1 (fun z9ω => cz38ω (hkv2ω.2.2.1.trans z9ω))
          refine z_ldc okω dX1_loadByRule_41 zw_407 ?_
          exact z_iret okω dX1_loadByRule_43 rfl rfl rfl (Nat.zero_le _) (kPost_e (by unfold spFillS; rw [if_pos ⟨hgd2ω, hb18ω, hb27ω⟩, htcω, if_pos hstω]))
      · have hb27ω := b2_0.mp cz27ω
        refine z_ldc okω dX1_loadByRule_30 zw_406 ?_
        exact z_iret okω dX1_loadByRule_32 rfl rfl rfl (Nat.zero_le _) (kPost_e (by unfold spFillS; first | rw [if_neg (fun z9ω => hnull2ω z9ω.1)] | rw [if_neg (fun z9ω => hb18ω z9ω.2.1)] | rw [if_neg (fun z9ω => hb27ω z9ω.2.2)]))


