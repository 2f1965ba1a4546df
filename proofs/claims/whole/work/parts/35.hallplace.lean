/-- the first that holds below n -/
def zFst (p : Nat → Prop) [DecidablePred p] : Nat → Option Nat
  | 0 => none
  | k + 1 => match zFst p k with
    | some j => some j
    | none => if p k then some k else none
theorem zFst_n {p : Nat → Prop} [DecidablePred p] {i : Nat} (h : zFst p i = none) (hp : ¬ p i) : zFst p (i + 1) = none := by
  rw [zFst, h]
  exact if_neg hp
theorem zFst_none {p : Nat → Prop} [DecidablePred p] : ∀ n, zFst p n = none → ∀ j, j < n → ¬ p j
  | 0, _, j, hj => absurd hj (by omega)
  | n + 1, h, j, hj => by
    rw [zFst] at h
    split at h
    · cases h
    · next h2 =>
      by_cases hjn : j = n
      · rw [hjn]
        intro hp
        rw [if_pos hp] at h
        cases h
      · exact zFst_none n h2 j (by omega)
/-- the place that the load of v is for, as the hall tells it: that of the first, or 0 -/
def kPlace (s : Nat → Int32) (n v : Nat) (x : Int32) : Prop := (x = 0 ∧ ∀ c, c < n → ¬ zInV s c (nI v)) ∨ ∃ c, c < n ∧ zInV s c (nI v) ∧ x = gd s c 0
set_option maxRecDepth 20000 in
set_option maxHeartbeats 4000000 in
theorem ct_X1_loadPlace {K : zK} {M : mM} {nx : Nat} {b : Nat} {κ : hK} {π : Nat → Nat} (hm : hPicP M b κ π) {s : Nat → Int32} {n nv no : Nat} (hr : hRel κ s n nv no) {v : Nat} (hv : v < 4) : zCt K yX1_loadPlace cX1_loadPlace 3 zr_X1_loadPlace 1 [.ref b, .ref (b + 21 + v)] M nx 0 0 (zI (fun x M' => kPlace s n v x ∧ M' = M)) := by
  refine z_enter [some (.ref b), some (.ref (b + 21 + v)), none] (by decide +kernel) (Nat.le_of_ble_eq_true rfl) rfl (fun B ok hz => ?_)
  have hmd := hr.made
  have hn16 := hr.1.2.1
  refine z_iconst (v := 0) ok dX1_loadPlace_0 (by decide) ?_
  refine z_istore_n ok dX1_loadPlace_1 (by decide) rfl ?_
  have loop2 : ∀ (t i : Nat), n < i + t → i ≤ n → (∀ c, c < i → ¬ zInV s c (nI v)) → zV 3 B (zE B (zI (fun x M' => kPlace s n v x ∧ M' = M)) 0 0) 2 [some (.ref b), some (.ref (b + 21 + v)), some (.int (nI i))] [] M 0 0 := by
    intro t
    induction t with
    | zero => intro i  h1 h2; exact absurd h1 (by omega)
    | succ t ih =>
      intro i  h1 h2 hy
      refine z_iload_n ok dX1_loadPlace_2 rfl ?_
      refine z_aload_n ok dX1_loadPlace_3 rfl ?_
      refine z_getf ok dX1_loadPlace_4 zin_X1 rfl 4 (by decide) zw_231 hm.1 rfl ?_
      refine z_icmp_ge (tgt := 39) ok dX1_loadPlace_7 (by decide) (fun cz7 => ?_) (fun cz7 => ?_)
      · have hin : i = n := by rw [hmd, nI_leI (by omega) (by omega)] at cz7; omega
        rw [hin] at hy
        refine z_iconst (v := 0) ok dX1_loadPlace_39 (by decide) ?_
        exact z_iret ok dX1_loadPlace_40 rfl rfl rfl (Nat.zero_le _) ⟨Or.inl ⟨rfl, hy⟩, rfl⟩
      · have hin : i < n := by rw [hmd, nI_leI (by omega) (by omega)] at cz7; omega
        refine z_aload_n ok dX1_loadPlace_10 rfl ?_
        refine z_getf ok dX1_loadPlace_11 zin_X1 rfl 0 (by decide) zw_225 hm.1 rfl ?_
        refine z_iload_n ok dX1_loadPlace_14 rfl ?_
        refine h_ldC (j := i) ok dX1_loadPlace_15 hm rfl (by omega) ?_
        refine z_aload_n ok dX1_loadPlace_16 rfl ?_
        refine z_callVi ok dX1_loadPlace_17 zm_X0_isIn zw_448 zi_X0_isIn (hm.2.2.2.2.1 i (by omega)).1 rfl (ct_isIn2 hm hr hin hv) rfl rfl (by decide) (by decide) (by decide) (Nat.le_of_ble_eq_true rfl) (fun xz1 Mz2 qz3 => ?_)
        obtain ⟨rfl, hMe⟩ := qz3
        obtain rfl := hMe.symm
        refine z_if_eq (tgt := 33) ok dX1_loadPlace_20 (by decide) (fun cz20 => ?_) (fun cz20 => ?_)
        · have hb := b2_0.mp cz20
          refine z_iinc ok dX1_loadPlace_33 rfl (zinc _) (by decide) rfl ?_
          refine z_goto (tgt := 2) ok dX1_loadPlace_36 (by decide) ?_
          exact ih (i + 1) (by omega) (by omega) (fun cj hcj => by rcases (by omega : cj < i ∨ cj = i) with hl9 | he9; exact hy cj hl9; rw [he9]; exact hb)
        · have hb := Decidable.not_not.mp (mt b2_0.mpr cz20)
          refine z_aload_n ok dX1_loadPlace_23 rfl ?_
          refine z_getf ok dX1_loadPlace_24 zin_X1 rfl 0 (by decide) zw_225 hm.1 rfl ?_
          refine z_iload_n ok dX1_loadPlace_27 rfl ?_
          refine h_ldC (j := i) ok dX1_loadPlace_28 hm rfl (by omega) ?_
          refine z_getf ok dX1_loadPlace_29 zin_X0 rfl 1 (by decide) zw_81 (hm.2.2.2.2.1 i (by omega)).1 rfl ?_
          exact z_iret ok dX1_loadPlace_32 rfl rfl rfl (Nat.zero_le _) ⟨Or.inr ⟨i, hin, hb, (hr.c hin).1⟩, rfl⟩
  exact loop2 (n + 1) 0 (by omega) (by omega) (fun cj hcj => absurd hcj (by omega))

set_option maxRecDepth 20000 in
set_option maxHeartbeats 4000000 in
theorem ct_X1_hopelessSet {K : zK} {M : mM} {nx : Nat} {b : Nat} {κ : hK} {π : Nat → Nat} (hm : hPicP M b κ π) {s : Nat → Int32} {n nv no : Nat} (hr : hRel κ s n nv no) (h0 : zS0 s n) : zCt K yX1_hopelessSet cX1_hopelessSet 5 zr_X1_hopelessSet 1 [.ref b] M nx 0 0 (zI (fun x M' => x = zHl s n ∧ M' = M)) := by
  refine z_enter [some (.ref b), none, none, none, none] (by decide +kernel) (Nat.le_of_ble_eq_true rfl) rfl (fun B ok hz => ?_)
  have hmd := hr.made
  have hn16 := hr.1.2.1
  refine z_iconst (v := 0) ok dX1_hopelessSet_0 (by decide) ?_
  refine z_istore_n ok dX1_hopelessSet_1 (by decide) rfl ?_
  refine z_iconst (v := 0) ok dX1_hopelessSet_2 (by decide) ?_
  refine z_istore_n ok dX1_hopelessSet_3 (by decide) rfl ?_
  have loop4 : ∀ (t i : Nat) (y : Int32) (vzq3 vzq4 : Option Value), n < i + t → i ≤ n → y = zHl s i → zV 5 B (zE B (zI (fun x M' => x = zHl s n ∧ M' = M)) 0 0) 4 [some (.ref b), some (.int y), some (.int (nI i)), vzq3, vzq4] [] M 0 0 := by
    intro t
    induction t with
    | zero => intro i y vzq3 vzq4 h1 h2; exact absurd h1 (by omega)
    | succ t ih =>
      intro i y vzq3 vzq4 h1 h2 hy
      refine z_iload_n ok dX1_hopelessSet_4 rfl ?_
      refine z_aload_n ok dX1_hopelessSet_5 rfl ?_
      refine z_getf ok dX1_hopelessSet_6 zin_X1 rfl 4 (by decide) zw_231 hm.1 rfl ?_
      refine z_icmp_ge (tgt := 69) ok dX1_hopelessSet_9 (by decide) (fun cz9 => ?_) (fun cz9 => ?_)
      · have hin : i = n := by rw [hmd, nI_leI (by omega) (by omega)] at cz9; omega
        rw [hin] at hy
        refine z_iload_n ok dX1_hopelessSet_69 rfl ?_
        exact z_iret ok dX1_hopelessSet_70 rfl rfl rfl (Nat.zero_le _) ⟨hy, rfl⟩
      · have hin : i < n := by rw [hmd, nI_leI (by omega) (by omega)] at cz9; omega
        refine z_aload_n ok dX1_hopelessSet_12 rfl ?_
        refine z_getf ok dX1_hopelessSet_13 zin_X1 rfl 0 (by decide) zw_225 hm.1 rfl ?_
        refine z_iload_n ok dX1_hopelessSet_16 rfl ?_
        refine h_ldC (j := i) ok dX1_hopelessSet_17 hm rfl (by omega) ?_
        refine z_astore_n ok dX1_hopelessSet_18 (by decide) rfl ?_
        refine z_aload_n ok dX1_hopelessSet_19 rfl ?_
        refine z_getf ok dX1_hopelessSet_20 zin_X1 rfl 7 (by decide) zw_237 hm.1 rfl ?_
        refine z_aload_n ok dX1_hopelessSet_23 rfl ?_
        refine z_getf ok dX1_hopelessSet_24 zin_X0 rfl 1 (by decide) zw_81 (hm.2.2.2.2.1 i (by omega)).1 rfl ?_
        refine z_aload_n ok dX1_hopelessSet_27 rfl ?_
        refine z_getf ok dX1_hopelessSet_28 zin_X1 rfl 3 (by decide) zw_229 hm.1 rfl ?_
        refine z_iconst (v := 0) ok dX1_hopelessSet_31 (by decide) ?_
        refine h_ldT ok dX1_hopelessSet_32 hm rfl (by decide) ?_
        refine z_imul ok dX1_hopelessSet_33 ?_
        refine z_iadd ok dX1_hopelessSet_34 ?_
        refine z_istore ok dX1_hopelessSet_35 (by decide) rfl ?_
        refine z_iload_n ok dX1_hopelessSet_37 rfl ?_
        refine z_aload_n ok dX1_hopelessSet_38 rfl ?_
        refine z_callVi ok dX1_hopelessSet_39 zm_X0_isInHall zw_546 zi_X0_isInHall (hm.2.2.2.2.1 i (by omega)).1 rfl (ct_isHere2 hm hr h0 hin) rfl rfl (by decide) (by decide) (by decide) (Nat.le_of_ble_eq_true rfl) (fun xz1 Mz2 qz3 => ?_)
        obtain ⟨rfl, hMe⟩ := qz3
        obtain rfl := hMe.symm
        refine z_if_eq (tgt := 60) ok dX1_hopelessSet_42 (by decide) (fun cz42 => ?_) (fun cz42 => ?_)
        · have hb0 := b2_0.mp cz42
          have hb : ¬ (zHere s i ∧ gd s i 4 < s 5 + gd s i 0 * s 0) := fun z9 => hb0 z9.1
          refine z_iconst (v := 0) ok dX1_hopelessSet_60 (by decide) ?_
          refine z_ior ok dX1_hopelessSet_61 ?_
          refine z_istore_n ok dX1_hopelessSet_62 (by decide) rfl ?_
          refine z_iinc ok dX1_hopelessSet_63 rfl (zinc _) (by decide) rfl ?_
          refine z_goto (tgt := 4) ok dX1_hopelessSet_66 (by decide) ?_
          exact ih (i + 1) _ _ _ (by omega) (by omega) (by rw [hy]; first | exact zOr_t hb | exact zOr_f hb)
        · have hb0 := Decidable.not_not.mp (mt b2_0.mpr cz42)
          have hcc := hr.c hin
          have hts := hr.2.2.1 0 (by decide)
          rw [hr.tm, hcc.1, hts]
          refine z_iload ok dX1_hopelessSet_45 rfl ?_
          refine z_aload_n ok dX1_hopelessSet_47 rfl ?_
          refine z_getf ok dX1_hopelessSet_48 zin_X0 rfl 5 (by decide) zw_93 (hm.2.2.2.2.1 i (by omega)).1 rfl ?_
          refine z_icmp_le (tgt := 60) ok dX1_hopelessSet_51 (by decide) (fun cz51 => ?_) (fun cz51 => ?_)
          · have hb : ¬ (zHere s i ∧ gd s i 4 < s 5 + gd s i 0 * s 0) := fun z9 => absurd z9.2 (Int32.not_lt.mpr (by rw [← hcc.2.2.2.2.1]; exact cz51))
            refine z_iconst (v := 0) ok dX1_hopelessSet_60 (by decide) ?_
            refine z_ior ok dX1_hopelessSet_61 ?_
            refine z_istore_n ok dX1_hopelessSet_62 (by decide) rfl ?_
            refine z_iinc ok dX1_hopelessSet_63 rfl (zinc _) (by decide) rfl ?_
            refine z_goto (tgt := 4) ok dX1_hopelessSet_66 (by decide) ?_
            exact ih (i + 1) _ _ _ (by omega) (by omega) (by rw [hy]; first | exact zOr_t hb | exact zOr_f hb)
          · have hb : zHere s i ∧ gd s i 4 < s 5 + gd s i 0 * s 0 := ⟨hb0, by rw [← hcc.2.2.2.2.1]; exact Int32.not_le.mp cz51⟩
            refine z_iconst (v := 1) ok dX1_hopelessSet_54 (by decide) ?_
            refine z_iload_n ok dX1_hopelessSet_55 rfl ?_
            refine z_ishl ok dX1_hopelessSet_56 ?_
            refine z_goto (tgt := 61) ok dX1_hopelessSet_57 (by decide) ?_
            refine z_ior ok dX1_hopelessSet_61 ?_
            refine z_istore_n ok dX1_hopelessSet_62 (by decide) rfl ?_
            refine z_iinc ok dX1_hopelessSet_63 rfl (zinc _) (by decide) rfl ?_
            refine z_goto (tgt := 4) ok dX1_hopelessSet_66 (by decide) ?_
            exact ih (i + 1) _ _ _ (by omega) (by omega) (by rw [hy]; first | exact zOr_t hb | exact zOr_f hb)
  exact loop4 (n + 1) 0 _ _ _ (by omega) (by omega) rfl

