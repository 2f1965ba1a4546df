abbrev zS0 (s : Nat → Int32) (n : Nat) : Prop := ∀ i, i < n → 0 ≤ gd s i 6 ∧ gd s i 6 ≤ 5
theorem hRel.c {κ : hK} {s : Nat → Int32} {n nv no i : Nat} (h : hRel κ s n nv no) (hi : i < n) : kC (κ 0 i) (gd s i) := h.2.2.2.1 i hi
theorem ct_isIn2 {K : zK} {M : mM} {nx : Nat} {b : Nat} {κ : hK} {π : Nat → Nat} (hm : hPicP M b κ π) {s : Nat → Int32} {n nv no : Nat} (hr : hRel κ s n nv no) {i v : Nat} (hi : i < n) (hv : v < 4) : zCt K yX0_isIn cX0_isIn 2 zr_X0_isIn 0 [.ref (b + 5 + i), .ref (b + 21 + v)] M nx 0 0 (zI (fun x M' => x = b2 (zInV s i (nI v)) ∧ M' = M)) := by
  refine (ct_X0_isIn (hm.2.2.2.2.1 i (by have := hr.1.2.1; omega)).1 (hm.2.2.2.2.2.1 v hv).1).mono (fun r M' h => ?_)
  obtain ⟨x, h1, h2, h3⟩ := h
  exact ⟨x, h1, h2.trans (b2_c (hr.isIn hi hv (hm.2.2.2.2.2.1 v hv).2)), h3⟩
theorem zHere_i {x : Int32} (h0 : 0 ≤ x) : (x = 0 ∨ x = 1) ↔ (¬ x = 5 ∧ x < 2) := by
  have h1 := Int32.le_iff_toInt_le.mp h0
  have e0 : (0 : Int32).toInt = 0 := rfl
  have e1 : (1 : Int32).toInt = 1 := rfl
  have e2 : (2 : Int32).toInt = 2 := rfl
  rw [e0] at h1
  constructor
  · rintro (h | h) <;> rw [h] <;> decide
  · rintro ⟨_, h⟩
    have h2 := Int32.lt_iff_toInt_lt.mp h
    rw [e2] at h2
    rcases (by omega : x.toInt = 0 ∨ x.toInt = 1) with h6 | h6
    · exact Or.inl (Int32.toInt_inj.mp (h6.trans e0.symm))
    · exact Or.inr (Int32.toInt_inj.mp (h6.trans e1.symm))
theorem ct_isHere2 {K : zK} {M : mM} {nx : Nat} {b : Nat} {κ : hK} {π : Nat → Nat} (hm : hPicP M b κ π) {s : Nat → Int32} {n nv no : Nat} (hr : hRel κ s n nv no) (h0 : zS0 s n) {i : Nat} (hi : i < n) : zCt K yX0_isInHall cX0_isInHall 1 zr_X0_isInHall 0 [.ref (b + 5 + i)] M nx 0 0 (zI (fun x M' => x = b2 (zHere s i) ∧ M' = M)) := by
  refine (ct_X0_isInHall (hm.2.2.2.2.1 i (by have := hr.1.2.1; omega)).1).mono (fun r M' h => ?_)
  obtain ⟨x, h1, h2, h3⟩ := h
  exact ⟨x, h1, h2.trans (b2_c (by rw [(hr.c hi).2.2.2.2.2.2.1]; exact zHere_i (h0 i hi).1)), h3⟩
set_option maxRecDepth 20000 in
set_option maxHeartbeats 4000000 in
theorem ct_X1_loadSize {K : zK} {M : mM} {nx : Nat} {b : Nat} {κ : hK} {π : Nat → Nat} (hm : hPicP M b κ π) {s : Nat → Int32} {n nv no : Nat} (hr : hRel κ s n nv no) {v : Nat} (hv : v < 4) : zCt K yX1_loadSize cX1_loadSize 4 zr_X1_loadSize 1 [.ref b, .ref (b + 21 + v)] M nx 0 0 (zI (fun x M' => x = zLd s n (nI v) 1 ∧ M' = M)) := by
  refine z_enter [some (.ref b), some (.ref (b + 21 + v)), none, none] (by decide +kernel) (Nat.le_of_ble_eq_true rfl) rfl (fun B ok hz => ?_)
  have hmd := hr.made
  have hn16 := hr.1.2.1
  refine z_iconst (v := 0) ok dX1_loadSize_0 (by decide) ?_
  refine z_istore_n ok dX1_loadSize_1 (by decide) rfl ?_
  refine z_iconst (v := 0) ok dX1_loadSize_2 (by decide) ?_
  refine z_istore_n ok dX1_loadSize_3 (by decide) rfl ?_
  have loop4 : ∀ (t i : Nat) (y : Int32), n < i + t → i ≤ n → y = zLd s i (nI v) 1 → zV 4 B (zE B (zI (fun x M' => x = zLd s n (nI v) 1 ∧ M' = M)) 0 0) 4 [some (.ref b), some (.ref (b + 21 + v)), some (.int y), some (.int (nI i))] [] M 0 0 := by
    intro t
    induction t with
    | zero => intro i y h1 h2; exact absurd h1 (by omega)
    | succ t ih =>
      intro i y h1 h2 hy
      refine z_iload_n ok dX1_loadSize_4 rfl ?_
      refine z_aload_n ok dX1_loadSize_5 rfl ?_
      refine z_getf ok dX1_loadSize_6 zin_X1 rfl 4 (by decide) zw_192 hm.1 rfl ?_
      refine z_icmp_ge (tgt := 47) ok dX1_loadSize_9 (by decide) (fun cz9 => ?_) (fun cz9 => ?_)
      · have hin : i = n := by rw [hmd, nI_leI (by omega) (by omega)] at cz9; omega
        rw [hin] at hy
        refine z_iload_n ok dX1_loadSize_47 rfl ?_
        exact z_iret ok dX1_loadSize_48 rfl rfl rfl (Nat.zero_le _) ⟨hy, rfl⟩
      · have hin : i < n := by rw [hmd, nI_leI (by omega) (by omega)] at cz9; omega
        refine z_iload_n ok dX1_loadSize_12 rfl ?_
        refine z_aload_n ok dX1_loadSize_13 rfl ?_
        refine z_getf ok dX1_loadSize_14 zin_X1 rfl 0 (by decide) zw_186 hm.1 rfl ?_
        refine z_iload_n ok dX1_loadSize_17 rfl ?_
        refine h_ldC (j := i) ok dX1_loadSize_18 hm rfl (by omega) ?_
        refine z_aload_n ok dX1_loadSize_19 rfl ?_
        refine z_callVi ok dX1_loadSize_20 zm_X0_isIn zw_453 zi_X0_isIn (hm.2.2.2.2.1 i (by omega)).1 rfl (ct_isIn2 hm hr hin hv) rfl rfl (by decide) (by decide) (by decide) (Nat.le_of_ble_eq_true rfl) (fun xz1 Mz2 qz3 => ?_)
        obtain ⟨rfl, hMe⟩ := qz3
        obtain rfl := hMe.symm
        refine z_if_eq (tgt := 38) ok dX1_loadSize_23 (by decide) (fun cz23 => ?_) (fun cz23 => ?_)
        · have hb := b2_0.mp cz23
          refine z_iconst (v := 0) ok dX1_loadSize_38 (by decide) ?_
          refine z_iadd ok dX1_loadSize_39 ?_
          refine z_istore_n ok dX1_loadSize_40 (by decide) rfl ?_
          refine z_iinc ok dX1_loadSize_41 rfl (zinc _) (by decide) rfl ?_
          refine z_goto (tgt := 4) ok dX1_loadSize_44 (by decide) ?_
          exact ih (i + 1) _ (by omega) (by omega) (by rw [hy]; first | (rw [(hr.c hin).2.1]; exact zSum_t hb) | exact zSum_f hb)
        · have hb := Decidable.not_not.mp (mt b2_0.mpr cz23)
          refine z_aload_n ok dX1_loadSize_26 rfl ?_
          refine z_getf ok dX1_loadSize_27 zin_X1 rfl 0 (by decide) zw_186 hm.1 rfl ?_
          refine z_iload_n ok dX1_loadSize_30 rfl ?_
          refine h_ldC (j := i) ok dX1_loadSize_31 hm rfl (by omega) ?_
          refine z_getf ok dX1_loadSize_32 zin_X0 rfl 2 (by decide) zw_45 (hm.2.2.2.2.1 i (by omega)).1 rfl ?_
          refine z_goto (tgt := 39) ok dX1_loadSize_35 (by decide) ?_
          refine z_iadd ok dX1_loadSize_39 ?_
          refine z_istore_n ok dX1_loadSize_40 (by decide) rfl ?_
          refine z_iinc ok dX1_loadSize_41 rfl (zinc _) (by decide) rfl ?_
          refine z_goto (tgt := 4) ok dX1_loadSize_44 (by decide) ?_
          exact ih (i + 1) _ (by omega) (by omega) (by rw [hy]; first | (rw [(hr.c hin).2.1]; exact zSum_t hb) | exact zSum_f hb)
  exact loop4 (n + 1) 0 _ (by omega) (by omega) rfl

set_option maxRecDepth 20000 in
set_option maxHeartbeats 4000000 in
theorem ct_X1_loadWeight {K : zK} {M : mM} {nx : Nat} {b : Nat} {κ : hK} {π : Nat → Nat} (hm : hPicP M b κ π) {s : Nat → Int32} {n nv no : Nat} (hr : hRel κ s n nv no) {v : Nat} (hv : v < 4) : zCt K yX1_loadWeight cX1_loadWeight 4 zr_X1_loadWeight 1 [.ref b, .ref (b + 21 + v)] M nx 0 0 (zI (fun x M' => x = zLd s n (nI v) 2 ∧ M' = M)) := by
  refine z_enter [some (.ref b), some (.ref (b + 21 + v)), none, none] (by decide +kernel) (Nat.le_of_ble_eq_true rfl) rfl (fun B ok hz => ?_)
  have hmd := hr.made
  have hn16 := hr.1.2.1
  refine z_iconst (v := 0) ok dX1_loadWeight_0 (by decide) ?_
  refine z_istore_n ok dX1_loadWeight_1 (by decide) rfl ?_
  refine z_iconst (v := 0) ok dX1_loadWeight_2 (by decide) ?_
  refine z_istore_n ok dX1_loadWeight_3 (by decide) rfl ?_
  have loop4 : ∀ (t i : Nat) (y : Int32), n < i + t → i ≤ n → y = zLd s i (nI v) 2 → zV 4 B (zE B (zI (fun x M' => x = zLd s n (nI v) 2 ∧ M' = M)) 0 0) 4 [some (.ref b), some (.ref (b + 21 + v)), some (.int y), some (.int (nI i))] [] M 0 0 := by
    intro t
    induction t with
    | zero => intro i y h1 h2; exact absurd h1 (by omega)
    | succ t ih =>
      intro i y h1 h2 hy
      refine z_iload_n ok dX1_loadWeight_4 rfl ?_
      refine z_aload_n ok dX1_loadWeight_5 rfl ?_
      refine z_getf ok dX1_loadWeight_6 zin_X1 rfl 4 (by decide) zw_192 hm.1 rfl ?_
      refine z_icmp_ge (tgt := 47) ok dX1_loadWeight_9 (by decide) (fun cz9 => ?_) (fun cz9 => ?_)
      · have hin : i = n := by rw [hmd, nI_leI (by omega) (by omega)] at cz9; omega
        rw [hin] at hy
        refine z_iload_n ok dX1_loadWeight_47 rfl ?_
        exact z_iret ok dX1_loadWeight_48 rfl rfl rfl (Nat.zero_le _) ⟨hy, rfl⟩
      · have hin : i < n := by rw [hmd, nI_leI (by omega) (by omega)] at cz9; omega
        refine z_iload_n ok dX1_loadWeight_12 rfl ?_
        refine z_aload_n ok dX1_loadWeight_13 rfl ?_
        refine z_getf ok dX1_loadWeight_14 zin_X1 rfl 0 (by decide) zw_186 hm.1 rfl ?_
        refine z_iload_n ok dX1_loadWeight_17 rfl ?_
        refine h_ldC (j := i) ok dX1_loadWeight_18 hm rfl (by omega) ?_
        refine z_aload_n ok dX1_loadWeight_19 rfl ?_
        refine z_callVi ok dX1_loadWeight_20 zm_X0_isIn zw_453 zi_X0_isIn (hm.2.2.2.2.1 i (by omega)).1 rfl (ct_isIn2 hm hr hin hv) rfl rfl (by decide) (by decide) (by decide) (Nat.le_of_ble_eq_true rfl) (fun xz1 Mz2 qz3 => ?_)
        obtain ⟨rfl, hMe⟩ := qz3
        obtain rfl := hMe.symm
        refine z_if_eq (tgt := 38) ok dX1_loadWeight_23 (by decide) (fun cz23 => ?_) (fun cz23 => ?_)
        · have hb := b2_0.mp cz23
          refine z_iconst (v := 0) ok dX1_loadWeight_38 (by decide) ?_
          refine z_iadd ok dX1_loadWeight_39 ?_
          refine z_istore_n ok dX1_loadWeight_40 (by decide) rfl ?_
          refine z_iinc ok dX1_loadWeight_41 rfl (zinc _) (by decide) rfl ?_
          refine z_goto (tgt := 4) ok dX1_loadWeight_44 (by decide) ?_
          exact ih (i + 1) _ (by omega) (by omega) (by rw [hy]; first | (rw [(hr.c hin).2.2.1]; exact zSum_t hb) | exact zSum_f hb)
        · have hb := Decidable.not_not.mp (mt b2_0.mpr cz23)
          refine z_aload_n ok dX1_loadWeight_26 rfl ?_
          refine z_getf ok dX1_loadWeight_27 zin_X1 rfl 0 (by decide) zw_186 hm.1 rfl ?_
          refine z_iload_n ok dX1_loadWeight_30 rfl ?_
          refine h_ldC (j := i) ok dX1_loadWeight_31 hm rfl (by omega) ?_
          refine z_getf ok dX1_loadWeight_32 zin_X0 rfl 3 (by decide) zw_48 (hm.2.2.2.2.1 i (by omega)).1 rfl ?_
          refine z_goto (tgt := 39) ok dX1_loadWeight_35 (by decide) ?_
          refine z_iadd ok dX1_loadWeight_39 ?_
          refine z_istore_n ok dX1_loadWeight_40 (by decide) rfl ?_
          refine z_iinc ok dX1_loadWeight_41 rfl (zinc _) (by decide) rfl ?_
          refine z_goto (tgt := 4) ok dX1_loadWeight_44 (by decide) ?_
          exact ih (i + 1) _ (by omega) (by omega) (by rw [hy]; first | (rw [(hr.c hin).2.2.1]; exact zSum_t hb) | exact zSum_f hb)
  exact loop4 (n + 1) 0 _ (by omega) (by omega) rfl

set_option maxRecDepth 20000 in
set_option maxHeartbeats 4000000 in
theorem ct_X1_loadSet {K : zK} {M : mM} {nx : Nat} {b : Nat} {κ : hK} {π : Nat → Nat} (hm : hPicP M b κ π) {s : Nat → Int32} {n nv no : Nat} (hr : hRel κ s n nv no) {v : Nat} (hv : v < 4) : zCt K yX1_loadSet cX1_loadSet 4 zr_X1_loadSet 1 [.ref b, .ref (b + 21 + v)] M nx 0 0 (zI (fun x M' => x = zLs s n (nI v) ∧ M' = M)) := by
  refine z_enter [some (.ref b), some (.ref (b + 21 + v)), none, none] (by decide +kernel) (Nat.le_of_ble_eq_true rfl) rfl (fun B ok hz => ?_)
  have hmd := hr.made
  have hn16 := hr.1.2.1
  refine z_iconst (v := 0) ok dX1_loadSet_0 (by decide) ?_
  refine z_istore_n ok dX1_loadSet_1 (by decide) rfl ?_
  refine z_iconst (v := 0) ok dX1_loadSet_2 (by decide) ?_
  refine z_istore_n ok dX1_loadSet_3 (by decide) rfl ?_
  have loop4 : ∀ (t i : Nat) (y : Int32), n < i + t → i ≤ n → y = zLs s i (nI v) → zV 4 B (zE B (zI (fun x M' => x = zLs s n (nI v) ∧ M' = M)) 0 0) 4 [some (.ref b), some (.ref (b + 21 + v)), some (.int y), some (.int (nI i))] [] M 0 0 := by
    intro t
    induction t with
    | zero => intro i y h1 h2; exact absurd h1 (by omega)
    | succ t ih =>
      intro i y h1 h2 hy
      refine z_iload_n ok dX1_loadSet_4 rfl ?_
      refine z_aload_n ok dX1_loadSet_5 rfl ?_
      refine z_getf ok dX1_loadSet_6 zin_X1 rfl 4 (by decide) zw_192 hm.1 rfl ?_
      refine z_icmp_ge (tgt := 41) ok dX1_loadSet_9 (by decide) (fun cz9 => ?_) (fun cz9 => ?_)
      · have hin : i = n := by rw [hmd, nI_leI (by omega) (by omega)] at cz9; omega
        rw [hin] at hy
        refine z_iload_n ok dX1_loadSet_41 rfl ?_
        exact z_iret ok dX1_loadSet_42 rfl rfl rfl (Nat.zero_le _) ⟨hy, rfl⟩
      · have hin : i < n := by rw [hmd, nI_leI (by omega) (by omega)] at cz9; omega
        refine z_iload_n ok dX1_loadSet_12 rfl ?_
        refine z_aload_n ok dX1_loadSet_13 rfl ?_
        refine z_getf ok dX1_loadSet_14 zin_X1 rfl 0 (by decide) zw_186 hm.1 rfl ?_
        refine z_iload_n ok dX1_loadSet_17 rfl ?_
        refine h_ldC (j := i) ok dX1_loadSet_18 hm rfl (by omega) ?_
        refine z_aload_n ok dX1_loadSet_19 rfl ?_
        refine z_callVi ok dX1_loadSet_20 zm_X0_isIn zw_453 zi_X0_isIn (hm.2.2.2.2.1 i (by omega)).1 rfl (ct_isIn2 hm hr hin hv) rfl rfl (by decide) (by decide) (by decide) (Nat.le_of_ble_eq_true rfl) (fun xz1 Mz2 qz3 => ?_)
        obtain ⟨rfl, hMe⟩ := qz3
        obtain rfl := hMe.symm
        refine z_if_eq (tgt := 32) ok dX1_loadSet_23 (by decide) (fun cz23 => ?_) (fun cz23 => ?_)
        · have hb := b2_0.mp cz23
          refine z_iconst (v := 0) ok dX1_loadSet_32 (by decide) ?_
          refine z_ior ok dX1_loadSet_33 ?_
          refine z_istore_n ok dX1_loadSet_34 (by decide) rfl ?_
          refine z_iinc ok dX1_loadSet_35 rfl (zinc _) (by decide) rfl ?_
          refine z_goto (tgt := 4) ok dX1_loadSet_38 (by decide) ?_
          exact ih (i + 1) _ (by omega) (by omega) (by rw [hy]; first | exact zOr_t hb | exact zOr_f hb)
        · have hb := Decidable.not_not.mp (mt b2_0.mpr cz23)
          refine z_iconst (v := 1) ok dX1_loadSet_26 (by decide) ?_
          refine z_iload_n ok dX1_loadSet_27 rfl ?_
          refine z_ishl ok dX1_loadSet_28 ?_
          refine z_goto (tgt := 33) ok dX1_loadSet_29 (by decide) ?_
          refine z_ior ok dX1_loadSet_33 ?_
          refine z_istore_n ok dX1_loadSet_34 (by decide) rfl ?_
          refine z_iinc ok dX1_loadSet_35 rfl (zinc _) (by decide) rfl ?_
          refine z_goto (tgt := 4) ok dX1_loadSet_38 (by decide) ?_
          exact ih (i + 1) _ (by omega) (by omega) (by rw [hy]; first | exact zOr_t hb | exact zOr_f hb)
  exact loop4 (n + 1) 0 _ (by omega) (by omega) rfl

set_option maxRecDepth 20000 in
set_option maxHeartbeats 4000000 in
theorem ct_X1_hallSet {K : zK} {M : mM} {nx : Nat} {b : Nat} {κ : hK} {π : Nat → Nat} (hm : hPicP M b κ π) {s : Nat → Int32} {n nv no : Nat} (hr : hRel κ s n nv no) (h0 : zS0 s n) : zCt K yX1_hallSet cX1_hallSet 3 zr_X1_hallSet 1 [.ref b] M nx 0 0 (zI (fun x M' => x = zHr s n ∧ M' = M)) := by
  refine z_enter [some (.ref b), none, none] (by decide +kernel) (Nat.le_of_ble_eq_true rfl) rfl (fun B ok hz => ?_)
  have hmd := hr.made
  have hn16 := hr.1.2.1
  refine z_iconst (v := 0) ok dX1_hallSet_0 (by decide) ?_
  refine z_istore_n ok dX1_hallSet_1 (by decide) rfl ?_
  refine z_iconst (v := 0) ok dX1_hallSet_2 (by decide) ?_
  refine z_istore_n ok dX1_hallSet_3 (by decide) rfl ?_
  have loop4 : ∀ (t i : Nat) (y : Int32), n < i + t → i ≤ n → y = zHr s i → zV 3 B (zE B (zI (fun x M' => x = zHr s n ∧ M' = M)) 0 0) 4 [some (.ref b), some (.int y), some (.int (nI i))] [] M 0 0 := by
    intro t
    induction t with
    | zero => intro i y h1 h2; exact absurd h1 (by omega)
    | succ t ih =>
      intro i y h1 h2 hy
      refine z_iload_n ok dX1_hallSet_4 rfl ?_
      refine z_aload_n ok dX1_hallSet_5 rfl ?_
      refine z_getf ok dX1_hallSet_6 zin_X1 rfl 4 (by decide) zw_192 hm.1 rfl ?_
      refine z_icmp_ge (tgt := 40) ok dX1_hallSet_9 (by decide) (fun cz9 => ?_) (fun cz9 => ?_)
      · have hin : i = n := by rw [hmd, nI_leI (by omega) (by omega)] at cz9; omega
        rw [hin] at hy
        refine z_iload_n ok dX1_hallSet_40 rfl ?_
        exact z_iret ok dX1_hallSet_41 rfl rfl rfl (Nat.zero_le _) ⟨hy, rfl⟩
      · have hin : i < n := by rw [hmd, nI_leI (by omega) (by omega)] at cz9; omega
        refine z_iload_n ok dX1_hallSet_12 rfl ?_
        refine z_aload_n ok dX1_hallSet_13 rfl ?_
        refine z_getf ok dX1_hallSet_14 zin_X1 rfl 0 (by decide) zw_186 hm.1 rfl ?_
        refine z_iload_n ok dX1_hallSet_17 rfl ?_
        refine h_ldC (j := i) ok dX1_hallSet_18 hm rfl (by omega) ?_
        refine z_callVi ok dX1_hallSet_19 zm_X0_isInHall zw_308 zi_X0_isInHall (hm.2.2.2.2.1 i (by omega)).1 rfl (ct_isHere2 hm hr h0 hin) rfl rfl (by decide) (by decide) (by decide) (Nat.le_of_ble_eq_true rfl) (fun xz1 Mz2 qz3 => ?_)
        obtain ⟨rfl, hMe⟩ := qz3
        obtain rfl := hMe.symm
        refine z_if_eq (tgt := 31) ok dX1_hallSet_22 (by decide) (fun cz22 => ?_) (fun cz22 => ?_)
        · have hb := b2_0.mp cz22
          refine z_iconst (v := 0) ok dX1_hallSet_31 (by decide) ?_
          refine z_ior ok dX1_hallSet_32 ?_
          refine z_istore_n ok dX1_hallSet_33 (by decide) rfl ?_
          refine z_iinc ok dX1_hallSet_34 rfl (zinc _) (by decide) rfl ?_
          refine z_goto (tgt := 4) ok dX1_hallSet_37 (by decide) ?_
          exact ih (i + 1) _ (by omega) (by omega) (by rw [hy]; first | exact zOr_t hb | exact zOr_f hb)
        · have hb := Decidable.not_not.mp (mt b2_0.mpr cz22)
          refine z_iconst (v := 1) ok dX1_hallSet_25 (by decide) ?_
          refine z_iload_n ok dX1_hallSet_26 rfl ?_
          refine z_ishl ok dX1_hallSet_27 ?_
          refine z_goto (tgt := 32) ok dX1_hallSet_28 (by decide) ?_
          refine z_ior ok dX1_hallSet_32 ?_
          refine z_istore_n ok dX1_hallSet_33 (by decide) rfl ?_
          refine z_iinc ok dX1_hallSet_34 rfl (zinc _) (by decide) rfl ?_
          refine z_goto (tgt := 4) ok dX1_hallSet_37 (by decide) ?_
          exact ih (i + 1) _ (by omega) (by omega) (by rw [hy]; first | exact zOr_t hb | exact zOr_f hb)
  exact loop4 (n + 1) 0 _ (by omega) (by omega) rfl

set_option maxRecDepth 20000 in
set_option maxHeartbeats 4000000 in
theorem ct_X1_howManyAre {K : zK} {M : mM} {nx : Nat} {b : Nat} {κ : hK} {π : Nat → Nat} (hm : hPicP M b κ π) {s : Nat → Int32} {n nv no : Nat} (hr : hRel κ s n nv no) {st : Int32} : zCt K yX1_howManyAre cX1_howManyAre 4 zr_X1_howManyAre 0 [.ref b, .int st] M nx 0 0 (zI (fun x M' => x = zSum (fun c => if gd s c 6 = st then 1 else 0) n ∧ M' = M)) := by
  refine z_enter [some (.ref b), some (.int st), none, none] (by decide +kernel) (Nat.le_of_ble_eq_true rfl) rfl (fun B ok hz => ?_)
  have hmd := hr.made
  have hn16 := hr.1.2.1
  refine z_iconst (v := 0) ok dX1_howManyAre_0 (by decide) ?_
  refine z_istore_n ok dX1_howManyAre_1 (by decide) rfl ?_
  refine z_iconst (v := 0) ok dX1_howManyAre_2 (by decide) ?_
  refine z_istore_n ok dX1_howManyAre_3 (by decide) rfl ?_
  have loop4 : ∀ (t i : Nat) (y : Int32), n < i + t → i ≤ n → y = zSum (fun c => if gd s c 6 = st then 1 else 0) i → zV 4 B (zE B (zI (fun x M' => x = zSum (fun c => if gd s c 6 = st then 1 else 0) n ∧ M' = M)) 0 0) 4 [some (.ref b), some (.int st), some (.int y), some (.int (nI i))] [] M 0 0 := by
    intro t
    induction t with
    | zero => intro i y h1 h2; exact absurd h1 (by omega)
    | succ t ih =>
      intro i y h1 h2 hy
      refine z_iload_n ok dX1_howManyAre_4 rfl ?_
      refine z_aload_n ok dX1_howManyAre_5 rfl ?_
      refine z_getf ok dX1_howManyAre_6 zin_X1 rfl 4 (by decide) zw_192 hm.1 rfl ?_
      refine z_icmp_ge (tgt := 39) ok dX1_howManyAre_9 (by decide) (fun cz9 => ?_) (fun cz9 => ?_)
      · have hin : i = n := by rw [hmd, nI_leI (by omega) (by omega)] at cz9; omega
        rw [hin] at hy
        refine z_iload_n ok dX1_howManyAre_39 rfl ?_
        exact z_iret ok dX1_howManyAre_40 rfl rfl rfl (Nat.zero_le _) ⟨hy, rfl⟩
      · have hin : i < n := by rw [hmd, nI_leI (by omega) (by omega)] at cz9; omega
        refine z_iload_n ok dX1_howManyAre_12 rfl ?_
        refine z_aload_n ok dX1_howManyAre_13 rfl ?_
        refine z_getf ok dX1_howManyAre_14 zin_X1 rfl 0 (by decide) zw_186 hm.1 rfl ?_
        refine z_iload_n ok dX1_howManyAre_17 rfl ?_
        refine h_ldC (j := i) ok dX1_howManyAre_18 hm rfl (by omega) ?_
        refine z_getf ok dX1_howManyAre_19 zin_X0 rfl 7 (by decide) zw_60 (hm.2.2.2.2.1 i (by omega)).1 rfl ?_
        refine z_iload_n ok dX1_howManyAre_22 rfl ?_
        refine z_icmp_ne (tgt := 30) ok dX1_howManyAre_23 (by decide) (fun cz23 => ?_) (fun cz23 => ?_)
        · have hb : ¬ gd s i 6 = st := by rw [← (hr.c hin).2.2.2.2.2.2.1]; exact cz23
          refine z_iconst (v := 0) ok dX1_howManyAre_30 (by decide) ?_
          refine z_iadd ok dX1_howManyAre_31 ?_
          refine z_istore_n ok dX1_howManyAre_32 (by decide) rfl ?_
          refine z_iinc ok dX1_howManyAre_33 rfl (zinc _) (by decide) rfl ?_
          refine z_goto (tgt := 4) ok dX1_howManyAre_36 (by decide) ?_
          exact ih (i + 1) _ (by omega) (by omega) (by rw [hy]; first | exact zSum_t hb | exact zSum_f hb)
        · have hb : gd s i 6 = st := by rw [← (hr.c hin).2.2.2.2.2.2.1]; exact cz23
          refine z_iconst (v := 1) ok dX1_howManyAre_26 (by decide) ?_
          refine z_goto (tgt := 31) ok dX1_howManyAre_27 (by decide) ?_
          refine z_iadd ok dX1_howManyAre_31 ?_
          refine z_istore_n ok dX1_howManyAre_32 (by decide) rfl ?_
          refine z_iinc ok dX1_howManyAre_33 rfl (zinc _) (by decide) rfl ?_
          refine z_goto (tgt := 4) ok dX1_howManyAre_36 (by decide) ?_
          exact ih (i + 1) _ (by omega) (by omega) (by rw [hy]; first | exact zSum_t hb | exact zSum_f hb)
  exact loop4 (n + 1) 0 _ (by omega) (by omega) rfl

set_option maxRecDepth 20000 in
set_option maxHeartbeats 4000000 in
theorem ct_X1_partsOf {K : zK} {M : mM} {nx : Nat} {b : Nat} {κ : hK} {π : Nat → Nat} (hm : hPicP M b κ π) {s : Nat → Int32} {n nv no : Nat} (hr : hRel κ s n nv no) {w : Int32} : zCt K yX1_partsOf cX1_partsOf 5 zr_X1_partsOf 0 [.ref b, .int w] M nx 0 0 (zI (fun x M' => x = zPt s n w ∧ M' = M)) := by
  refine z_enter [some (.ref b), some (.int w), none, none, none] (by decide +kernel) (Nat.le_of_ble_eq_true rfl) rfl (fun B ok hz => ?_)
  have hmd := hr.made
  have hn16 := hr.1.2.1
  refine z_iconst (v := 0) ok dX1_partsOf_0 (by decide) ?_
  refine z_istore_n ok dX1_partsOf_1 (by decide) rfl ?_
  refine z_iconst (v := 0) ok dX1_partsOf_2 (by decide) ?_
  refine z_istore_n ok dX1_partsOf_3 (by decide) rfl ?_
  have loop4 : ∀ (t i : Nat) (y : Int32) (vzq4 : Option Value), n < i + t → i ≤ n → y = zPt s i w → zV 5 B (zE B (zI (fun x M' => x = zPt s n w ∧ M' = M)) 0 0) 4 [some (.ref b), some (.int w), some (.int y), some (.int (nI i)), vzq4] [] M 0 0 := by
    intro t
    induction t with
    | zero => intro i y vzq4 h1 h2; exact absurd h1 (by omega)
    | succ t ih =>
      intro i y vzq4 h1 h2 hy
      refine z_iload_n ok dX1_partsOf_4 rfl ?_
      refine z_aload_n ok dX1_partsOf_5 rfl ?_
      refine z_getf ok dX1_partsOf_6 zin_X1 rfl 4 (by decide) zw_192 hm.1 rfl ?_
      refine z_icmp_ge (tgt := 66) ok dX1_partsOf_9 (by decide) (fun cz9 => ?_) (fun cz9 => ?_)
      · have hin : i = n := by rw [hmd, nI_leI (by omega) (by omega)] at cz9; omega
        rw [hin] at hy
        refine z_iload_n ok dX1_partsOf_66 rfl ?_
        exact z_iret ok dX1_partsOf_67 rfl rfl rfl (Nat.zero_le _) ⟨hy, rfl⟩
      · have hin : i < n := by rw [hmd, nI_leI (by omega) (by omega)] at cz9; omega
        refine z_aload_n ok dX1_partsOf_12 rfl ?_
        refine z_getf ok dX1_partsOf_13 zin_X1 rfl 0 (by decide) zw_186 hm.1 rfl ?_
        refine z_iload_n ok dX1_partsOf_16 rfl ?_
        refine h_ldC (j := i) ok dX1_partsOf_17 hm rfl (by omega) ?_
        refine z_getf ok dX1_partsOf_18 zin_X0 rfl 9 (by decide) zw_66 (hm.2.2.2.2.1 i (by omega)).1 rfl ?_
        refine z_iload_n ok dX1_partsOf_21 rfl ?_
        refine z_icmp_ne (tgt := 42) ok dX1_partsOf_22 (by decide) (fun cz22 => ?_) (fun cz22 => ?_)
        · have hb : ¬ (¬ gd s i 6 = 5 ∧ gd s i 9 = w) := by rw [← (hr.c hin).2.2.2.2.2.2.2.2.1]; exact fun z9 => cz22 z9.2
          refine z_iconst (v := 0) ok dX1_partsOf_42 (by decide) ?_
          refine z_istore ok dX1_partsOf_43 (by decide) rfl ?_
          refine z_iload_n ok dX1_partsOf_45 rfl ?_
          refine z_iload ok dX1_partsOf_46 rfl ?_
          refine z_if_eq (tgt := 57) ok dX1_partsOf_48 (by decide) (fun _ => ?_) (fun q9 => absurd (by decide) q9)
          refine z_iconst (v := 0) ok dX1_partsOf_57 (by decide) ?_
          refine z_ior ok dX1_partsOf_58 ?_
          refine z_istore_n ok dX1_partsOf_59 (by decide) rfl ?_
          refine z_iinc ok dX1_partsOf_60 rfl (zinc _) (by decide) rfl ?_
          refine z_goto (tgt := 4) ok dX1_partsOf_63 (by decide) ?_
          exact ih (i + 1) _ _ (by omega) (by omega) (by rw [hy]; first | exact zOr_t hb | exact zOr_f hb)
        · have hb0 : gd s i 9 = w := by rw [← (hr.c hin).2.2.2.2.2.2.2.2.1]; exact cz22
          refine z_aload_n ok dX1_partsOf_25 rfl ?_
          refine z_getf ok dX1_partsOf_26 zin_X1 rfl 0 (by decide) zw_186 hm.1 rfl ?_
          refine z_iload_n ok dX1_partsOf_29 rfl ?_
          refine h_ldC (j := i) ok dX1_partsOf_30 hm rfl (by omega) ?_
          refine z_getf ok dX1_partsOf_31 zin_X0 rfl 7 (by decide) zw_60 (hm.2.2.2.2.1 i (by omega)).1 rfl ?_
          refine z_iconst (v := 5) ok dX1_partsOf_34 (by decide) ?_
          refine z_icmp_eq (tgt := 42) ok dX1_partsOf_35 (by decide) (fun cz35 => ?_) (fun cz35 => ?_)
          · have hb : ¬ (¬ gd s i 6 = 5 ∧ gd s i 9 = w) := by rw [← (hr.c hin).2.2.2.2.2.2.1]; exact fun z9 => z9.1 cz35
            refine z_iconst (v := 0) ok dX1_partsOf_42 (by decide) ?_
            refine z_istore ok dX1_partsOf_43 (by decide) rfl ?_
            refine z_iload_n ok dX1_partsOf_45 rfl ?_
            refine z_iload ok dX1_partsOf_46 rfl ?_
            refine z_if_eq (tgt := 57) ok dX1_partsOf_48 (by decide) (fun _ => ?_) (fun q9 => absurd (by decide) q9)
            refine z_iconst (v := 0) ok dX1_partsOf_57 (by decide) ?_
            refine z_ior ok dX1_partsOf_58 ?_
            refine z_istore_n ok dX1_partsOf_59 (by decide) rfl ?_
            refine z_iinc ok dX1_partsOf_60 rfl (zinc _) (by decide) rfl ?_
            refine z_goto (tgt := 4) ok dX1_partsOf_63 (by decide) ?_
            exact ih (i + 1) _ _ (by omega) (by omega) (by rw [hy]; first | exact zOr_t hb | exact zOr_f hb)
          · have hb : ¬ gd s i 6 = 5 ∧ gd s i 9 = w := ⟨by rw [← (hr.c hin).2.2.2.2.2.2.1]; exact cz35, hb0⟩
            refine z_iconst (v := 1) ok dX1_partsOf_38 (by decide) ?_
            refine z_goto (tgt := 43) ok dX1_partsOf_39 (by decide) ?_
            refine z_istore ok dX1_partsOf_43 (by decide) rfl ?_
            refine z_iload_n ok dX1_partsOf_45 rfl ?_
            refine z_iload ok dX1_partsOf_46 rfl ?_
            refine z_if_eq (tgt := 57) ok dX1_partsOf_48 (by decide) (fun q9 => absurd q9 (by decide)) (fun _ => ?_)
            refine z_iconst (v := 1) ok dX1_partsOf_51 (by decide) ?_
            refine z_iload_n ok dX1_partsOf_52 rfl ?_
            refine z_ishl ok dX1_partsOf_53 ?_
            refine z_goto (tgt := 58) ok dX1_partsOf_54 (by decide) ?_
            refine z_ior ok dX1_partsOf_58 ?_
            refine z_istore_n ok dX1_partsOf_59 (by decide) rfl ?_
            refine z_iinc ok dX1_partsOf_60 rfl (zinc _) (by decide) rfl ?_
            refine z_goto (tgt := 4) ok dX1_partsOf_63 (by decide) ?_
            exact ih (i + 1) _ _ (by omega) (by omega) (by rw [hy]; first | exact zOr_t hb | exact zOr_f hb)
  exact loop4 (n + 1) 0 _ _ (by omega) (by omega) rfl


