set_option maxRecDepth 20000 in
set_option maxHeartbeats 4000000 in
theorem ct_X1_consignmentAt {K : zK} {M : mM} {nx : Nat} {b : Nat} {κ : hK} {π : Nat → Nat} (hm : hPicP M b κ π) {s : Nat → Int32} {n nv no : Nat} (hr : hRel κ s n nv no) {cq : Int32} : zCt K yX1_consignmentAt cX1_consignmentAt 2 zr_X1_consignmentAt 0 [.ref b, .int cq] M nx 0 0 (zA (fun vv M' => M' = M ∧ ((¬ zGoods s cq ∧ vv = .null) ∨ ∃ jz, jz < n ∧ cq = nI jz ∧ zGoods s cq ∧ vv = .ref (b + 5 + jz)))) := by
  refine z_enter [some (.ref b), some (.int cq)] (by decide +kernel) (Nat.le_of_ble_eq_true rfl) rfl (fun B ok hz => ?_)
  have hmd := hr.made
  have hn16 := hr.1.2.1
  refine z_iload_n ok dX1_consignmentAt_0 rfl ?_
  refine z_if_lt (tgt := 18) ok dX1_consignmentAt_1 (by decide) (fun cz1 => ?_) (fun cz1 => ?_)
  · have hng : ¬ zGoods s cq := fun z9 => z9.1 cz1
    refine z_null ok dX1_consignmentAt_18 ?_
    exact z_aret ok dX1_consignmentAt_19 rfl (Or.inl ⟨_, rfl⟩) (by first | exact Or.inl rfl | exact Or.inr ⟨_, rfl⟩) rfl (Nat.zero_le _) ⟨rfl, Or.inl ⟨hng, rfl⟩⟩
  · refine z_iload_n ok dX1_consignmentAt_4 rfl ?_
    refine z_aload_n ok dX1_consignmentAt_5 rfl ?_
    refine z_getf ok dX1_consignmentAt_6 zin_X1 rfl 4 (by decide) zw_192 hm.1 rfl ?_
    refine z_icmp_ge (tgt := 18) ok dX1_consignmentAt_9 (by decide) (fun cz9 => ?_) (fun cz9 => ?_)
    · have hng : ¬ zGoods s cq := fun z9 => z9.2.1 (by rw [← hr.2.1.1]; exact cz9)
      refine z_null ok dX1_consignmentAt_18 ?_
      exact z_aret ok dX1_consignmentAt_19 rfl (Or.inl ⟨_, rfl⟩) (by first | exact Or.inl rfl | exact Or.inr ⟨_, rfl⟩) rfl (Nat.zero_le _) ⟨rfl, Or.inl ⟨hng, rfl⟩⟩
    · obtain ⟨jz, hj31, hcz⟩ := nI_of cz1
      have hc9 : ¬ s 3 ≤ cq := by rw [← hr.2.1.1]; exact cz9
      have hjz : jz < n := by rw [hmd, hcz, nI_leI (by omega) (by omega)] at cz9; omega
      refine z_iload_n ok dX1_consignmentAt_12 rfl ?_
      refine z_bipush (v := 16) ok dX1_consignmentAt_13 (by decide) ?_
      refine z_icmp_lt (tgt := 20) ok dX1_consignmentAt_15 (by decide) (fun cz15 => ?_) (fun cz15 => ?_)
      · refine z_aload_n ok dX1_consignmentAt_20 rfl ?_
        refine z_getf ok dX1_consignmentAt_21 zin_X1 rfl 0 (by decide) zw_186 hm.1 rfl ?_
        refine z_iload_n ok dX1_consignmentAt_24 rfl ?_
        refine h_ldC (j := jz) ok dX1_consignmentAt_25 hm hcz (by omega) ?_
        refine z_getf ok dX1_consignmentAt_26 zin_X0 rfl 7 (by decide) zw_60 (hm.2.2.2.2.1 jz (by omega)).1 rfl ?_
        refine z_iconst (v := 5) ok dX1_consignmentAt_29 (by decide) ?_
        refine z_icmp_ne (tgt := 37) ok dX1_consignmentAt_30 (by decide) (fun cz30 => ?_) (fun cz30 => ?_)
        · have hgd : zGoods s cq := ⟨cz1, hc9, by rw [hcz, nI_clamp (by omega), ← (hr.c hjz).2.2.2.2.2.2.1]; exact cz30⟩
          refine z_aload_n ok dX1_consignmentAt_37 rfl ?_
          refine z_getf ok dX1_consignmentAt_38 zin_X1 rfl 0 (by decide) zw_186 hm.1 rfl ?_
          refine z_iload_n ok dX1_consignmentAt_41 rfl ?_
          refine h_ldC (j := jz) ok dX1_consignmentAt_42 hm hcz (by omega) ?_
          exact z_aret ok dX1_consignmentAt_43 rfl (Or.inl ⟨_, rfl⟩) (by first | exact Or.inl rfl | exact Or.inr ⟨_, rfl⟩) rfl (Nat.zero_le _) ⟨rfl, by first | exact Or.inl ⟨hng, rfl⟩ | exact Or.inr ⟨jz, hjz, hcz, hgd, rfl⟩⟩
        · have hng : ¬ zGoods s cq := fun z9 => z9.2.2 (by rw [hcz, nI_clamp (by omega), ← (hr.c hjz).2.2.2.2.2.2.1]; exact cz30)
          refine z_null ok dX1_consignmentAt_33 ?_
          refine z_goto (tgt := 43) ok dX1_consignmentAt_34 (by decide) ?_
          exact z_aret ok dX1_consignmentAt_43 rfl (Or.inl ⟨_, rfl⟩) (by first | exact Or.inl rfl | exact Or.inr ⟨_, rfl⟩) rfl (Nat.zero_le _) ⟨rfl, by first | exact Or.inl ⟨hng, rfl⟩ | exact Or.inr ⟨jz, hjz, hcz, hgd, rfl⟩⟩
      · exact absurd (by rw [hcz]; exact Int32.lt_iff_toInt_lt.mpr (by rw [nI_toInt (by omega)]; show ((jz : Nat) : Int) < 16; omega)) cz15

set_option maxRecDepth 20000 in
set_option maxHeartbeats 4000000 in
theorem ct_X1_vehicleAt {K : zK} {M : mM} {nx : Nat} {b : Nat} {κ : hK} {π : Nat → Nat} (hm : hPicP M b κ π) {s : Nat → Int32} {n nv no : Nat} (hr : hRel κ s n nv no) {vq : Int32} : zCt K yX1_vehicleAt cX1_vehicleAt 2 zr_X1_vehicleAt 0 [.ref b, .int vq] M nx 0 0 (zA (fun vv M' => M' = M ∧ ((¬ zVeh s vq ∧ vv = .null) ∨ ∃ jz, jz < nv ∧ vq = nI jz ∧ zVeh s vq ∧ vv = .ref (b + 21 + jz)))) := by
  refine z_enter [some (.ref b), some (.int vq)] (by decide +kernel) (Nat.le_of_ble_eq_true rfl) rfl (fun B ok hz => ?_)
  have hvd := hr.vehs
  have hn4 := hr.1.2.2.2.1
  refine z_iload_n ok dX1_vehicleAt_0 rfl ?_
  refine z_if_lt (tgt := 17) ok dX1_vehicleAt_1 (by decide) (fun cz1 => ?_) (fun cz1 => ?_)
  · have hng : ¬ zVeh s vq := fun z9 => z9.1 cz1
    refine z_null ok dX1_vehicleAt_17 ?_
    exact z_aret ok dX1_vehicleAt_18 rfl (Or.inl ⟨_, rfl⟩) (by first | exact Or.inl rfl | exact Or.inr ⟨_, rfl⟩) rfl (Nat.zero_le _) ⟨rfl, Or.inl ⟨hng, rfl⟩⟩
  · refine z_iload_n ok dX1_vehicleAt_4 rfl ?_
    refine z_aload_n ok dX1_vehicleAt_5 rfl ?_
    refine z_getf ok dX1_vehicleAt_6 zin_X1 rfl 5 (by decide) zw_194 hm.1 rfl ?_
    refine z_icmp_ge (tgt := 17) ok dX1_vehicleAt_9 (by decide) (fun cz9 => ?_) (fun cz9 => ?_)
    · have hng : ¬ zVeh s vq := fun z9 => z9.2 (by rw [← hr.2.1.2.1]; exact cz9)
      refine z_null ok dX1_vehicleAt_17 ?_
      exact z_aret ok dX1_vehicleAt_18 rfl (Or.inl ⟨_, rfl⟩) (by first | exact Or.inl rfl | exact Or.inr ⟨_, rfl⟩) rfl (Nat.zero_le _) ⟨rfl, Or.inl ⟨hng, rfl⟩⟩
    · obtain ⟨jz, hj31, hcz⟩ := nI_of cz1
      have hc9 : ¬ s 4 ≤ vq := by rw [← hr.2.1.2.1]; exact cz9
      have hjz : jz < nv := by rw [hvd, hcz, nI_leI (by omega) (by omega)] at cz9; omega
      refine z_iload_n ok dX1_vehicleAt_12 rfl ?_
      refine z_iconst (v := 4) ok dX1_vehicleAt_13 (by decide) ?_
      refine z_icmp_lt (tgt := 19) ok dX1_vehicleAt_14 (by decide) (fun cz14 => ?_) (fun cz14 => ?_)
      · refine z_aload_n ok dX1_vehicleAt_19 rfl ?_
        refine z_getf ok dX1_vehicleAt_20 zin_X1 rfl 1 (by decide) zw_187 hm.1 rfl ?_
        refine z_iload_n ok dX1_vehicleAt_23 rfl ?_
        refine h_ldV (j := jz) ok dX1_vehicleAt_24 hm hcz (by omega) ?_
        exact z_aret ok dX1_vehicleAt_25 rfl (Or.inl ⟨_, rfl⟩) (by first | exact Or.inl rfl | exact Or.inr ⟨_, rfl⟩) rfl (Nat.zero_le _) ⟨rfl, Or.inr ⟨jz, hjz, hcz, ⟨cz1, hc9⟩, rfl⟩⟩
      · exact absurd (by rw [hcz]; exact Int32.lt_iff_toInt_lt.mpr (by rw [nI_toInt (by omega)]; show ((jz : Nat) : Int) < 4; omega)) cz14


