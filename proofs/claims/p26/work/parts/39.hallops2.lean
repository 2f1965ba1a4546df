set_option maxRecDepth 20000 in
set_option maxHeartbeats 4000000 in
theorem ct_X1_makeOffer {K : zK} {M : mM} {nx : Nat} {b : Nat} {κ : hK} {π : Nat → Nat} (hm : hPicP M b κ π) {s : Nat → Int32} {n nv no : Nat} (hr : hRel κ s n nv no) {p1 r w pr h : Int32} : zCt K yX1_makeOffer cX1_makeOffer 7 zr_X1_makeOffer 1 [.ref b, .int p1, .int r, .int w, .int pr, .int h] M nx 0 0 (zI (kPost M b (spOffer s no p1 r w pr h))) := by
  refine z_enter [some (.ref b), some (.int p1), some (.int r), some (.int w), some (.int pr), some (.int h), none] (by decide +kernel) (Nat.le_of_ble_eq_true rfl) rfl (fun B ok hz => ?_)
  have hof := hr.offs
  have hn10 := hr.1.2.2.2.2.2
  refine z_iload_n ok dX1_makeOffer_0 rfl ?_
  refine z_iconst (v := 1) ok dX1_makeOffer_1 (by decide) ?_
  refine z_iconst (v := 4) ok dX1_makeOffer_2 (by decide) ?_
  refine z_callSNi ok dX1_makeOffer_3 zm_X6_isWithin (fun _ h => h.2.2.2.2.2.2.1) zw_296 (ct_X6_isWithin) rfl rfl (by decide) (by decide) (by decide) (Nat.le_of_ble_eq_true rfl) (fun xz1 Mz2 qz3 => ?_)
  obtain ⟨rfl, hMe⟩ := qz3
  obtain rfl := hMe.symm
  refine z_if_eq (tgt := 52) ok dX1_makeOffer_6 (by decide) (fun cz6 => ?_) (fun cz6 => ?_)
  · have hb6 := b2_0.mp cz6
    refine z_ldc ok dX1_makeOffer_52 zw_406 ?_
    exact z_iret ok dX1_makeOffer_54 rfl rfl rfl (Nat.zero_le _) (kPost_e (by unfold spOffer; first | rw [if_neg (fun z9 => hb6 z9.1)] | rw [if_neg (fun z9 => hb16 z9.2.1)] | rw [if_neg (fun z9 => hb26 z9.2.2.1)] | rw [if_neg (fun z9 => hb38 z9.2.2.2.1)] | rw [if_neg (fun z9 => hb49 z9.2.2.2.2)]))
  · have hb6 := Decidable.not_not.mp (mt b2_0.mpr cz6)
    refine z_iload_n ok dX1_makeOffer_9 rfl ?_
    refine z_iconst (v := 1) ok dX1_makeOffer_10 (by decide) ?_
    refine z_bipush (v := 99) ok dX1_makeOffer_11 (by decide) ?_
    refine z_callSNi ok dX1_makeOffer_13 zm_X6_isWithin (fun _ h => h.2.2.2.2.2.2.1) zw_296 (ct_X6_isWithin) rfl rfl (by decide) (by decide) (by decide) (Nat.le_of_ble_eq_true rfl) (fun xz4 Mz5 qz6 => ?_)
    obtain ⟨rfl, hMe⟩ := qz6
    obtain rfl := hMe.symm
    refine z_if_eq (tgt := 52) ok dX1_makeOffer_16 (by decide) (fun cz16 => ?_) (fun cz16 => ?_)
    · have hb16 := b2_0.mp cz16
      refine z_ldc ok dX1_makeOffer_52 zw_406 ?_
      exact z_iret ok dX1_makeOffer_54 rfl rfl rfl (Nat.zero_le _) (kPost_e (by unfold spOffer; first | rw [if_neg (fun z9 => hb6 z9.1)] | rw [if_neg (fun z9 => hb16 z9.2.1)] | rw [if_neg (fun z9 => hb26 z9.2.2.1)] | rw [if_neg (fun z9 => hb38 z9.2.2.2.1)] | rw [if_neg (fun z9 => hb49 z9.2.2.2.2)]))
    · have hb16 := Decidable.not_not.mp (mt b2_0.mpr cz16)
      refine z_iload_n ok dX1_makeOffer_19 rfl ?_
      refine z_iconst (v := 1) ok dX1_makeOffer_20 (by decide) ?_
      refine z_bipush (v := 99) ok dX1_makeOffer_21 (by decide) ?_
      refine z_callSNi ok dX1_makeOffer_23 zm_X6_isWithin (fun _ h => h.2.2.2.2.2.2.1) zw_296 (ct_X6_isWithin) rfl rfl (by decide) (by decide) (by decide) (Nat.le_of_ble_eq_true rfl) (fun xz7 Mz8 qz9 => ?_)
      obtain ⟨rfl, hMe⟩ := qz9
      obtain rfl := hMe.symm
      refine z_if_eq (tgt := 52) ok dX1_makeOffer_26 (by decide) (fun cz26 => ?_) (fun cz26 => ?_)
      · have hb26 := b2_0.mp cz26
        refine z_ldc ok dX1_makeOffer_52 zw_406 ?_
        exact z_iret ok dX1_makeOffer_54 rfl rfl rfl (Nat.zero_le _) (kPost_e (by unfold spOffer; first | rw [if_neg (fun z9 => hb6 z9.1)] | rw [if_neg (fun z9 => hb16 z9.2.1)] | rw [if_neg (fun z9 => hb26 z9.2.2.1)] | rw [if_neg (fun z9 => hb38 z9.2.2.2.1)] | rw [if_neg (fun z9 => hb49 z9.2.2.2.2)]))
      · have hb26 := Decidable.not_not.mp (mt b2_0.mpr cz26)
        refine z_iload ok dX1_makeOffer_29 rfl ?_
        refine z_iconst (v := 0) ok dX1_makeOffer_31 (by decide) ?_
        refine z_sipush (v := 999) ok dX1_makeOffer_32 (by decide) ?_
        refine z_callSNi ok dX1_makeOffer_35 zm_X6_isWithin (fun _ h => h.2.2.2.2.2.2.1) zw_296 (ct_X6_isWithin) rfl rfl (by decide) (by decide) (by decide) (Nat.le_of_ble_eq_true rfl) (fun xz10 Mz11 qz12 => ?_)
        obtain ⟨rfl, hMe⟩ := qz12
        obtain rfl := hMe.symm
        refine z_if_eq (tgt := 52) ok dX1_makeOffer_38 (by decide) (fun cz38 => ?_) (fun cz38 => ?_)
        · have hb38 := b2_0.mp cz38
          refine z_ldc ok dX1_makeOffer_52 zw_406 ?_
          exact z_iret ok dX1_makeOffer_54 rfl rfl rfl (Nat.zero_le _) (kPost_e (by unfold spOffer; first | rw [if_neg (fun z9 => hb6 z9.1)] | rw [if_neg (fun z9 => hb16 z9.2.1)] | rw [if_neg (fun z9 => hb26 z9.2.2.1)] | rw [if_neg (fun z9 => hb38 z9.2.2.2.1)] | rw [if_neg (fun z9 => hb49 z9.2.2.2.2)]))
        · have hb38 := Decidable.not_not.mp (mt b2_0.mpr cz38)
          refine z_iload ok dX1_makeOffer_41 rfl ?_
          refine z_iconst (v := 0) ok dX1_makeOffer_43 (by decide) ?_
          refine z_bipush (v := 99) ok dX1_makeOffer_44 (by decide) ?_
          refine z_callSNi ok dX1_makeOffer_46 zm_X6_isWithin (fun _ h => h.2.2.2.2.2.2.1) zw_296 (ct_X6_isWithin) rfl rfl (by decide) (by decide) (by decide) (Nat.le_of_ble_eq_true rfl) (fun xz13 Mz14 qz15 => ?_)
          obtain ⟨rfl, hMe⟩ := qz15
          obtain rfl := hMe.symm
          refine z_if_ne (tgt := 55) ok dX1_makeOffer_49 (by decide) (fun cz49 => ?_) (fun cz49 => ?_)
          · have hb49 := Decidable.not_not.mp (mt b2_0.mpr cz49)
            refine z_aload_n ok dX1_makeOffer_55 rfl ?_
            refine z_getf ok dX1_makeOffer_56 zin_X1 rfl 6 (by decide) zw_196 hm.1 rfl ?_
            refine z_bipush (v := 10) ok dX1_makeOffer_59 (by decide) ?_
            refine z_icmp_lt (tgt := 67) ok dX1_makeOffer_61 (by decide) (fun cz61 => ?_) (fun cz61 => ?_)
            · have hcap : no < 10 := by rw [hof] at cz61; have h9 := Int32.lt_iff_toInt_lt.mp cz61; rw [nI_toInt (by omega)] at h9; have e4 : (10 : Int32).toInt = 10 := rfl; omega
              refine z_aload_n ok dX1_makeOffer_67 rfl ?_
              refine z_getf ok dX1_makeOffer_68 zin_X1 rfl 2 (by decide) zw_188 hm.1 rfl ?_
              refine z_aload_n ok dX1_makeOffer_71 rfl ?_
              refine z_getf ok dX1_makeOffer_72 zin_X1 rfl 6 (by decide) zw_196 hm.1 rfl ?_
              refine h_ldO (j := no) ok dX1_makeOffer_75 hm hof (by omega) ?_
              refine z_astore ok dX1_makeOffer_76 (by decide) rfl ?_
              refine z_aload ok dX1_makeOffer_78 rfl ?_
              refine z_iload_n ok dX1_makeOffer_80 rfl ?_
              refine h_putO0 ok dX1_makeOffer_81 zw_161 hm (by omega) (fun Mz17 hm16 frz18 => ?_)
              refine z_aload ok dX1_makeOffer_84 rfl ?_
              refine z_iload_n ok dX1_makeOffer_86 rfl ?_
              refine h_putO1 ok dX1_makeOffer_87 zw_164 hm16 (by omega) (fun Mz20 hm19 frz21 => ?_)
              refine z_aload ok dX1_makeOffer_90 rfl ?_
              refine z_iload_n ok dX1_makeOffer_92 rfl ?_
              refine h_putO2 ok dX1_makeOffer_93 zw_167 hm19 (by omega) (fun Mz23 hm22 frz24 => ?_)
              refine z_aload ok dX1_makeOffer_96 rfl ?_
              refine z_iload ok dX1_makeOffer_98 rfl ?_
              refine h_putO3 ok dX1_makeOffer_100 zw_170 hm22 (by omega) (fun Mz26 hm25 frz27 => ?_)
              refine z_aload ok dX1_makeOffer_103 rfl ?_
              refine z_aload_n ok dX1_makeOffer_105 rfl ?_
              refine z_getf ok dX1_makeOffer_106 zin_X1 rfl 7 (by decide) zw_198 hm25.1 rfl ?_
              refine z_iload ok dX1_makeOffer_109 rfl ?_
              refine z_iadd ok dX1_makeOffer_111 ?_
              refine h_putO4 ok dX1_makeOffer_112 zw_173 hm25 (by omega) (fun Mz29 hm28 frz30 => ?_)
              refine z_aload_n ok dX1_makeOffer_115 rfl ?_
              refine z_dup ok dX1_makeOffer_116 rfl ?_
              refine z_getf ok dX1_makeOffer_117 zin_X1 rfl 6 (by decide) zw_196 hm28.1 rfl ?_
              refine z_iconst (v := 1) ok dX1_makeOffer_120 (by decide) ?_
              refine z_iadd ok dX1_makeOffer_121 ?_
              refine h_putH6 ok dX1_makeOffer_122 zw_196 hm28 (fun Mz32 hm31 frz33 => ?_)
              have hr2 : hRel (kU (kU (kU (kU (kU (kU κ 2 no 0 p1) 2 no 1 r) 2 no 2 w) 2 no 3 pr) 2 no 4 (κ 4 0 7 + h)) 4 0 6 (κ 4 0 6 + 1)) (zOf s no p1 r w pr h) n nv (no + 1) := by
                refine hr.addO hcap (fun a9 j9 h9 h8 => by rw [kU_o (by omega), kU_o (by omega), kU_o (by omega), kU_o (by omega), kU_o (by omega), kU_o (by omega)]) ?_ (fun q9 h9 h8 => ?_) ?_ (fun k9 hk9 => ?_)
                · rw [kU_u, kU_a (show (4 : Nat) ≠ 2 by decide), kU_a (show (4 : Nat) ≠ 2 by decide), kU_a (show (4 : Nat) ≠ 2 by decide), kU_a (show (4 : Nat) ≠ 2 by decide), kU_a (show (4 : Nat) ≠ 2 by decide), hof, nI_1]
                · simp only [zOf]
                  rw [upd_n _ _ h9]
                  iterate 5 rw [upd_n _ _ (by omega)]
                · simp only [zOf]
                  rw [upd_s]
                  iterate 5 rw [upd_n _ _ (by omega)]
                  rw [hr.1.2.2.2.2.1, nI_1]
                · rw [kU_a (show (2 : Nat) ≠ 4 by decide), kU_u, kU_u, kU_u, kU_u, kU_u, hr.tm]
                  unfold od
                  simp only [zOf]
                  rcases (by omega : k9 = 0 ∨ k9 = 1 ∨ k9 = 2 ∨ k9 = 3 ∨ k9 = 4) with h9 | h9 | h9 | h9 | h9 <;> rw [h9] <;> simp [upd] <;> first | (intros; omega) | (repeat rw [if_neg (by omega)])
              have hso : zOf s no p1 r w pr h 6 = κ 4 0 6 + 1 := by
                simp only [zOf]
                rw [upd_s]
                iterate 5 rw [upd_n _ _ (by omega)]
                rw [hr.2.1.2.2.1]
              refine z_aload_n ok dX1_makeOffer_125 rfl ?_
              refine z_getf ok dX1_makeOffer_126 zin_X1 rfl 6 (by decide) zw_196 hm31.1 rfl ?_
              exact z_iret ok dX1_makeOffer_129 rfl rfl rfl (Nat.zero_le _) (kPost_ok hm31 hr2 (by repeat (first | assumption | exact zFr.rf | refine zFr.tr (by assumption) ?_)) (by unfold spOffer; rw [if_pos ⟨hb6, hb16, hb26, hb38, hb49⟩, if_neg (by omega), hso]; rfl))
            · have hcap : no = 10 := by rw [hof] at cz61; have h9 := mt Int32.lt_iff_toInt_lt.mpr cz61; rw [nI_toInt (by omega)] at h9; have e4 : (10 : Int32).toInt = 10 := rfl; omega
              refine z_ldc ok dX1_makeOffer_64 zw_370 ?_
              exact z_iret ok dX1_makeOffer_66 rfl rfl rfl (Nat.zero_le _) (kPost_e (by unfold spOffer; rw [if_pos ⟨hb6, hb16, hb26, hb38, hb49⟩, if_pos hcap]))
          · have hb49 := b2_0.mp cz49
            refine z_ldc ok dX1_makeOffer_52 zw_406 ?_
            exact z_iret ok dX1_makeOffer_54 rfl rfl rfl (Nat.zero_le _) (kPost_e (by unfold spOffer; first | rw [if_neg (fun z9 => hb6 z9.1)] | rw [if_neg (fun z9 => hb16 z9.2.1)] | rw [if_neg (fun z9 => hb26 z9.2.2.1)] | rw [if_neg (fun z9 => hb38 z9.2.2.2.1)] | rw [if_neg (fun z9 => hb49 z9.2.2.2.2)]))


