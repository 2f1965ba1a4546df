set_option maxRecDepth 20000 in
set_option maxHeartbeats 4000000 in
theorem ct_X7_fills {K : zK} {M : mM} {nx : Nat} {m : Nat} {μ : zMS} (hm : mPic M m μ) {n nv no : Nat} (hN : zN (μ.1 1) n nv no) {v place rule : Int32} {iv : Nat} (hv : v = nI iv) (hiv : iv < nv) : zCt K yX7_fills cX7_fills 9 zr_X7_fills 5 [.ref m, .int v, .int place, .int rule] M nx 0 0 (zI (fun x M' => x = (zFill n iv place rule n (μ.1 1) 0 0).2 ∧ mPic M' m (mA μ 1 (zFill n iv place rule n (μ.1 1) 0 0).1) ∧ zFr M M' m 9)) := by
  refine z_enter [some (.ref m), some (.int v), some (.int place), some (.int rule), none, none, none, none, none] (by decide +kernel) (Nat.le_of_ble_eq_true rfl) rfl (fun B ok hz => ?_)
  have hn16 := hN.2.1
  have hnv4 := hN.2.2.2.1
  subst hv
  have loop9 : ∀ (t9 ff : Nat) (ss : Nat → Int32) (M1 : mM) (LL tt nx : Int32) (w7 w8 : Option Value), zUn LL n < t9 → zUn LL n ≤ ff → mPic M1 m (mA μ 1 ss) → zFr M M1 m 9 → zN ss n nv no → ¬ nx < 0 → zFill n iv place rule ff ss LL tt = zFill n iv place rule n (μ.1 1) 0 0 → zV 9 B (zE B (zI (fun x M' => x = (zFill n iv place rule n (μ.1 1) 0 0).2 ∧ mPic M' m (mA μ 1 (zFill n iv place rule n (μ.1 1) 0 0).1) ∧ zFr M M' m 9)) 0 0) 9 [some (.ref m), some (.int (nI iv)), some (.int place), some (.int rule), some (.int LL), some (.int tt), some (.int nx), w7, w8] [] M1 0 0 := by
    intro t9
    induction t9 with
    | zero => intro ff ss M1 LL tt nx w7 w8 h1 h2; exact absurd h1 (by omega)
    | succ t9 ih9 =>
      intro ff ss M1 LL tt nx w7 w8 h1 h2 hm1 hf1 hN0 hnx hEq
      have hN1 : zN ((mA μ 1 ss).1 1) n nv no := by rw [mA_s]; exact hN0
      refine z_iload ok dX7_fills_9 rfl ?_
      refine z_if_lt (tgt := 160) ok dX7_fills_11 (by decide) (fun q9 => absurd q9 hnx) (fun _ => ?_)
      refine z_ldc ok dX7_fills_14 zw_836 ?_
      refine z_istore ok dX7_fills_16 (by decide) rfl ?_
      refine z_iconst (v := 0) ok dX7_fills_18 (by decide) ?_
      refine z_istore ok dX7_fills_19 (by decide) rfl ?_
      have loop21 : ∀ (t i : Nat) (y : Int32) (w8 : Option Value), n < i + t → i ≤ n → y = o2i (zPick ss LL place rule i) → zV 9 B (zE B (zI (fun x M' => x = (zFill n iv place rule n (μ.1 1) 0 0).2 ∧ mPic M' m (mA μ 1 (zFill n iv place rule n (μ.1 1) 0 0).1) ∧ zFr M M' m 9)) 0 0) 21 [some (.ref m), some (.int (nI iv)), some (.int place), some (.int rule), some (.int LL), some (.int tt), some (.int y), some (.int (nI i)), w8] [] M1 0 0 := by
        intro t
        induction t with
        | zero => intro i y w8 h1 h2; exact absurd h1 (by omega)
        | succ t ih =>
          intro i y w8 h1 h2 hy
          refine z_iload ok dX7_fills_21 rfl ?_
          refine z_aload_n ok dX7_fills_23 rfl ?_
          refine z_getf ok dX7_fills_24 zin_X7 rfl 0 (by decide) zw_771 hm1.1 rfl ?_
          refine z_iconst (v := 3) ok dX7_fills_27 (by decide) ?_
          refine m_ald1 ok dX7_fills_28 hm1 rfl (by decide) ?_
          refine z_icmp_ge (tgt := 117) ok dX7_fills_29 (by decide) (fun cz29 => ?_) (fun cz29 => ?_)
          · have hin : i = n := by rw [mA_s, hN0.1, nI_leI (by omega) (by omega)] at cz29; omega
            rw [hin] at hy
            refine z_iload ok dX7_fills_117 rfl ?_
            refine z_if_lt (tgt := 9) ok dX7_fills_119 (by decide) (fun cz119 => ?_) (fun cz119 => ?_)
            · have hpk : zPick ss LL place rule n = none := o2i_none (fun k9 h9 => by have := (zPick_some h9).1; omega) (by rw [← hy]; exact cz119)
              refine z_iload ok dX7_fills_9 rfl ?_
              refine z_if_lt (tgt := 160) ok dX7_fills_11 (by decide) (fun _ => ?_) (fun q9 => absurd cz119 q9)
              refine z_iload ok dX7_fills_160 rfl ?_
              exact z_iret ok dX7_fills_162 rfl rfl rfl (Nat.zero_le _) ⟨by rw [← hEq, zFill_none hpk], by rw [← hEq, zFill_none hpk]; exact hm1, hf1⟩
            · obtain ⟨kk9, hpk⟩ := o2i_some (o := zPick ss LL place rule n) (by rw [← hy]; exact cz119)
              have hkp := zPick_some hpk
              have hkn : kk9 < n := hkp.1
              have hyk : y = nI kk9 := by rw [hy, hpk]; rfl
              subst hyk
              have hUn := zUn_set (L := LL) (c := kk9) (by omega) hkp.2.2.2.2 n hkn (by omega)
              obtain ⟨ff2, rfl⟩ : ∃ z, ff = z + 1 := ⟨ff - 1, by omega⟩
              refine z_iload ok dX7_fills_122 rfl ?_
              refine z_iconst (v := 1) ok dX7_fills_124 (by decide) ?_
              refine z_iload ok dX7_fills_125 rfl ?_
              refine z_ishl ok dX7_fills_127 ?_
              refine z_ior ok dX7_fills_128 ?_
              refine z_istore ok dX7_fills_129 (by decide) rfl ?_
              refine z_aload_n ok dX7_fills_131 rfl ?_
              refine z_iload ok dX7_fills_132 rfl ?_
              refine z_iload_n ok dX7_fills_134 rfl ?_
              refine z_callVi ok dX7_fills_135 zm_X7_canLoad zw_870 zi_X7_canLoad hm1.1 rfl (ct_X7_canLoad hm1 hN1 rfl hkn rfl hiv) rfl rfl (by decide) (by decide) (by decide) (Nat.le_of_ble_eq_true rfl) (fun xz1 Mz2 qz3 => ?_)
              obtain ⟨rfl, hMe⟩ := qz3
              obtain rfl := hMe.symm
              refine z_if_eq (tgt := 9) ok dX7_fills_138 (by decide) (fun cz138 => ?_) (fun cz138 => ?_)
              · have hb := b2_0.mp cz138
                rw [mA_s] at hb
                first | exact ih9 ff2 _ _ _ _ _ _ _ (by show zUn (LL ||| zbit kk9) n < t9; omega) (by show zUn (LL ||| zbit kk9) n ≤ ff2; omega) hm1 (by assumption) hN0 (nI_pos (by omega)) (by rw [← hEq, zFill_not hpk hb]; rfl) | exact ih9 ff2 _ _ _ _ _ _ _ (by show zUn (LL ||| zbit kk9) n < t9; omega) (by show zUn (LL ||| zbit kk9) n ≤ ff2; omega) hm1 (hf1.tr (by assumption)) (zN_pg (zN_pg hN0)) (nI_pos (by omega)) (by rw [← hEq, zFill_can hpk hb]; rfl)
              · have hb := Decidable.not_not.mp (mt b2_0.mpr cz138)
                rw [mA_s] at hb
                refine z_aload_n ok dX7_fills_141 rfl ?_
                refine z_iload ok dX7_fills_142 rfl ?_
                refine z_iload_n ok dX7_fills_144 rfl ?_
                refine z_callVv ok dX7_fills_145 zm_X7_loads zw_890 zi_X7_loads hm1.1 rfl (ct_X7_loads hm1 hN1 rfl hkn) rfl rfl (by decide) (by decide) (by decide) (Nat.le_of_ble_eq_true rfl) (fun Mz5 qz6 => ?_)
                obtain ⟨hm7, fzxz4⟩ := qz6
                try simp only [mA_s, mA_mA] at hm7
                refine z_iload ok dX7_fills_148 rfl ?_
                refine z_iconst (v := 1) ok dX7_fills_150 (by decide) ?_
                refine z_iload ok dX7_fills_151 rfl ?_
                refine z_ishl ok dX7_fills_153 ?_
                refine z_ior ok dX7_fills_154 ?_
                refine z_istore ok dX7_fills_155 (by decide) rfl ?_
                refine z_goto (tgt := 9) ok dX7_fills_157 (by decide) ?_
                first | exact ih9 ff2 _ _ _ _ _ _ _ (by show zUn (LL ||| zbit kk9) n < t9; omega) (by show zUn (LL ||| zbit kk9) n ≤ ff2; omega) hm7 (by assumption) hN0 (nI_pos (by omega)) (by rw [← hEq, zFill_not hpk hb]; rfl) | exact ih9 ff2 _ _ _ _ _ _ _ (by show zUn (LL ||| zbit kk9) n < t9; omega) (by show zUn (LL ||| zbit kk9) n ≤ ff2; omega) hm7 (hf1.tr (by assumption)) (zN_pg (zN_pg hN0)) (nI_pos (by omega)) (by rw [← hEq, zFill_can hpk hb]; rfl)
          · have hin : i < n := by rw [mA_s, hN0.1, nI_leI (by omega) (by omega)] at cz29; omega
            have J78 : ∀ x0 : Int32, x0 = b2 (zMay ss LL place i) → zV 9 B (zE B (zI (fun x M' => x = (zFill n iv place rule n (μ.1 1) 0 0).2 ∧ mPic M' m (mA μ 1 (zFill n iv place rule n (μ.1 1) 0 0).1) ∧ zFr M M' m 9)) 0 0) 78 [some (.ref m), some (.int (nI iv)), some (.int place), some (.int rule), some (.int LL), some (.int tt), some (.int y), some (.int (nI i)), w8] [.int x0] M1 0 0 := by
              intro x0 hx0
              subst hx0
              refine z_istore ok dX7_fills_78 (by decide) rfl ?_
              refine z_iload ok dX7_fills_80 rfl ?_
              refine z_if_eq (tgt := 107) ok dX7_fills_82 (by decide) (fun cz82 => ?_) (fun cz82 => ?_)
              · have hb := b2_0.mp cz82
                refine z_iload ok dX7_fills_107 rfl ?_
                refine z_istore ok dX7_fills_109 (by decide) rfl ?_
                refine z_iinc ok dX7_fills_111 rfl (zinc _) (by decide) rfl ?_
                refine z_goto (tgt := 21) ok dX7_fills_114 (by decide) ?_
                exact ih (i + 1) _ _ (by omega) (by omega) (by first | (rw [← zPick_keep hb]; exact hy) | (rw [zPick_first hb hpk]; rfl) | (rw [zPick_new hb hpk (Decidable.not_not.mp (mt b2_0.mpr cz99))]; rfl) | (rw [← zPick_old hpk (b2_0.mp cz99)]; exact hy))
              · have hb := Decidable.not_not.mp (mt b2_0.mpr cz82)
                refine z_iload ok dX7_fills_85 rfl ?_
                refine z_if_lt (tgt := 102) ok dX7_fills_87 (by decide) (fun cz87 => ?_) (fun cz87 => ?_)
                · have hpk : zPick ss LL place rule i = none := o2i_none (fun k9 h9 => by have := (zPick_some h9).1; omega) (by rw [← hy]; exact cz87)
                  refine z_iload ok dX7_fills_102 rfl ?_
                  refine z_goto (tgt := 109) ok dX7_fills_104 (by decide) ?_
                  refine z_istore ok dX7_fills_109 (by decide) rfl ?_
                  refine z_iinc ok dX7_fills_111 rfl (zinc _) (by decide) rfl ?_
                  refine z_goto (tgt := 21) ok dX7_fills_114 (by decide) ?_
                  exact ih (i + 1) _ _ (by omega) (by omega) (by first | (rw [← zPick_keep hb]; exact hy) | (rw [zPick_first hb hpk]; rfl) | (rw [zPick_new hb hpk (Decidable.not_not.mp (mt b2_0.mpr cz99))]; rfl) | (rw [← zPick_old hpk (b2_0.mp cz99)]; exact hy))
                · obtain ⟨kk9, hpk⟩ := o2i_some (o := zPick ss LL place rule i) (by rw [← hy]; exact cz87)
                  have hkn : kk9 < n := by have := (zPick_some hpk).1; omega
                  have hyk : y = nI kk9 := by rw [hy, hpk]; rfl
                  subst hyk
                  refine z_aload_n ok dX7_fills_90 rfl ?_
                  refine z_iload ok dX7_fills_91 rfl ?_
                  refine z_iload ok dX7_fills_93 rfl ?_
                  refine z_iload_n ok dX7_fills_95 rfl ?_
                  refine z_callVi ok dX7_fills_96 zm_X7_isAhead zw_906 zi_X7_isAhead hm1.1 rfl (ct_X7_isAhead hm1 hN1 rfl hin rfl hkn) rfl rfl (by decide) (by decide) (by decide) (Nat.le_of_ble_eq_true rfl) (fun xz8 Mz9 qz10 => ?_)
                  obtain ⟨rfl, hMe⟩ := qz10
                  obtain rfl := hMe.symm
                  refine z_if_eq (tgt := 107) ok dX7_fills_99 (by decide) (fun cz99 => ?_) (fun cz99 => ?_)
                  · refine z_iload ok dX7_fills_107 rfl ?_
                    refine z_istore ok dX7_fills_109 (by decide) rfl ?_
                    refine z_iinc ok dX7_fills_111 rfl (zinc _) (by decide) rfl ?_
                    refine z_goto (tgt := 21) ok dX7_fills_114 (by decide) ?_
                    exact ih (i + 1) _ _ (by omega) (by omega) (by first | (rw [← zPick_keep hb]; exact hy) | (rw [zPick_first hb hpk]; rfl) | (rw [zPick_new hb hpk (Decidable.not_not.mp (mt b2_0.mpr cz99))]; rfl) | (rw [← zPick_old hpk (b2_0.mp cz99)]; exact hy))
                  · refine z_iload ok dX7_fills_102 rfl ?_
                    refine z_goto (tgt := 109) ok dX7_fills_104 (by decide) ?_
                    refine z_istore ok dX7_fills_109 (by decide) rfl ?_
                    refine z_iinc ok dX7_fills_111 rfl (zinc _) (by decide) rfl ?_
                    refine z_goto (tgt := 21) ok dX7_fills_114 (by decide) ?_
                    exact ih (i + 1) _ _ (by omega) (by omega) (by first | (rw [← zPick_keep hb]; exact hy) | (rw [zPick_first hb hpk]; rfl) | (rw [zPick_new hb hpk (Decidable.not_not.mp (mt b2_0.mpr cz99))]; rfl) | (rw [← zPick_old hpk (b2_0.mp cz99)]; exact hy))
            refine z_aload_n ok dX7_fills_32 rfl ?_
            refine z_iload ok dX7_fills_33 rfl ?_
            refine z_callVi ok dX7_fills_35 zm_X7_isGoods zw_841 zi_X7_isGoods hm1.1 rfl (ct_X7_isGoods hm1 hN1) rfl rfl (by decide) (by decide) (by decide) (Nat.le_of_ble_eq_true rfl) (fun xz11 Mz12 qz13 => ?_)
            obtain ⟨rfl, hMe⟩ := qz13
            obtain rfl := hMe.symm
            refine z_if_eq (tgt := 77) ok dX7_fills_38 (by decide) (fun cz38 => ?_) (fun cz38 => ?_)
            · have hG := (zGoods_of hN1 hin)
              have hG2 := b2_0.mp cz38
              refine z_iconst (v := 0) ok dX7_fills_77 (by decide) ?_
              first | exact J78 _ (b2_t (by try simp only [mA_s] at *; grind)) | exact J78 _ (b2_f (by try simp only [mA_s] at *; grind))
            · have hG := (zGoods_of hN1 hin)
              have hG2 := Decidable.not_not.mp (mt b2_0.mpr cz38)
              refine z_aload_n ok dX7_fills_41 rfl ?_
              refine z_iload ok dX7_fills_42 rfl ?_
              refine z_bipush (v := 6) ok dX7_fills_44 (by decide) ?_
              refine z_callVi ok dX7_fills_46 zm_X7_of zw_845 zi_X7_of hm1.1 rfl (ct_X7_of hm1 (i := i) (k := 6) rfl rfl (by omega)) rfl rfl (by decide) (by decide) (by decide) (Nat.le_of_ble_eq_true rfl) (fun xz14 Mz15 qz16 => ?_)
              obtain ⟨rfl, hMe⟩ := qz16
              obtain rfl := hMe.symm
              refine z_if_ne (tgt := 77) ok dX7_fills_49 (by decide) (fun cz49 => ?_) (fun cz49 => ?_)
              · refine z_iconst (v := 0) ok dX7_fills_77 (by decide) ?_
                first | exact J78 _ (b2_t (by try simp only [mA_s] at *; grind)) | exact J78 _ (b2_f (by try simp only [mA_s] at *; grind))
              · refine z_aload_n ok dX7_fills_52 rfl ?_
                refine z_iload ok dX7_fills_53 rfl ?_
                refine z_iconst (v := 0) ok dX7_fills_55 (by decide) ?_
                refine z_callVi ok dX7_fills_56 zm_X7_of zw_845 zi_X7_of hm1.1 rfl (ct_X7_of hm1 (i := i) (k := 0) rfl rfl (by omega)) rfl rfl (by decide) (by decide) (by decide) (Nat.le_of_ble_eq_true rfl) (fun xz17 Mz18 qz19 => ?_)
                obtain ⟨rfl, hMe⟩ := qz19
                obtain rfl := hMe.symm
                refine z_iload_n ok dX7_fills_59 rfl ?_
                refine z_icmp_ne (tgt := 77) ok dX7_fills_60 (by decide) (fun cz60 => ?_) (fun cz60 => ?_)
                · refine z_iconst (v := 0) ok dX7_fills_77 (by decide) ?_
                  first | exact J78 _ (b2_t (by try simp only [mA_s] at *; grind)) | exact J78 _ (b2_f (by try simp only [mA_s] at *; grind))
                · refine z_iload ok dX7_fills_63 rfl ?_
                  refine z_iload ok dX7_fills_65 rfl ?_
                  refine z_ishr ok dX7_fills_67 ?_
                  refine z_iconst (v := 1) ok dX7_fills_68 (by decide) ?_
                  refine z_iand ok dX7_fills_69 ?_
                  refine z_if_ne (tgt := 77) ok dX7_fills_70 (by decide) (fun cz70 => ?_) (fun cz70 => ?_)
                  · refine z_iconst (v := 0) ok dX7_fills_77 (by decide) ?_
                    first | exact J78 _ (b2_t (by try simp only [mA_s] at *; grind)) | exact J78 _ (b2_f (by try simp only [mA_s] at *; grind))
                  · refine z_iconst (v := 1) ok dX7_fills_73 (by decide) ?_
                    refine z_goto (tgt := 78) ok dX7_fills_74 (by decide) ?_
                    first | exact J78 _ (b2_t (by try simp only [mA_s] at *; grind)) | exact J78 _ (b2_f (by try simp only [mA_s] at *; grind))
      exact loop21 (n + 1) 0 _ _ (by omega) (by omega) rfl
  refine z_iconst (v := 0) ok dX7_fills_0 (by decide) ?_
  refine z_istore ok dX7_fills_1 (by decide) rfl ?_
  refine z_iconst (v := 0) ok dX7_fills_3 (by decide) ?_
  refine z_istore ok dX7_fills_4 (by decide) rfl ?_
  refine z_iconst (v := 0) ok dX7_fills_6 (by decide) ?_
  refine z_istore ok dX7_fills_7 (by decide) rfl ?_
  exact loop9 (n + 1) n (μ.1 1) M 0 0 0 none none (by rw [zUn_0 n (by omega)]; omega) (by rw [zUn_0 n (by omega)]; omega) (mPic.self1 hm) zFr.rf hN (by decide) rfl

