theorem zV_up {nL : Nat} {B : zB} {Q : State → Prop} {pc : Nat} {L : List (Option Value)} {stk : List Value} {M : mM} {k n a : Nat} {e : mE} (h : ∀ M1 : mM, M1 a = some e → (∀ q, q ≠ a → M1 q = M q) → zV nL B Q pc L stk M1 k n) : zV nL B Q pc L stk (mU M a e) k n := h _ mU_s (fun _ hq => mU_n hq)
def zM0 : zMS := (fun k => if k = 1 then upd (upd (upd (fun _ => 0) 0 3) 1 8) 2 1 else fun _ => 0, fun _ => 0)
set_option maxRecDepth 20000 in
set_option maxHeartbeats 4000000 in
theorem ct_X7_init {K : zK} {M : mM} {m : Nat} (hself : M m = some (.inr (7, [.null, .null, .null, .null, .int 0, .int 0, .null, .int 0, .null, .null, .int 0, .int 0, .int 0, .null]))) : zCt K yX7_init cX7_init 1 zr_X7_init 1 [.ref m] M (m + 1) 8 2108 (zU (fun M' => mPic M' m zM0 ∧ zFr M M' m 9)) := by
  refine z_enter [some (.ref m)] (by decide +kernel) (Nat.le_of_ble_eq_true rfl) rfl (fun B ok hz => ?_)
  refine z_aload_n ok dX7_init_0 rfl ?_
  refine z_objInit ok dX7_init_1 zw_763 zw_59 zw_60 (by decide) (Nat.le_of_ble_eq_true rfl) ?_
  refine z_aload_n ok dX7_init_4 rfl ?_
  refine z_sipush (v := 287) ok dX7_init_5 (by decide) ?_
  refine z_newI (a := m + 1) ok dX7_init_8 zw_143 (by decide) rfl (by decide) (by decide) (by decide) (by omega) ?_
  refine zV_up (fun Mu1 he1 hu1 => ?_)
  have hf1 : Mu1 (m + 1) = some (.inl (0, 287, .inl (fun _ => 0))) := he1
  have hc2 := ((hu1 _ (by omega)).trans hself)
  refine z_putF (T := TX7) (N := 14) (ty := tyX7 0) ok dX7_init_10 zin_X7 tyX7 tyX7_ok nmX7 rfl 0 (by decide) zw_771 rfl rfl rfl hc2 (by decide +kernel) rfl rfl (Nat.le_of_ble_eq_true rfl) ?_
  refine zV_up (fun Mu3 he3 hu3 => ?_)
  have hf3 : Mu3 (m) = some (.inr (7, [.ref (m + 1), .null, .null, .null, .int 0, .int 0, .null, .int 0, .null, .null, .int 0, .int 0, .int 0, .null])) := he3
  refine z_aload_n ok dX7_init_13 rfl ?_
  refine z_sipush (v := 1148) ok dX7_init_14 (by decide) ?_
  refine z_newI (a := m + 1 + 1) ok dX7_init_17 zw_143 (by decide) rfl (by decide) (by decide) (by decide) (by omega) ?_
  refine zV_up (fun Mu4 he4 hu4 => ?_)
  have hf4 : Mu4 (m + 1 + 1) = some (.inl (0, 1148, .inl (fun _ => 0))) := he4
  have hc5 := ((hu4 _ (by omega)).trans hf3)
  refine z_putF (T := TX7) (N := 14) (ty := tyX7 1) ok dX7_init_19 zin_X7 tyX7 tyX7_ok nmX7 rfl 1 (by decide) zw_772 rfl rfl rfl hc5 (by decide +kernel) rfl rfl (Nat.le_of_ble_eq_true rfl) ?_
  refine zV_up (fun Mu6 he6 hu6 => ?_)
  have hf6 : Mu6 (m) = some (.inr (7, [.ref (m + 1), .ref (m + 1 + 1), .null, .null, .int 0, .int 0, .null, .int 0, .null, .null, .int 0, .int 0, .int 0, .null])) := he6
  refine z_aload_n ok dX7_init_22 rfl ?_
  refine z_sipush (v := 287) ok dX7_init_23 (by decide) ?_
  refine z_newI (a := m + 1 + 2) ok dX7_init_26 zw_143 (by decide) rfl (by decide) (by decide) (by decide) (by omega) ?_
  refine zV_up (fun Mu7 he7 hu7 => ?_)
  have hf7 : Mu7 (m + 1 + 2) = some (.inl (0, 287, .inl (fun _ => 0))) := he7
  have hc8 := ((hu7 _ (by omega)).trans hf6)
  refine z_putF (T := TX7) (N := 14) (ty := tyX7 2) ok dX7_init_28 zin_X7 tyX7 tyX7_ok nmX7 rfl 2 (by decide) zw_773 rfl rfl rfl hc8 (by decide +kernel) rfl rfl (Nat.le_of_ble_eq_true rfl) ?_
  refine zV_up (fun Mu9 he9 hu9 => ?_)
  have hf9 : Mu9 (m) = some (.inr (7, [.ref (m + 1), .ref (m + 1 + 1), .ref (m + 1 + 2), .null, .int 0, .int 0, .null, .int 0, .null, .null, .int 0, .int 0, .int 0, .null])) := he9
  refine z_aload_n ok dX7_init_31 rfl ?_
  refine z_sipush (v := 287) ok dX7_init_32 (by decide) ?_
  refine z_newI (a := m + 1 + 3) ok dX7_init_35 zw_143 (by decide) rfl (by decide) (by decide) (by decide) (by omega) ?_
  refine zV_up (fun Mu10 he10 hu10 => ?_)
  have hf10 : Mu10 (m + 1 + 3) = some (.inl (0, 287, .inl (fun _ => 0))) := he10
  have hc11 := ((hu10 _ (by omega)).trans hf9)
  refine z_putF (T := TX7) (N := 14) (ty := tyX7 3) ok dX7_init_37 zin_X7 tyX7 tyX7_ok nmX7 rfl 3 (by decide) zw_774 rfl rfl rfl hc11 (by decide +kernel) rfl rfl (Nat.le_of_ble_eq_true rfl) ?_
  refine zV_up (fun Mu12 he12 hu12 => ?_)
  have hf12 : Mu12 (m) = some (.inr (7, [.ref (m + 1), .ref (m + 1 + 1), .ref (m + 1 + 2), .ref (m + 1 + 3), .int 0, .int 0, .null, .int 0, .null, .null, .int 0, .int 0, .int 0, .null])) := he12
  refine z_aload_n ok dX7_init_40 rfl ?_
  refine z_bipush (v := 80) ok dX7_init_41 (by decide) ?_
  refine z_newI (a := m + 1 + 4) ok dX7_init_43 zw_143 (by decide) rfl (by decide) (by decide) (by decide) (by omega) ?_
  refine zV_up (fun Mu13 he13 hu13 => ?_)
  have hf13 : Mu13 (m + 1 + 4) = some (.inl (0, 80, .inl (fun _ => 0))) := he13
  have hc14 := ((hu13 _ (by omega)).trans hf12)
  refine z_putF (T := TX7) (N := 14) (ty := tyX7 6) ok dX7_init_45 zin_X7 tyX7 tyX7_ok nmX7 rfl 6 (by decide) zw_777 rfl rfl rfl hc14 (by decide +kernel) rfl rfl (Nat.le_of_ble_eq_true rfl) ?_
  refine zV_up (fun Mu15 he15 hu15 => ?_)
  have hf15 : Mu15 (m) = some (.inr (7, [.ref (m + 1), .ref (m + 1 + 1), .ref (m + 1 + 2), .ref (m + 1 + 3), .int 0, .int 0, .ref (m + 1 + 4), .int 0, .null, .null, .int 0, .int 0, .int 0, .null])) := he15
  refine z_aload_n ok dX7_init_48 rfl ?_
  refine z_bipush (v := 7) ok dX7_init_49 (by decide) ?_
  refine z_newL (a := m + 1 + 5) ok dX7_init_51 zw_814 (by decide) rfl (by decide) (by decide) (by decide) (by omega) ?_
  refine zV_up (fun Mu16 he16 hu16 => ?_)
  have hf16 : Mu16 (m + 1 + 5) = some (.inl (1, 7, .inr (.inl (fun _ => 0)))) := he16
  have hc17 := ((hu16 _ (by omega)).trans hf15)
  refine z_putF (T := TX7) (N := 14) (ty := tyX7 8) ok dX7_init_53 zin_X7 tyX7 tyX7_ok nmX7 rfl 8 (by decide) zw_779 rfl rfl rfl hc17 (by decide +kernel) rfl rfl (Nat.le_of_ble_eq_true rfl) ?_
  refine zV_up (fun Mu18 he18 hu18 => ?_)
  have hf18 : Mu18 (m) = some (.inr (7, [.ref (m + 1), .ref (m + 1 + 1), .ref (m + 1 + 2), .ref (m + 1 + 3), .int 0, .int 0, .ref (m + 1 + 4), .int 0, .ref (m + 1 + 5), .null, .int 0, .int 0, .int 0, .null])) := he18
  refine z_aload_n ok dX7_init_56 rfl ?_
  refine z_bipush (v := 7) ok dX7_init_57 (by decide) ?_
  refine z_newI (a := m + 1 + 6) ok dX7_init_59 zw_143 (by decide) rfl (by decide) (by decide) (by decide) (by omega) ?_
  refine zV_up (fun Mu19 he19 hu19 => ?_)
  have hf19 : Mu19 (m + 1 + 6) = some (.inl (0, 7, .inl (fun _ => 0))) := he19
  have hc20 := ((hu19 _ (by omega)).trans hf18)
  refine z_putF (T := TX7) (N := 14) (ty := tyX7 9) ok dX7_init_61 zin_X7 tyX7 tyX7_ok nmX7 rfl 9 (by decide) zw_780 rfl rfl rfl hc20 (by decide +kernel) rfl rfl (Nat.le_of_ble_eq_true rfl) ?_
  refine zV_up (fun Mu21 he21 hu21 => ?_)
  have hf21 : Mu21 (m) = some (.inr (7, [.ref (m + 1), .ref (m + 1 + 1), .ref (m + 1 + 2), .ref (m + 1 + 3), .int 0, .int 0, .ref (m + 1 + 4), .int 0, .ref (m + 1 + 5), .ref (m + 1 + 6), .int 0, .int 0, .int 0, .null])) := he21
  refine z_aload_n ok dX7_init_64 rfl ?_
  refine z_iconst (v := 5) ok dX7_init_65 (by decide) ?_
  refine z_newI (a := m + 1 + 7) ok dX7_init_66 zw_143 (by decide) rfl (by decide) (by decide) (by decide) (by omega) ?_
  refine zV_up (fun Mu22 he22 hu22 => ?_)
  have hf22 : Mu22 (m + 1 + 7) = some (.inl (0, 5, .inl (fun _ => 0))) := he22
  have hc23 := ((hu22 _ (by omega)).trans hf21)
  refine z_putF (T := TX7) (N := 14) (ty := tyX7 13) ok dX7_init_68 zin_X7 tyX7 tyX7_ok nmX7 rfl 13 (by decide) zw_784 rfl rfl rfl hc23 (by decide +kernel) rfl rfl (Nat.le_of_ble_eq_true rfl) ?_
  refine zV_up (fun Mu24 he24 hu24 => ?_)
  have hf24 : Mu24 (m) = some (.inr (7, [.ref (m + 1), .ref (m + 1 + 1), .ref (m + 1 + 2), .ref (m + 1 + 3), .int 0, .int 0, .ref (m + 1 + 4), .int 0, .ref (m + 1 + 5), .ref (m + 1 + 6), .int 0, .int 0, .int 0, .ref (m + 1 + 7)])) := he24
  refine z_aload_n ok dX7_init_71 rfl ?_
  refine z_getf ok dX7_init_72 zin_X7 rfl 0 (by decide) zw_771 hf24 rfl ?_
  refine z_iconst (v := 0) ok dX7_init_75 (by decide) ?_
  refine z_iconst (v := 3) ok dX7_init_76 (by decide) ?_
  have hc25 := ((hu24 _ (by omega)).trans ((hu22 _ (by omega)).trans ((hu21 _ (by omega)).trans ((hu19 _ (by omega)).trans ((hu18 _ (by omega)).trans ((hu16 _ (by omega)).trans ((hu15 _ (by omega)).trans ((hu13 _ (by omega)).trans ((hu12 _ (by omega)).trans ((hu10 _ (by omega)).trans ((hu9 _ (by omega)).trans ((hu7 _ (by omega)).trans ((hu6 _ (by omega)).trans ((hu4 _ (by omega)).trans ((hu3 _ (by omega)).trans hf1)))))))))))))))
  refine z_iastore ok dX7_init_77 hc25 (by unfold vp_in; decide) ?_
  refine zV_up (fun Mu26 he26 hu26 => ?_)
  have hf26 : Mu26 (m + 1) = some (.inl (0, 287, .inl (upd (fun _ => 0) 0 (3)))) := he26
  refine z_aload_n ok dX7_init_78 rfl ?_
  have hc27 := ((hu26 _ (by omega)).trans hf24)
  refine z_getf ok dX7_init_79 zin_X7 rfl 0 (by decide) zw_771 hc27 rfl ?_
  refine z_iconst (v := 1) ok dX7_init_82 (by decide) ?_
  refine z_bipush (v := 8) ok dX7_init_83 (by decide) ?_
  refine z_iastore ok dX7_init_85 hf26 (by unfold vp_in; decide) ?_
  refine zV_up (fun Mu28 he28 hu28 => ?_)
  have hf28 : Mu28 (m + 1) = some (.inl (0, 287, .inl (upd (upd (fun _ => 0) 0 (3)) 1 (8)))) := he28
  refine z_aload_n ok dX7_init_86 rfl ?_
  have hc29 := ((hu28 _ (by omega)).trans hc27)
  refine z_getf ok dX7_init_87 zin_X7 rfl 0 (by decide) zw_771 hc29 rfl ?_
  refine z_iconst (v := 2) ok dX7_init_90 (by decide) ?_
  refine z_iconst (v := 1) ok dX7_init_91 (by decide) ?_
  refine z_iastore ok dX7_init_92 hf28 (by unfold vp_in; decide) ?_
  refine zV_up (fun Mu30 he30 hu30 => ?_)
  have hf30 : Mu30 (m + 1) = some (.inl (0, 287, .inl (upd (upd (upd (fun _ => 0) 0 (3)) 1 (8)) 2 (1)))) := he30
  refine z_aload_n ok dX7_init_93 rfl ?_
  have hc31 := ((hu30 _ (by omega)).trans hc29)
  refine z_getf ok dX7_init_94 zin_X7 rfl 8 (by decide) zw_779 hc31 rfl ?_
  refine z_iconst (v := 0) ok dX7_init_97 (by decide) ?_
  refine z_ldc2 ok dX7_init_98 zw_764 ?_
  have hc32 := ((hu30 _ (by omega)).trans ((hu28 _ (by omega)).trans ((hu26 _ (by omega)).trans ((hu24 _ (by omega)).trans ((hu22 _ (by omega)).trans ((hu21 _ (by omega)).trans ((hu19 _ (by omega)).trans ((hu18 _ (by omega)).trans hf16))))))))
  refine z_lastore ok dX7_init_101 hc32 (by unfold vp_in; decide) ?_
  refine zV_up (fun Mu33 he33 hu33 => ?_)
  have hf33 : Mu33 (m + 1 + 5) = some (.inl (1, 7, .inr (.inl (vp_updL (fun _ => 0) 0 (1819238756))))) := he33
  refine z_aload_n ok dX7_init_102 rfl ?_
  have hc34 := ((hu33 _ (by omega)).trans hc31)
  refine z_getf ok dX7_init_103 zin_X7 rfl 8 (by decide) zw_779 hc34 rfl ?_
  refine z_iconst (v := 1) ok dX7_init_106 (by decide) ?_
  refine z_ldc2 ok dX7_init_107 zw_765 ?_
  refine z_lastore ok dX7_init_110 hf33 (by unfold vp_in; decide) ?_
  refine zV_up (fun Mu35 he35 hu35 => ?_)
  have hf35 : Mu35 (m + 1 + 5) = some (.inl (1, 7, .inr (.inl (vp_updL (vp_updL (fun _ => 0) 0 (1819238756)) 1 (1718185068))))) := he35
  refine z_aload_n ok dX7_init_111 rfl ?_
  have hc36 := ((hu35 _ (by omega)).trans hc34)
  refine z_getf ok dX7_init_112 zin_X7 rfl 8 (by decide) zw_779 hc36 rfl ?_
  refine z_iconst (v := 2) ok dX7_init_115 (by decide) ?_
  refine z_ldc2 ok dX7_init_116 zw_766 ?_
  refine z_lastore ok dX7_init_119 hf35 (by unfold vp_in; decide) ?_
  refine zV_up (fun Mu37 he37 hu37 => ?_)
  have hf37 : Mu37 (m + 1 + 5) = some (.inl (1, 7, .inr (.inl (vp_updL (vp_updL (vp_updL (fun _ => 0) 0 (1819238756)) 1 (1718185068)) 2 (26479))))) := he37
  refine z_aload_n ok dX7_init_120 rfl ?_
  have hc38 := ((hu37 _ (by omega)).trans hc36)
  refine z_getf ok dX7_init_121 zin_X7 rfl 8 (by decide) zw_779 hc38 rfl ?_
  refine z_iconst (v := 3) ok dX7_init_124 (by decide) ?_
  refine z_ldc2 ok dX7_init_125 zw_767 ?_
  refine z_lastore ok dX7_init_128 hf37 (by unfold vp_in; decide) ?_
  refine zV_up (fun Mu39 he39 hu39 => ?_)
  have hf39 : Mu39 (m + 1 + 5) = some (.inl (1, 7, .inr (.inl (vp_updL (vp_updL (vp_updL (vp_updL (fun _ => 0) 0 (1819238756)) 1 (1718185068)) 2 (26479)) 3 (495807392116))))) := he39
  refine z_aload_n ok dX7_init_129 rfl ?_
  have hc40 := ((hu39 _ (by omega)).trans hc38)
  refine z_getf ok dX7_init_130 zin_X7 rfl 8 (by decide) zw_779 hc40 rfl ?_
  refine z_iconst (v := 4) ok dX7_init_133 (by decide) ?_
  refine z_ldc2 ok dX7_init_134 zw_768 ?_
  refine z_lastore ok dX7_init_137 hf39 (by unfold vp_in; decide) ?_
  refine zV_up (fun Mu41 he41 hu41 => ?_)
  have hf41 : Mu41 (m + 1 + 5) = some (.inl (1, 7, .inr (.inl (vp_updL (vp_updL (vp_updL (vp_updL (vp_updL (fun _ => 0) 0 (1819238756)) 1 (1718185068)) 2 (26479)) 3 (495807392116)) 4 (1785686382))))) := he41
  refine z_aload_n ok dX7_init_138 rfl ?_
  have hc42 := ((hu41 _ (by omega)).trans hc40)
  refine z_getf ok dX7_init_139 zin_X7 rfl 8 (by decide) zw_779 hc42 rfl ?_
  refine z_iconst (v := 5) ok dX7_init_142 (by decide) ?_
  refine z_ldc2 ok dX7_init_143 zw_769 ?_
  refine z_lastore ok dX7_init_146 hf41 (by unfold vp_in; decide) ?_
  refine zV_up (fun Mu43 he43 hu43 => ?_)
  have hf43 : Mu43 (m + 1 + 5) = some (.inl (1, 7, .inr (.inl (vp_updL (vp_updL (vp_updL (vp_updL (vp_updL (vp_updL (fun _ => 0) 0 (1819238756)) 1 (1718185068)) 2 (26479)) 3 (495807392116)) 4 (1785686382)) 5 (478459356530))))) := he43
  refine z_aload_n ok dX7_init_147 rfl ?_
  have hc44 := ((hu43 _ (by omega)).trans hc42)
  refine z_getf ok dX7_init_148 zin_X7 rfl 8 (by decide) zw_779 hc44 rfl ?_
  refine z_bipush (v := 6) ok dX7_init_151 (by decide) ?_
  refine z_ldc2 ok dX7_init_153 zw_770 ?_
  refine z_lastore ok dX7_init_156 hf43 (by unfold vp_in; decide) ?_
  refine zV_up (fun Mu45 he45 hu45 => ?_)
  have hf45 : Mu45 (m + 1 + 5) = some (.inl (1, 7, .inr (.inl (vp_updL (vp_updL (vp_updL (vp_updL (vp_updL (vp_updL (vp_updL (fun _ => 0) 0 (1819238756)) 1 (1718185068)) 2 (26479)) 3 (495807392116)) 4 (1785686382)) 5 (478459356530)) 6 (1885434739))))) := he45
  refine z_aload_n ok dX7_init_157 rfl ?_
  have hc46 := ((hu45 _ (by omega)).trans hc44)
  refine z_getf ok dX7_init_158 zin_X7 rfl 9 (by decide) zw_780 hc46 rfl ?_
  refine z_iconst (v := 0) ok dX7_init_161 (by decide) ?_
  refine z_iconst (v := 2) ok dX7_init_162 (by decide) ?_
  have hc47 := ((hu45 _ (by omega)).trans ((hu43 _ (by omega)).trans ((hu41 _ (by omega)).trans ((hu39 _ (by omega)).trans ((hu37 _ (by omega)).trans ((hu35 _ (by omega)).trans ((hu33 _ (by omega)).trans ((hu30 _ (by omega)).trans ((hu28 _ (by omega)).trans ((hu26 _ (by omega)).trans ((hu24 _ (by omega)).trans ((hu22 _ (by omega)).trans ((hu21 _ (by omega)).trans hf19)))))))))))))
  refine z_iastore ok dX7_init_163 hc47 (by unfold vp_in; decide) ?_
  refine zV_up (fun Mu48 he48 hu48 => ?_)
  have hf48 : Mu48 (m + 1 + 6) = some (.inl (0, 7, .inl (upd (fun _ => 0) 0 (2)))) := he48
  refine z_aload_n ok dX7_init_164 rfl ?_
  have hc49 := ((hu48 _ (by omega)).trans hc46)
  refine z_getf ok dX7_init_165 zin_X7 rfl 9 (by decide) zw_780 hc49 rfl ?_
  refine z_iconst (v := 1) ok dX7_init_168 (by decide) ?_
  refine z_iconst (v := 3) ok dX7_init_169 (by decide) ?_
  refine z_iastore ok dX7_init_170 hf48 (by unfold vp_in; decide) ?_
  refine zV_up (fun Mu50 he50 hu50 => ?_)
  have hf50 : Mu50 (m + 1 + 6) = some (.inl (0, 7, .inl (upd (upd (fun _ => 0) 0 (2)) 1 (3)))) := he50
  refine z_aload_n ok dX7_init_171 rfl ?_
  have hc51 := ((hu50 _ (by omega)).trans hc49)
  refine z_getf ok dX7_init_172 zin_X7 rfl 9 (by decide) zw_780 hc51 rfl ?_
  refine z_iconst (v := 2) ok dX7_init_175 (by decide) ?_
  refine z_iconst (v := 1) ok dX7_init_176 (by decide) ?_
  refine z_iastore ok dX7_init_177 hf50 (by unfold vp_in; decide) ?_
  refine zV_up (fun Mu52 he52 hu52 => ?_)
  have hf52 : Mu52 (m + 1 + 6) = some (.inl (0, 7, .inl (upd (upd (upd (fun _ => 0) 0 (2)) 1 (3)) 2 (1)))) := he52
  refine z_aload_n ok dX7_init_178 rfl ?_
  have hc53 := ((hu52 _ (by omega)).trans hc51)
  refine z_getf ok dX7_init_179 zin_X7 rfl 9 (by decide) zw_780 hc53 rfl ?_
  refine z_iconst (v := 3) ok dX7_init_182 (by decide) ?_
  refine z_iconst (v := 3) ok dX7_init_183 (by decide) ?_
  refine z_iastore ok dX7_init_184 hf52 (by unfold vp_in; decide) ?_
  refine zV_up (fun Mu54 he54 hu54 => ?_)
  have hf54 : Mu54 (m + 1 + 6) = some (.inl (0, 7, .inl (upd (upd (upd (upd (fun _ => 0) 0 (2)) 1 (3)) 2 (1)) 3 (3)))) := he54
  refine z_aload_n ok dX7_init_185 rfl ?_
  have hc55 := ((hu54 _ (by omega)).trans hc53)
  refine z_getf ok dX7_init_186 zin_X7 rfl 9 (by decide) zw_780 hc55 rfl ?_
  refine z_iconst (v := 4) ok dX7_init_189 (by decide) ?_
  refine z_iconst (v := 2) ok dX7_init_190 (by decide) ?_
  refine z_iastore ok dX7_init_191 hf54 (by unfold vp_in; decide) ?_
  refine zV_up (fun Mu56 he56 hu56 => ?_)
  have hf56 : Mu56 (m + 1 + 6) = some (.inl (0, 7, .inl (upd (upd (upd (upd (upd (fun _ => 0) 0 (2)) 1 (3)) 2 (1)) 3 (3)) 4 (2)))) := he56
  refine z_aload_n ok dX7_init_192 rfl ?_
  have hc57 := ((hu56 _ (by omega)).trans hc55)
  refine z_getf ok dX7_init_193 zin_X7 rfl 9 (by decide) zw_780 hc57 rfl ?_
  refine z_iconst (v := 5) ok dX7_init_196 (by decide) ?_
  refine z_iconst (v := 5) ok dX7_init_197 (by decide) ?_
  refine z_iastore ok dX7_init_198 hf56 (by unfold vp_in; decide) ?_
  refine zV_up (fun Mu58 he58 hu58 => ?_)
  have hf58 : Mu58 (m + 1 + 6) = some (.inl (0, 7, .inl (upd (upd (upd (upd (upd (upd (fun _ => 0) 0 (2)) 1 (3)) 2 (1)) 3 (3)) 4 (2)) 5 (5)))) := he58
  refine z_aload_n ok dX7_init_199 rfl ?_
  have hc59 := ((hu58 _ (by omega)).trans hc57)
  refine z_getf ok dX7_init_200 zin_X7 rfl 9 (by decide) zw_780 hc59 rfl ?_
  refine z_bipush (v := 6) ok dX7_init_203 (by decide) ?_
  refine z_iconst (v := 1) ok dX7_init_205 (by decide) ?_
  refine z_iastore ok dX7_init_206 hf58 (by unfold vp_in; decide) ?_
  refine zV_up (fun Mu60 he60 hu60 => ?_)
  have hf60 : Mu60 (m + 1 + 6) = some (.inl (0, 7, .inl (upd (upd (upd (upd (upd (upd (upd (fun _ => 0) 0 (2)) 1 (3)) 2 (1)) 3 (3)) 4 (2)) 5 (5)) 6 (1)))) := he60
  exact z_vret ok dX7_init_207 rfl rfl (Nat.le_refl _) ⟨⟨((hu60 _ (by omega)).trans hc59), ⟨_, ((hu60 _ (by omega)).trans ((hu58 _ (by omega)).trans ((hu56 _ (by omega)).trans ((hu54 _ (by omega)).trans ((hu52 _ (by omega)).trans ((hu50 _ (by omega)).trans ((hu48 _ (by omega)).trans ((hu45 _ (by omega)).trans ((hu43 _ (by omega)).trans ((hu41 _ (by omega)).trans ((hu39 _ (by omega)).trans ((hu37 _ (by omega)).trans ((hu35 _ (by omega)).trans ((hu33 _ (by omega)).trans hf30)))))))))))))), fun _ _ => rfl⟩, ⟨_, ((hu60 _ (by omega)).trans ((hu58 _ (by omega)).trans ((hu56 _ (by omega)).trans ((hu54 _ (by omega)).trans ((hu52 _ (by omega)).trans ((hu50 _ (by omega)).trans ((hu48 _ (by omega)).trans ((hu45 _ (by omega)).trans ((hu43 _ (by omega)).trans ((hu41 _ (by omega)).trans ((hu39 _ (by omega)).trans ((hu37 _ (by omega)).trans ((hu35 _ (by omega)).trans ((hu33 _ (by omega)).trans ((hu30 _ (by omega)).trans ((hu28 _ (by omega)).trans ((hu26 _ (by omega)).trans ((hu24 _ (by omega)).trans ((hu22 _ (by omega)).trans ((hu21 _ (by omega)).trans ((hu19 _ (by omega)).trans ((hu18 _ (by omega)).trans ((hu16 _ (by omega)).trans ((hu15 _ (by omega)).trans ((hu13 _ (by omega)).trans ((hu12 _ (by omega)).trans ((hu10 _ (by omega)).trans ((hu9 _ (by omega)).trans ((hu7 _ (by omega)).trans ((hu6 _ (by omega)).trans hf4)))))))))))))))))))))))))))))), fun _ _ => rfl⟩, ⟨_, ((hu60 _ (by omega)).trans ((hu58 _ (by omega)).trans ((hu56 _ (by omega)).trans ((hu54 _ (by omega)).trans ((hu52 _ (by omega)).trans ((hu50 _ (by omega)).trans ((hu48 _ (by omega)).trans ((hu45 _ (by omega)).trans ((hu43 _ (by omega)).trans ((hu41 _ (by omega)).trans ((hu39 _ (by omega)).trans ((hu37 _ (by omega)).trans ((hu35 _ (by omega)).trans ((hu33 _ (by omega)).trans ((hu30 _ (by omega)).trans ((hu28 _ (by omega)).trans ((hu26 _ (by omega)).trans ((hu24 _ (by omega)).trans ((hu22 _ (by omega)).trans ((hu21 _ (by omega)).trans ((hu19 _ (by omega)).trans ((hu18 _ (by omega)).trans ((hu16 _ (by omega)).trans ((hu15 _ (by omega)).trans ((hu13 _ (by omega)).trans ((hu12 _ (by omega)).trans ((hu10 _ (by omega)).trans ((hu9 _ (by omega)).trans hf7)))))))))))))))))))))))))))), fun _ _ => rfl⟩, ⟨_, ((hu60 _ (by omega)).trans ((hu58 _ (by omega)).trans ((hu56 _ (by omega)).trans ((hu54 _ (by omega)).trans ((hu52 _ (by omega)).trans ((hu50 _ (by omega)).trans ((hu48 _ (by omega)).trans ((hu45 _ (by omega)).trans ((hu43 _ (by omega)).trans ((hu41 _ (by omega)).trans ((hu39 _ (by omega)).trans ((hu37 _ (by omega)).trans ((hu35 _ (by omega)).trans ((hu33 _ (by omega)).trans ((hu30 _ (by omega)).trans ((hu28 _ (by omega)).trans ((hu26 _ (by omega)).trans ((hu24 _ (by omega)).trans ((hu22 _ (by omega)).trans ((hu21 _ (by omega)).trans ((hu19 _ (by omega)).trans ((hu18 _ (by omega)).trans ((hu16 _ (by omega)).trans ((hu15 _ (by omega)).trans ((hu13 _ (by omega)).trans ((hu12 _ (by omega)).trans hf10)))))))))))))))))))))))))), fun _ _ => rfl⟩, ⟨_, ((hu60 _ (by omega)).trans ((hu58 _ (by omega)).trans ((hu56 _ (by omega)).trans ((hu54 _ (by omega)).trans ((hu52 _ (by omega)).trans ((hu50 _ (by omega)).trans ((hu48 _ (by omega)).trans ((hu45 _ (by omega)).trans ((hu43 _ (by omega)).trans ((hu41 _ (by omega)).trans ((hu39 _ (by omega)).trans ((hu37 _ (by omega)).trans ((hu35 _ (by omega)).trans ((hu33 _ (by omega)).trans ((hu30 _ (by omega)).trans ((hu28 _ (by omega)).trans ((hu26 _ (by omega)).trans ((hu24 _ (by omega)).trans ((hu22 _ (by omega)).trans ((hu21 _ (by omega)).trans ((hu19 _ (by omega)).trans ((hu18 _ (by omega)).trans ((hu16 _ (by omega)).trans ((hu15 _ (by omega)).trans hf13)))))))))))))))))))))))), fun _ _ => rfl⟩, ⟨_, ((hu60 _ (by omega)).trans ((hu58 _ (by omega)).trans ((hu56 _ (by omega)).trans ((hu54 _ (by omega)).trans ((hu52 _ (by omega)).trans ((hu50 _ (by omega)).trans ((hu48 _ (by omega)).trans ((hu45 _ (by omega)).trans ((hu43 _ (by omega)).trans ((hu41 _ (by omega)).trans ((hu39 _ (by omega)).trans ((hu37 _ (by omega)).trans ((hu35 _ (by omega)).trans ((hu33 _ (by omega)).trans ((hu30 _ (by omega)).trans ((hu28 _ (by omega)).trans ((hu26 _ (by omega)).trans ((hu24 _ (by omega)).trans hf22)))))))))))))))))), fun _ _ => rfl⟩, ⟨_, hf60, by decide +kernel⟩, _, ((hu60 _ (by omega)).trans ((hu58 _ (by omega)).trans ((hu56 _ (by omega)).trans ((hu54 _ (by omega)).trans ((hu52 _ (by omega)).trans ((hu50 _ (by omega)).trans ((hu48 _ (by omega)).trans hf45))))))), by decide +kernel⟩, fun q hq => ((hu60 _ (by omega)).trans ((hu58 _ (by omega)).trans ((hu56 _ (by omega)).trans ((hu54 _ (by omega)).trans ((hu52 _ (by omega)).trans ((hu50 _ (by omega)).trans ((hu48 _ (by omega)).trans ((hu45 _ (by omega)).trans ((hu43 _ (by omega)).trans ((hu41 _ (by omega)).trans ((hu39 _ (by omega)).trans ((hu37 _ (by omega)).trans ((hu35 _ (by omega)).trans ((hu33 _ (by omega)).trans ((hu30 _ (by omega)).trans ((hu28 _ (by omega)).trans ((hu26 _ (by omega)).trans ((hu24 _ (by omega)).trans ((hu22 _ (by omega)).trans ((hu21 _ (by omega)).trans ((hu19 _ (by omega)).trans ((hu18 _ (by omega)).trans ((hu16 _ (by omega)).trans ((hu15 _ (by omega)).trans ((hu13 _ (by omega)).trans ((hu12 _ (by omega)).trans ((hu10 _ (by omega)).trans ((hu9 _ (by omega)).trans ((hu7 _ (by omega)).trans ((hu6 _ (by omega)).trans ((hu4 _ (by omega)).trans ((hu3 _ (by omega)).trans ((hu1 _ (by omega)).trans rfl)))))))))))))))))))))))))))))))))⟩

