def zPR (μ : zMS) (ty : Nat) : (Nat → Int32) × Int32 × Int32 × Int32 := zPl (μ.1 5) ty (ty + 1) 0 (μ.1 1) 0 0
def zPx (r : (Nat → Int32) × Int32 × Int32 × Int32) : Int32 := if r.2.1 = 0 then -1000004 else r.2.2.1
def spFault (r : (Nat → Int32) × Int32 × Int32 × Int32) (its : Int32) : Int32 := if zW 0 1 its then (if zPx r = -1000004 ∨ its = 0 then zPx r else r.2.1) else -1000001
def spPlay (r : (Nat → Int32) × Int32 × Int32 × Int32) : zRes := if zPx r = -1000004 then .inr (r.1, r.2.2.2) else .inl (-1000002)
def zPostE (M : mM) (m : Nat) (μ : zMS) (p : Nat) (r : zRes) (x : Int32) (M' : mM) : Prop := match r with
  | .inl e => x = e ∧ ∃ μ', mPic M' m μ' ∧ zSame μ μ' ∧ zFr M M' m 9
  | .inr q => x = q.2 ∧ ∃ μ', mPic M' m μ' ∧ zSame (mA (zCC μ p) 1 q.1) μ' ∧ zFr M M' m 9
theorem zSame_Ch {μ μ' : zMS} {p : Nat} (h : zSame μ μ') : zSame (zCh μ p) (zCh μ' p) := by
  obtain ⟨h1, h2, h3, h4, h5, h6⟩ := h
  unfold zCh
  rw [h1, h2]
  refine ⟨?_, ?_, ?_, ?_, ?_, ?_⟩
  · rw [mS_1, mS_1, mA_n _ _ (by decide), mA_n _ _ (by decide), h1]
  · rw [mS_1, mS_1, mA_s, mA_s]
  · rw [mS_1, mS_1, mA_n _ _ (by decide), mA_n _ _ (by decide), h3]
  · rw [mS_s, mS_s]
  · rw [mS_n _ _ (by decide), mS_n _ _ (by decide), mA_2, mA_2, h5]
  · rw [mS_n _ _ (by decide), mS_n _ _ (by decide), mA_2, mA_2, h6]
theorem zSame_play {μ : zMS} {f s t : Nat → Int32} {sp ca cm : Int32} (h5 : μ.2 5 = 0) : zSame μ (mA (mQ (mA μ 3 f) s t 0 sp ca cm) 1 (μ.1 1)) := ⟨rfl, rfl, rfl, rfl, h5.symm, rfl⟩
theorem ct_X7_plays2 {K : zK} {M : mM} {nx : Nat} {m : Nat} {μ : zMS} (hm : mPic M m μ) {ty : Nat} (ht : μ.2 7 = nI ty) (ht8 : ty ≤ 80) (hE : zEx (μ.1 1)) {r : (Nat → Int32) × Int32 × Int32 × Int32} (hr : zPl (μ.1 5) ty (ty + 1) 0 (μ.1 1) 0 0 = r) : zCt K yX7_plays cX7_plays 4 zr_X7_plays 8 [.ref m] M nx 0 0 (zI (fun x M' => x = zPx r ∧ ∃ (tt : Nat → Int32) (sp : Int32), mPic M' m (mQ μ r.1 tt 0 sp r.2.1 r.2.2.2) ∧ zFr M M' m 9)) := by
  rw [← hr]
  exact ct_X7_plays hm ht ht8 hE
set_option maxRecDepth 20000 in
set_option maxHeartbeats 4000000 in
theorem ct_X7_fault {K : zK} {M : mM} {nx : Nat} {m : Nat} {μ : zMS} (hm : mPic M m μ) {ty : Nat} (ht : μ.2 7 = nI ty) (ht8 : ty ≤ 80) (hE : zEx (μ.1 1)) (h50 : μ.2 5 = 0) {its : Int32} : zCt K yX7_fault cX7_fault 3 zr_X7_fault 9 [.ref m, .int its] M nx 0 0 (zI (zTell M m μ (spFault (zPR μ ty) its))) := by
  refine z_enter [some (.ref m), some (.int its), none] (by decide +kernel) (Nat.le_of_ble_eq_true rfl) rfl (fun B ok hz => ?_)
  refine z_iload_n ok dX7_fault_0 rfl ?_
  refine z_iconst (v := 0) ok dX7_fault_1 (by decide) ?_
  refine z_iconst (v := 1) ok dX7_fault_2 (by decide) ?_
  refine z_callSi ok dX7_fault_3 zm_X7_in zw_819 zw_820 (ct_X7_in) rfl rfl (by decide) (by decide) (by decide) (Nat.le_of_ble_eq_true rfl) (fun xz1 Mz2 qz3 => ?_)
  obtain ⟨rfl, hMe⟩ := qz3
  obtain rfl := hMe.symm
  refine z_if_ne (tgt := 12) ok dX7_fault_6 (by decide) (fun cz6 => ?_) (fun cz6 => ?_)
  · have hb6 := Decidable.not_not.mp (mt b2_0.mpr cz6)
    refine z_aload_n ok dX7_fault_12 rfl ?_
    refine z_getf ok dX7_fault_13 zin_X7 rfl 0 (by decide) zw_771 hm.1 rfl ?_
    refine z_aload_n ok dX7_fault_16 rfl ?_
    refine z_getf ok dX7_fault_17 zin_X7 rfl 2 (by decide) zw_773 hm.1 rfl ?_
    refine z_callSv ok dX7_fault_20 zm_X7_copies zw_989 zw_990 (ct_X7_copies hm.2.1 hm.2.2.2.1 (by omega)) rfl rfl (by decide) (by decide) (by decide) (Nat.le_of_ble_eq_true rfl) (fun Mz5 qz6 => ?_)
    have hm7 := hm.setA3 qz6.1 qz6.2
    have fzqxz4 : zFr _ _ m 9 := fun z9 hz9 => qz6.2 z9 (by omega)
    refine z_aload_n ok dX7_fault_23 rfl ?_
    refine z_callVi ok dX7_fault_24 zm_X7_plays zw_1017 zi_X7_plays hm7.1 rfl (ct_X7_plays2 hm7 ht ht8 hE (r := zPR μ ty) rfl) rfl rfl (by decide) (by decide) (by decide) (Nat.le_of_ble_eq_true rfl) (fun xz8 Mz9 qz10 => ?_)
    obtain ⟨hxp, ttp, spp, hm11, fpxz8⟩ := qz10
    refine z_istore_n ok dX7_fault_27 (by decide) rfl ?_
    refine z_aload_n ok dX7_fault_28 rfl ?_
    refine z_getf ok dX7_fault_29 zin_X7 rfl 2 (by decide) zw_773 hm11.1 rfl ?_
    refine z_aload_n ok dX7_fault_32 rfl ?_
    refine z_getf ok dX7_fault_33 zin_X7 rfl 0 (by decide) zw_771 hm11.1 rfl ?_
    refine z_callSv ok dX7_fault_36 zm_X7_copies zw_989 zw_990 (ct_X7_copies hm11.2.2.2.1 hm11.2.1 (by omega)) rfl rfl (by decide) (by decide) (by decide) (Nat.le_of_ble_eq_true rfl) (fun Mz13 qz14 => ?_)
    have hm15 := hm11.setA1 qz14.1 qz14.2
    have fzqxz12 : zFr _ _ m 9 := fun z9 hz9 => qz14.2 z9 (by omega)
    refine z_iload_n ok dX7_fault_39 rfl ?_
    refine z_ldc ok dX7_fault_40 zw_836 ?_
    refine z_icmp_eq (tgt := 49) ok dX7_fault_42 (by decide) (fun cz42 => ?_) (fun cz42 => ?_)
    · refine z_iload_n ok dX7_fault_49 rfl ?_
      refine z_goto (tgt := 57) ok dX7_fault_50 (by decide) ?_
      exact z_iret ok dX7_fault_57 rfl rfl rfl (Nat.zero_le _) ⟨(by unfold spFault; rw [if_pos hb6]; first | (rw [if_pos (Or.inl (hxp.symm.trans cz42))]; exact hxp) | (rw [if_pos (Or.inr cz46)]; exact hxp) | (rw [if_neg (fun z9 => z9.elim (fun z8 => cz42 (hxp.trans z8)) cz46)]; rfl)), _, hm15, zSame_play h50, (by repeat (first | assumption | exact zFr.rf | refine zFr.tr (by assumption) ?_))⟩
    · refine z_iload_n ok dX7_fault_45 rfl ?_
      refine z_if_ne (tgt := 53) ok dX7_fault_46 (by decide) (fun cz46 => ?_) (fun cz46 => ?_)
      · refine z_aload_n ok dX7_fault_53 rfl ?_
        refine z_getf ok dX7_fault_54 zin_X7 rfl 11 (by decide) zw_782 hm15.1 rfl ?_
        exact z_iret ok dX7_fault_57 rfl rfl rfl (Nat.zero_le _) ⟨(by unfold spFault; rw [if_pos hb6]; first | (rw [if_pos (Or.inl (hxp.symm.trans cz42))]; exact hxp) | (rw [if_pos (Or.inr cz46)]; exact hxp) | (rw [if_neg (fun z9 => z9.elim (fun z8 => cz42 (hxp.trans z8)) cz46)]; rfl)), _, hm15, zSame_play h50, (by repeat (first | assumption | exact zFr.rf | refine zFr.tr (by assumption) ?_))⟩
      · refine z_iload_n ok dX7_fault_49 rfl ?_
        refine z_goto (tgt := 57) ok dX7_fault_50 (by decide) ?_
        exact z_iret ok dX7_fault_57 rfl rfl rfl (Nat.zero_le _) ⟨(by unfold spFault; rw [if_pos hb6]; first | (rw [if_pos (Or.inl (hxp.symm.trans cz42))]; exact hxp) | (rw [if_pos (Or.inr cz46)]; exact hxp) | (rw [if_neg (fun z9 => z9.elim (fun z8 => cz42 (hxp.trans z8)) cz46)]; rfl)), _, hm15, zSame_play h50, (by repeat (first | assumption | exact zFr.rf | refine zFr.tr (by assumption) ?_))⟩
  · have hb6 := b2_0.mp cz6
    refine z_ldc ok dX7_fault_9 zw_822 ?_
    exact z_iret ok dX7_fault_11 rfl rfl rfl (Nat.zero_le _) (zTell_rf hm (by unfold spFault; rw [if_neg (by assumption)]))

theorem zS_play2 {μ μ' : zMS} {s t : Nat → Int32} {sp ca cm : Int32} {p : Nat} (h : zSame (zCh μ p) μ') (h5 : μ.2 5 = 0) : zSame (mA (zCC μ p) 1 s) (mQ μ' s t 0 sp ca cm) := by
  rw [zCC, if_pos h5]
  exact ⟨rfl, h.2.1, h.2.2.1, h.2.2.2.1, h5.symm, h.2.2.2.2.2⟩
set_option maxRecDepth 20000 in
set_option maxHeartbeats 4000000 in
theorem ct_X7_play {K : zK} {M : mM} {nx : Nat} {m : Nat} {μ : zMS} (hm : mPic M m μ) {ty : Nat} (ht : μ.2 7 = nI ty) (ht8 : ty ≤ 80) (hE : zEx (μ.1 1)) (h50 : μ.2 5 = 0) {pz : Nat} (hpz : μ.2 4 = nI pz) (hpz4 : pz ≤ 4) : zCt K yX7_play cX7_play 2 zr_X7_play 9 [.ref m] M nx 0 0 (zI (zPostE M m μ pz (spPlay (zPR μ ty)))) := by
  refine z_enter [some (.ref m), none] (by decide +kernel) (Nat.le_of_ble_eq_true rfl) rfl (fun B ok hz => ?_)
  refine z_aload_n ok dX7_play_0 rfl ?_
  refine z_getf ok dX7_play_1 zin_X7 rfl 0 (by decide) zw_771 hm.1 rfl ?_
  refine z_aload_n ok dX7_play_4 rfl ?_
  refine z_getf ok dX7_play_5 zin_X7 rfl 2 (by decide) zw_773 hm.1 rfl ?_
  refine z_callSv ok dX7_play_8 zm_X7_copies zw_989 zw_990 (ct_X7_copies hm.2.1 hm.2.2.2.1 (by omega)) rfl rfl (by decide) (by decide) (by decide) (Nat.le_of_ble_eq_true rfl) (fun Mz2 qz3 => ?_)
  have hm4 := hm.setA3 qz3.1 qz3.2
  have fzqxz1 : zFr _ _ m 9 := fun z9 hz9 => qz3.2 z9 (by omega)
  refine z_aload_n ok dX7_play_11 rfl ?_
  refine z_callVi ok dX7_play_12 zm_X7_plays zw_1017 zi_X7_plays hm4.1 rfl (ct_X7_plays2 hm4 ht ht8 hE (r := zPR μ ty) rfl) rfl rfl (by decide) (by decide) (by decide) (Nat.le_of_ble_eq_true rfl) (fun xz5 Mz6 qz7 => ?_)
  obtain ⟨hxp, ttp, spp, hm8, fpxz5⟩ := qz7
  refine z_istore_n ok dX7_play_15 (by decide) rfl ?_
  refine z_aload_n ok dX7_play_16 rfl ?_
  refine z_getf ok dX7_play_17 zin_X7 rfl 2 (by decide) zw_773 hm8.1 rfl ?_
  refine z_aload_n ok dX7_play_20 rfl ?_
  refine z_getf ok dX7_play_21 zin_X7 rfl 0 (by decide) zw_771 hm8.1 rfl ?_
  refine z_callSv ok dX7_play_24 zm_X7_copies zw_989 zw_990 (ct_X7_copies hm8.2.2.2.1 hm8.2.1 (by omega)) rfl rfl (by decide) (by decide) (by decide) (Nat.le_of_ble_eq_true rfl) (fun Mz10 qz11 => ?_)
  have hm12 := hm8.setA1 qz11.1 qz11.2
  have fzqxz9 : zFr _ _ m 9 := fun z9 hz9 => qz11.2 z9 (by omega)
  obtain ⟨μ3, hm12, hS1⟩ : ∃ μ3, mPic Mz10 m μ3 ∧ zSame μ μ3 := ⟨_, hm12, zSame_play h50⟩
  refine z_iload_n ok dX7_play_27 rfl ?_
  refine z_ldc ok dX7_play_28 zw_836 ?_
  refine z_icmp_eq (tgt := 36) ok dX7_play_30 (by decide) (fun cz30 => ?_) (fun cz30 => ?_)
  · have hxc : zPx (zPR μ ty) = -1000004 := hxp.symm.trans cz30
    refine z_aload_n ok dX7_play_36 rfl ?_
    refine z_callVv ok dX7_play_37 zm_X7_changes zw_824 zi_X7_changes hm12.1 rfl (ct_X7_changes hm12 (hS1.2.2.2.2.1.trans h50) (hS1.2.2.2.1.trans hpz) hpz4) rfl rfl (by decide) (by decide) (by decide) (Nat.le_of_ble_eq_true rfl) (fun Mz14 qz15 => ?_)
    obtain ⟨hm16, fcxz13⟩ := qz15
    obtain ⟨μ4, hm16, hS2⟩ : ∃ μ4, mPic Mz14 m μ4 ∧ zSame (zCh μ pz) μ4 := ⟨_, hm16, zSame_Ch hS1⟩
    refine z_aload_n ok dX7_play_40 rfl ?_
    refine z_callVi ok dX7_play_41 zm_X7_plays zw_1017 zi_X7_plays hm16.1 rfl (ct_X7_plays2 hm16 (hS2.2.2.2.2.2.trans (by rw [zCh, mS_n _ _ (by decide), mA_2]; exact ht)) ht8 (by rw [hS2.1, zCh, mS_1, mA_n _ _ (by decide)]; exact hE) (r := zPR μ ty) (by rw [hS2.1, hS2.2.2.1, zCh, mS_1, mA_n _ _ (by decide), mA_n _ _ (by decide)]; rfl)) rfl rfl (by decide) (by decide) (by decide) (Nat.le_of_ble_eq_true rfl) (fun xz17 Mz18 qz19 => ?_)
    obtain ⟨hxp2, ttp2, spp2, hm20, fpxz17⟩ := qz19
    refine z_ldc ok dX7_play_44 zw_836 ?_
    refine z_icmp_ne (tgt := 56) ok dX7_play_46 (by decide) (fun cz46 => ?_) (fun cz46 => ?_)
    · exact absurd (hxp2.trans hxc) cz46
    · refine z_aload_n ok dX7_play_49 rfl ?_
      refine z_getf ok dX7_play_50 zin_X7 rfl 12 (by decide) zw_783 hm20.1 rfl ?_
      refine z_goto (tgt := 58) ok dX7_play_53 (by decide) ?_
      exact z_iret ok dX7_play_58 rfl rfl rfl (Nat.zero_le _) (by unfold spPlay; rw [if_pos hxc]; exact ⟨rfl, _, hm20, zS_play2 hS2 h50, (by repeat (first | assumption | exact zFr.rf | refine zFr.tr (by assumption) ?_))⟩)
  · have hxc : ¬ zPx (zPR μ ty) = -1000004 := fun z9 => cz30 (hxp.trans z9)
    refine z_ldc ok dX7_play_33 zw_849 ?_
    exact z_iret ok dX7_play_35 rfl rfl rfl (Nat.zero_le _) (by unfold spPlay; rw [if_neg hxc]; exact ⟨rfl, _, hm12, hS1, (by repeat (first | assumption | exact zFr.rf | refine zFr.tr (by assumption) ?_))⟩)

