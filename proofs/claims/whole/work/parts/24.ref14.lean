/-- what a call that only tells may leave changed: rows that nobody reads before they are written, and the like -/
def zSame (μ μ' : zMS) : Prop := μ'.1 1 = μ.1 1 ∧ μ'.1 2 = μ.1 2 ∧ μ'.1 5 = μ.1 5 ∧ μ'.2 4 = μ.2 4 ∧ μ'.2 5 = μ.2 5 ∧ μ'.2 7 = μ.2 7
def zTell (M : mM) (m : Nat) (μ : zMS) (r x : Int32) (M' : mM) : Prop := x = r ∧ ∃ μ', mPic M' m μ' ∧ zSame μ μ' ∧ zFr M M' m 9
theorem zTell_rf {M : mM} {m : Nat} {μ : zMS} {r x : Int32} (hm : mPic M m μ) (h : x = r) : zTell M m μ r x M := ⟨h, μ, hm, ⟨rfl, rfl, rfl, rfl, rfl, rfl⟩, zFr.rf⟩
def spWFill (s : Nat → Int32) (n : Nat) (v place rule : Int32) : Int32 := if zVeh s v ∧ zW 1 4 place ∧ zW 0 2 rule then (if 0 < vd s (tN v) 2 then -1000002 else (zFill n (tN v) place rule n s 0 0).2) else -1000001
def zEs (s : Nat → Int32) (n iv : Nat) (hour : Int32) : Nat → Int32
  | 0 => 0
  | c + 1 => if zInV s c (nI iv) then (zEs s n iv hour c + if gd s c 4 < hour then 0 else gd s c 5) - (if hour < gd s c 3 then (gd s c 3 - hour) * s 2 else 0) else zEs s n iv hour c
theorem zEs_t {s : Nat → Int32} {n iv : Nat} {hour : Int32} {c : Nat} (h : zInV s c (nI iv)) : zEs s n iv hour (c + 1) = (zEs s n iv hour c + if gd s c 4 < hour then 0 else gd s c 5) - (if hour < gd s c 3 then (gd s c 3 - hour) * s 2 else 0) := if_pos h
theorem zEs_f {s : Nat → Int32} {n iv : Nat} {hour : Int32} {c : Nat} (h : ¬ zInV s c (nI iv)) : zEs s n iv hour (c + 1) = zEs s n iv hour c := if_neg h
def zEa (s : Nat → Int32) (n no iv : Nat) : Int32 := (zEs s n iv (s 5 + zGoal s n iv * s 0) n + (zTake (zGoal s n iv) (s 5 + zGoal s n iv * s 0) no s (vd s iv 0) (vd s iv 1) 0).2) + 4000000
def spWEarn (s : Nat → Int32) (n no : Nat) (v : Int32) : Int32 := if zVeh s v then (if 0 < vd s (tN v) 2 ∨ zLs s n v = 0 then -1000002 else zEa s n no (tN v)) else -1000001
set_option maxRecDepth 20000 in
set_option maxHeartbeats 4000000 in
theorem ct_X7_wouldFill {K : zK} {M : mM} {nx : Nat} {m : Nat} {μ : zMS} (hm : mPic M m μ) {n nv no : Nat} (hN : zN (μ.1 1) n nv no) {v place rule : Int32} : zCt K yX7_wouldFill cX7_wouldFill 5 zr_X7_wouldFill 6 [.ref m, .int v, .int place, .int rule] M nx 0 0 (zI (zTell M m μ (spWFill (μ.1 1) n v place rule))) := by
  refine z_enter [some (.ref m), some (.int v), some (.int place), some (.int rule), none] (by decide +kernel) (Nat.le_of_ble_eq_true rfl) rfl (fun B ok hz => ?_)
  have hn16 := hN.2.1
  have hnv4 := hN.2.2.2.1
  refine z_aload_n ok dX7_wouldFill_0 rfl ?_
  refine z_iload_n ok dX7_wouldFill_1 rfl ?_
  refine z_callVi ok dX7_wouldFill_2 zm_X7_isVehicle zw_866 zi_X7_isVehicle hm.1 rfl (ct_X7_isVehicle hm) rfl rfl (by decide) (by decide) (by decide) (Nat.le_of_ble_eq_true rfl) (fun xz1 Mz2 qz3 => ?_)
  obtain ⟨rfl, hMe⟩ := qz3
  obtain rfl := hMe.symm
  refine z_if_eq (tgt := 26) ok dX7_wouldFill_5 (by decide) (fun cz5 => ?_) (fun cz5 => ?_)
  · have hb5 := b2_0.mp cz5
    refine z_ldc ok dX7_wouldFill_26 zw_822 ?_
    exact z_iret ok dX7_wouldFill_28 rfl rfl rfl (Nat.zero_le _) (zTell_rf hm (by unfold spWFill; grind))
  · have hb5 := Decidable.not_not.mp (mt b2_0.mpr cz5)
    obtain ⟨iv, hiv, hcjiv⟩ := zVeh_nat hN hb5.1 hb5.2
    have htciv : tN v = iv := by rw [hcjiv]; exact tN_nI (by omega)
    refine z_iload_n ok dX7_wouldFill_8 rfl ?_
    refine z_iconst (v := 1) ok dX7_wouldFill_9 (by decide) ?_
    refine z_iconst (v := 4) ok dX7_wouldFill_10 (by decide) ?_
    refine z_callSi ok dX7_wouldFill_11 zm_X7_in zw_819 zw_820 (ct_X7_in) rfl rfl (by decide) (by decide) (by decide) (Nat.le_of_ble_eq_true rfl) (fun xz4 Mz5 qz6 => ?_)
    obtain ⟨rfl, hMe⟩ := qz6
    obtain rfl := hMe.symm
    refine z_if_eq (tgt := 26) ok dX7_wouldFill_14 (by decide) (fun cz14 => ?_) (fun cz14 => ?_)
    · have hb14 := b2_0.mp cz14
      refine z_ldc ok dX7_wouldFill_26 zw_822 ?_
      exact z_iret ok dX7_wouldFill_28 rfl rfl rfl (Nat.zero_le _) (zTell_rf hm (by unfold spWFill; grind))
    · have hb14 := Decidable.not_not.mp (mt b2_0.mpr cz14)
      refine z_iload_n ok dX7_wouldFill_17 rfl ?_
      refine z_iconst (v := 0) ok dX7_wouldFill_18 (by decide) ?_
      refine z_iconst (v := 2) ok dX7_wouldFill_19 (by decide) ?_
      refine z_callSi ok dX7_wouldFill_20 zm_X7_in zw_819 zw_820 (ct_X7_in) rfl rfl (by decide) (by decide) (by decide) (Nat.le_of_ble_eq_true rfl) (fun xz7 Mz8 qz9 => ?_)
      obtain ⟨rfl, hMe⟩ := qz9
      obtain rfl := hMe.symm
      refine z_if_ne (tgt := 29) ok dX7_wouldFill_23 (by decide) (fun cz23 => ?_) (fun cz23 => ?_)
      · have hb23 := Decidable.not_not.mp (mt b2_0.mpr cz23)
        refine z_aload_n ok dX7_wouldFill_29 rfl ?_
        refine z_iload_n ok dX7_wouldFill_30 rfl ?_
        refine z_iconst (v := 2) ok dX7_wouldFill_31 (by decide) ?_
        refine z_callVi ok dX7_wouldFill_32 zm_X7_ofVehicle zw_874 zi_X7_ofVehicle hm.1 rfl (ct_X7_ofVehicle hm (i := iv) (k := 2) hcjiv rfl (by omega)) rfl rfl (by decide) (by decide) (by decide) (Nat.le_of_ble_eq_true rfl) (fun xz10 Mz11 qz12 => ?_)
        obtain ⟨rfl, hMe⟩ := qz12
        obtain rfl := hMe.symm
        refine z_if_le (tgt := 41) ok dX7_wouldFill_35 (by decide) (fun cz35 => ?_) (fun cz35 => ?_)
        · refine z_aload_n ok dX7_wouldFill_41 rfl ?_
          refine z_getf ok dX7_wouldFill_42 zin_X7 rfl 0 (by decide) zw_771 hm.1 rfl ?_
          refine z_aload_n ok dX7_wouldFill_45 rfl ?_
          refine z_getf ok dX7_wouldFill_46 zin_X7 rfl 3 (by decide) zw_774 hm.1 rfl ?_
          refine z_callSv ok dX7_wouldFill_49 zm_X7_copies zw_989 zw_990 (ct_X7_copies hm.2.1 hm.2.2.2.2.1 (by omega)) rfl rfl (by decide) (by decide) (by decide) (Nat.le_of_ble_eq_true rfl) (fun Mz14 qz15 => ?_)
          have hm16 := hm.setA4 qz15.1 qz15.2
          have fzqxz13 : zFr _ _ m 9 := fun z9 hz9 => qz15.2 z9 (by omega)
          have hNC : zN ((mA μ 4 (μ.1 1)).1 1) n nv no := by rw [mA_n _ _ (by decide)]; exact hN
          refine z_aload_n ok dX7_wouldFill_52 rfl ?_
          refine z_iload_n ok dX7_wouldFill_53 rfl ?_
          refine z_iload_n ok dX7_wouldFill_54 rfl ?_
          refine z_iload_n ok dX7_wouldFill_55 rfl ?_
          refine z_callVi ok dX7_wouldFill_56 zm_X7_fills zw_902 zi_X7_fills hm16.1 rfl (ct_X7_fills hm16 hNC hcjiv hiv) rfl rfl (by decide) (by decide) (by decide) (Nat.le_of_ble_eq_true rfl) (fun xz17 Mz18 qz19 => ?_)
          obtain ⟨rfl, hm20, fzqxz17⟩ := qz19
          refine z_istore ok dX7_wouldFill_59 (by decide) rfl ?_
          refine z_aload_n ok dX7_wouldFill_61 rfl ?_
          refine z_getf ok dX7_wouldFill_62 zin_X7 rfl 3 (by decide) zw_774 hm20.1 rfl ?_
          refine z_aload_n ok dX7_wouldFill_65 rfl ?_
          refine z_getf ok dX7_wouldFill_66 zin_X7 rfl 0 (by decide) zw_771 hm20.1 rfl ?_
          refine z_callSv ok dX7_wouldFill_69 zm_X7_copies zw_989 zw_990 (ct_X7_copies hm20.2.2.2.2.1 hm20.2.1 (by omega)) rfl rfl (by decide) (by decide) (by decide) (Nat.le_of_ble_eq_true rfl) (fun Mz22 qz23 => ?_)
          have hm24 := hm20.setA1 qz23.1 qz23.2
          have fzqxz21 : zFr _ _ m 9 := fun z9 hz9 => qz23.2 z9 (by omega)
          refine z_iload ok dX7_wouldFill_72 rfl ?_
          exact z_iret ok dX7_wouldFill_74 rfl rfl rfl (Nat.zero_le _) ⟨by rw [mA_n _ _ (by decide)]; unfold spWFill; grind, _, hm24, (by refine ⟨?_, ?_, ?_, rfl, rfl, rfl⟩ <;> simp [mA]), (by repeat (first | assumption | exact zFr.rf | refine zFr.tr (by assumption) ?_))⟩
        · refine z_ldc ok dX7_wouldFill_38 zw_849 ?_
          exact z_iret ok dX7_wouldFill_40 rfl rfl rfl (Nat.zero_le _) (zTell_rf hm (by unfold spWFill; grind))
      · have hb23 := b2_0.mp cz23
        refine z_ldc ok dX7_wouldFill_26 zw_822 ?_
        exact z_iret ok dX7_wouldFill_28 rfl rfl rfl (Nat.zero_le _) (zTell_rf hm (by unfold spWFill; grind))

set_option maxRecDepth 20000 in
set_option maxHeartbeats 4000000 in
theorem ct_X7_wouldEarn {K : zK} {M : mM} {nx : Nat} {m : Nat} {μ : zMS} (hm : mPic M m μ) {n nv no : Nat} (hN : zN (μ.1 1) n nv no) {v : Int32} : zCt K yX7_wouldEarn cX7_wouldEarn 6 zr_X7_wouldEarn 4 [.ref m, .int v] M nx 0 0 (zI (zTell M m μ (spWEarn (μ.1 1) n no v))) := by
  refine z_enter [some (.ref m), some (.int v), none, none, none, none] (by decide +kernel) (Nat.le_of_ble_eq_true rfl) rfl (fun B ok hz => ?_)
  have hn16 := hN.2.1
  have hnv4 := hN.2.2.2.1
  refine z_aload_n ok dX7_wouldEarn_0 rfl ?_
  refine z_iload_n ok dX7_wouldEarn_1 rfl ?_
  refine z_callVi ok dX7_wouldEarn_2 zm_X7_isVehicle zw_866 zi_X7_isVehicle hm.1 rfl (ct_X7_isVehicle hm) rfl rfl (by decide) (by decide) (by decide) (Nat.le_of_ble_eq_true rfl) (fun xz1 Mz2 qz3 => ?_)
  obtain ⟨rfl, hMe⟩ := qz3
  obtain rfl := hMe.symm
  refine z_if_ne (tgt := 11) ok dX7_wouldEarn_5 (by decide) (fun cz5 => ?_) (fun cz5 => ?_)
  · have hb5 := Decidable.not_not.mp (mt b2_0.mpr cz5)
    obtain ⟨iv, hiv, hcjiv⟩ := zVeh_nat hN hb5.1 hb5.2
    have htciv : tN v = iv := by rw [hcjiv]; exact tN_nI (by omega)
    refine z_aload_n ok dX7_wouldEarn_11 rfl ?_
    refine z_iload_n ok dX7_wouldEarn_12 rfl ?_
    refine z_iconst (v := 2) ok dX7_wouldEarn_13 (by decide) ?_
    refine z_callVi ok dX7_wouldEarn_14 zm_X7_ofVehicle zw_874 zi_X7_ofVehicle hm.1 rfl (ct_X7_ofVehicle hm (i := iv) (k := 2) hcjiv rfl (by omega)) rfl rfl (by decide) (by decide) (by decide) (Nat.le_of_ble_eq_true rfl) (fun xz4 Mz5 qz6 => ?_)
    obtain ⟨rfl, hMe⟩ := qz6
    obtain rfl := hMe.symm
    refine z_if_gt (tgt := 28) ok dX7_wouldEarn_17 (by decide) (fun cz17 => ?_) (fun cz17 => ?_)
    · refine z_ldc ok dX7_wouldEarn_28 zw_849 ?_
      exact z_iret ok dX7_wouldEarn_30 rfl rfl rfl (Nat.zero_le _) (zTell_rf hm (by unfold spWEarn; grind))
    · refine z_aload_n ok dX7_wouldEarn_20 rfl ?_
      refine z_iload_n ok dX7_wouldEarn_21 rfl ?_
      refine z_callVi ok dX7_wouldEarn_22 zm_X7_loadSet zw_917 zi_X7_loadSet hm.1 rfl (ct_X7_loadSet hm hN) rfl rfl (by decide) (by decide) (by decide) (Nat.le_of_ble_eq_true rfl) (fun xz7 Mz8 qz9 => ?_)
      obtain ⟨rfl, hMe⟩ := qz9
      obtain rfl := hMe.symm
      refine z_if_ne (tgt := 31) ok dX7_wouldEarn_25 (by decide) (fun cz25 => ?_) (fun cz25 => ?_)
      · refine z_aload_n ok dX7_wouldEarn_31 rfl ?_
        refine z_iload_n ok dX7_wouldEarn_32 rfl ?_
        refine z_callVi ok dX7_wouldEarn_33 zm_X7_goal zw_878 zi_X7_goal hm.1 rfl (ct_X7_goal hm hN hcjiv (by omega)) rfl rfl (by decide) (by decide) (by decide) (Nat.le_of_ble_eq_true rfl) (fun xz10 Mz11 qz12 => ?_)
        obtain ⟨rfl, hMe⟩ := qz12
        obtain rfl := hMe.symm
        refine z_istore_n ok dX7_wouldEarn_36 (by decide) rfl ?_
        refine z_aload_n ok dX7_wouldEarn_37 rfl ?_
        refine z_getf ok dX7_wouldEarn_38 zin_X7 rfl 0 (by decide) zw_771 hm.1 rfl ?_
        refine z_iconst (v := 5) ok dX7_wouldEarn_41 (by decide) ?_
        refine m_ald1 ok dX7_wouldEarn_42 hm rfl (by decide) ?_
        refine z_iload_n ok dX7_wouldEarn_43 rfl ?_
        refine z_aload_n ok dX7_wouldEarn_44 rfl ?_
        refine z_getf ok dX7_wouldEarn_45 zin_X7 rfl 0 (by decide) zw_771 hm.1 rfl ?_
        refine z_iconst (v := 0) ok dX7_wouldEarn_48 (by decide) ?_
        refine m_ald1 ok dX7_wouldEarn_49 hm rfl (by decide) ?_
        refine z_imul ok dX7_wouldEarn_50 ?_
        refine z_iadd ok dX7_wouldEarn_51 ?_
        refine z_istore_n ok dX7_wouldEarn_52 (by decide) rfl ?_
        refine z_iconst (v := 0) ok dX7_wouldEarn_53 (by decide) ?_
        refine z_istore ok dX7_wouldEarn_54 (by decide) rfl ?_
        refine z_iconst (v := 0) ok dX7_wouldEarn_56 (by decide) ?_
        refine z_istore ok dX7_wouldEarn_57 (by decide) rfl ?_
        have loop59 : ∀ (t i : Nat) (y : Int32), n < i + t → i ≤ n → y = zEs (μ.1 1) n iv ((μ.1 1) 5 + zGoal (μ.1 1) n iv * (μ.1 1) 0) i → zV 6 B (zE B (zI (zTell M m μ (spWEarn (μ.1 1) n no v))) 0 0) 59 [some (.ref m), some (.int v), some (.int (zGoal (μ.1 1) n iv)), some (.int ((μ.1 1) 5 + zGoal (μ.1 1) n iv * (μ.1 1) 0)), some (.int y), some (.int (nI i))] [] M 0 0 := by
          intro t
          induction t with
          | zero => intro i y h1 h2; exact absurd h1 (by omega)
          | succ t ih =>
            intro i y h1 h2 hy
            refine z_iload ok dX7_wouldEarn_59 rfl ?_
            refine z_aload_n ok dX7_wouldEarn_61 rfl ?_
            refine z_getf ok dX7_wouldEarn_62 zin_X7 rfl 0 (by decide) zw_771 hm.1 rfl ?_
            refine z_iconst (v := 3) ok dX7_wouldEarn_65 (by decide) ?_
            refine m_ald1 ok dX7_wouldEarn_66 hm rfl (by decide) ?_
            refine z_icmp_ge (tgt := 149) ok dX7_wouldEarn_67 (by decide) (fun cz67 => ?_) (fun cz67 => ?_)
            · have hin : i = n := by rw [hN.1, nI_leI (by omega) (by omega)] at cz67; omega
              rw [hin] at hy
              refine z_aload_n ok dX7_wouldEarn_149 rfl ?_
              refine z_getf ok dX7_wouldEarn_150 zin_X7 rfl 0 (by decide) zw_771 hm.1 rfl ?_
              refine z_aload_n ok dX7_wouldEarn_153 rfl ?_
              refine z_getf ok dX7_wouldEarn_154 zin_X7 rfl 3 (by decide) zw_774 hm.1 rfl ?_
              refine z_callSv ok dX7_wouldEarn_157 zm_X7_copies zw_989 zw_990 (ct_X7_copies hm.2.1 hm.2.2.2.2.1 (by omega)) rfl rfl (by decide) (by decide) (by decide) (Nat.le_of_ble_eq_true rfl) (fun Mz14 qz15 => ?_)
              have hm16 := hm.setA4 qz15.1 qz15.2
              have fzqxz13 : zFr _ _ m 9 := fun z9 hz9 => qz15.2 z9 (by omega)
              have hNC : zN ((mA μ 4 (μ.1 1)).1 1) n nv no := by rw [mA_n _ _ (by decide)]; exact hN
              refine z_iload ok dX7_wouldEarn_160 rfl ?_
              refine z_aload_n ok dX7_wouldEarn_162 rfl ?_
              refine z_iload_n ok dX7_wouldEarn_163 rfl ?_
              refine z_iload_n ok dX7_wouldEarn_164 rfl ?_
              refine z_iload_n ok dX7_wouldEarn_165 rfl ?_
              refine z_callVi ok dX7_wouldEarn_166 zm_X7_takes zw_937 zi_X7_takes hm16.1 rfl (ct_X7_takes hm16 hNC hcjiv (by omega)) rfl rfl (by decide) (by decide) (by decide) (Nat.le_of_ble_eq_true rfl) (fun xz17 Mz18 qz19 => ?_)
              obtain ⟨rfl, hm20, fzqxz17⟩ := qz19
              refine z_iadd ok dX7_wouldEarn_169 ?_
              refine z_istore ok dX7_wouldEarn_170 (by decide) rfl ?_
              refine z_aload_n ok dX7_wouldEarn_172 rfl ?_
              refine z_getf ok dX7_wouldEarn_173 zin_X7 rfl 3 (by decide) zw_774 hm20.1 rfl ?_
              refine z_aload_n ok dX7_wouldEarn_176 rfl ?_
              refine z_getf ok dX7_wouldEarn_177 zin_X7 rfl 0 (by decide) zw_771 hm20.1 rfl ?_
              refine z_callSv ok dX7_wouldEarn_180 zm_X7_copies zw_989 zw_990 (ct_X7_copies hm20.2.2.2.2.1 hm20.2.1 (by omega)) rfl rfl (by decide) (by decide) (by decide) (Nat.le_of_ble_eq_true rfl) (fun Mz22 qz23 => ?_)
              have hm24 := hm20.setA1 qz23.1 qz23.2
              have fzqxz21 : zFr _ _ m 9 := fun z9 hz9 => qz23.2 z9 (by omega)
              refine z_iload ok dX7_wouldEarn_183 rfl ?_
              refine z_ldc ok dX7_wouldEarn_185 zw_996 ?_
              refine z_iadd ok dX7_wouldEarn_187 ?_
              exact z_iret ok dX7_wouldEarn_188 rfl rfl rfl (Nat.zero_le _) ⟨by rw [mA_n _ _ (by decide), hy]; unfold spWEarn zEa; rw [htciv]; grind, _, hm24, (by refine ⟨?_, ?_, ?_, rfl, rfl, rfl⟩ <;> simp [mA]), (by repeat (first | assumption | exact zFr.rf | refine zFr.tr (by assumption) ?_))⟩
            · have hin : i < n := by rw [hN.1, nI_leI (by omega) (by omega)] at cz67; omega
              refine z_aload_n ok dX7_wouldEarn_70 rfl ?_
              refine z_iload ok dX7_wouldEarn_71 rfl ?_
              refine z_iload_n ok dX7_wouldEarn_73 rfl ?_
              refine z_callVi ok dX7_wouldEarn_74 zm_X7_isIn zw_882 zi_X7_isIn hm.1 rfl (ct_X7_isIn hm hN hin rfl) rfl rfl (by decide) (by decide) (by decide) (Nat.le_of_ble_eq_true rfl) (fun xz25 Mz26 qz27 => ?_)
              obtain ⟨rfl, hMe⟩ := qz27
              obtain rfl := hMe.symm
              refine z_if_eq (tgt := 143) ok dX7_wouldEarn_77 (by decide) (fun cz77 => ?_) (fun cz77 => ?_)
              · have hb := b2_0.mp cz77
                rw [hcjiv] at hb
                refine z_iinc ok dX7_wouldEarn_143 rfl (zinc _) (by decide) rfl ?_
                refine z_goto (tgt := 59) ok dX7_wouldEarn_146 (by decide) ?_
                exact ih (i + 1) _ (by omega) (by omega) (by first | (rw [zEs_f hb]; exact hy) | (rw [zEs_t hb, if_pos hl, if_pos he, hy]) | (rw [zEs_t hb, if_pos hl, if_neg he, hy]) | (rw [zEs_t hb, if_neg hl, if_pos he, hy]) | (rw [zEs_t hb, if_neg hl, if_neg he, hy]))
              · have hb := Decidable.not_not.mp (mt b2_0.mpr cz77)
                rw [hcjiv] at hb
                refine z_iload ok dX7_wouldEarn_80 rfl ?_
                refine z_iload_n ok dX7_wouldEarn_82 rfl ?_
                refine z_aload_n ok dX7_wouldEarn_83 rfl ?_
                refine z_iload ok dX7_wouldEarn_84 rfl ?_
                refine z_iconst (v := 4) ok dX7_wouldEarn_86 (by decide) ?_
                refine z_callVi ok dX7_wouldEarn_87 zm_X7_of zw_845 zi_X7_of hm.1 rfl (ct_X7_of hm (i := i) (k := 4) rfl rfl (by omega)) rfl rfl (by decide) (by decide) (by decide) (Nat.le_of_ble_eq_true rfl) (fun xz28 Mz29 qz30 => ?_)
                obtain ⟨rfl, hMe⟩ := qz30
                obtain rfl := hMe.symm
                refine z_icmp_le (tgt := 97) ok dX7_wouldEarn_90 (by decide) (fun cz90 => ?_) (fun cz90 => ?_)
                · have hl := Int32.not_lt.mpr cz90
                  refine z_aload_n ok dX7_wouldEarn_97 rfl ?_
                  refine z_iload ok dX7_wouldEarn_98 rfl ?_
                  refine z_iconst (v := 5) ok dX7_wouldEarn_100 (by decide) ?_
                  refine z_callVi ok dX7_wouldEarn_101 zm_X7_of zw_845 zi_X7_of hm.1 rfl (ct_X7_of hm (i := i) (k := 5) rfl rfl (by omega)) rfl rfl (by decide) (by decide) (by decide) (Nat.le_of_ble_eq_true rfl) (fun xz31 Mz32 qz33 => ?_)
                  obtain ⟨rfl, hMe⟩ := qz33
                  obtain rfl := hMe.symm
                  refine z_iadd ok dX7_wouldEarn_104 ?_
                  refine z_istore ok dX7_wouldEarn_105 (by decide) rfl ?_
                  refine z_iload ok dX7_wouldEarn_107 rfl ?_
                  refine z_aload_n ok dX7_wouldEarn_109 rfl ?_
                  refine z_iload ok dX7_wouldEarn_110 rfl ?_
                  refine z_iconst (v := 3) ok dX7_wouldEarn_112 (by decide) ?_
                  refine z_callVi ok dX7_wouldEarn_113 zm_X7_of zw_845 zi_X7_of hm.1 rfl (ct_X7_of hm (i := i) (k := 3) rfl rfl (by omega)) rfl rfl (by decide) (by decide) (by decide) (Nat.le_of_ble_eq_true rfl) (fun xz34 Mz35 qz36 => ?_)
                  obtain ⟨rfl, hMe⟩ := qz36
                  obtain rfl := hMe.symm
                  refine z_iload_n ok dX7_wouldEarn_116 rfl ?_
                  refine z_icmp_le (tgt := 139) ok dX7_wouldEarn_117 (by decide) (fun cz117 => ?_) (fun cz117 => ?_)
                  · have he := Int32.not_lt.mpr cz117
                    refine z_iconst (v := 0) ok dX7_wouldEarn_139 (by decide) ?_
                    refine z_isub ok dX7_wouldEarn_140 ?_
                    refine z_istore ok dX7_wouldEarn_141 (by decide) rfl ?_
                    refine z_iinc ok dX7_wouldEarn_143 rfl (zinc _) (by decide) rfl ?_
                    refine z_goto (tgt := 59) ok dX7_wouldEarn_146 (by decide) ?_
                    exact ih (i + 1) _ (by omega) (by omega) (by first | (rw [zEs_f hb]; exact hy) | (rw [zEs_t hb, if_pos hl, if_pos he, hy]) | (rw [zEs_t hb, if_pos hl, if_neg he, hy]) | (rw [zEs_t hb, if_neg hl, if_pos he, hy]) | (rw [zEs_t hb, if_neg hl, if_neg he, hy]))
                  · have he := i_nle cz117
                    refine z_aload_n ok dX7_wouldEarn_120 rfl ?_
                    refine z_iload ok dX7_wouldEarn_121 rfl ?_
                    refine z_iconst (v := 3) ok dX7_wouldEarn_123 (by decide) ?_
                    refine z_callVi ok dX7_wouldEarn_124 zm_X7_of zw_845 zi_X7_of hm.1 rfl (ct_X7_of hm (i := i) (k := 3) rfl rfl (by omega)) rfl rfl (by decide) (by decide) (by decide) (Nat.le_of_ble_eq_true rfl) (fun xz37 Mz38 qz39 => ?_)
                    obtain ⟨rfl, hMe⟩ := qz39
                    obtain rfl := hMe.symm
                    refine z_iload_n ok dX7_wouldEarn_127 rfl ?_
                    refine z_isub ok dX7_wouldEarn_128 ?_
                    refine z_aload_n ok dX7_wouldEarn_129 rfl ?_
                    refine z_getf ok dX7_wouldEarn_130 zin_X7 rfl 0 (by decide) zw_771 hm.1 rfl ?_
                    refine z_iconst (v := 2) ok dX7_wouldEarn_133 (by decide) ?_
                    refine m_ald1 ok dX7_wouldEarn_134 hm rfl (by decide) ?_
                    refine z_imul ok dX7_wouldEarn_135 ?_
                    refine z_goto (tgt := 140) ok dX7_wouldEarn_136 (by decide) ?_
                    refine z_isub ok dX7_wouldEarn_140 ?_
                    refine z_istore ok dX7_wouldEarn_141 (by decide) rfl ?_
                    refine z_iinc ok dX7_wouldEarn_143 rfl (zinc _) (by decide) rfl ?_
                    refine z_goto (tgt := 59) ok dX7_wouldEarn_146 (by decide) ?_
                    exact ih (i + 1) _ (by omega) (by omega) (by first | (rw [zEs_f hb]; exact hy) | (rw [zEs_t hb, if_pos hl, if_pos he, hy]) | (rw [zEs_t hb, if_pos hl, if_neg he, hy]) | (rw [zEs_t hb, if_neg hl, if_pos he, hy]) | (rw [zEs_t hb, if_neg hl, if_neg he, hy]))
                · have hl := i_nle cz90
                  refine z_iconst (v := 0) ok dX7_wouldEarn_93 (by decide) ?_
                  refine z_goto (tgt := 104) ok dX7_wouldEarn_94 (by decide) ?_
                  refine z_iadd ok dX7_wouldEarn_104 ?_
                  refine z_istore ok dX7_wouldEarn_105 (by decide) rfl ?_
                  refine z_iload ok dX7_wouldEarn_107 rfl ?_
                  refine z_aload_n ok dX7_wouldEarn_109 rfl ?_
                  refine z_iload ok dX7_wouldEarn_110 rfl ?_
                  refine z_iconst (v := 3) ok dX7_wouldEarn_112 (by decide) ?_
                  refine z_callVi ok dX7_wouldEarn_113 zm_X7_of zw_845 zi_X7_of hm.1 rfl (ct_X7_of hm (i := i) (k := 3) rfl rfl (by omega)) rfl rfl (by decide) (by decide) (by decide) (Nat.le_of_ble_eq_true rfl) (fun xz40 Mz41 qz42 => ?_)
                  obtain ⟨rfl, hMe⟩ := qz42
                  obtain rfl := hMe.symm
                  refine z_iload_n ok dX7_wouldEarn_116 rfl ?_
                  refine z_icmp_le (tgt := 139) ok dX7_wouldEarn_117 (by decide) (fun cz117 => ?_) (fun cz117 => ?_)
                  · have he := Int32.not_lt.mpr cz117
                    refine z_iconst (v := 0) ok dX7_wouldEarn_139 (by decide) ?_
                    refine z_isub ok dX7_wouldEarn_140 ?_
                    refine z_istore ok dX7_wouldEarn_141 (by decide) rfl ?_
                    refine z_iinc ok dX7_wouldEarn_143 rfl (zinc _) (by decide) rfl ?_
                    refine z_goto (tgt := 59) ok dX7_wouldEarn_146 (by decide) ?_
                    exact ih (i + 1) _ (by omega) (by omega) (by first | (rw [zEs_f hb]; exact hy) | (rw [zEs_t hb, if_pos hl, if_pos he, hy]) | (rw [zEs_t hb, if_pos hl, if_neg he, hy]) | (rw [zEs_t hb, if_neg hl, if_pos he, hy]) | (rw [zEs_t hb, if_neg hl, if_neg he, hy]))
                  · have he := i_nle cz117
                    refine z_aload_n ok dX7_wouldEarn_120 rfl ?_
                    refine z_iload ok dX7_wouldEarn_121 rfl ?_
                    refine z_iconst (v := 3) ok dX7_wouldEarn_123 (by decide) ?_
                    refine z_callVi ok dX7_wouldEarn_124 zm_X7_of zw_845 zi_X7_of hm.1 rfl (ct_X7_of hm (i := i) (k := 3) rfl rfl (by omega)) rfl rfl (by decide) (by decide) (by decide) (Nat.le_of_ble_eq_true rfl) (fun xz43 Mz44 qz45 => ?_)
                    obtain ⟨rfl, hMe⟩ := qz45
                    obtain rfl := hMe.symm
                    refine z_iload_n ok dX7_wouldEarn_127 rfl ?_
                    refine z_isub ok dX7_wouldEarn_128 ?_
                    refine z_aload_n ok dX7_wouldEarn_129 rfl ?_
                    refine z_getf ok dX7_wouldEarn_130 zin_X7 rfl 0 (by decide) zw_771 hm.1 rfl ?_
                    refine z_iconst (v := 2) ok dX7_wouldEarn_133 (by decide) ?_
                    refine m_ald1 ok dX7_wouldEarn_134 hm rfl (by decide) ?_
                    refine z_imul ok dX7_wouldEarn_135 ?_
                    refine z_goto (tgt := 140) ok dX7_wouldEarn_136 (by decide) ?_
                    refine z_isub ok dX7_wouldEarn_140 ?_
                    refine z_istore ok dX7_wouldEarn_141 (by decide) rfl ?_
                    refine z_iinc ok dX7_wouldEarn_143 rfl (zinc _) (by decide) rfl ?_
                    refine z_goto (tgt := 59) ok dX7_wouldEarn_146 (by decide) ?_
                    exact ih (i + 1) _ (by omega) (by omega) (by first | (rw [zEs_f hb]; exact hy) | (rw [zEs_t hb, if_pos hl, if_pos he, hy]) | (rw [zEs_t hb, if_pos hl, if_neg he, hy]) | (rw [zEs_t hb, if_neg hl, if_pos he, hy]) | (rw [zEs_t hb, if_neg hl, if_neg he, hy]))
        exact loop59 (n + 1) 0 _ (by omega) (by omega) rfl
      · refine z_ldc ok dX7_wouldEarn_28 zw_849 ?_
        exact z_iret ok dX7_wouldEarn_30 rfl rfl rfl (Nat.zero_le _) (zTell_rf hm (by unfold spWEarn; grind))
  · have hb5 := b2_0.mp cz5
    refine z_ldc ok dX7_wouldEarn_8 zw_822 ?_
    exact z_iret ok dX7_wouldEarn_10 rfl rfl rfl (Nat.zero_le _) (zTell_rf hm (by unfold spWEarn; grind))

