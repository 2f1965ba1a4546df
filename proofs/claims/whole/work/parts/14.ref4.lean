def zMk (s : Nat → Int32) (n : Nat) (p b w f t wo : Int32) : Nat → Int32 := upd (pg (pg (pg (pg (pg (pg (pg (pg (pg (pg (pg (pg s n 0 p) n 1 b) n 2 w) n 3 f) n 4 t) n 5 wo) n 6 0) n 7 (-1000004)) n 8 (-1000004)) n 9 (s 3)) n 10 (s 5)) n 11 0) 3 (s 3 + 1)
theorem pg_3 {s : Nat → Int32} {c k : Nat} {x : Int32} : pg s c k x 3 = s 3 := pg_lo (by omega)
theorem pg_5 {s : Nat → Int32} {c k : Nat} {x : Int32} : pg s c k x 5 = s 5 := pg_lo (by omega)
set_option maxRecDepth 20000 in
set_option maxHeartbeats 4000000 in
theorem ct_X7_makes {K : zK} {M : mM} {nx : Nat} {m : Nat} {μ : zMS} (hm : mPic M m μ) {n nv no : Nat} (hN : zN (μ.1 1) n nv no) (hn : n < 16) {p b w f t wo : Int32} : zCt K yX7_makes cX7_makes 8 zr_X7_makes 1 [.ref m, .int p, .int b, .int w, .int f, .int t, .int wo] M nx 0 0 (zI (fun x M' => x = nI n ∧ mPic M' m (mA μ 1 (zMk (μ.1 1) n p b w f t wo)) ∧ zFr M M' m 9)) := by
  refine z_enter [some (.ref m), some (.int p), some (.int b), some (.int w), some (.int f), some (.int t), some (.int wo), none] (by decide +kernel) (Nat.le_of_ble_eq_true rfl) rfl (fun B ok hz => ?_)
  refine z_aload_n ok dX7_makes_0 rfl ?_
  refine z_getf ok dX7_makes_1 zin_X7 rfl 0 (by decide) zw_771 hm.1 rfl ?_
  refine z_iconst (v := 3) ok dX7_makes_4 (by decide) ?_
  refine m_ald1 ok dX7_makes_5 hm rfl (by decide) ?_
  refine z_istore ok dX7_makes_6 (by decide) rfl ?_
  refine z_aload_n ok dX7_makes_8 rfl ?_
  refine z_iload ok dX7_makes_9 rfl ?_
  refine z_iconst (v := 0) ok dX7_makes_11 (by decide) ?_
  refine z_iload_n ok dX7_makes_12 rfl ?_
  refine z_callVv ok dX7_makes_13 zm_X7_puts zw_832 zi_X7_puts hm.1 rfl (ct_X7_puts hm (i := n) (k := 0) hN.1 rfl (by omega)) rfl rfl (by decide) (by decide) (by decide) (Nat.le_of_ble_eq_true rfl) (fun Mz2 qz3 => ?_)
  obtain ⟨hm4, fzxz1⟩ := qz3
  try simp only [mA_s, mA_mA] at hm4
  refine z_aload_n ok dX7_makes_16 rfl ?_
  refine z_iload ok dX7_makes_17 rfl ?_
  refine z_iconst (v := 1) ok dX7_makes_19 (by decide) ?_
  refine z_iload_n ok dX7_makes_20 rfl ?_
  refine z_callVv ok dX7_makes_21 zm_X7_puts zw_832 zi_X7_puts hm4.1 rfl (ct_X7_puts hm4 (i := n) (k := 1) hN.1 rfl (by omega)) rfl rfl (by decide) (by decide) (by decide) (Nat.le_of_ble_eq_true rfl) (fun Mz6 qz7 => ?_)
  obtain ⟨hm8, fzxz5⟩ := qz7
  try simp only [mA_s, mA_mA] at hm8
  refine z_aload_n ok dX7_makes_24 rfl ?_
  refine z_iload ok dX7_makes_25 rfl ?_
  refine z_iconst (v := 2) ok dX7_makes_27 (by decide) ?_
  refine z_iload_n ok dX7_makes_28 rfl ?_
  refine z_callVv ok dX7_makes_29 zm_X7_puts zw_832 zi_X7_puts hm8.1 rfl (ct_X7_puts hm8 (i := n) (k := 2) hN.1 rfl (by omega)) rfl rfl (by decide) (by decide) (by decide) (Nat.le_of_ble_eq_true rfl) (fun Mz10 qz11 => ?_)
  obtain ⟨hm12, fzxz9⟩ := qz11
  try simp only [mA_s, mA_mA] at hm12
  refine z_aload_n ok dX7_makes_32 rfl ?_
  refine z_iload ok dX7_makes_33 rfl ?_
  refine z_iconst (v := 3) ok dX7_makes_35 (by decide) ?_
  refine z_iload ok dX7_makes_36 rfl ?_
  refine z_callVv ok dX7_makes_38 zm_X7_puts zw_832 zi_X7_puts hm12.1 rfl (ct_X7_puts hm12 (i := n) (k := 3) hN.1 rfl (by omega)) rfl rfl (by decide) (by decide) (by decide) (Nat.le_of_ble_eq_true rfl) (fun Mz14 qz15 => ?_)
  obtain ⟨hm16, fzxz13⟩ := qz15
  try simp only [mA_s, mA_mA] at hm16
  refine z_aload_n ok dX7_makes_41 rfl ?_
  refine z_iload ok dX7_makes_42 rfl ?_
  refine z_iconst (v := 4) ok dX7_makes_44 (by decide) ?_
  refine z_iload ok dX7_makes_45 rfl ?_
  refine z_callVv ok dX7_makes_47 zm_X7_puts zw_832 zi_X7_puts hm16.1 rfl (ct_X7_puts hm16 (i := n) (k := 4) hN.1 rfl (by omega)) rfl rfl (by decide) (by decide) (by decide) (Nat.le_of_ble_eq_true rfl) (fun Mz18 qz19 => ?_)
  obtain ⟨hm20, fzxz17⟩ := qz19
  try simp only [mA_s, mA_mA] at hm20
  refine z_aload_n ok dX7_makes_50 rfl ?_
  refine z_iload ok dX7_makes_51 rfl ?_
  refine z_iconst (v := 5) ok dX7_makes_53 (by decide) ?_
  refine z_iload ok dX7_makes_54 rfl ?_
  refine z_callVv ok dX7_makes_56 zm_X7_puts zw_832 zi_X7_puts hm20.1 rfl (ct_X7_puts hm20 (i := n) (k := 5) hN.1 rfl (by omega)) rfl rfl (by decide) (by decide) (by decide) (Nat.le_of_ble_eq_true rfl) (fun Mz22 qz23 => ?_)
  obtain ⟨hm24, fzxz21⟩ := qz23
  try simp only [mA_s, mA_mA] at hm24
  refine z_aload_n ok dX7_makes_59 rfl ?_
  refine z_iload ok dX7_makes_60 rfl ?_
  refine z_bipush (v := 6) ok dX7_makes_62 (by decide) ?_
  refine z_iconst (v := 0) ok dX7_makes_64 (by decide) ?_
  refine z_callVv ok dX7_makes_65 zm_X7_puts zw_832 zi_X7_puts hm24.1 rfl (ct_X7_puts hm24 (i := n) (k := 6) hN.1 rfl (by omega)) rfl rfl (by decide) (by decide) (by decide) (Nat.le_of_ble_eq_true rfl) (fun Mz26 qz27 => ?_)
  obtain ⟨hm28, fzxz25⟩ := qz27
  try simp only [mA_s, mA_mA] at hm28
  refine z_aload_n ok dX7_makes_68 rfl ?_
  refine z_iload ok dX7_makes_69 rfl ?_
  refine z_bipush (v := 7) ok dX7_makes_71 (by decide) ?_
  refine z_ldc ok dX7_makes_73 zw_836 ?_
  refine z_callVv ok dX7_makes_75 zm_X7_puts zw_832 zi_X7_puts hm28.1 rfl (ct_X7_puts hm28 (i := n) (k := 7) hN.1 rfl (by omega)) rfl rfl (by decide) (by decide) (by decide) (Nat.le_of_ble_eq_true rfl) (fun Mz30 qz31 => ?_)
  obtain ⟨hm32, fzxz29⟩ := qz31
  try simp only [mA_s, mA_mA] at hm32
  refine z_aload_n ok dX7_makes_78 rfl ?_
  refine z_iload ok dX7_makes_79 rfl ?_
  refine z_bipush (v := 8) ok dX7_makes_81 (by decide) ?_
  refine z_ldc ok dX7_makes_83 zw_836 ?_
  refine z_callVv ok dX7_makes_85 zm_X7_puts zw_832 zi_X7_puts hm32.1 rfl (ct_X7_puts hm32 (i := n) (k := 8) hN.1 rfl (by omega)) rfl rfl (by decide) (by decide) (by decide) (Nat.le_of_ble_eq_true rfl) (fun Mz34 qz35 => ?_)
  obtain ⟨hm36, fzxz33⟩ := qz35
  try simp only [mA_s, mA_mA] at hm36
  refine z_aload_n ok dX7_makes_88 rfl ?_
  refine z_iload ok dX7_makes_89 rfl ?_
  refine z_bipush (v := 9) ok dX7_makes_91 (by decide) ?_
  refine z_iload ok dX7_makes_93 rfl ?_
  refine z_callVv ok dX7_makes_95 zm_X7_puts zw_832 zi_X7_puts hm36.1 rfl (ct_X7_puts hm36 (i := n) (k := 9) hN.1 rfl (by omega)) rfl rfl (by decide) (by decide) (by decide) (Nat.le_of_ble_eq_true rfl) (fun Mz38 qz39 => ?_)
  obtain ⟨hm40, fzxz37⟩ := qz39
  try simp only [mA_s, mA_mA] at hm40
  refine z_aload_n ok dX7_makes_98 rfl ?_
  refine z_iload ok dX7_makes_99 rfl ?_
  refine z_bipush (v := 10) ok dX7_makes_101 (by decide) ?_
  refine z_aload_n ok dX7_makes_103 rfl ?_
  refine z_getf ok dX7_makes_104 zin_X7 rfl 0 (by decide) zw_771 hm40.1 rfl ?_
  refine z_iconst (v := 5) ok dX7_makes_107 (by decide) ?_
  refine m_ald1 ok dX7_makes_108 hm40 rfl (by decide) ?_
  refine z_callVv ok dX7_makes_109 zm_X7_puts zw_832 zi_X7_puts hm40.1 rfl (ct_X7_puts hm40 (i := n) (k := 10) hN.1 rfl (by omega)) rfl rfl (by decide) (by decide) (by decide) (Nat.le_of_ble_eq_true rfl) (fun Mz42 qz43 => ?_)
  obtain ⟨hm44, fzxz41⟩ := qz43
  try simp only [mA_s, mA_mA] at hm44
  refine z_aload_n ok dX7_makes_112 rfl ?_
  refine z_iload ok dX7_makes_113 rfl ?_
  refine z_bipush (v := 11) ok dX7_makes_115 (by decide) ?_
  refine z_iconst (v := 0) ok dX7_makes_117 (by decide) ?_
  refine z_callVv ok dX7_makes_118 zm_X7_puts zw_832 zi_X7_puts hm44.1 rfl (ct_X7_puts hm44 (i := n) (k := 11) hN.1 rfl (by omega)) rfl rfl (by decide) (by decide) (by decide) (Nat.le_of_ble_eq_true rfl) (fun Mz46 qz47 => ?_)
  obtain ⟨hm48, fzxz45⟩ := qz47
  try simp only [mA_s, mA_mA] at hm48
  refine z_aload_n ok dX7_makes_121 rfl ?_
  refine z_getf ok dX7_makes_122 zin_X7 rfl 0 (by decide) zw_771 hm48.1 rfl ?_
  refine z_iconst (v := 3) ok dX7_makes_125 (by decide) ?_
  refine z_dup2 ok dX7_makes_126 rfl rfl ?_
  refine m_ald1 ok dX7_makes_127 hm48 rfl (by decide) ?_
  refine z_iconst (v := 1) ok dX7_makes_128 (by decide) ?_
  refine z_iadd ok dX7_makes_129 ?_
  refine m_ast1 ok dX7_makes_130 hm48 rfl (by decide) (fun Mz50 hm49 frz51 => ?_)
  refine z_iload ok dX7_makes_131 rfl ?_
  exact z_iret ok dX7_makes_133 rfl rfl rfl (Nat.zero_le _) ⟨hN.1, by (have h9 := hm49; simp only [mA_s, mA_mA, pg_3, pg_5] at h9; exact h9), (by repeat (first | assumption | exact zFr.rf | refine zFr.tr (by assumption) ?_))⟩

def zSh (p : Nat → Int32) (i : Nat) : Nat → Int32 := fun j => if j < i then p (j + 287) else p j
theorem zSh_step (p : Nat → Int32) (i : Nat) : upd (zSh p i) i (zSh p i (i + 287)) = zSh p (i + 1) := by
  funext j
  unfold upd zSh
  by_cases h : j = i
  · subst h
    rw [if_pos rfl, if_neg (by omega), if_pos (by omega)]
  · rw [if_neg h]
    by_cases h2 : j < i
    · rw [if_pos h2, if_pos (by omega)]
    · rw [if_neg h2, if_neg (by omega)]
def zPu (s p : Nat → Int32) (q i : Nat) : Nat → Int32 := fun j => if 287 * q ≤ j ∧ j < 287 * q + i then s (j - 287 * q) else p j
theorem zPu_step (s p : Nat → Int32) (q i : Nat) : upd (zPu s p q i) (287 * q + i) (s i) = zPu s p q (i + 1) := by
  funext j
  unfold upd zPu
  by_cases h : j = 287 * q + i
  · subst h
    rw [if_pos rfl, if_pos (by omega)]
    congr 1
    omega
  · rw [if_neg h]
    by_cases h2 : 287 * q ≤ j ∧ j < 287 * q + i
    · rw [if_pos h2, if_pos (by omega)]
    · rw [if_neg h2, if_neg (by omega)]
/-- the history with one state more: s behind p states, of which the eldest goes if they are four -/
def zPast (s past : Nat → Int32) (p : Nat) : Nat → Int32 := if p = 4 then zPu s (zSh past 861) 3 287 else zPu s past p 287
def zCh (μ : zMS) (p : Nat) : zMS := mS (mA μ 2 (zPast (μ.1 1) (μ.1 2) p)) 4 (nI (if p = 4 then 4 else p + 1))
theorem mA_mS (μ : zMS) (k j : Nat) (x : Int32) (f : Nat → Int32) : mA (mS μ k x) j f = mS (mA μ j f) k x := rfl
set_option maxRecDepth 20000 in
set_option maxHeartbeats 4000000 in
theorem ct_X7_changesR {K : zK} {M : mM} {nx : Nat} {m : Nat} {μ : zMS} (hm : mPic M m μ) (hr : μ.2 5 = 1) : zCt K yX7_changes cX7_changes 2 zr_X7_changes 0 [.ref m] M nx 0 0 (zU (fun M' => M' = M)) := by
  refine z_enter [some (.ref m), none] (by decide +kernel) (Nat.le_of_ble_eq_true rfl) rfl (fun B ok hz => ?_)
  refine z_aload_n ok dX7_changes_0 rfl ?_
  refine z_getf ok dX7_changes_1 zin_X7 rfl 5 (by decide) zw_776 hm.1 rfl ?_
  refine z_if_eq (tgt := 8) ok dX7_changes_4 (by decide) (fun q9 => absurd q9 (by rw [hr]; decide)) (fun _ => ?_)
  exact z_vret ok dX7_changes_7 rfl rfl (Nat.zero_le _) rfl

theorem mA_self (μ : zMS) (k : Nat) : mA μ k (μ.1 k) = μ := by
  unfold mA
  obtain ⟨a, b⟩ := μ
  congr 1
  funext j
  by_cases h : j = k
  · simp [h]
  · simp [h]
theorem mPic.self2 {M : mM} {m : Nat} {μ : zMS} (h : mPic M m μ) : mPic M m (mA μ 2 (μ.1 2)) := by rw [mA_self]; exact h
theorem mPic.self1 {M : mM} {m : Nat} {μ : zMS} (h : mPic M m μ) : mPic M m (mA μ 1 (μ.1 1)) := by rw [mA_self]; exact h
set_option maxRecDepth 20000 in
set_option maxHeartbeats 4000000 in
theorem ct_X7_changes {K : zK} {M : mM} {nx : Nat} {m : Nat} {μ : zMS} (hm : mPic M m μ) (hr : μ.2 5 = 0) {p : Nat} (hp : μ.2 4 = nI p) (hp4 : p ≤ 4) : zCt K yX7_changes cX7_changes 2 zr_X7_changes 0 [.ref m] M nx 0 0 (zU (fun M' => mPic M' m (zCh μ p) ∧ zFr M M' m 9)) := by
  refine z_enter [some (.ref m), none] (by decide +kernel) (Nat.le_of_ble_eq_true rfl) rfl (fun B ok hz => ?_)
  have J : ∀ (M1 : mM) (μ1 : zMS) (q : Nat) (L1 : Option Value), mPic M1 m μ1 → μ1.2 4 = nI q → q < 4 → zFr M M1 m 9 → (∀ M2, mPic M2 m (mS (mA μ1 2 (zPu (μ1.1 1) (μ1.1 2) q 287)) 4 (nI (q + 1))) → mPic M2 m (zCh μ p)) → zV 2 B (zE B (zU (fun M' => mPic M' m (zCh μ p) ∧ zFr M M' m 9)) 0 0) 57 [some (.ref m), L1] [] M1 0 0 := by
    intro M1 μ1 q L1 hm1 hq hq4 hf1 hfin
    refine z_iconst (v := 0) ok dX7_changes_57 (by decide) ?_
    refine z_istore_n ok dX7_changes_58 (by decide) rfl ?_
    have loop59 : ∀ (t i : Nat) (M2 : mM), 287 < i + t → i ≤ 287 → mPic M2 m (mA μ1 2 (zPu (μ1.1 1) (μ1.1 2) q i)) → zFr M M2 m 9 → zV 2 B (zE B (zU (fun M' => mPic M' m (zCh μ p) ∧ zFr M M' m 9)) 0 0) 59 [some (.ref m), some (.int (nI i))] [] M2 0 0 := by
      intro t
      induction t with
      | zero => intro i M2 h1 h2; exact absurd h1 (by omega)
      | succ t ih =>
        intro i M2 h1 h2 hm2 hf2
        refine z_iload_n ok dX7_changes_59 rfl ?_
        refine z_sipush (v := 287) ok dX7_changes_60 (by decide) ?_
        refine z_icmp_ge (tgt := 93) ok dX7_changes_63 (by decide) (fun cz63 => ?_) (fun cz63 => ?_)
        · have hin : i = 287 := by have := (nI_leI (a := 287) (by omega) (by omega)).mp cz63; omega
          subst hin
          refine z_aload_n ok dX7_changes_93 rfl ?_
          refine z_dup ok dX7_changes_94 rfl ?_
          refine z_getf ok dX7_changes_95 zin_X7 rfl 4 (by decide) zw_775 hm2.1 rfl ?_
          refine z_iconst (v := 1) ok dX7_changes_98 (by decide) ?_
          refine z_iadd ok dX7_changes_99 ?_
          refine m_put4 ok dX7_changes_100 zw_775 hm2 (fun Mz2 hm1 frz3 => ?_)
          exact z_vret ok dX7_changes_103 rfl rfl (Nat.zero_le _) ⟨hfin _ (by rw [mA_2, hq, nI_1] at hm1; exact hm1), (by repeat (first | assumption | exact zFr.rf | refine zFr.tr (by assumption) ?_))⟩
        · have hin : i < 287 := by have := mt (nI_leI (a := 287) (b := i) (by omega) (by omega)).mpr cz63; omega
          refine z_aload_n ok dX7_changes_66 rfl ?_
          refine z_getf ok dX7_changes_67 zin_X7 rfl 1 (by decide) zw_772 hm2.1 rfl ?_
          refine z_sipush (v := 287) ok dX7_changes_70 (by decide) ?_
          refine z_aload_n ok dX7_changes_73 rfl ?_
          refine z_getf ok dX7_changes_74 zin_X7 rfl 4 (by decide) zw_775 hm2.1 rfl ?_
          refine z_imul ok dX7_changes_77 ?_
          refine z_iload_n ok dX7_changes_78 rfl ?_
          refine z_iadd ok dX7_changes_79 ?_
          refine z_aload_n ok dX7_changes_80 rfl ?_
          refine z_getf ok dX7_changes_81 zin_X7 rfl 0 (by decide) zw_771 hm2.1 rfl ?_
          refine z_iload_n ok dX7_changes_84 rfl ?_
          refine m_ald1 ok dX7_changes_85 hm2 rfl (by omega) ?_
          refine m_ast2 ok dX7_changes_86 hm2 (by rw [mA_2, hq, show (287 : Int32) = nI 287 from rfl, pk_mul, nI_add]) (by omega) (fun Mz5 hm4 frz6 => ?_)
          refine z_iinc ok dX7_changes_87 rfl (zinc _) (by decide) rfl ?_
          refine z_goto (tgt := 59) ok dX7_changes_90 (by decide) ?_
          exact ih (i + 1) _ (by omega) (by omega) (by rw [← zPu_step]; rw [mA_mA, mA_s, mA_n _ _ (by decide)] at hm4; exact hm4) (by repeat (first | assumption | exact zFr.rf | refine zFr.tr (by assumption) ?_))
    exact loop59 288 0 M1 (by omega) (by omega) (by have h9 : zPu (μ1.1 1) (μ1.1 2) q 0 = μ1.1 2 := (by funext j; unfold zPu; rw [if_neg (by omega)]); rw [h9]; exact mPic.self2 hm1) hf1
  refine z_aload_n ok dX7_changes_0 rfl ?_
  refine z_getf ok dX7_changes_1 zin_X7 rfl 5 (by decide) zw_776 hm.1 rfl ?_
  refine z_if_eq (tgt := 8) ok dX7_changes_4 (by decide) (fun _ => ?_) (fun q9 => absurd hr q9)
  refine z_aload_n ok dX7_changes_8 rfl ?_
  refine z_getf ok dX7_changes_9 zin_X7 rfl 4 (by decide) zw_775 hm.1 rfl ?_
  refine z_iconst (v := 4) ok dX7_changes_12 (by decide) ?_
  refine z_icmp_ne (tgt := 57) ok dX7_changes_13 (by decide) (fun cz13 => ?_) (fun cz13 => ?_)
  · have hp5 : p ≠ 4 := fun z => cz13 (by rw [hp, z]; rfl)
    exact J M μ p _ hm hp (by omega) zFr.rf (fun M2 h2 => by rw [zCh, zPast, if_neg hp5, if_neg hp5]; exact h2)
  · have hp5 : p = 4 := by have h9 : nI p = nI 4 := hp.symm.trans cz13; exact (nI_eq (by omega) (by omega)).mp h9
    refine z_iconst (v := 0) ok dX7_changes_16 (by decide) ?_
    refine z_istore_n ok dX7_changes_17 (by decide) rfl ?_
    have loop18 : ∀ (t i : Nat) (M2 : mM), 861 < i + t → i ≤ 861 → mPic M2 m (mA μ 2 (zSh (μ.1 2) i)) → zFr M M2 m 9 → zV 2 B (zE B (zU (fun M' => mPic M' m (zCh μ p) ∧ zFr M M' m 9)) 0 0) 18 [some (.ref m), some (.int (nI i))] [] M2 0 0 := by
      intro t
      induction t with
      | zero => intro i M2 h1 h2; exact absurd h1 (by omega)
      | succ t ih =>
        intro i M2 h1 h2 hm2 hf2
        refine z_iload_n ok dX7_changes_18 rfl ?_
        refine z_sipush (v := 861) ok dX7_changes_19 (by decide) ?_
        refine z_icmp_ge (tgt := 47) ok dX7_changes_22 (by decide) (fun cz22 => ?_) (fun cz22 => ?_)
        · have hin : i = 861 := by have := (nI_leI (a := 861) (by omega) (by omega)).mp cz22; omega
          subst hin
          refine z_aload_n ok dX7_changes_47 rfl ?_
          refine z_dup ok dX7_changes_48 rfl ?_
          refine z_getf ok dX7_changes_49 zin_X7 rfl 4 (by decide) zw_775 hm2.1 rfl ?_
          refine z_iconst (v := 1) ok dX7_changes_52 (by decide) ?_
          refine z_isub ok dX7_changes_53 ?_
          refine m_put4 ok dX7_changes_54 zw_775 hm2 (fun Mz8 hm7 frz9 => ?_)
          exact J _ _ 3 _ hm7 (by rw [mS_s, mA_2, hp, hp5]; rfl) (by omega) (by repeat (first | assumption | exact zFr.rf | refine zFr.tr (by assumption) ?_)) (fun M3 h3 => by rw [zCh, zPast, if_pos hp5, if_pos hp5]; rw [mA_mS, mA_mA, mS_mS, mS_1, mA_s, mA_n _ _ (by decide)] at h3; exact h3)
        · have hin : i < 861 := by have := mt (nI_leI (a := 861) (b := i) (by omega) (by omega)).mpr cz22; omega
          refine z_aload_n ok dX7_changes_25 rfl ?_
          refine z_getf ok dX7_changes_26 zin_X7 rfl 1 (by decide) zw_772 hm2.1 rfl ?_
          refine z_iload_n ok dX7_changes_29 rfl ?_
          refine z_aload_n ok dX7_changes_30 rfl ?_
          refine z_getf ok dX7_changes_31 zin_X7 rfl 1 (by decide) zw_772 hm2.1 rfl ?_
          refine z_iload_n ok dX7_changes_34 rfl ?_
          refine z_sipush (v := 287) ok dX7_changes_35 (by decide) ?_
          refine z_iadd ok dX7_changes_38 ?_
          refine m_ald2 ok dX7_changes_39 hm2 (by rw [show (287 : Int32) = nI 287 from rfl, nI_add]) (by omega) ?_
          refine m_ast2 ok dX7_changes_40 hm2 rfl (by omega) (fun Mz11 hm10 frz12 => ?_)
          refine z_iinc ok dX7_changes_41 rfl (zinc _) (by decide) rfl ?_
          refine z_goto (tgt := 18) ok dX7_changes_44 (by decide) ?_
          exact ih (i + 1) _ (by omega) (by omega) (by rw [← zSh_step]; rw [mA_mA, mA_s] at hm10; exact hm10) (by repeat (first | assumption | exact zFr.rf | refine zFr.tr (by assumption) ?_))
    exact loop18 862 0 M (by omega) (by omega) (by have h9 : zSh (μ.1 2) 0 = μ.1 2 := (by funext j; unfold zSh; rw [if_neg (by omega)]); rw [h9]; exact mPic.self2 hm) zFr.rf

