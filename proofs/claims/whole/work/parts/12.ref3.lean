theorem pg_lo {s : Nat → Int32} {c k j : Nat} {x : Int32} (h : j < 13) : pg s c k x j = s j := by
  unfold pg upd
  rw [if_neg (by omega)]
theorem pv_lo {s : Nat → Int32} {c k j : Nat} {x : Int32} (h : j < 13) : pv s c k x j = s j := by
  unfold pv upd
  rw [if_neg (by omega)]
def zCp (f g : Nat → Int32) (n : Nat) : Nat → Int32 := fun j => if j < n then f j else g j
theorem zCp_step (f g : Nat → Int32) (i : Nat) : upd (zCp f g i) i (f i) = zCp f g (i + 1) := by
  funext j
  unfold upd zCp
  by_cases h : j = i
  · subst h; simp
  · rw [if_neg h]
    by_cases h2 : j < i
    · rw [if_pos h2, if_pos (by omega)]
    · rw [if_neg h2, if_neg (by omega)]
set_option maxRecDepth 20000 in
set_option maxHeartbeats 4000000 in
theorem ct_X7_copies {K : zK} {M : mM} {nx : Nat} {a0 a1 : Nat} {f g : Nat → Int32} (h0 : zArr M a0 287 f) (h1 : zArr M a1 287 g) (hne : a0 ≠ a1) : zCt K yX7_copies cX7_copies 3 zr_X7_copies 0 [.ref a0, .ref a1] M nx 0 0 (zU (fun M' => zArr M' a1 287 f ∧ ∀ q, q ≠ a1 → M' q = M q)) := by
  refine z_enter [some (.ref a0), some (.ref a1), none] (by decide +kernel) (Nat.le_of_ble_eq_true rfl) rfl (fun B ok hz => ?_)
  refine z_iconst (v := 0) ok dX7_copies_0 (by decide) ?_
  refine z_istore_n ok dX7_copies_1 (by decide) rfl ?_
  have loop2 : ∀ (t i : Nat) (M1 : mM), 287 < i + t → i ≤ 287 → zArr M1 a1 287 (zCp f g i) → (∀ q, q ≠ a1 → M1 q = M q) → zV 3 B (zE B (zU (fun M' => zArr M' a1 287 f ∧ ∀ q, q ≠ a1 → M' q = M q)) 0 0) 2 [some (.ref a0), some (.ref a1), some (.int (nI i))] [] M1 0 0 := by
    intro t
    induction t with
    | zero => intro i M1 h1 h2; exact absurd h1 (by omega)
    | succ t ih =>
      intro i M1 h1 h2 ha hq
      refine z_iload_n ok dX7_copies_2 rfl ?_
      refine z_sipush (v := 287) ok dX7_copies_3 (by decide) ?_
      refine z_icmp_ge (tgt := 21) ok dX7_copies_6 (by decide) (fun cz6 => ?_) (fun cz6 => ?_)
      · have hin : i = 287 := by have := (nI_leI (a := 287) (by omega) (by omega)).mp cz6; omega
        subst hin
        exact z_vret ok dX7_copies_21 rfl rfl (Nat.zero_le _) ⟨ha.cong (fun j hj => if_pos hj), hq⟩
      · have hin : i < 287 := by have := mt (nI_leI (a := 287) (b := i) (by omega) (by omega)).mpr cz6; omega
        refine z_aload_n ok dX7_copies_9 rfl ?_
        refine z_iload_n ok dX7_copies_10 rfl ?_
        refine z_aload_n ok dX7_copies_11 rfl ?_
        refine z_iload_n ok dX7_copies_12 rfl ?_
        refine z_ald ok dX7_copies_13 (h0.kept (hq _ hne)) rfl hin (by omega) ?_
        refine z_ast ok dX7_copies_14 ha rfl hin (by omega) (fun M2 ha2 hq2 => ?_)
        refine z_iinc ok dX7_copies_15 rfl (zinc _) (by decide) rfl ?_
        refine z_goto (tgt := 2) ok dX7_copies_18 (by decide) ?_
        exact ih (i + 1) _ (by omega) (by omega) (by rw [← zCp_step]; exact ha2) (fun q hq9 => (hq2 q hq9).trans (hq q hq9))
  exact loop2 288 0 M (by omega) (by omega) h1 (fun _ _ => rfl)

set_option maxRecDepth 20000 in
set_option maxHeartbeats 4000000 in
theorem ct_X7_loads {K : zK} {M : mM} {nx : Nat} {m : Nat} {μ : zMS} (hm : mPic M m μ) {n nv no : Nat} (hN : zN (μ.1 1) n nv no) {c : Int32} {ic : Nat} (hc : c = nI ic) (hic : ic < n) {v : Int32} : zCt K yX7_loads cX7_loads 3 zr_X7_loads 1 [.ref m, .int c, .int v] M nx 0 0 (zU (fun M' => mPic M' m (mA μ 1 (pg (pg (μ.1 1) ic 6 1) ic 7 v)) ∧ zFr M M' m 9)) := by
  refine z_enter [some (.ref m), some (.int c), some (.int v)] (by decide +kernel) (Nat.le_of_ble_eq_true rfl) rfl (fun B ok hz => ?_)
  have hn16 := hN.2.1
  subst hc
  refine z_aload_n ok dX7_loads_0 rfl ?_
  refine z_iload_n ok dX7_loads_1 rfl ?_
  refine z_bipush (v := 6) ok dX7_loads_2 (by decide) ?_
  refine z_iconst (v := 1) ok dX7_loads_4 (by decide) ?_
  refine z_callVv ok dX7_loads_5 zm_X7_puts zw_832 zi_X7_puts hm.1 rfl (ct_X7_puts hm (i := ic) (k := 6) rfl rfl (by omega)) rfl rfl (by decide) (by decide) (by decide) (Nat.le_of_ble_eq_true rfl) (fun Mz2 qz3 => ?_)
  obtain ⟨hm4, fzxz1⟩ := qz3
  try simp only [mA_s, mA_mA] at hm4
  refine z_aload_n ok dX7_loads_8 rfl ?_
  refine z_iload_n ok dX7_loads_9 rfl ?_
  refine z_bipush (v := 7) ok dX7_loads_10 (by decide) ?_
  refine z_iload_n ok dX7_loads_12 rfl ?_
  refine z_callVv ok dX7_loads_13 zm_X7_puts zw_832 zi_X7_puts hm4.1 rfl (ct_X7_puts hm4 (i := ic) (k := 7) rfl rfl (by omega)) rfl rfl (by decide) (by decide) (by decide) (Nat.le_of_ble_eq_true rfl) (fun Mz6 qz7 => ?_)
  obtain ⟨hm8, fzxz5⟩ := qz7
  try simp only [mA_s, mA_mA] at hm8
  exact z_vret ok dX7_loads_16 rfl rfl (Nat.zero_le _) ⟨by assumption, (by repeat (first | assumption | exact zFr.rf | refine zFr.tr (by assumption) ?_))⟩

def zBits (x : Int32) (n : Nat) : Int32 := zSum (fun k => (x >>> (nI k &&& 31)) &&& 1) n
set_option maxRecDepth 20000 in
set_option maxHeartbeats 4000000 in
theorem ct_X7_bits {K : zK} {M : mM} {nx : Nat} {x : Int32} : zCt K yX7_bits cX7_bits 3 zr_X7_bits 0 [.int x] M nx 0 0 (zI (fun y M' => y = zBits x 16 ∧ M' = M)) := by
  refine z_enter [some (.int x), none, none] (by decide +kernel) (Nat.le_of_ble_eq_true rfl) rfl (fun B ok hz => ?_)
  refine z_iconst (v := 0) ok dX7_bits_0 (by decide) ?_
  refine z_istore_n ok dX7_bits_1 (by decide) rfl ?_
  refine z_iconst (v := 0) ok dX7_bits_2 (by decide) ?_
  refine z_istore_n ok dX7_bits_3 (by decide) rfl ?_
  have loop4 : ∀ (t i : Nat) (y : Int32), 16 < i + t → i ≤ 16 → y = zBits x i → zV 3 B (zE B (zI (fun y M' => y = zBits x 16 ∧ M' = M)) 0 0) 4 [some (.int x), some (.int y), some (.int (nI i))] [] M 0 0 := by
    intro t
    induction t with
    | zero => intro i y h1 h2; exact absurd h1 (by omega)
    | succ t ih =>
      intro i y h1 h2 hy
      refine z_iload_n ok dX7_bits_4 rfl ?_
      refine z_bipush (v := 16) ok dX7_bits_5 (by decide) ?_
      refine z_icmp_ge (tgt := 24) ok dX7_bits_7 (by decide) (fun cz7 => ?_) (fun cz7 => ?_)
      · have hin : i = 16 := by have := (nI_leI (a := 16) (by omega) (by omega)).mp cz7; omega
        subst hin
        refine z_iload_n ok dX7_bits_24 rfl ?_
        exact z_iret ok dX7_bits_25 rfl rfl rfl (Nat.zero_le _) ⟨hy, rfl⟩
      · have hin : i < 16 := by have := mt (nI_leI (a := 16) (b := i) (by omega) (by omega)).mpr cz7; omega
        refine z_iload_n ok dX7_bits_10 rfl ?_
        refine z_iload_n ok dX7_bits_11 rfl ?_
        refine z_iload_n ok dX7_bits_12 rfl ?_
        refine z_ishr ok dX7_bits_13 ?_
        refine z_iconst (v := 1) ok dX7_bits_14 (by decide) ?_
        refine z_iand ok dX7_bits_15 ?_
        refine z_iadd ok dX7_bits_16 ?_
        refine z_istore_n ok dX7_bits_17 (by decide) rfl ?_
        refine z_iinc ok dX7_bits_18 rfl (zinc _) (by decide) rfl ?_
        refine z_goto (tgt := 4) ok dX7_bits_21 (by decide) ?_
        exact ih (i + 1) _ (by omega) (by omega) (by rw [hy]; rfl)
  exact loop4 17 0 _ (by omega) (by omega) rfl

def zBy (s : Nat → Int32) (c o : Nat) (rule : Int32) : Int32 := if rule = 0 then gd s c 4 - gd s o 4 else if rule = 1 then gd s o 5 - gd s c 5 else gd s o 5 * gd s c 1 - gd s c 5 * gd s o 1
abbrev zAhead (s : Nat → Int32) (c o : Nat) (rule : Int32) : Prop := zBy s c o rule < 0 ∨ (zBy s c o rule = 0 ∧ nI c < nI o)
set_option maxRecDepth 20000 in
set_option maxHeartbeats 4000000 in
theorem ct_X7_isAhead {K : zK} {M : mM} {nx : Nat} {m : Nat} {μ : zMS} (hm : mPic M m μ) {n nv no : Nat} (hN : zN (μ.1 1) n nv no) {c : Int32} {ic : Nat} (hc : c = nI ic) (hic : ic < n) {o r : Int32} {io : Nat} (ho : o = nI io) (hio : io < n) : zCt K yX7_isAhead cX7_isAhead 5 zr_X7_isAhead 1 [.ref m, .int c, .int o, .int r] M nx 0 0 (zI (fun x M' => x = b2 (zAhead (μ.1 1) ic io r) ∧ M' = M)) := by
  refine z_enter [some (.ref m), some (.int c), some (.int o), some (.int r), none] (by decide +kernel) (Nat.le_of_ble_eq_true rfl) rfl (fun B ok hz => ?_)
  have hn16 := hN.2.1
  subst hc
  subst ho
  refine z_iload_n ok dX7_isAhead_0 rfl ?_
  refine z_if_ne (tgt := 20) ok dX7_isAhead_1 (by decide) (fun cz1 => ?_) (fun cz1 => ?_)
  · refine z_iload_n ok dX7_isAhead_20 rfl ?_
    refine z_iconst (v := 1) ok dX7_isAhead_21 (by decide) ?_
    refine z_icmp_ne (tgt := 41) ok dX7_isAhead_22 (by decide) (fun cz22 => ?_) (fun cz22 => ?_)
    · refine z_aload_n ok dX7_isAhead_41 rfl ?_
      refine z_iload_n ok dX7_isAhead_42 rfl ?_
      refine z_iconst (v := 5) ok dX7_isAhead_43 (by decide) ?_
      refine z_callVi ok dX7_isAhead_44 zm_X7_of zw_845 zi_X7_of hm.1 rfl (ct_X7_of hm (i := io) (k := 5) rfl rfl (by omega)) rfl rfl (by decide) (by decide) (by decide) (Nat.le_of_ble_eq_true rfl) (fun xz1 Mz2 qz3 => ?_)
      obtain ⟨rfl, hMe⟩ := qz3
      obtain rfl := hMe.symm
      refine z_aload_n ok dX7_isAhead_47 rfl ?_
      refine z_iload_n ok dX7_isAhead_48 rfl ?_
      refine z_iconst (v := 1) ok dX7_isAhead_49 (by decide) ?_
      refine z_callVi ok dX7_isAhead_50 zm_X7_of zw_845 zi_X7_of hm.1 rfl (ct_X7_of hm (i := ic) (k := 1) rfl rfl (by omega)) rfl rfl (by decide) (by decide) (by decide) (Nat.le_of_ble_eq_true rfl) (fun xz4 Mz5 qz6 => ?_)
      obtain ⟨rfl, hMe⟩ := qz6
      obtain rfl := hMe.symm
      refine z_imul ok dX7_isAhead_53 ?_
      refine z_aload_n ok dX7_isAhead_54 rfl ?_
      refine z_iload_n ok dX7_isAhead_55 rfl ?_
      refine z_iconst (v := 5) ok dX7_isAhead_56 (by decide) ?_
      refine z_callVi ok dX7_isAhead_57 zm_X7_of zw_845 zi_X7_of hm.1 rfl (ct_X7_of hm (i := ic) (k := 5) rfl rfl (by omega)) rfl rfl (by decide) (by decide) (by decide) (Nat.le_of_ble_eq_true rfl) (fun xz7 Mz8 qz9 => ?_)
      obtain ⟨rfl, hMe⟩ := qz9
      obtain rfl := hMe.symm
      refine z_aload_n ok dX7_isAhead_60 rfl ?_
      refine z_iload_n ok dX7_isAhead_61 rfl ?_
      refine z_iconst (v := 1) ok dX7_isAhead_62 (by decide) ?_
      refine z_callVi ok dX7_isAhead_63 zm_X7_of zw_845 zi_X7_of hm.1 rfl (ct_X7_of hm (i := io) (k := 1) rfl rfl (by omega)) rfl rfl (by decide) (by decide) (by decide) (Nat.le_of_ble_eq_true rfl) (fun xz10 Mz11 qz12 => ?_)
      obtain ⟨rfl, hMe⟩ := qz12
      obtain rfl := hMe.symm
      refine z_imul ok dX7_isAhead_66 ?_
      refine z_isub ok dX7_isAhead_67 ?_
      refine z_istore ok dX7_isAhead_68 (by decide) rfl ?_
      refine z_iload ok dX7_isAhead_70 rfl ?_
      refine z_if_lt (tgt := 85) ok dX7_isAhead_72 (by decide) (fun cz72 => ?_) (fun cz72 => ?_)
      · refine z_iconst (v := 1) ok dX7_isAhead_85 (by decide) ?_
        refine z_goto (tgt := 90) ok dX7_isAhead_86 (by decide) ?_
        exact z_iret ok dX7_isAhead_90 rfl rfl rfl (Nat.zero_le _) ⟨by first | (exact b2_t (by unfold zAhead zBy; grind)) | (exact b2_f (by unfold zAhead zBy; grind)), rfl⟩
      · refine z_iload ok dX7_isAhead_75 rfl ?_
        refine z_if_ne (tgt := 89) ok dX7_isAhead_77 (by decide) (fun cz77 => ?_) (fun cz77 => ?_)
        · refine z_iconst (v := 0) ok dX7_isAhead_89 (by decide) ?_
          exact z_iret ok dX7_isAhead_90 rfl rfl rfl (Nat.zero_le _) ⟨by first | (exact b2_t (by unfold zAhead zBy; grind)) | (exact b2_f (by unfold zAhead zBy; grind)), rfl⟩
        · refine z_iload_n ok dX7_isAhead_80 rfl ?_
          refine z_iload_n ok dX7_isAhead_81 rfl ?_
          refine z_icmp_ge (tgt := 89) ok dX7_isAhead_82 (by decide) (fun cz82 => ?_) (fun cz82 => ?_)
          · refine z_iconst (v := 0) ok dX7_isAhead_89 (by decide) ?_
            exact z_iret ok dX7_isAhead_90 rfl rfl rfl (Nat.zero_le _) ⟨by first | (exact b2_t (by unfold zAhead zBy; grind)) | (exact b2_f (by unfold zAhead zBy; grind)), rfl⟩
          · refine z_iconst (v := 1) ok dX7_isAhead_85 (by decide) ?_
            refine z_goto (tgt := 90) ok dX7_isAhead_86 (by decide) ?_
            exact z_iret ok dX7_isAhead_90 rfl rfl rfl (Nat.zero_le _) ⟨by first | (exact b2_t (by unfold zAhead zBy; grind)) | (exact b2_f (by unfold zAhead zBy; grind)), rfl⟩
    · refine z_aload_n ok dX7_isAhead_25 rfl ?_
      refine z_iload_n ok dX7_isAhead_26 rfl ?_
      refine z_iconst (v := 5) ok dX7_isAhead_27 (by decide) ?_
      refine z_callVi ok dX7_isAhead_28 zm_X7_of zw_845 zi_X7_of hm.1 rfl (ct_X7_of hm (i := io) (k := 5) rfl rfl (by omega)) rfl rfl (by decide) (by decide) (by decide) (Nat.le_of_ble_eq_true rfl) (fun xz13 Mz14 qz15 => ?_)
      obtain ⟨rfl, hMe⟩ := qz15
      obtain rfl := hMe.symm
      refine z_aload_n ok dX7_isAhead_31 rfl ?_
      refine z_iload_n ok dX7_isAhead_32 rfl ?_
      refine z_iconst (v := 5) ok dX7_isAhead_33 (by decide) ?_
      refine z_callVi ok dX7_isAhead_34 zm_X7_of zw_845 zi_X7_of hm.1 rfl (ct_X7_of hm (i := ic) (k := 5) rfl rfl (by omega)) rfl rfl (by decide) (by decide) (by decide) (Nat.le_of_ble_eq_true rfl) (fun xz16 Mz17 qz18 => ?_)
      obtain ⟨rfl, hMe⟩ := qz18
      obtain rfl := hMe.symm
      refine z_isub ok dX7_isAhead_37 ?_
      refine z_goto (tgt := 68) ok dX7_isAhead_38 (by decide) ?_
      refine z_istore ok dX7_isAhead_68 (by decide) rfl ?_
      refine z_iload ok dX7_isAhead_70 rfl ?_
      refine z_if_lt (tgt := 85) ok dX7_isAhead_72 (by decide) (fun cz72 => ?_) (fun cz72 => ?_)
      · refine z_iconst (v := 1) ok dX7_isAhead_85 (by decide) ?_
        refine z_goto (tgt := 90) ok dX7_isAhead_86 (by decide) ?_
        exact z_iret ok dX7_isAhead_90 rfl rfl rfl (Nat.zero_le _) ⟨by first | (exact b2_t (by unfold zAhead zBy; grind)) | (exact b2_f (by unfold zAhead zBy; grind)), rfl⟩
      · refine z_iload ok dX7_isAhead_75 rfl ?_
        refine z_if_ne (tgt := 89) ok dX7_isAhead_77 (by decide) (fun cz77 => ?_) (fun cz77 => ?_)
        · refine z_iconst (v := 0) ok dX7_isAhead_89 (by decide) ?_
          exact z_iret ok dX7_isAhead_90 rfl rfl rfl (Nat.zero_le _) ⟨by first | (exact b2_t (by unfold zAhead zBy; grind)) | (exact b2_f (by unfold zAhead zBy; grind)), rfl⟩
        · refine z_iload_n ok dX7_isAhead_80 rfl ?_
          refine z_iload_n ok dX7_isAhead_81 rfl ?_
          refine z_icmp_ge (tgt := 89) ok dX7_isAhead_82 (by decide) (fun cz82 => ?_) (fun cz82 => ?_)
          · refine z_iconst (v := 0) ok dX7_isAhead_89 (by decide) ?_
            exact z_iret ok dX7_isAhead_90 rfl rfl rfl (Nat.zero_le _) ⟨by first | (exact b2_t (by unfold zAhead zBy; grind)) | (exact b2_f (by unfold zAhead zBy; grind)), rfl⟩
          · refine z_iconst (v := 1) ok dX7_isAhead_85 (by decide) ?_
            refine z_goto (tgt := 90) ok dX7_isAhead_86 (by decide) ?_
            exact z_iret ok dX7_isAhead_90 rfl rfl rfl (Nat.zero_le _) ⟨by first | (exact b2_t (by unfold zAhead zBy; grind)) | (exact b2_f (by unfold zAhead zBy; grind)), rfl⟩
  · refine z_aload_n ok dX7_isAhead_4 rfl ?_
    refine z_iload_n ok dX7_isAhead_5 rfl ?_
    refine z_iconst (v := 4) ok dX7_isAhead_6 (by decide) ?_
    refine z_callVi ok dX7_isAhead_7 zm_X7_of zw_845 zi_X7_of hm.1 rfl (ct_X7_of hm (i := ic) (k := 4) rfl rfl (by omega)) rfl rfl (by decide) (by decide) (by decide) (Nat.le_of_ble_eq_true rfl) (fun xz19 Mz20 qz21 => ?_)
    obtain ⟨rfl, hMe⟩ := qz21
    obtain rfl := hMe.symm
    refine z_aload_n ok dX7_isAhead_10 rfl ?_
    refine z_iload_n ok dX7_isAhead_11 rfl ?_
    refine z_iconst (v := 4) ok dX7_isAhead_12 (by decide) ?_
    refine z_callVi ok dX7_isAhead_13 zm_X7_of zw_845 zi_X7_of hm.1 rfl (ct_X7_of hm (i := io) (k := 4) rfl rfl (by omega)) rfl rfl (by decide) (by decide) (by decide) (Nat.le_of_ble_eq_true rfl) (fun xz22 Mz23 qz24 => ?_)
    obtain ⟨rfl, hMe⟩ := qz24
    obtain rfl := hMe.symm
    refine z_isub ok dX7_isAhead_16 ?_
    refine z_goto (tgt := 68) ok dX7_isAhead_17 (by decide) ?_
    refine z_istore ok dX7_isAhead_68 (by decide) rfl ?_
    refine z_iload ok dX7_isAhead_70 rfl ?_
    refine z_if_lt (tgt := 85) ok dX7_isAhead_72 (by decide) (fun cz72 => ?_) (fun cz72 => ?_)
    · refine z_iconst (v := 1) ok dX7_isAhead_85 (by decide) ?_
      refine z_goto (tgt := 90) ok dX7_isAhead_86 (by decide) ?_
      exact z_iret ok dX7_isAhead_90 rfl rfl rfl (Nat.zero_le _) ⟨by first | (exact b2_t (by unfold zAhead zBy; grind)) | (exact b2_f (by unfold zAhead zBy; grind)), rfl⟩
    · refine z_iload ok dX7_isAhead_75 rfl ?_
      refine z_if_ne (tgt := 89) ok dX7_isAhead_77 (by decide) (fun cz77 => ?_) (fun cz77 => ?_)
      · refine z_iconst (v := 0) ok dX7_isAhead_89 (by decide) ?_
        exact z_iret ok dX7_isAhead_90 rfl rfl rfl (Nat.zero_le _) ⟨by first | (exact b2_t (by unfold zAhead zBy; grind)) | (exact b2_f (by unfold zAhead zBy; grind)), rfl⟩
      · refine z_iload_n ok dX7_isAhead_80 rfl ?_
        refine z_iload_n ok dX7_isAhead_81 rfl ?_
        refine z_icmp_ge (tgt := 89) ok dX7_isAhead_82 (by decide) (fun cz82 => ?_) (fun cz82 => ?_)
        · refine z_iconst (v := 0) ok dX7_isAhead_89 (by decide) ?_
          exact z_iret ok dX7_isAhead_90 rfl rfl rfl (Nat.zero_le _) ⟨by first | (exact b2_t (by unfold zAhead zBy; grind)) | (exact b2_f (by unfold zAhead zBy; grind)), rfl⟩
        · refine z_iconst (v := 1) ok dX7_isAhead_85 (by decide) ?_
          refine z_goto (tgt := 90) ok dX7_isAhead_86 (by decide) ?_
          exact z_iret ok dX7_isAhead_90 rfl rfl rfl (Nat.zero_le _) ⟨by first | (exact b2_t (by unfold zAhead zBy; grind)) | (exact b2_f (by unfold zAhead zBy; grind)), rfl⟩

set_option maxRecDepth 20000 in
set_option maxHeartbeats 4000000 in
theorem ct_X7_canLoad {K : zK} {M : mM} {nx : Nat} {m : Nat} {μ : zMS} (hm : mPic M m μ) {n nv no : Nat} (hN : zN (μ.1 1) n nv no) {c : Int32} {ic : Nat} (hc : c = nI ic) (hic : ic < n) {v : Int32} {iv : Nat} (hv : v = nI iv) (hiv : iv < nv) : zCt K yX7_canLoad cX7_canLoad 4 zr_X7_canLoad 4 [.ref m, .int c, .int v] M nx 0 0 (zI (fun x M' => x = b2 (zCan (μ.1 1) n ic iv) ∧ M' = M)) := by
  refine z_enter [some (.ref m), some (.int c), some (.int v), none] (by decide +kernel) (Nat.le_of_ble_eq_true rfl) rfl (fun B ok hz => ?_)
  have hn16 := hN.2.1
  have hnv4 := hN.2.2.2.1
  subst hc
  subst hv
  have J : ∀ x0 : Int32, x0 = b2 (gd (μ.1 1) ic 6 = 0 ∧ vd (μ.1 1) iv 2 = 0 ∧ (zGoal (μ.1 1) n iv < 0 ∨ zGoal (μ.1 1) n iv = gd (μ.1 1) ic 0)) → zV 4 B (zE B (zI (fun x M' => x = b2 (zCan (μ.1 1) n ic iv) ∧ M' = M)) 0 0) 46 [some (.ref m), some (.int (nI ic)), some (.int (nI iv)), none] [.int x0] M 0 0 := by
    intro x0 hx0
    subst hx0
    refine z_istore_n ok dX7_canLoad_46 (by decide) rfl ?_
    refine z_iload_n ok dX7_canLoad_47 rfl ?_
    refine z_if_eq (tgt := 99) ok dX7_canLoad_48 (by decide) (fun cz48 => ?_) (fun cz48 => ?_)
    · have hb := b2_0.mp cz48
      refine z_iconst (v := 0) ok dX7_canLoad_99 (by decide) ?_
      exact z_iret ok dX7_canLoad_100 rfl rfl rfl (Nat.zero_le _) ⟨by first | (exact b2_t (by grind)) | (exact b2_f (by grind)), rfl⟩
    · have hb := Decidable.not_not.mp (mt b2_0.mpr cz48)
      refine z_aload_n ok dX7_canLoad_51 rfl ?_
      refine z_iload_n ok dX7_canLoad_52 rfl ?_
      refine z_iconst (v := 1) ok dX7_canLoad_53 (by decide) ?_
      refine z_callVi ok dX7_canLoad_54 zm_X7_loaded zw_886 zi_X7_loaded hm.1 rfl (ct_X7_loaded hm hN (k := 1) rfl (by omega)) rfl rfl (by decide) (by decide) (by decide) (Nat.le_of_ble_eq_true rfl) (fun xz1 Mz2 qz3 => ?_)
      obtain ⟨rfl, hMe⟩ := qz3
      obtain rfl := hMe.symm
      refine z_aload_n ok dX7_canLoad_57 rfl ?_
      refine z_iload_n ok dX7_canLoad_58 rfl ?_
      refine z_iconst (v := 1) ok dX7_canLoad_59 (by decide) ?_
      refine z_callVi ok dX7_canLoad_60 zm_X7_of zw_845 zi_X7_of hm.1 rfl (ct_X7_of hm (i := ic) (k := 1) rfl rfl (by omega)) rfl rfl (by decide) (by decide) (by decide) (Nat.le_of_ble_eq_true rfl) (fun xz4 Mz5 qz6 => ?_)
      obtain ⟨rfl, hMe⟩ := qz6
      obtain rfl := hMe.symm
      refine z_iadd ok dX7_canLoad_63 ?_
      refine z_aload_n ok dX7_canLoad_64 rfl ?_
      refine z_iload_n ok dX7_canLoad_65 rfl ?_
      refine z_iconst (v := 0) ok dX7_canLoad_66 (by decide) ?_
      refine z_callVi ok dX7_canLoad_67 zm_X7_ofVehicle zw_874 zi_X7_ofVehicle hm.1 rfl (ct_X7_ofVehicle hm (i := iv) (k := 0) rfl rfl (by omega)) rfl rfl (by decide) (by decide) (by decide) (Nat.le_of_ble_eq_true rfl) (fun xz7 Mz8 qz9 => ?_)
      obtain ⟨rfl, hMe⟩ := qz9
      obtain rfl := hMe.symm
      refine z_icmp_gt (tgt := 99) ok dX7_canLoad_70 (by decide) (fun cz70 => ?_) (fun cz70 => ?_)
      · refine z_iconst (v := 0) ok dX7_canLoad_99 (by decide) ?_
        exact z_iret ok dX7_canLoad_100 rfl rfl rfl (Nat.zero_le _) ⟨by first | (exact b2_t (by grind)) | (exact b2_f (by grind)), rfl⟩
      · refine z_aload_n ok dX7_canLoad_73 rfl ?_
        refine z_iload_n ok dX7_canLoad_74 rfl ?_
        refine z_iconst (v := 2) ok dX7_canLoad_75 (by decide) ?_
        refine z_callVi ok dX7_canLoad_76 zm_X7_loaded zw_886 zi_X7_loaded hm.1 rfl (ct_X7_loaded hm hN (k := 2) rfl (by omega)) rfl rfl (by decide) (by decide) (by decide) (Nat.le_of_ble_eq_true rfl) (fun xz10 Mz11 qz12 => ?_)
        obtain ⟨rfl, hMe⟩ := qz12
        obtain rfl := hMe.symm
        refine z_aload_n ok dX7_canLoad_79 rfl ?_
        refine z_iload_n ok dX7_canLoad_80 rfl ?_
        refine z_iconst (v := 2) ok dX7_canLoad_81 (by decide) ?_
        refine z_callVi ok dX7_canLoad_82 zm_X7_of zw_845 zi_X7_of hm.1 rfl (ct_X7_of hm (i := ic) (k := 2) rfl rfl (by omega)) rfl rfl (by decide) (by decide) (by decide) (Nat.le_of_ble_eq_true rfl) (fun xz13 Mz14 qz15 => ?_)
        obtain ⟨rfl, hMe⟩ := qz15
        obtain rfl := hMe.symm
        refine z_iadd ok dX7_canLoad_85 ?_
        refine z_aload_n ok dX7_canLoad_86 rfl ?_
        refine z_iload_n ok dX7_canLoad_87 rfl ?_
        refine z_iconst (v := 1) ok dX7_canLoad_88 (by decide) ?_
        refine z_callVi ok dX7_canLoad_89 zm_X7_ofVehicle zw_874 zi_X7_ofVehicle hm.1 rfl (ct_X7_ofVehicle hm (i := iv) (k := 1) rfl rfl (by omega)) rfl rfl (by decide) (by decide) (by decide) (Nat.le_of_ble_eq_true rfl) (fun xz16 Mz17 qz18 => ?_)
        obtain ⟨rfl, hMe⟩ := qz18
        obtain rfl := hMe.symm
        refine z_icmp_gt (tgt := 99) ok dX7_canLoad_92 (by decide) (fun cz92 => ?_) (fun cz92 => ?_)
        · refine z_iconst (v := 0) ok dX7_canLoad_99 (by decide) ?_
          exact z_iret ok dX7_canLoad_100 rfl rfl rfl (Nat.zero_le _) ⟨by first | (exact b2_t (by grind)) | (exact b2_f (by grind)), rfl⟩
        · refine z_iconst (v := 1) ok dX7_canLoad_95 (by decide) ?_
          refine z_goto (tgt := 100) ok dX7_canLoad_96 (by decide) ?_
          exact z_iret ok dX7_canLoad_100 rfl rfl rfl (Nat.zero_le _) ⟨by first | (exact b2_t (by grind)) | (exact b2_f (by grind)), rfl⟩
  refine z_aload_n ok dX7_canLoad_0 rfl ?_
  refine z_iload_n ok dX7_canLoad_1 rfl ?_
  refine z_bipush (v := 6) ok dX7_canLoad_2 (by decide) ?_
  refine z_callVi ok dX7_canLoad_4 zm_X7_of zw_845 zi_X7_of hm.1 rfl (ct_X7_of hm (i := ic) (k := 6) rfl rfl (by omega)) rfl rfl (by decide) (by decide) (by decide) (Nat.le_of_ble_eq_true rfl) (fun xz19 Mz20 qz21 => ?_)
  obtain ⟨rfl, hMe⟩ := qz21
  obtain rfl := hMe.symm
  refine z_if_ne (tgt := 45) ok dX7_canLoad_7 (by decide) (fun cz7 => ?_) (fun cz7 => ?_)
  · refine z_iconst (v := 0) ok dX7_canLoad_45 (by decide) ?_
    first | exact J _ (b2_t (by grind)) | exact J _ (b2_f (by grind))
  · refine z_aload_n ok dX7_canLoad_10 rfl ?_
    refine z_iload_n ok dX7_canLoad_11 rfl ?_
    refine z_iconst (v := 2) ok dX7_canLoad_12 (by decide) ?_
    refine z_callVi ok dX7_canLoad_13 zm_X7_ofVehicle zw_874 zi_X7_ofVehicle hm.1 rfl (ct_X7_ofVehicle hm (i := iv) (k := 2) rfl rfl (by omega)) rfl rfl (by decide) (by decide) (by decide) (Nat.le_of_ble_eq_true rfl) (fun xz22 Mz23 qz24 => ?_)
    obtain ⟨rfl, hMe⟩ := qz24
    obtain rfl := hMe.symm
    refine z_if_ne (tgt := 45) ok dX7_canLoad_16 (by decide) (fun cz16 => ?_) (fun cz16 => ?_)
    · refine z_iconst (v := 0) ok dX7_canLoad_45 (by decide) ?_
      first | exact J _ (b2_t (by grind)) | exact J _ (b2_f (by grind))
    · refine z_aload_n ok dX7_canLoad_19 rfl ?_
      refine z_iload_n ok dX7_canLoad_20 rfl ?_
      refine z_callVi ok dX7_canLoad_21 zm_X7_goal zw_878 zi_X7_goal hm.1 rfl (ct_X7_goal hm hN rfl (by omega)) rfl rfl (by decide) (by decide) (by decide) (Nat.le_of_ble_eq_true rfl) (fun xz25 Mz26 qz27 => ?_)
      obtain ⟨rfl, hMe⟩ := qz27
      obtain rfl := hMe.symm
      refine z_if_lt (tgt := 41) ok dX7_canLoad_24 (by decide) (fun cz24 => ?_) (fun cz24 => ?_)
      · refine z_iconst (v := 1) ok dX7_canLoad_41 (by decide) ?_
        refine z_goto (tgt := 46) ok dX7_canLoad_42 (by decide) ?_
        first | exact J _ (b2_t (by grind)) | exact J _ (b2_f (by grind))
      · refine z_aload_n ok dX7_canLoad_27 rfl ?_
        refine z_iload_n ok dX7_canLoad_28 rfl ?_
        refine z_callVi ok dX7_canLoad_29 zm_X7_goal zw_878 zi_X7_goal hm.1 rfl (ct_X7_goal hm hN rfl (by omega)) rfl rfl (by decide) (by decide) (by decide) (Nat.le_of_ble_eq_true rfl) (fun xz28 Mz29 qz30 => ?_)
        obtain ⟨rfl, hMe⟩ := qz30
        obtain rfl := hMe.symm
        refine z_aload_n ok dX7_canLoad_32 rfl ?_
        refine z_iload_n ok dX7_canLoad_33 rfl ?_
        refine z_iconst (v := 0) ok dX7_canLoad_34 (by decide) ?_
        refine z_callVi ok dX7_canLoad_35 zm_X7_of zw_845 zi_X7_of hm.1 rfl (ct_X7_of hm (i := ic) (k := 0) rfl rfl (by omega)) rfl rfl (by decide) (by decide) (by decide) (Nat.le_of_ble_eq_true rfl) (fun xz31 Mz32 qz33 => ?_)
        obtain ⟨rfl, hMe⟩ := qz33
        obtain rfl := hMe.symm
        refine z_icmp_ne (tgt := 45) ok dX7_canLoad_38 (by decide) (fun cz38 => ?_) (fun cz38 => ?_)
        · refine z_iconst (v := 0) ok dX7_canLoad_45 (by decide) ?_
          first | exact J _ (b2_t (by grind)) | exact J _ (b2_f (by grind))
        · refine z_iconst (v := 1) ok dX7_canLoad_41 (by decide) ?_
          refine z_goto (tgt := 46) ok dX7_canLoad_42 (by decide) ?_
          first | exact J _ (b2_t (by grind)) | exact J _ (b2_f (by grind))

