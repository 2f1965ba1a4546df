theorem spC {s : Nat → Int32} {n p b w f t o : Nat} (hp : 1 ≤ p ∧ p ≤ 4) (hb : 1 ≤ b ∧ b ≤ 99) (hw : 1 ≤ w ∧ w ≤ 99) (hf : 0 ≤ f ∧ f ≤ 9999) (ht : f ≤ t ∧ t ≤ 9999) (ho : 0 ≤ o ∧ o ≤ 999) : (zW 1 4 (nI p) ∧ zW 1 99 (nI b) ∧ zW 1 99 (nI w) ∧ zW 0 9999 (nI f) ∧ zW (nI f) 9999 (nI t) ∧ zW 0 999 (nI o)) := ⟨zWq (A := 1) (Z := 4) rfl rfl hp (by omega), zWq (A := 1) (Z := 99) rfl rfl hb (by omega), zWq (A := 1) (Z := 99) rfl rfl hw (by omega), zWq (A := 0) (Z := 9999) rfl rfl hf (by omega), zWq (A := f) (Z := 9999) rfl rfl ht (by omega), zWq (A := 0) (Z := 999) rfl rfl ho (by omega)⟩
theorem mk_ft {s : Nat → Int32} {n : Nat} {p b w f t o f' t' : Int32} : pg (pg (zMk s n p b w f t o) n 3 f') n 4 t' = zMk s n p b w f' t' o := by
  funext q
  by_cases h4 : q = 13 + 12 * n + 4
  · rw [h4]
    exact gd_pgs.trans (zMk_g (k := 4) (f := f')).symm
  · by_cases h3 : q = 13 + 12 * n + 3
    · rw [h3]
      exact (gd_pgn (k := 4) (k' := 3) (by decide) (by decide) (Or.inr (by decide))).trans (gd_pgs.trans (zMk_g (k := 3) (t := t')).symm)
    · unfold zMk pg upd
      simp only [h3, h4, if_false]
theorem mk_ft2 {s : Nat → Int32} {n k : Nat} {p b w f t o : Int32} (hk : k < n) : pg (pg (zMk s n p b w f t o) n 3 (gd (zMk s n p b w f t o) k 3)) n 4 (gd (pg (zMk s n p b w f t o) n 3 (gd (zMk s n p b w f t o) k 3)) k 4) = zMk s n p b w (gd s k 3) (gd s k 4) o := by
  rw [mk_ft, gd_pgn (by decide) (by decide) (Or.inl (by omega)), zMk_g2 hk (by decide), zMk_g2 hk (by decide)]
def zSpr (S : Nat → Int32) (n c : Nat) (b w wo : Int32) : Nat → Int32 :=
  let s2 := pg S n 9 (gd S c 9)
  let s3 := pg s2 n 10 (gd s2 c 10)
  let s4 := pg s3 c 1 (gd s3 c 1 - b)
  let s5 := pg s4 c 2 (gd s4 c 2 - w)
  pg s5 c 5 (gd s5 c 5 - wo)
theorem zSpr_e {s : Nat → Int32} {n c : Nat} {b w : Int32} : zSp s n c b w = zSpr (zMk s n (gd s c 0) b w (gd s c 3) (gd s c 4) (gd s c 5 * b / gd s c 1)) n c b w (gd s c 5 * b / gd s c 1) := rfl
theorem i_le_pred {x y : Int32} (h : x < y) : x ≤ y - 1 := by
  rw [Int32.lt_iff_toInt_lt] at h
  rw [Int32.le_iff_toInt_le, Int32.toInt_sub]
  have h1ω := Int32.le_toInt x
  have h2ω := Int32.toInt_lt y
  rw [show (1 : Int32).toInt = 1 from rfl, Int.bmod_eq_of_le (by omega) (by omega)]
  omega
theorem i_lt_pred {x y : Int32} (hy : 1 ≤ y) (h : x ≤ y - 1) : x < y := by
  rw [Int32.le_iff_toInt_le, show (1 : Int32).toInt = 1 from rfl] at hy
  rw [Int32.le_iff_toInt_le, Int32.toInt_sub] at h
  have h2ω := Int32.toInt_lt y
  rw [show (1 : Int32).toInt = 1 from rfl, Int.bmod_eq_of_le (by omega) (by omega)] at h
  rw [Int32.lt_iff_toInt_lt]
  omega
theorem spS_bad {s : Nat → Int32} {n k : Nat} {b w : Int32} (hk : k < 2 ^ 31) (h1 : 1 ≤ gd s k 1) (h2 : 1 ≤ gd s k 2) (h : gd s k 1 ≤ b ∨ ¬ w < gd s k 2) : spSplit s n (nI k) b w = .inl (-1000001) := if_neg (fun zω => by
  have z2ω := zω.2.1.2
  have z3ω := zω.2.2.2
  unfold tN at z2ω z3ω
  rw [nI_clamp hk] at z2ω z3ω
  rcases h with h | h
  · exact absurd (i_lt_pred h1 z2ω) (Int32.not_lt.mpr h)
  · exact h (i_lt_pred h2 z3ω))
theorem spS_c {s : Nat → Int32} {k : Nat} {b w : Int32} (hk : k < 2 ^ 31) (hg : zGoods s (nI k)) (hb1 : 1 ≤ b) (hw1 : 1 ≤ w) (hb : ¬ gd s k 1 ≤ b) (hw : w < gd s k 2) : zGoods s (nI k) ∧ zW 1 (gd s (tN (nI k)) 1 - 1) b ∧ zW 1 (gd s (tN (nI k)) 2 - 1) w := by
  unfold tN
  rw [nI_clamp hk]
  exact ⟨hg, ⟨hb1, i_le_pred (Int32.not_le.mp hb)⟩, hw1, i_le_pred hw⟩
theorem spS_st {s : Nat → Int32} {n k : Nat} {b w : Int32} (hk : k < 2 ^ 31) (hg : zGoods s (nI k)) (hb1 : 1 ≤ b) (hw1 : 1 ≤ w) (hb : ¬ gd s k 1 ≤ b) (hw : w < gd s k 2) (h0 : ¬ gd s k 6 = 0) : spSplit s n (nI k) b w = .inl (-1000002) := (if_pos (spS_c hk hg hb1 hw1 hb hw)).trans (if_neg (by unfold tN; rw [nI_clamp hk]; exact h0))
theorem spS_16 {s : Nat → Int32} {n k : Nat} {b w : Int32} (hk : k < 2 ^ 31) (hg : zGoods s (nI k)) (hb1 : 1 ≤ b) (hw1 : 1 ≤ w) (hb : ¬ gd s k 1 ≤ b) (hw : w < gd s k 2) (h0 : gd s k 6 = 0) (hn : n = 16) : spSplit s n (nI k) b w = .inl (-1000003) := (if_pos (spS_c hk hg hb1 hw1 hb hw)).trans ((if_pos (by unfold tN; rw [nI_clamp hk]; exact h0)).trans (if_pos hn))
theorem spS_ok {s : Nat → Int32} {n k : Nat} {b w : Int32} (hk : k < 2 ^ 31) (hg : zGoods s (nI k)) (hb1 : 1 ≤ b) (hw1 : 1 ≤ w) (hb : ¬ gd s k 1 ≤ b) (hw : w < gd s k 2) (h0 : gd s k 6 = 0) (hn : ¬ n = 16) : spSplit s n (nI k) b w = .inr (zSp s n k b w, nI n) := (if_pos (spS_c hk hg hb1 hw1 hb hw)).trans ((if_pos (by unfold tN; rw [nI_clamp hk]; exact h0)).trans ((if_neg hn).trans (by unfold tN; rw [nI_clamp hk])))
theorem nI_1le {x : Nat} (h : 1 ≤ x) (h2 : x < 2 ^ 31) : 1 ≤ nI x := (nI_leI (a := 1) (by omega) h2).mpr h
theorem spJ_no {s : Nat → Int32} {a b : Int32} (h : ¬ (zGoods s a ∧ zGoods s b ∧ ¬ a = b)) : spJoin s a b = .inl (-1000001) := if_neg h
theorem spJ_np {s : Nat → Int32} {a b : Nat} (ha : a < 2 ^ 31) (hb : b < 2 ^ 31) (h : zGoods s (nI a) ∧ zGoods s (nI b) ∧ ¬ nI a = nI b) (h2 : ¬ (gd s a 9 = gd s b 9 ∧ gd s a 6 = 0 ∧ gd s b 6 = 0)) : spJoin s (nI a) (nI b) = .inl (-1000002) := (if_pos h).trans (if_neg (by unfold tN; rw [nI_clamp ha, nI_clamp hb]; exact h2))
theorem spJ_lo {s : Nat → Int32} {a b : Nat} (ha : a < 2 ^ 31) (hb : b < 2 ^ 31) (h : zGoods s (nI a) ∧ zGoods s (nI b) ∧ ¬ nI a = nI b) (h2 : gd s a 9 = gd s b 9 ∧ gd s a 6 = 0 ∧ gd s b 6 = 0) (h3 : nI a < nI b) : spJoin s (nI a) (nI b) = .inr (zJn s a b, nI a) := (if_pos h).trans ((if_pos (by unfold tN; rw [nI_clamp ha, nI_clamp hb]; exact h2)).trans ((if_pos h3).trans (by unfold tN; rw [nI_clamp ha, nI_clamp hb])))
theorem spJ_hi {s : Nat → Int32} {a b : Nat} (ha : a < 2 ^ 31) (hb : b < 2 ^ 31) (h : zGoods s (nI a) ∧ zGoods s (nI b) ∧ ¬ nI a = nI b) (h2 : gd s a 9 = gd s b 9 ∧ gd s a 6 = 0 ∧ gd s b 6 = 0) (h3 : ¬ nI a < nI b) : spJoin s (nI a) (nI b) = .inr (zJn s b a, nI b) := (if_pos h).trans ((if_pos (by unfold tN; rw [nI_clamp ha, nI_clamp hb]; exact h2)).trans ((if_neg h3).trans (by unfold tN; rw [nI_clamp ha, nI_clamp hb])))
theorem st_sum {x y : Int32} (hx : 0 ≤ x ∧ x ≤ 5) (hy : 0 ≤ y ∧ y ≤ 5) : x + y ≤ 0 ↔ (x = 0 ∧ y = 0) := by
  have x1ω := Int32.le_iff_toInt_le.mp hx.1
  have x2ω := Int32.le_iff_toInt_le.mp hx.2
  have y1ω := Int32.le_iff_toInt_le.mp hy.1
  have y2ω := Int32.le_iff_toInt_le.mp hy.2
  rw [show (0 : Int32).toInt = 0 from rfl] at x1ω y1ω
  rw [show (5 : Int32).toInt = 5 from rfl] at x2ω y2ω
  rw [Int32.le_iff_toInt_le, Int32.toInt_add, Int.bmod_eq_of_le (by omega) (by omega), ← Int32.toInt_inj, ← Int32.toInt_inj, show (0 : Int32).toInt = 0 from rfl]
  omega
theorem sub_l {a b : Nat} : nI a + nI b - nI a = nI b := by
  rw [Int32.add_comm, Int32.add_sub_cancel]
theorem sub_r {a b : Nat} : nI a + nI b - nI b = nI a := Int32.add_sub_cancel _ _

set_option maxRecDepth 20000 in
set_option maxHeartbeats 1000000 in
theorem ct_L_goods0 {K : zK} {M : mM} {nx : Nat} {c : Nat} {s : Nat → Int32} {n nv no : Nat} (hS : lS M c s n nv no) {Y τ : Nat} (hY : Y < 10000000) (hτ : s 5 = nI τ) (hτ2 : τ ≤ 5000) : zCt K yL_goods cL_goods 14 zr_L_goods 6 [.ref c, .ref (c + 251), .ref (c + 251 + 1), .ref (c + 251 + 2), .ref (c + 251 + 3), .int 0, .int (nI Y)] M nx 0 0 (zI (fun x M' => x = 1 ∧ ∃ (s' : Nat → Int32) (n' : Nat), lS M' c s' n' nv no ∧ s' 5 = s 5 ∧ zFr M M' c 257)) := by
  refine z_enter [some (.ref c), some (.ref (c + 251)), some (.ref (c + 251 + 1)), some (.ref (c + 251 + 2)), some (.ref (c + 251 + 3)), some (.int 0), some (.int (nI Y)), none, none, none, none, none, none, none] (by decide +kernel) (Nat.le_of_ble_eq_true rfl) rfl (fun Bω okω hzω => ?_)
  have hmω := hS.2.1
  have hoω := hS.1
  have hwω := hS.2.2.1
  have hxω := hS.2.2.2
  have hNω := hwω.N
  have hn16ω := hNω.2.1
  have hnv4ω := hNω.2.2.2.1
  have hno10ω := hNω.2.2.2.2.2
  refine z_iload okω dL_goods_0 rfl ?_
  refine z_iconst (v := 2) okω dL_goods_2 (by decide) ?_
  refine z_icmp_ge (tgt := 197) okω dL_goods_3 (by decide) (fun q9ω => absurd q9ω (by decide)) (fun _ => ?_)
  refine z_iconst (v := 1) okω dL_goods_6 (by decide) ?_
  refine z_iload okω dL_goods_7 rfl ?_
  refine z_iconst (v := 4) okω dL_goods_9 (by decide) ?_
  refine z_irem okω dL_goods_10 (by decide) ?_
  refine zV_eqi (yrem (d := 4) rfl (by omega) (by omega) (by omega)) ?_
  refine z_iadd okω dL_goods_11 ?_
  refine zV_eqi (yadd (a := 1) rfl) ?_
  refine z_istore okω dL_goods_12 (by decide) rfl ?_
  refine z_iconst (v := 1) okω dL_goods_14 (by decide) ?_
  refine z_iload okω dL_goods_15 rfl ?_
  refine z_iconst (v := 4) okω dL_goods_17 (by decide) ?_
  refine z_idiv okω dL_goods_18 (by decide) ?_
  refine zV_eqi (ydiv (d := 4) rfl (by omega) (by omega) (by omega)) ?_
  refine z_iload okω dL_goods_19 rfl ?_
  refine z_iconst (v := 3) okω dL_goods_21 (by decide) ?_
  refine z_irem okω dL_goods_22 (by decide) ?_
  refine zV_eqi (yrem (d := 3) rfl (by omega) (by omega) (by omega)) ?_
  refine z_if_ne (tgt := 31) okω dL_goods_23 (by decide) (fun cz23ω => ?_) (fun cz23ω => ?_)
  · refine z_bipush (v := 25) okω dL_goods_31 (by decide) ?_
    refine z_irem okω dL_goods_33 (by decide) ?_
    refine zV_eqi (yrem (d := 25) rfl (by omega) (by omega) (by omega)) ?_
    refine z_iadd okω dL_goods_34 ?_
    refine zV_eqi (yadd (a := 1) rfl) ?_
    refine z_istore okω dL_goods_35 (by decide) rfl ?_
    refine z_iconst (v := 1) okω dL_goods_37 (by decide) ?_
    refine z_iload okω dL_goods_38 rfl ?_
    refine z_bipush (v := 7) okω dL_goods_40 (by decide) ?_
    refine z_idiv okω dL_goods_42 (by decide) ?_
    refine zV_eqi (ydiv (d := 7) rfl (by omega) (by omega) (by omega)) ?_
    refine z_iload okω dL_goods_43 rfl ?_
    refine z_iconst (v := 5) okω dL_goods_45 (by decide) ?_
    refine z_irem okω dL_goods_46 (by decide) ?_
    refine zV_eqi (yrem (d := 5) rfl (by omega) (by omega) (by omega)) ?_
    refine z_if_ne (tgt := 55) okω dL_goods_47 (by decide) (fun cz47ω => ?_) (fun cz47ω => ?_)
    · refine z_bipush (v := 25) okω dL_goods_55 (by decide) ?_
      refine z_irem okω dL_goods_57 (by decide) ?_
      refine zV_eqi (yrem (d := 25) rfl (by omega) (by omega) (by omega)) ?_
      refine z_iadd okω dL_goods_58 ?_
      refine zV_eqi (yadd (a := 1) rfl) ?_
      refine z_istore okω dL_goods_59 (by decide) rfl ?_
      refine z_aload_n okω dL_goods_61 rfl ?_
      refine z_iconst (v := 5) okω dL_goods_62 (by decide) ?_
      refine l_ldG (t := 5) okω dL_goods_63 hmω rfl (by decide) ?_
      refine zV_eqi hτ ?_
      refine z_iload okω dL_goods_64 rfl ?_
      refine z_bipush (v := 11) okω dL_goods_66 (by decide) ?_
      refine z_idiv okω dL_goods_68 (by decide) ?_
      refine zV_eqi (ydiv (d := 11) rfl (by omega) (by omega) (by omega)) ?_
      refine z_bipush (v := 20) okω dL_goods_69 (by decide) ?_
      refine z_irem okω dL_goods_71 (by decide) ?_
      refine zV_eqi (yrem (d := 20) rfl (by omega) (by omega) (by omega)) ?_
      refine z_iadd okω dL_goods_72 ?_
      refine zV_eqi (nI_add _ _) ?_
      refine z_istore okω dL_goods_73 (by decide) rfl ?_
      refine z_iload okω dL_goods_75 rfl ?_
      refine z_iload okω dL_goods_77 rfl ?_
      refine z_bipush (v := 13) okω dL_goods_79 (by decide) ?_
      refine z_idiv okω dL_goods_81 (by decide) ?_
      refine zV_eqi (ydiv (d := 13) rfl (by omega) (by omega) (by omega)) ?_
      refine z_bipush (v := 25) okω dL_goods_82 (by decide) ?_
      refine z_irem okω dL_goods_84 (by decide) ?_
      refine zV_eqi (yrem (d := 25) rfl (by omega) (by omega) (by omega)) ?_
      refine z_iadd okω dL_goods_85 ?_
      refine zV_eqi (nI_add _ _) ?_
      refine z_istore okω dL_goods_86 (by decide) rfl ?_
      refine z_iload okω dL_goods_88 rfl ?_
      refine z_bipush (v := 17) okω dL_goods_90 (by decide) ?_
      refine z_idiv okω dL_goods_92 (by decide) ?_
      refine zV_eqi (ydiv (d := 17) rfl (by omega) (by omega) (by omega)) ?_
      refine z_sipush (v := 200) okω dL_goods_93 (by decide) ?_
      refine z_irem okω dL_goods_96 (by decide) ?_
      refine zV_eqi (yrem (d := 200) rfl (by omega) (by omega) (by omega)) ?_
      refine z_istore okω dL_goods_97 (by decide) rfl ?_
      refine z_aload_n okω dL_goods_99 rfl ?_
      refine z_iconst (v := 3) okω dL_goods_100 (by decide) ?_
      refine l_ldG (t := 3) okω dL_goods_101 hmω rfl (by decide) ?_
      refine z_bipush (v := 16) okω dL_goods_102 (by decide) ?_
      refine z_icmp_ne (tgt := 134) okω dL_goods_104 (by decide) (fun cz104ω => ?_) (fun cz104ω => ?_)
      · have hn6ω : ¬ n = 16 := fun zω => cz104ω (by rw [hNω.1, zω]; rfl)
        have hltω : n < 16 := by omega
        refine z_aload_n okω dL_goods_134 rfl ?_
        refine z_aload_n okω dL_goods_135 rfl ?_
        refine z_aload_n okω dL_goods_136 rfl ?_
        refine z_aload okω dL_goods_137 rfl ?_
        refine z_iload okω dL_goods_139 rfl ?_
        refine z_iload okω dL_goods_141 rfl ?_
        refine z_iload okω dL_goods_143 rfl ?_
        refine z_iload okω dL_goods_145 rfl ?_
        refine z_callSi okω dL_goods_147 zm_L_makes zw_384 zw_385 (ct_L_makes hmω hNω hltω) rfl rfl (by decide) (by decide) (by decide) (Nat.le_of_ble_eq_true rfl) (fun xz1ω Mz2ω qz3ω => ?_)
        obtain ⟨rfl, f9ω, t9ω, hm4ω, hf9ω⟩ := qz3ω
        refine z_istore okω dL_goods_150 (by decide) rfl ?_
        refine z_aload_n okω dL_goods_152 rfl ?_
        refine z_iconst (v := 4) okω dL_goods_153 (by decide) ?_
        refine z_iload okω dL_goods_154 rfl ?_
        refine z_imul okω dL_goods_156 ?_
        refine z_iload okω dL_goods_157 rfl ?_
        refine l_st3 n okω dL_goods_159 hm4ω (lx4_0 n) (by first | assumption | omega) (fun Mz6ω hm5ω frz7ω => ?_)
        refine z_aload_n okω dL_goods_160 rfl ?_
        refine z_iconst (v := 4) okω dL_goods_161 (by decide) ?_
        refine z_iload okω dL_goods_162 rfl ?_
        refine z_imul okω dL_goods_164 ?_
        refine z_iconst (v := 1) okω dL_goods_165 (by decide) ?_
        refine z_iadd okω dL_goods_166 ?_
        refine z_iload okω dL_goods_167 rfl ?_
        refine l_st4 n okω dL_goods_169 hm5ω (lx4_1 n) (by first | assumption | omega) (fun Mz9ω hm8ω frz10ω => ?_)
        refine z_aload_n okω dL_goods_170 rfl ?_
        refine z_iload okω dL_goods_171 rfl ?_
        refine z_iload okω dL_goods_173 rfl ?_
        refine z_iload okω dL_goods_175 rfl ?_
        refine z_iload okω dL_goods_177 rfl ?_
        refine z_iload okω dL_goods_179 rfl ?_
        refine z_iload okω dL_goods_181 rfl ?_
        have ho183ω := hoω.fr (show zFr M _ (c + 251) 6 from (zFr.tr hf9ω (zFr.tr frz7ω frz10ω)))
        obtain ⟨fs183ω, hs183ω⟩ := ho183ω.self
        refine z_callVi okω dL_goods_183 zm_X6_consign zw_335 zi_X6_consign hs183ω rfl (ho183ω.to_consign hNω) rfl rfl (by decide) (by decide) (by decide) (Nat.le_of_ble_eq_true rfl) (fun xz11ω Mz12ω qz13ω => ?_)
        have hccω := spC (s := s) (n := n) (p := (1 + (Y % 4))) (b := (1 + ((Y / 4) % 25))) (w := (1 + ((Y / 7) % 25))) (f := (τ + ((Y / 11) % 20))) (t := ((τ + ((Y / 11) % 20)) + ((Y / 13) % 25))) (o := ((Y / 17) % 200)) (by omega) (by omega) (by omega) (by omega) (by omega) (by omega)
        obtain ⟨hfqω, hxeω, hoqω⟩ := (qz13ω).inr ((if_pos hccω).trans (if_neg hn6ω))
        have hfzω := ((show zFr M _ (c + 251) 6 from (zFr.tr hf9ω (zFr.tr frz7ω frz10ω))).w (c := c) (by omega) (by omega)).tr (hfqω.w (c := c) (by omega) (by omega))
        have hm14ω := ((hm8ω).eqs (mk_ft)).fr hfqω
        refine z_iload okω dL_goods_186 rfl ?_
        refine z_icmp_ne (tgt := 195) okω dL_goods_188 (by decide) (fun q9ω => absurd hxeω q9ω) (fun _ => ?_)
        refine z_iconst (v := 1) okω dL_goods_191 (by decide) ?_
        refine z_goto (tgt := 196) okω dL_goods_192 (by decide) ?_
        exact z_iret okω dL_goods_196 rfl rfl rfl (Nat.zero_le _) ⟨rfl, _, n + 1, ⟨hoqω, hm14ω, hwω.make hltω hccω, hxω.make hwω hltω hccω.2.2.1⟩, zMk_o (q := 5) (by omega) (by omega), hfzω⟩
      · have hn6ω : n = 16 := (nI_eq (by omega) (by omega)).mp (hNω.1.symm.trans cz104ω)
        refine z_aload_n okω dL_goods_107 rfl ?_
        refine z_iload okω dL_goods_108 rfl ?_
        refine z_iload okω dL_goods_110 rfl ?_
        refine z_iload okω dL_goods_112 rfl ?_
        refine z_iload okω dL_goods_114 rfl ?_
        refine z_iload okω dL_goods_116 rfl ?_
        refine z_iload okω dL_goods_118 rfl ?_
        have ho120ω := hoω.fr (show zFr M _ (c + 251) 6 from zFr.rf)
        obtain ⟨fs120ω, hs120ω⟩ := ho120ω.self
        refine z_callVi okω dL_goods_120 zm_X6_consign zw_335 zi_X6_consign hs120ω rfl (ho120ω.to_consign hNω) rfl rfl (by decide) (by decide) (by decide) (Nat.le_of_ble_eq_true rfl) (fun xz15ω Mz16ω qz17ω => ?_)
        have hccω := spC (s := s) (n := n) (p := (1 + (Y % 4))) (b := (1 + ((Y / 4) % 25))) (w := (1 + ((Y / 7) % 25))) (f := (τ + ((Y / 11) % 20))) (t := ((τ + ((Y / 11) % 20)) + ((Y / 13) % 25))) (o := ((Y / 17) % 200)) (by omega) (by omega) (by omega) (by omega) (by omega) (by omega)
        obtain ⟨hfqω, hxeω, hoqω⟩ := (qz17ω).inl ((if_pos hccω).trans (if_pos hn6ω))
        have hfzω := ((show zFr M _ (c + 251) 6 from zFr.rf).w (c := c) (by omega) (by omega)).tr (hfqω.w (c := c) (by omega) (by omega))
        have hm18ω := ((hmω).eqs (rfl)).fr hfqω
        refine z_ldc okω dL_goods_123 zw_383 ?_
        refine z_icmp_ne (tgt := 132) okω dL_goods_125 (by decide) (fun q9ω => absurd hxeω q9ω) (fun _ => ?_)
        refine z_iconst (v := 1) okω dL_goods_128 (by decide) ?_
        refine z_goto (tgt := 133) okω dL_goods_129 (by decide) ?_
        exact z_iret okω dL_goods_133 rfl rfl rfl (Nat.zero_le _) ⟨rfl, s, n, ⟨hoqω, hm18ω, hwω, hxω⟩, rfl, hfzω⟩
    · refine z_bipush (v := 99) okω dL_goods_50 (by decide) ?_
      refine z_goto (tgt := 57) okω dL_goods_52 (by decide) ?_
      refine z_irem okω dL_goods_57 (by decide) ?_
      refine zV_eqi (yrem (d := 99) rfl (by omega) (by omega) (by omega)) ?_
      refine z_iadd okω dL_goods_58 ?_
      refine zV_eqi (yadd (a := 1) rfl) ?_
      refine z_istore okω dL_goods_59 (by decide) rfl ?_
      refine z_aload_n okω dL_goods_61 rfl ?_
      refine z_iconst (v := 5) okω dL_goods_62 (by decide) ?_
      refine l_ldG (t := 5) okω dL_goods_63 hmω rfl (by decide) ?_
      refine zV_eqi hτ ?_
      refine z_iload okω dL_goods_64 rfl ?_
      refine z_bipush (v := 11) okω dL_goods_66 (by decide) ?_
      refine z_idiv okω dL_goods_68 (by decide) ?_
      refine zV_eqi (ydiv (d := 11) rfl (by omega) (by omega) (by omega)) ?_
      refine z_bipush (v := 20) okω dL_goods_69 (by decide) ?_
      refine z_irem okω dL_goods_71 (by decide) ?_
      refine zV_eqi (yrem (d := 20) rfl (by omega) (by omega) (by omega)) ?_
      refine z_iadd okω dL_goods_72 ?_
      refine zV_eqi (nI_add _ _) ?_
      refine z_istore okω dL_goods_73 (by decide) rfl ?_
      refine z_iload okω dL_goods_75 rfl ?_
      refine z_iload okω dL_goods_77 rfl ?_
      refine z_bipush (v := 13) okω dL_goods_79 (by decide) ?_
      refine z_idiv okω dL_goods_81 (by decide) ?_
      refine zV_eqi (ydiv (d := 13) rfl (by omega) (by omega) (by omega)) ?_
      refine z_bipush (v := 25) okω dL_goods_82 (by decide) ?_
      refine z_irem okω dL_goods_84 (by decide) ?_
      refine zV_eqi (yrem (d := 25) rfl (by omega) (by omega) (by omega)) ?_
      refine z_iadd okω dL_goods_85 ?_
      refine zV_eqi (nI_add _ _) ?_
      refine z_istore okω dL_goods_86 (by decide) rfl ?_
      refine z_iload okω dL_goods_88 rfl ?_
      refine z_bipush (v := 17) okω dL_goods_90 (by decide) ?_
      refine z_idiv okω dL_goods_92 (by decide) ?_
      refine zV_eqi (ydiv (d := 17) rfl (by omega) (by omega) (by omega)) ?_
      refine z_sipush (v := 200) okω dL_goods_93 (by decide) ?_
      refine z_irem okω dL_goods_96 (by decide) ?_
      refine zV_eqi (yrem (d := 200) rfl (by omega) (by omega) (by omega)) ?_
      refine z_istore okω dL_goods_97 (by decide) rfl ?_
      refine z_aload_n okω dL_goods_99 rfl ?_
      refine z_iconst (v := 3) okω dL_goods_100 (by decide) ?_
      refine l_ldG (t := 3) okω dL_goods_101 hmω rfl (by decide) ?_
      refine z_bipush (v := 16) okω dL_goods_102 (by decide) ?_
      refine z_icmp_ne (tgt := 134) okω dL_goods_104 (by decide) (fun cz104ω => ?_) (fun cz104ω => ?_)
      · have hn6ω : ¬ n = 16 := fun zω => cz104ω (by rw [hNω.1, zω]; rfl)
        have hltω : n < 16 := by omega
        refine z_aload_n okω dL_goods_134 rfl ?_
        refine z_aload_n okω dL_goods_135 rfl ?_
        refine z_aload_n okω dL_goods_136 rfl ?_
        refine z_aload okω dL_goods_137 rfl ?_
        refine z_iload okω dL_goods_139 rfl ?_
        refine z_iload okω dL_goods_141 rfl ?_
        refine z_iload okω dL_goods_143 rfl ?_
        refine z_iload okω dL_goods_145 rfl ?_
        refine z_callSi okω dL_goods_147 zm_L_makes zw_384 zw_385 (ct_L_makes hmω hNω hltω) rfl rfl (by decide) (by decide) (by decide) (Nat.le_of_ble_eq_true rfl) (fun xz19ω Mz20ω qz21ω => ?_)
        obtain ⟨rfl, f9ω, t9ω, hm22ω, hf9ω⟩ := qz21ω
        refine z_istore okω dL_goods_150 (by decide) rfl ?_
        refine z_aload_n okω dL_goods_152 rfl ?_
        refine z_iconst (v := 4) okω dL_goods_153 (by decide) ?_
        refine z_iload okω dL_goods_154 rfl ?_
        refine z_imul okω dL_goods_156 ?_
        refine z_iload okω dL_goods_157 rfl ?_
        refine l_st3 n okω dL_goods_159 hm22ω (lx4_0 n) (by first | assumption | omega) (fun Mz24ω hm23ω frz25ω => ?_)
        refine z_aload_n okω dL_goods_160 rfl ?_
        refine z_iconst (v := 4) okω dL_goods_161 (by decide) ?_
        refine z_iload okω dL_goods_162 rfl ?_
        refine z_imul okω dL_goods_164 ?_
        refine z_iconst (v := 1) okω dL_goods_165 (by decide) ?_
        refine z_iadd okω dL_goods_166 ?_
        refine z_iload okω dL_goods_167 rfl ?_
        refine l_st4 n okω dL_goods_169 hm23ω (lx4_1 n) (by first | assumption | omega) (fun Mz27ω hm26ω frz28ω => ?_)
        refine z_aload_n okω dL_goods_170 rfl ?_
        refine z_iload okω dL_goods_171 rfl ?_
        refine z_iload okω dL_goods_173 rfl ?_
        refine z_iload okω dL_goods_175 rfl ?_
        refine z_iload okω dL_goods_177 rfl ?_
        refine z_iload okω dL_goods_179 rfl ?_
        refine z_iload okω dL_goods_181 rfl ?_
        have ho183ω := hoω.fr (show zFr M _ (c + 251) 6 from (zFr.tr hf9ω (zFr.tr frz25ω frz28ω)))
        obtain ⟨fs183ω, hs183ω⟩ := ho183ω.self
        refine z_callVi okω dL_goods_183 zm_X6_consign zw_335 zi_X6_consign hs183ω rfl (ho183ω.to_consign hNω) rfl rfl (by decide) (by decide) (by decide) (Nat.le_of_ble_eq_true rfl) (fun xz29ω Mz30ω qz31ω => ?_)
        have hccω := spC (s := s) (n := n) (p := (1 + (Y % 4))) (b := (1 + ((Y / 4) % 25))) (w := (1 + ((Y / 7) % 99))) (f := (τ + ((Y / 11) % 20))) (t := ((τ + ((Y / 11) % 20)) + ((Y / 13) % 25))) (o := ((Y / 17) % 200)) (by omega) (by omega) (by omega) (by omega) (by omega) (by omega)
        obtain ⟨hfqω, hxeω, hoqω⟩ := (qz31ω).inr ((if_pos hccω).trans (if_neg hn6ω))
        have hfzω := ((show zFr M _ (c + 251) 6 from (zFr.tr hf9ω (zFr.tr frz25ω frz28ω))).w (c := c) (by omega) (by omega)).tr (hfqω.w (c := c) (by omega) (by omega))
        have hm32ω := ((hm26ω).eqs (mk_ft)).fr hfqω
        refine z_iload okω dL_goods_186 rfl ?_
        refine z_icmp_ne (tgt := 195) okω dL_goods_188 (by decide) (fun q9ω => absurd hxeω q9ω) (fun _ => ?_)
        refine z_iconst (v := 1) okω dL_goods_191 (by decide) ?_
        refine z_goto (tgt := 196) okω dL_goods_192 (by decide) ?_
        exact z_iret okω dL_goods_196 rfl rfl rfl (Nat.zero_le _) ⟨rfl, _, n + 1, ⟨hoqω, hm32ω, hwω.make hltω hccω, hxω.make hwω hltω hccω.2.2.1⟩, zMk_o (q := 5) (by omega) (by omega), hfzω⟩
      · have hn6ω : n = 16 := (nI_eq (by omega) (by omega)).mp (hNω.1.symm.trans cz104ω)
        refine z_aload_n okω dL_goods_107 rfl ?_
        refine z_iload okω dL_goods_108 rfl ?_
        refine z_iload okω dL_goods_110 rfl ?_
        refine z_iload okω dL_goods_112 rfl ?_
        refine z_iload okω dL_goods_114 rfl ?_
        refine z_iload okω dL_goods_116 rfl ?_
        refine z_iload okω dL_goods_118 rfl ?_
        have ho120ω := hoω.fr (show zFr M _ (c + 251) 6 from zFr.rf)
        obtain ⟨fs120ω, hs120ω⟩ := ho120ω.self
        refine z_callVi okω dL_goods_120 zm_X6_consign zw_335 zi_X6_consign hs120ω rfl (ho120ω.to_consign hNω) rfl rfl (by decide) (by decide) (by decide) (Nat.le_of_ble_eq_true rfl) (fun xz33ω Mz34ω qz35ω => ?_)
        have hccω := spC (s := s) (n := n) (p := (1 + (Y % 4))) (b := (1 + ((Y / 4) % 25))) (w := (1 + ((Y / 7) % 99))) (f := (τ + ((Y / 11) % 20))) (t := ((τ + ((Y / 11) % 20)) + ((Y / 13) % 25))) (o := ((Y / 17) % 200)) (by omega) (by omega) (by omega) (by omega) (by omega) (by omega)
        obtain ⟨hfqω, hxeω, hoqω⟩ := (qz35ω).inl ((if_pos hccω).trans (if_pos hn6ω))
        have hfzω := ((show zFr M _ (c + 251) 6 from zFr.rf).w (c := c) (by omega) (by omega)).tr (hfqω.w (c := c) (by omega) (by omega))
        have hm36ω := ((hmω).eqs (rfl)).fr hfqω
        refine z_ldc okω dL_goods_123 zw_383 ?_
        refine z_icmp_ne (tgt := 132) okω dL_goods_125 (by decide) (fun q9ω => absurd hxeω q9ω) (fun _ => ?_)
        refine z_iconst (v := 1) okω dL_goods_128 (by decide) ?_
        refine z_goto (tgt := 133) okω dL_goods_129 (by decide) ?_
        exact z_iret okω dL_goods_133 rfl rfl rfl (Nat.zero_le _) ⟨rfl, s, n, ⟨hoqω, hm36ω, hwω, hxω⟩, rfl, hfzω⟩
  · refine z_bipush (v := 99) okω dL_goods_26 (by decide) ?_
    refine z_goto (tgt := 33) okω dL_goods_28 (by decide) ?_
    refine z_irem okω dL_goods_33 (by decide) ?_
    refine zV_eqi (yrem (d := 99) rfl (by omega) (by omega) (by omega)) ?_
    refine z_iadd okω dL_goods_34 ?_
    refine zV_eqi (yadd (a := 1) rfl) ?_
    refine z_istore okω dL_goods_35 (by decide) rfl ?_
    refine z_iconst (v := 1) okω dL_goods_37 (by decide) ?_
    refine z_iload okω dL_goods_38 rfl ?_
    refine z_bipush (v := 7) okω dL_goods_40 (by decide) ?_
    refine z_idiv okω dL_goods_42 (by decide) ?_
    refine zV_eqi (ydiv (d := 7) rfl (by omega) (by omega) (by omega)) ?_
    refine z_iload okω dL_goods_43 rfl ?_
    refine z_iconst (v := 5) okω dL_goods_45 (by decide) ?_
    refine z_irem okω dL_goods_46 (by decide) ?_
    refine zV_eqi (yrem (d := 5) rfl (by omega) (by omega) (by omega)) ?_
    refine z_if_ne (tgt := 55) okω dL_goods_47 (by decide) (fun cz47ω => ?_) (fun cz47ω => ?_)
    · refine z_bipush (v := 25) okω dL_goods_55 (by decide) ?_
      refine z_irem okω dL_goods_57 (by decide) ?_
      refine zV_eqi (yrem (d := 25) rfl (by omega) (by omega) (by omega)) ?_
      refine z_iadd okω dL_goods_58 ?_
      refine zV_eqi (yadd (a := 1) rfl) ?_
      refine z_istore okω dL_goods_59 (by decide) rfl ?_
      refine z_aload_n okω dL_goods_61 rfl ?_
      refine z_iconst (v := 5) okω dL_goods_62 (by decide) ?_
      refine l_ldG (t := 5) okω dL_goods_63 hmω rfl (by decide) ?_
      refine zV_eqi hτ ?_
      refine z_iload okω dL_goods_64 rfl ?_
      refine z_bipush (v := 11) okω dL_goods_66 (by decide) ?_
      refine z_idiv okω dL_goods_68 (by decide) ?_
      refine zV_eqi (ydiv (d := 11) rfl (by omega) (by omega) (by omega)) ?_
      refine z_bipush (v := 20) okω dL_goods_69 (by decide) ?_
      refine z_irem okω dL_goods_71 (by decide) ?_
      refine zV_eqi (yrem (d := 20) rfl (by omega) (by omega) (by omega)) ?_
      refine z_iadd okω dL_goods_72 ?_
      refine zV_eqi (nI_add _ _) ?_
      refine z_istore okω dL_goods_73 (by decide) rfl ?_
      refine z_iload okω dL_goods_75 rfl ?_
      refine z_iload okω dL_goods_77 rfl ?_
      refine z_bipush (v := 13) okω dL_goods_79 (by decide) ?_
      refine z_idiv okω dL_goods_81 (by decide) ?_
      refine zV_eqi (ydiv (d := 13) rfl (by omega) (by omega) (by omega)) ?_
      refine z_bipush (v := 25) okω dL_goods_82 (by decide) ?_
      refine z_irem okω dL_goods_84 (by decide) ?_
      refine zV_eqi (yrem (d := 25) rfl (by omega) (by omega) (by omega)) ?_
      refine z_iadd okω dL_goods_85 ?_
      refine zV_eqi (nI_add _ _) ?_
      refine z_istore okω dL_goods_86 (by decide) rfl ?_
      refine z_iload okω dL_goods_88 rfl ?_
      refine z_bipush (v := 17) okω dL_goods_90 (by decide) ?_
      refine z_idiv okω dL_goods_92 (by decide) ?_
      refine zV_eqi (ydiv (d := 17) rfl (by omega) (by omega) (by omega)) ?_
      refine z_sipush (v := 200) okω dL_goods_93 (by decide) ?_
      refine z_irem okω dL_goods_96 (by decide) ?_
      refine zV_eqi (yrem (d := 200) rfl (by omega) (by omega) (by omega)) ?_
      refine z_istore okω dL_goods_97 (by decide) rfl ?_
      refine z_aload_n okω dL_goods_99 rfl ?_
      refine z_iconst (v := 3) okω dL_goods_100 (by decide) ?_
      refine l_ldG (t := 3) okω dL_goods_101 hmω rfl (by decide) ?_
      refine z_bipush (v := 16) okω dL_goods_102 (by decide) ?_
      refine z_icmp_ne (tgt := 134) okω dL_goods_104 (by decide) (fun cz104ω => ?_) (fun cz104ω => ?_)
      · have hn6ω : ¬ n = 16 := fun zω => cz104ω (by rw [hNω.1, zω]; rfl)
        have hltω : n < 16 := by omega
        refine z_aload_n okω dL_goods_134 rfl ?_
        refine z_aload_n okω dL_goods_135 rfl ?_
        refine z_aload_n okω dL_goods_136 rfl ?_
        refine z_aload okω dL_goods_137 rfl ?_
        refine z_iload okω dL_goods_139 rfl ?_
        refine z_iload okω dL_goods_141 rfl ?_
        refine z_iload okω dL_goods_143 rfl ?_
        refine z_iload okω dL_goods_145 rfl ?_
        refine z_callSi okω dL_goods_147 zm_L_makes zw_384 zw_385 (ct_L_makes hmω hNω hltω) rfl rfl (by decide) (by decide) (by decide) (Nat.le_of_ble_eq_true rfl) (fun xz37ω Mz38ω qz39ω => ?_)
        obtain ⟨rfl, f9ω, t9ω, hm40ω, hf9ω⟩ := qz39ω
        refine z_istore okω dL_goods_150 (by decide) rfl ?_
        refine z_aload_n okω dL_goods_152 rfl ?_
        refine z_iconst (v := 4) okω dL_goods_153 (by decide) ?_
        refine z_iload okω dL_goods_154 rfl ?_
        refine z_imul okω dL_goods_156 ?_
        refine z_iload okω dL_goods_157 rfl ?_
        refine l_st3 n okω dL_goods_159 hm40ω (lx4_0 n) (by first | assumption | omega) (fun Mz42ω hm41ω frz43ω => ?_)
        refine z_aload_n okω dL_goods_160 rfl ?_
        refine z_iconst (v := 4) okω dL_goods_161 (by decide) ?_
        refine z_iload okω dL_goods_162 rfl ?_
        refine z_imul okω dL_goods_164 ?_
        refine z_iconst (v := 1) okω dL_goods_165 (by decide) ?_
        refine z_iadd okω dL_goods_166 ?_
        refine z_iload okω dL_goods_167 rfl ?_
        refine l_st4 n okω dL_goods_169 hm41ω (lx4_1 n) (by first | assumption | omega) (fun Mz45ω hm44ω frz46ω => ?_)
        refine z_aload_n okω dL_goods_170 rfl ?_
        refine z_iload okω dL_goods_171 rfl ?_
        refine z_iload okω dL_goods_173 rfl ?_
        refine z_iload okω dL_goods_175 rfl ?_
        refine z_iload okω dL_goods_177 rfl ?_
        refine z_iload okω dL_goods_179 rfl ?_
        refine z_iload okω dL_goods_181 rfl ?_
        have ho183ω := hoω.fr (show zFr M _ (c + 251) 6 from (zFr.tr hf9ω (zFr.tr frz43ω frz46ω)))
        obtain ⟨fs183ω, hs183ω⟩ := ho183ω.self
        refine z_callVi okω dL_goods_183 zm_X6_consign zw_335 zi_X6_consign hs183ω rfl (ho183ω.to_consign hNω) rfl rfl (by decide) (by decide) (by decide) (Nat.le_of_ble_eq_true rfl) (fun xz47ω Mz48ω qz49ω => ?_)
        have hccω := spC (s := s) (n := n) (p := (1 + (Y % 4))) (b := (1 + ((Y / 4) % 99))) (w := (1 + ((Y / 7) % 25))) (f := (τ + ((Y / 11) % 20))) (t := ((τ + ((Y / 11) % 20)) + ((Y / 13) % 25))) (o := ((Y / 17) % 200)) (by omega) (by omega) (by omega) (by omega) (by omega) (by omega)
        obtain ⟨hfqω, hxeω, hoqω⟩ := (qz49ω).inr ((if_pos hccω).trans (if_neg hn6ω))
        have hfzω := ((show zFr M _ (c + 251) 6 from (zFr.tr hf9ω (zFr.tr frz43ω frz46ω))).w (c := c) (by omega) (by omega)).tr (hfqω.w (c := c) (by omega) (by omega))
        have hm50ω := ((hm44ω).eqs (mk_ft)).fr hfqω
        refine z_iload okω dL_goods_186 rfl ?_
        refine z_icmp_ne (tgt := 195) okω dL_goods_188 (by decide) (fun q9ω => absurd hxeω q9ω) (fun _ => ?_)
        refine z_iconst (v := 1) okω dL_goods_191 (by decide) ?_
        refine z_goto (tgt := 196) okω dL_goods_192 (by decide) ?_
        exact z_iret okω dL_goods_196 rfl rfl rfl (Nat.zero_le _) ⟨rfl, _, n + 1, ⟨hoqω, hm50ω, hwω.make hltω hccω, hxω.make hwω hltω hccω.2.2.1⟩, zMk_o (q := 5) (by omega) (by omega), hfzω⟩
      · have hn6ω : n = 16 := (nI_eq (by omega) (by omega)).mp (hNω.1.symm.trans cz104ω)
        refine z_aload_n okω dL_goods_107 rfl ?_
        refine z_iload okω dL_goods_108 rfl ?_
        refine z_iload okω dL_goods_110 rfl ?_
        refine z_iload okω dL_goods_112 rfl ?_
        refine z_iload okω dL_goods_114 rfl ?_
        refine z_iload okω dL_goods_116 rfl ?_
        refine z_iload okω dL_goods_118 rfl ?_
        have ho120ω := hoω.fr (show zFr M _ (c + 251) 6 from zFr.rf)
        obtain ⟨fs120ω, hs120ω⟩ := ho120ω.self
        refine z_callVi okω dL_goods_120 zm_X6_consign zw_335 zi_X6_consign hs120ω rfl (ho120ω.to_consign hNω) rfl rfl (by decide) (by decide) (by decide) (Nat.le_of_ble_eq_true rfl) (fun xz51ω Mz52ω qz53ω => ?_)
        have hccω := spC (s := s) (n := n) (p := (1 + (Y % 4))) (b := (1 + ((Y / 4) % 99))) (w := (1 + ((Y / 7) % 25))) (f := (τ + ((Y / 11) % 20))) (t := ((τ + ((Y / 11) % 20)) + ((Y / 13) % 25))) (o := ((Y / 17) % 200)) (by omega) (by omega) (by omega) (by omega) (by omega) (by omega)
        obtain ⟨hfqω, hxeω, hoqω⟩ := (qz53ω).inl ((if_pos hccω).trans (if_pos hn6ω))
        have hfzω := ((show zFr M _ (c + 251) 6 from zFr.rf).w (c := c) (by omega) (by omega)).tr (hfqω.w (c := c) (by omega) (by omega))
        have hm54ω := ((hmω).eqs (rfl)).fr hfqω
        refine z_ldc okω dL_goods_123 zw_383 ?_
        refine z_icmp_ne (tgt := 132) okω dL_goods_125 (by decide) (fun q9ω => absurd hxeω q9ω) (fun _ => ?_)
        refine z_iconst (v := 1) okω dL_goods_128 (by decide) ?_
        refine z_goto (tgt := 133) okω dL_goods_129 (by decide) ?_
        exact z_iret okω dL_goods_133 rfl rfl rfl (Nat.zero_le _) ⟨rfl, s, n, ⟨hoqω, hm54ω, hwω, hxω⟩, rfl, hfzω⟩
    · refine z_bipush (v := 99) okω dL_goods_50 (by decide) ?_
      refine z_goto (tgt := 57) okω dL_goods_52 (by decide) ?_
      refine z_irem okω dL_goods_57 (by decide) ?_
      refine zV_eqi (yrem (d := 99) rfl (by omega) (by omega) (by omega)) ?_
      refine z_iadd okω dL_goods_58 ?_
      refine zV_eqi (yadd (a := 1) rfl) ?_
      refine z_istore okω dL_goods_59 (by decide) rfl ?_
      refine z_aload_n okω dL_goods_61 rfl ?_
      refine z_iconst (v := 5) okω dL_goods_62 (by decide) ?_
      refine l_ldG (t := 5) okω dL_goods_63 hmω rfl (by decide) ?_
      refine zV_eqi hτ ?_
      refine z_iload okω dL_goods_64 rfl ?_
      refine z_bipush (v := 11) okω dL_goods_66 (by decide) ?_
      refine z_idiv okω dL_goods_68 (by decide) ?_
      refine zV_eqi (ydiv (d := 11) rfl (by omega) (by omega) (by omega)) ?_
      refine z_bipush (v := 20) okω dL_goods_69 (by decide) ?_
      refine z_irem okω dL_goods_71 (by decide) ?_
      refine zV_eqi (yrem (d := 20) rfl (by omega) (by omega) (by omega)) ?_
      refine z_iadd okω dL_goods_72 ?_
      refine zV_eqi (nI_add _ _) ?_
      refine z_istore okω dL_goods_73 (by decide) rfl ?_
      refine z_iload okω dL_goods_75 rfl ?_
      refine z_iload okω dL_goods_77 rfl ?_
      refine z_bipush (v := 13) okω dL_goods_79 (by decide) ?_
      refine z_idiv okω dL_goods_81 (by decide) ?_
      refine zV_eqi (ydiv (d := 13) rfl (by omega) (by omega) (by omega)) ?_
      refine z_bipush (v := 25) okω dL_goods_82 (by decide) ?_
      refine z_irem okω dL_goods_84 (by decide) ?_
      refine zV_eqi (yrem (d := 25) rfl (by omega) (by omega) (by omega)) ?_
      refine z_iadd okω dL_goods_85 ?_
      refine zV_eqi (nI_add _ _) ?_
      refine z_istore okω dL_goods_86 (by decide) rfl ?_
      refine z_iload okω dL_goods_88 rfl ?_
      refine z_bipush (v := 17) okω dL_goods_90 (by decide) ?_
      refine z_idiv okω dL_goods_92 (by decide) ?_
      refine zV_eqi (ydiv (d := 17) rfl (by omega) (by omega) (by omega)) ?_
      refine z_sipush (v := 200) okω dL_goods_93 (by decide) ?_
      refine z_irem okω dL_goods_96 (by decide) ?_
      refine zV_eqi (yrem (d := 200) rfl (by omega) (by omega) (by omega)) ?_
      refine z_istore okω dL_goods_97 (by decide) rfl ?_
      refine z_aload_n okω dL_goods_99 rfl ?_
      refine z_iconst (v := 3) okω dL_goods_100 (by decide) ?_
      refine l_ldG (t := 3) okω dL_goods_101 hmω rfl (by decide) ?_
      refine z_bipush (v := 16) okω dL_goods_102 (by decide) ?_
      refine z_icmp_ne (tgt := 134) okω dL_goods_104 (by decide) (fun cz104ω => ?_) (fun cz104ω => ?_)
      · have hn6ω : ¬ n = 16 := fun zω => cz104ω (by rw [hNω.1, zω]; rfl)
        have hltω : n < 16 := by omega
        refine z_aload_n okω dL_goods_134 rfl ?_
        refine z_aload_n okω dL_goods_135 rfl ?_
        refine z_aload_n okω dL_goods_136 rfl ?_
        refine z_aload okω dL_goods_137 rfl ?_
        refine z_iload okω dL_goods_139 rfl ?_
        refine z_iload okω dL_goods_141 rfl ?_
        refine z_iload okω dL_goods_143 rfl ?_
        refine z_iload okω dL_goods_145 rfl ?_
        refine z_callSi okω dL_goods_147 zm_L_makes zw_384 zw_385 (ct_L_makes hmω hNω hltω) rfl rfl (by decide) (by decide) (by decide) (Nat.le_of_ble_eq_true rfl) (fun xz55ω Mz56ω qz57ω => ?_)
        obtain ⟨rfl, f9ω, t9ω, hm58ω, hf9ω⟩ := qz57ω
        refine z_istore okω dL_goods_150 (by decide) rfl ?_
        refine z_aload_n okω dL_goods_152 rfl ?_
        refine z_iconst (v := 4) okω dL_goods_153 (by decide) ?_
        refine z_iload okω dL_goods_154 rfl ?_
        refine z_imul okω dL_goods_156 ?_
        refine z_iload okω dL_goods_157 rfl ?_
        refine l_st3 n okω dL_goods_159 hm58ω (lx4_0 n) (by first | assumption | omega) (fun Mz60ω hm59ω frz61ω => ?_)
        refine z_aload_n okω dL_goods_160 rfl ?_
        refine z_iconst (v := 4) okω dL_goods_161 (by decide) ?_
        refine z_iload okω dL_goods_162 rfl ?_
        refine z_imul okω dL_goods_164 ?_
        refine z_iconst (v := 1) okω dL_goods_165 (by decide) ?_
        refine z_iadd okω dL_goods_166 ?_
        refine z_iload okω dL_goods_167 rfl ?_
        refine l_st4 n okω dL_goods_169 hm59ω (lx4_1 n) (by first | assumption | omega) (fun Mz63ω hm62ω frz64ω => ?_)
        refine z_aload_n okω dL_goods_170 rfl ?_
        refine z_iload okω dL_goods_171 rfl ?_
        refine z_iload okω dL_goods_173 rfl ?_
        refine z_iload okω dL_goods_175 rfl ?_
        refine z_iload okω dL_goods_177 rfl ?_
        refine z_iload okω dL_goods_179 rfl ?_
        refine z_iload okω dL_goods_181 rfl ?_
        have ho183ω := hoω.fr (show zFr M _ (c + 251) 6 from (zFr.tr hf9ω (zFr.tr frz61ω frz64ω)))
        obtain ⟨fs183ω, hs183ω⟩ := ho183ω.self
        refine z_callVi okω dL_goods_183 zm_X6_consign zw_335 zi_X6_consign hs183ω rfl (ho183ω.to_consign hNω) rfl rfl (by decide) (by decide) (by decide) (Nat.le_of_ble_eq_true rfl) (fun xz65ω Mz66ω qz67ω => ?_)
        have hccω := spC (s := s) (n := n) (p := (1 + (Y % 4))) (b := (1 + ((Y / 4) % 99))) (w := (1 + ((Y / 7) % 99))) (f := (τ + ((Y / 11) % 20))) (t := ((τ + ((Y / 11) % 20)) + ((Y / 13) % 25))) (o := ((Y / 17) % 200)) (by omega) (by omega) (by omega) (by omega) (by omega) (by omega)
        obtain ⟨hfqω, hxeω, hoqω⟩ := (qz67ω).inr ((if_pos hccω).trans (if_neg hn6ω))
        have hfzω := ((show zFr M _ (c + 251) 6 from (zFr.tr hf9ω (zFr.tr frz61ω frz64ω))).w (c := c) (by omega) (by omega)).tr (hfqω.w (c := c) (by omega) (by omega))
        have hm68ω := ((hm62ω).eqs (mk_ft)).fr hfqω
        refine z_iload okω dL_goods_186 rfl ?_
        refine z_icmp_ne (tgt := 195) okω dL_goods_188 (by decide) (fun q9ω => absurd hxeω q9ω) (fun _ => ?_)
        refine z_iconst (v := 1) okω dL_goods_191 (by decide) ?_
        refine z_goto (tgt := 196) okω dL_goods_192 (by decide) ?_
        exact z_iret okω dL_goods_196 rfl rfl rfl (Nat.zero_le _) ⟨rfl, _, n + 1, ⟨hoqω, hm68ω, hwω.make hltω hccω, hxω.make hwω hltω hccω.2.2.1⟩, zMk_o (q := 5) (by omega) (by omega), hfzω⟩
      · have hn6ω : n = 16 := (nI_eq (by omega) (by omega)).mp (hNω.1.symm.trans cz104ω)
        refine z_aload_n okω dL_goods_107 rfl ?_
        refine z_iload okω dL_goods_108 rfl ?_
        refine z_iload okω dL_goods_110 rfl ?_
        refine z_iload okω dL_goods_112 rfl ?_
        refine z_iload okω dL_goods_114 rfl ?_
        refine z_iload okω dL_goods_116 rfl ?_
        refine z_iload okω dL_goods_118 rfl ?_
        have ho120ω := hoω.fr (show zFr M _ (c + 251) 6 from zFr.rf)
        obtain ⟨fs120ω, hs120ω⟩ := ho120ω.self
        refine z_callVi okω dL_goods_120 zm_X6_consign zw_335 zi_X6_consign hs120ω rfl (ho120ω.to_consign hNω) rfl rfl (by decide) (by decide) (by decide) (Nat.le_of_ble_eq_true rfl) (fun xz69ω Mz70ω qz71ω => ?_)
        have hccω := spC (s := s) (n := n) (p := (1 + (Y % 4))) (b := (1 + ((Y / 4) % 99))) (w := (1 + ((Y / 7) % 99))) (f := (τ + ((Y / 11) % 20))) (t := ((τ + ((Y / 11) % 20)) + ((Y / 13) % 25))) (o := ((Y / 17) % 200)) (by omega) (by omega) (by omega) (by omega) (by omega) (by omega)
        obtain ⟨hfqω, hxeω, hoqω⟩ := (qz71ω).inl ((if_pos hccω).trans (if_pos hn6ω))
        have hfzω := ((show zFr M _ (c + 251) 6 from zFr.rf).w (c := c) (by omega) (by omega)).tr (hfqω.w (c := c) (by omega) (by omega))
        have hm72ω := ((hmω).eqs (rfl)).fr hfqω
        refine z_ldc okω dL_goods_123 zw_383 ?_
        refine z_icmp_ne (tgt := 132) okω dL_goods_125 (by decide) (fun q9ω => absurd hxeω q9ω) (fun _ => ?_)
        refine z_iconst (v := 1) okω dL_goods_128 (by decide) ?_
        refine z_goto (tgt := 133) okω dL_goods_129 (by decide) ?_
        exact z_iret okω dL_goods_133 rfl rfl rfl (Nat.zero_le _) ⟨rfl, s, n, ⟨hoqω, hm72ω, hwω, hxω⟩, rfl, hfzω⟩

set_option maxRecDepth 20000 in
set_option maxHeartbeats 1000000 in
theorem ct_L_goods1 {K : zK} {M : mM} {nx : Nat} {c : Nat} {s : Nat → Int32} {n nv no : Nat} (hS : lS M c s n nv no) {Y τ : Nat} (hY : Y < 10000000) (hτ : s 5 = nI τ) (hτ2 : τ ≤ 5000) : zCt K yL_goods cL_goods 14 zr_L_goods 6 [.ref c, .ref (c + 251), .ref (c + 251 + 1), .ref (c + 251 + 2), .ref (c + 251 + 3), .int 1, .int (nI Y)] M nx 0 0 (zI (fun x M' => x = 1 ∧ ∃ (s' : Nat → Int32) (n' : Nat), lS M' c s' n' nv no ∧ s' 5 = s 5 ∧ zFr M M' c 257)) := by
  refine z_enter [some (.ref c), some (.ref (c + 251)), some (.ref (c + 251 + 1)), some (.ref (c + 251 + 2)), some (.ref (c + 251 + 3)), some (.int 1), some (.int (nI Y)), none, none, none, none, none, none, none] (by decide +kernel) (Nat.le_of_ble_eq_true rfl) rfl (fun Bω okω hzω => ?_)
  have hmω := hS.2.1
  have hoω := hS.1
  have hwω := hS.2.2.1
  have hxω := hS.2.2.2
  have hNω := hwω.N
  have hn16ω := hNω.2.1
  have hnv4ω := hNω.2.2.2.1
  have hno10ω := hNω.2.2.2.2.2
  refine z_iload okω dL_goods_0 rfl ?_
  refine z_iconst (v := 2) okω dL_goods_2 (by decide) ?_
  refine z_icmp_ge (tgt := 197) okω dL_goods_3 (by decide) (fun q9ω => absurd q9ω (by decide)) (fun _ => ?_)
  refine z_iconst (v := 1) okω dL_goods_6 (by decide) ?_
  refine z_iload okω dL_goods_7 rfl ?_
  refine z_iconst (v := 4) okω dL_goods_9 (by decide) ?_
  refine z_irem okω dL_goods_10 (by decide) ?_
  refine zV_eqi (yrem (d := 4) rfl (by omega) (by omega) (by omega)) ?_
  refine z_iadd okω dL_goods_11 ?_
  refine zV_eqi (yadd (a := 1) rfl) ?_
  refine z_istore okω dL_goods_12 (by decide) rfl ?_
  refine z_iconst (v := 1) okω dL_goods_14 (by decide) ?_
  refine z_iload okω dL_goods_15 rfl ?_
  refine z_iconst (v := 4) okω dL_goods_17 (by decide) ?_
  refine z_idiv okω dL_goods_18 (by decide) ?_
  refine zV_eqi (ydiv (d := 4) rfl (by omega) (by omega) (by omega)) ?_
  refine z_iload okω dL_goods_19 rfl ?_
  refine z_iconst (v := 3) okω dL_goods_21 (by decide) ?_
  refine z_irem okω dL_goods_22 (by decide) ?_
  refine zV_eqi (yrem (d := 3) rfl (by omega) (by omega) (by omega)) ?_
  refine z_if_ne (tgt := 31) okω dL_goods_23 (by decide) (fun cz23ω => ?_) (fun cz23ω => ?_)
  · refine z_bipush (v := 25) okω dL_goods_31 (by decide) ?_
    refine z_irem okω dL_goods_33 (by decide) ?_
    refine zV_eqi (yrem (d := 25) rfl (by omega) (by omega) (by omega)) ?_
    refine z_iadd okω dL_goods_34 ?_
    refine zV_eqi (yadd (a := 1) rfl) ?_
    refine z_istore okω dL_goods_35 (by decide) rfl ?_
    refine z_iconst (v := 1) okω dL_goods_37 (by decide) ?_
    refine z_iload okω dL_goods_38 rfl ?_
    refine z_bipush (v := 7) okω dL_goods_40 (by decide) ?_
    refine z_idiv okω dL_goods_42 (by decide) ?_
    refine zV_eqi (ydiv (d := 7) rfl (by omega) (by omega) (by omega)) ?_
    refine z_iload okω dL_goods_43 rfl ?_
    refine z_iconst (v := 5) okω dL_goods_45 (by decide) ?_
    refine z_irem okω dL_goods_46 (by decide) ?_
    refine zV_eqi (yrem (d := 5) rfl (by omega) (by omega) (by omega)) ?_
    refine z_if_ne (tgt := 55) okω dL_goods_47 (by decide) (fun cz47ω => ?_) (fun cz47ω => ?_)
    · refine z_bipush (v := 25) okω dL_goods_55 (by decide) ?_
      refine z_irem okω dL_goods_57 (by decide) ?_
      refine zV_eqi (yrem (d := 25) rfl (by omega) (by omega) (by omega)) ?_
      refine z_iadd okω dL_goods_58 ?_
      refine zV_eqi (yadd (a := 1) rfl) ?_
      refine z_istore okω dL_goods_59 (by decide) rfl ?_
      refine z_aload_n okω dL_goods_61 rfl ?_
      refine z_iconst (v := 5) okω dL_goods_62 (by decide) ?_
      refine l_ldG (t := 5) okω dL_goods_63 hmω rfl (by decide) ?_
      refine zV_eqi hτ ?_
      refine z_iload okω dL_goods_64 rfl ?_
      refine z_bipush (v := 11) okω dL_goods_66 (by decide) ?_
      refine z_idiv okω dL_goods_68 (by decide) ?_
      refine zV_eqi (ydiv (d := 11) rfl (by omega) (by omega) (by omega)) ?_
      refine z_bipush (v := 20) okω dL_goods_69 (by decide) ?_
      refine z_irem okω dL_goods_71 (by decide) ?_
      refine zV_eqi (yrem (d := 20) rfl (by omega) (by omega) (by omega)) ?_
      refine z_iadd okω dL_goods_72 ?_
      refine zV_eqi (nI_add _ _) ?_
      refine z_istore okω dL_goods_73 (by decide) rfl ?_
      refine z_iload okω dL_goods_75 rfl ?_
      refine z_iload okω dL_goods_77 rfl ?_
      refine z_bipush (v := 13) okω dL_goods_79 (by decide) ?_
      refine z_idiv okω dL_goods_81 (by decide) ?_
      refine zV_eqi (ydiv (d := 13) rfl (by omega) (by omega) (by omega)) ?_
      refine z_bipush (v := 25) okω dL_goods_82 (by decide) ?_
      refine z_irem okω dL_goods_84 (by decide) ?_
      refine zV_eqi (yrem (d := 25) rfl (by omega) (by omega) (by omega)) ?_
      refine z_iadd okω dL_goods_85 ?_
      refine zV_eqi (nI_add _ _) ?_
      refine z_istore okω dL_goods_86 (by decide) rfl ?_
      refine z_iload okω dL_goods_88 rfl ?_
      refine z_bipush (v := 17) okω dL_goods_90 (by decide) ?_
      refine z_idiv okω dL_goods_92 (by decide) ?_
      refine zV_eqi (ydiv (d := 17) rfl (by omega) (by omega) (by omega)) ?_
      refine z_sipush (v := 200) okω dL_goods_93 (by decide) ?_
      refine z_irem okω dL_goods_96 (by decide) ?_
      refine zV_eqi (yrem (d := 200) rfl (by omega) (by omega) (by omega)) ?_
      refine z_istore okω dL_goods_97 (by decide) rfl ?_
      refine z_aload_n okω dL_goods_99 rfl ?_
      refine z_iconst (v := 3) okω dL_goods_100 (by decide) ?_
      refine l_ldG (t := 3) okω dL_goods_101 hmω rfl (by decide) ?_
      refine z_bipush (v := 16) okω dL_goods_102 (by decide) ?_
      refine z_icmp_ne (tgt := 134) okω dL_goods_104 (by decide) (fun cz104ω => ?_) (fun cz104ω => ?_)
      · have hn6ω : ¬ n = 16 := fun zω => cz104ω (by rw [hNω.1, zω]; rfl)
        have hltω : n < 16 := by omega
        refine z_aload_n okω dL_goods_134 rfl ?_
        refine z_aload_n okω dL_goods_135 rfl ?_
        refine z_aload_n okω dL_goods_136 rfl ?_
        refine z_aload okω dL_goods_137 rfl ?_
        refine z_iload okω dL_goods_139 rfl ?_
        refine z_iload okω dL_goods_141 rfl ?_
        refine z_iload okω dL_goods_143 rfl ?_
        refine z_iload okω dL_goods_145 rfl ?_
        refine z_callSi okω dL_goods_147 zm_L_makes zw_384 zw_385 (ct_L_makes hmω hNω hltω) rfl rfl (by decide) (by decide) (by decide) (Nat.le_of_ble_eq_true rfl) (fun xz1ω Mz2ω qz3ω => ?_)
        obtain ⟨rfl, f9ω, t9ω, hm4ω, hf9ω⟩ := qz3ω
        refine z_istore okω dL_goods_150 (by decide) rfl ?_
        refine z_aload_n okω dL_goods_152 rfl ?_
        refine z_iconst (v := 4) okω dL_goods_153 (by decide) ?_
        refine z_iload okω dL_goods_154 rfl ?_
        refine z_imul okω dL_goods_156 ?_
        refine z_iload okω dL_goods_157 rfl ?_
        refine l_st3 n okω dL_goods_159 hm4ω (lx4_0 n) (by first | assumption | omega) (fun Mz6ω hm5ω frz7ω => ?_)
        refine z_aload_n okω dL_goods_160 rfl ?_
        refine z_iconst (v := 4) okω dL_goods_161 (by decide) ?_
        refine z_iload okω dL_goods_162 rfl ?_
        refine z_imul okω dL_goods_164 ?_
        refine z_iconst (v := 1) okω dL_goods_165 (by decide) ?_
        refine z_iadd okω dL_goods_166 ?_
        refine z_iload okω dL_goods_167 rfl ?_
        refine l_st4 n okω dL_goods_169 hm5ω (lx4_1 n) (by first | assumption | omega) (fun Mz9ω hm8ω frz10ω => ?_)
        refine z_aload_n okω dL_goods_170 rfl ?_
        refine z_iload okω dL_goods_171 rfl ?_
        refine z_iload okω dL_goods_173 rfl ?_
        refine z_iload okω dL_goods_175 rfl ?_
        refine z_iload okω dL_goods_177 rfl ?_
        refine z_iload okω dL_goods_179 rfl ?_
        refine z_iload okω dL_goods_181 rfl ?_
        have ho183ω := hoω.fr (show zFr M _ (c + 251) 6 from (zFr.tr hf9ω (zFr.tr frz7ω frz10ω)))
        obtain ⟨fs183ω, hs183ω⟩ := ho183ω.self
        refine z_callVi okω dL_goods_183 zm_X6_consign zw_335 zi_X6_consign hs183ω rfl (ho183ω.to_consign hNω) rfl rfl (by decide) (by decide) (by decide) (Nat.le_of_ble_eq_true rfl) (fun xz11ω Mz12ω qz13ω => ?_)
        have hccω := spC (s := s) (n := n) (p := (1 + (Y % 4))) (b := (1 + ((Y / 4) % 25))) (w := (1 + ((Y / 7) % 25))) (f := (τ + ((Y / 11) % 20))) (t := ((τ + ((Y / 11) % 20)) + ((Y / 13) % 25))) (o := ((Y / 17) % 200)) (by omega) (by omega) (by omega) (by omega) (by omega) (by omega)
        obtain ⟨hfqω, hxeω, hoqω⟩ := (qz13ω).inr ((if_pos hccω).trans (if_neg hn6ω))
        have hfzω := ((show zFr M _ (c + 251) 6 from (zFr.tr hf9ω (zFr.tr frz7ω frz10ω))).w (c := c) (by omega) (by omega)).tr (hfqω.w (c := c) (by omega) (by omega))
        have hm14ω := ((hm8ω).eqs (mk_ft)).fr hfqω
        refine z_iload okω dL_goods_186 rfl ?_
        refine z_icmp_ne (tgt := 195) okω dL_goods_188 (by decide) (fun q9ω => absurd hxeω q9ω) (fun _ => ?_)
        refine z_iconst (v := 1) okω dL_goods_191 (by decide) ?_
        refine z_goto (tgt := 196) okω dL_goods_192 (by decide) ?_
        exact z_iret okω dL_goods_196 rfl rfl rfl (Nat.zero_le _) ⟨rfl, _, n + 1, ⟨hoqω, hm14ω, hwω.make hltω hccω, hxω.make hwω hltω hccω.2.2.1⟩, zMk_o (q := 5) (by omega) (by omega), hfzω⟩
      · have hn6ω : n = 16 := (nI_eq (by omega) (by omega)).mp (hNω.1.symm.trans cz104ω)
        refine z_aload_n okω dL_goods_107 rfl ?_
        refine z_iload okω dL_goods_108 rfl ?_
        refine z_iload okω dL_goods_110 rfl ?_
        refine z_iload okω dL_goods_112 rfl ?_
        refine z_iload okω dL_goods_114 rfl ?_
        refine z_iload okω dL_goods_116 rfl ?_
        refine z_iload okω dL_goods_118 rfl ?_
        have ho120ω := hoω.fr (show zFr M _ (c + 251) 6 from zFr.rf)
        obtain ⟨fs120ω, hs120ω⟩ := ho120ω.self
        refine z_callVi okω dL_goods_120 zm_X6_consign zw_335 zi_X6_consign hs120ω rfl (ho120ω.to_consign hNω) rfl rfl (by decide) (by decide) (by decide) (Nat.le_of_ble_eq_true rfl) (fun xz15ω Mz16ω qz17ω => ?_)
        have hccω := spC (s := s) (n := n) (p := (1 + (Y % 4))) (b := (1 + ((Y / 4) % 25))) (w := (1 + ((Y / 7) % 25))) (f := (τ + ((Y / 11) % 20))) (t := ((τ + ((Y / 11) % 20)) + ((Y / 13) % 25))) (o := ((Y / 17) % 200)) (by omega) (by omega) (by omega) (by omega) (by omega) (by omega)
        obtain ⟨hfqω, hxeω, hoqω⟩ := (qz17ω).inl ((if_pos hccω).trans (if_pos hn6ω))
        have hfzω := ((show zFr M _ (c + 251) 6 from zFr.rf).w (c := c) (by omega) (by omega)).tr (hfqω.w (c := c) (by omega) (by omega))
        have hm18ω := ((hmω).eqs (rfl)).fr hfqω
        refine z_ldc okω dL_goods_123 zw_383 ?_
        refine z_icmp_ne (tgt := 132) okω dL_goods_125 (by decide) (fun q9ω => absurd hxeω q9ω) (fun _ => ?_)
        refine z_iconst (v := 1) okω dL_goods_128 (by decide) ?_
        refine z_goto (tgt := 133) okω dL_goods_129 (by decide) ?_
        exact z_iret okω dL_goods_133 rfl rfl rfl (Nat.zero_le _) ⟨rfl, s, n, ⟨hoqω, hm18ω, hwω, hxω⟩, rfl, hfzω⟩
    · refine z_bipush (v := 99) okω dL_goods_50 (by decide) ?_
      refine z_goto (tgt := 57) okω dL_goods_52 (by decide) ?_
      refine z_irem okω dL_goods_57 (by decide) ?_
      refine zV_eqi (yrem (d := 99) rfl (by omega) (by omega) (by omega)) ?_
      refine z_iadd okω dL_goods_58 ?_
      refine zV_eqi (yadd (a := 1) rfl) ?_
      refine z_istore okω dL_goods_59 (by decide) rfl ?_
      refine z_aload_n okω dL_goods_61 rfl ?_
      refine z_iconst (v := 5) okω dL_goods_62 (by decide) ?_
      refine l_ldG (t := 5) okω dL_goods_63 hmω rfl (by decide) ?_
      refine zV_eqi hτ ?_
      refine z_iload okω dL_goods_64 rfl ?_
      refine z_bipush (v := 11) okω dL_goods_66 (by decide) ?_
      refine z_idiv okω dL_goods_68 (by decide) ?_
      refine zV_eqi (ydiv (d := 11) rfl (by omega) (by omega) (by omega)) ?_
      refine z_bipush (v := 20) okω dL_goods_69 (by decide) ?_
      refine z_irem okω dL_goods_71 (by decide) ?_
      refine zV_eqi (yrem (d := 20) rfl (by omega) (by omega) (by omega)) ?_
      refine z_iadd okω dL_goods_72 ?_
      refine zV_eqi (nI_add _ _) ?_
      refine z_istore okω dL_goods_73 (by decide) rfl ?_
      refine z_iload okω dL_goods_75 rfl ?_
      refine z_iload okω dL_goods_77 rfl ?_
      refine z_bipush (v := 13) okω dL_goods_79 (by decide) ?_
      refine z_idiv okω dL_goods_81 (by decide) ?_
      refine zV_eqi (ydiv (d := 13) rfl (by omega) (by omega) (by omega)) ?_
      refine z_bipush (v := 25) okω dL_goods_82 (by decide) ?_
      refine z_irem okω dL_goods_84 (by decide) ?_
      refine zV_eqi (yrem (d := 25) rfl (by omega) (by omega) (by omega)) ?_
      refine z_iadd okω dL_goods_85 ?_
      refine zV_eqi (nI_add _ _) ?_
      refine z_istore okω dL_goods_86 (by decide) rfl ?_
      refine z_iload okω dL_goods_88 rfl ?_
      refine z_bipush (v := 17) okω dL_goods_90 (by decide) ?_
      refine z_idiv okω dL_goods_92 (by decide) ?_
      refine zV_eqi (ydiv (d := 17) rfl (by omega) (by omega) (by omega)) ?_
      refine z_sipush (v := 200) okω dL_goods_93 (by decide) ?_
      refine z_irem okω dL_goods_96 (by decide) ?_
      refine zV_eqi (yrem (d := 200) rfl (by omega) (by omega) (by omega)) ?_
      refine z_istore okω dL_goods_97 (by decide) rfl ?_
      refine z_aload_n okω dL_goods_99 rfl ?_
      refine z_iconst (v := 3) okω dL_goods_100 (by decide) ?_
      refine l_ldG (t := 3) okω dL_goods_101 hmω rfl (by decide) ?_
      refine z_bipush (v := 16) okω dL_goods_102 (by decide) ?_
      refine z_icmp_ne (tgt := 134) okω dL_goods_104 (by decide) (fun cz104ω => ?_) (fun cz104ω => ?_)
      · have hn6ω : ¬ n = 16 := fun zω => cz104ω (by rw [hNω.1, zω]; rfl)
        have hltω : n < 16 := by omega
        refine z_aload_n okω dL_goods_134 rfl ?_
        refine z_aload_n okω dL_goods_135 rfl ?_
        refine z_aload_n okω dL_goods_136 rfl ?_
        refine z_aload okω dL_goods_137 rfl ?_
        refine z_iload okω dL_goods_139 rfl ?_
        refine z_iload okω dL_goods_141 rfl ?_
        refine z_iload okω dL_goods_143 rfl ?_
        refine z_iload okω dL_goods_145 rfl ?_
        refine z_callSi okω dL_goods_147 zm_L_makes zw_384 zw_385 (ct_L_makes hmω hNω hltω) rfl rfl (by decide) (by decide) (by decide) (Nat.le_of_ble_eq_true rfl) (fun xz19ω Mz20ω qz21ω => ?_)
        obtain ⟨rfl, f9ω, t9ω, hm22ω, hf9ω⟩ := qz21ω
        refine z_istore okω dL_goods_150 (by decide) rfl ?_
        refine z_aload_n okω dL_goods_152 rfl ?_
        refine z_iconst (v := 4) okω dL_goods_153 (by decide) ?_
        refine z_iload okω dL_goods_154 rfl ?_
        refine z_imul okω dL_goods_156 ?_
        refine z_iload okω dL_goods_157 rfl ?_
        refine l_st3 n okω dL_goods_159 hm22ω (lx4_0 n) (by first | assumption | omega) (fun Mz24ω hm23ω frz25ω => ?_)
        refine z_aload_n okω dL_goods_160 rfl ?_
        refine z_iconst (v := 4) okω dL_goods_161 (by decide) ?_
        refine z_iload okω dL_goods_162 rfl ?_
        refine z_imul okω dL_goods_164 ?_
        refine z_iconst (v := 1) okω dL_goods_165 (by decide) ?_
        refine z_iadd okω dL_goods_166 ?_
        refine z_iload okω dL_goods_167 rfl ?_
        refine l_st4 n okω dL_goods_169 hm23ω (lx4_1 n) (by first | assumption | omega) (fun Mz27ω hm26ω frz28ω => ?_)
        refine z_aload_n okω dL_goods_170 rfl ?_
        refine z_iload okω dL_goods_171 rfl ?_
        refine z_iload okω dL_goods_173 rfl ?_
        refine z_iload okω dL_goods_175 rfl ?_
        refine z_iload okω dL_goods_177 rfl ?_
        refine z_iload okω dL_goods_179 rfl ?_
        refine z_iload okω dL_goods_181 rfl ?_
        have ho183ω := hoω.fr (show zFr M _ (c + 251) 6 from (zFr.tr hf9ω (zFr.tr frz25ω frz28ω)))
        obtain ⟨fs183ω, hs183ω⟩ := ho183ω.self
        refine z_callVi okω dL_goods_183 zm_X6_consign zw_335 zi_X6_consign hs183ω rfl (ho183ω.to_consign hNω) rfl rfl (by decide) (by decide) (by decide) (Nat.le_of_ble_eq_true rfl) (fun xz29ω Mz30ω qz31ω => ?_)
        have hccω := spC (s := s) (n := n) (p := (1 + (Y % 4))) (b := (1 + ((Y / 4) % 25))) (w := (1 + ((Y / 7) % 99))) (f := (τ + ((Y / 11) % 20))) (t := ((τ + ((Y / 11) % 20)) + ((Y / 13) % 25))) (o := ((Y / 17) % 200)) (by omega) (by omega) (by omega) (by omega) (by omega) (by omega)
        obtain ⟨hfqω, hxeω, hoqω⟩ := (qz31ω).inr ((if_pos hccω).trans (if_neg hn6ω))
        have hfzω := ((show zFr M _ (c + 251) 6 from (zFr.tr hf9ω (zFr.tr frz25ω frz28ω))).w (c := c) (by omega) (by omega)).tr (hfqω.w (c := c) (by omega) (by omega))
        have hm32ω := ((hm26ω).eqs (mk_ft)).fr hfqω
        refine z_iload okω dL_goods_186 rfl ?_
        refine z_icmp_ne (tgt := 195) okω dL_goods_188 (by decide) (fun q9ω => absurd hxeω q9ω) (fun _ => ?_)
        refine z_iconst (v := 1) okω dL_goods_191 (by decide) ?_
        refine z_goto (tgt := 196) okω dL_goods_192 (by decide) ?_
        exact z_iret okω dL_goods_196 rfl rfl rfl (Nat.zero_le _) ⟨rfl, _, n + 1, ⟨hoqω, hm32ω, hwω.make hltω hccω, hxω.make hwω hltω hccω.2.2.1⟩, zMk_o (q := 5) (by omega) (by omega), hfzω⟩
      · have hn6ω : n = 16 := (nI_eq (by omega) (by omega)).mp (hNω.1.symm.trans cz104ω)
        refine z_aload_n okω dL_goods_107 rfl ?_
        refine z_iload okω dL_goods_108 rfl ?_
        refine z_iload okω dL_goods_110 rfl ?_
        refine z_iload okω dL_goods_112 rfl ?_
        refine z_iload okω dL_goods_114 rfl ?_
        refine z_iload okω dL_goods_116 rfl ?_
        refine z_iload okω dL_goods_118 rfl ?_
        have ho120ω := hoω.fr (show zFr M _ (c + 251) 6 from zFr.rf)
        obtain ⟨fs120ω, hs120ω⟩ := ho120ω.self
        refine z_callVi okω dL_goods_120 zm_X6_consign zw_335 zi_X6_consign hs120ω rfl (ho120ω.to_consign hNω) rfl rfl (by decide) (by decide) (by decide) (Nat.le_of_ble_eq_true rfl) (fun xz33ω Mz34ω qz35ω => ?_)
        have hccω := spC (s := s) (n := n) (p := (1 + (Y % 4))) (b := (1 + ((Y / 4) % 25))) (w := (1 + ((Y / 7) % 99))) (f := (τ + ((Y / 11) % 20))) (t := ((τ + ((Y / 11) % 20)) + ((Y / 13) % 25))) (o := ((Y / 17) % 200)) (by omega) (by omega) (by omega) (by omega) (by omega) (by omega)
        obtain ⟨hfqω, hxeω, hoqω⟩ := (qz35ω).inl ((if_pos hccω).trans (if_pos hn6ω))
        have hfzω := ((show zFr M _ (c + 251) 6 from zFr.rf).w (c := c) (by omega) (by omega)).tr (hfqω.w (c := c) (by omega) (by omega))
        have hm36ω := ((hmω).eqs (rfl)).fr hfqω
        refine z_ldc okω dL_goods_123 zw_383 ?_
        refine z_icmp_ne (tgt := 132) okω dL_goods_125 (by decide) (fun q9ω => absurd hxeω q9ω) (fun _ => ?_)
        refine z_iconst (v := 1) okω dL_goods_128 (by decide) ?_
        refine z_goto (tgt := 133) okω dL_goods_129 (by decide) ?_
        exact z_iret okω dL_goods_133 rfl rfl rfl (Nat.zero_le _) ⟨rfl, s, n, ⟨hoqω, hm36ω, hwω, hxω⟩, rfl, hfzω⟩
  · refine z_bipush (v := 99) okω dL_goods_26 (by decide) ?_
    refine z_goto (tgt := 33) okω dL_goods_28 (by decide) ?_
    refine z_irem okω dL_goods_33 (by decide) ?_
    refine zV_eqi (yrem (d := 99) rfl (by omega) (by omega) (by omega)) ?_
    refine z_iadd okω dL_goods_34 ?_
    refine zV_eqi (yadd (a := 1) rfl) ?_
    refine z_istore okω dL_goods_35 (by decide) rfl ?_
    refine z_iconst (v := 1) okω dL_goods_37 (by decide) ?_
    refine z_iload okω dL_goods_38 rfl ?_
    refine z_bipush (v := 7) okω dL_goods_40 (by decide) ?_
    refine z_idiv okω dL_goods_42 (by decide) ?_
    refine zV_eqi (ydiv (d := 7) rfl (by omega) (by omega) (by omega)) ?_
    refine z_iload okω dL_goods_43 rfl ?_
    refine z_iconst (v := 5) okω dL_goods_45 (by decide) ?_
    refine z_irem okω dL_goods_46 (by decide) ?_
    refine zV_eqi (yrem (d := 5) rfl (by omega) (by omega) (by omega)) ?_
    refine z_if_ne (tgt := 55) okω dL_goods_47 (by decide) (fun cz47ω => ?_) (fun cz47ω => ?_)
    · refine z_bipush (v := 25) okω dL_goods_55 (by decide) ?_
      refine z_irem okω dL_goods_57 (by decide) ?_
      refine zV_eqi (yrem (d := 25) rfl (by omega) (by omega) (by omega)) ?_
      refine z_iadd okω dL_goods_58 ?_
      refine zV_eqi (yadd (a := 1) rfl) ?_
      refine z_istore okω dL_goods_59 (by decide) rfl ?_
      refine z_aload_n okω dL_goods_61 rfl ?_
      refine z_iconst (v := 5) okω dL_goods_62 (by decide) ?_
      refine l_ldG (t := 5) okω dL_goods_63 hmω rfl (by decide) ?_
      refine zV_eqi hτ ?_
      refine z_iload okω dL_goods_64 rfl ?_
      refine z_bipush (v := 11) okω dL_goods_66 (by decide) ?_
      refine z_idiv okω dL_goods_68 (by decide) ?_
      refine zV_eqi (ydiv (d := 11) rfl (by omega) (by omega) (by omega)) ?_
      refine z_bipush (v := 20) okω dL_goods_69 (by decide) ?_
      refine z_irem okω dL_goods_71 (by decide) ?_
      refine zV_eqi (yrem (d := 20) rfl (by omega) (by omega) (by omega)) ?_
      refine z_iadd okω dL_goods_72 ?_
      refine zV_eqi (nI_add _ _) ?_
      refine z_istore okω dL_goods_73 (by decide) rfl ?_
      refine z_iload okω dL_goods_75 rfl ?_
      refine z_iload okω dL_goods_77 rfl ?_
      refine z_bipush (v := 13) okω dL_goods_79 (by decide) ?_
      refine z_idiv okω dL_goods_81 (by decide) ?_
      refine zV_eqi (ydiv (d := 13) rfl (by omega) (by omega) (by omega)) ?_
      refine z_bipush (v := 25) okω dL_goods_82 (by decide) ?_
      refine z_irem okω dL_goods_84 (by decide) ?_
      refine zV_eqi (yrem (d := 25) rfl (by omega) (by omega) (by omega)) ?_
      refine z_iadd okω dL_goods_85 ?_
      refine zV_eqi (nI_add _ _) ?_
      refine z_istore okω dL_goods_86 (by decide) rfl ?_
      refine z_iload okω dL_goods_88 rfl ?_
      refine z_bipush (v := 17) okω dL_goods_90 (by decide) ?_
      refine z_idiv okω dL_goods_92 (by decide) ?_
      refine zV_eqi (ydiv (d := 17) rfl (by omega) (by omega) (by omega)) ?_
      refine z_sipush (v := 200) okω dL_goods_93 (by decide) ?_
      refine z_irem okω dL_goods_96 (by decide) ?_
      refine zV_eqi (yrem (d := 200) rfl (by omega) (by omega) (by omega)) ?_
      refine z_istore okω dL_goods_97 (by decide) rfl ?_
      refine z_aload_n okω dL_goods_99 rfl ?_
      refine z_iconst (v := 3) okω dL_goods_100 (by decide) ?_
      refine l_ldG (t := 3) okω dL_goods_101 hmω rfl (by decide) ?_
      refine z_bipush (v := 16) okω dL_goods_102 (by decide) ?_
      refine z_icmp_ne (tgt := 134) okω dL_goods_104 (by decide) (fun cz104ω => ?_) (fun cz104ω => ?_)
      · have hn6ω : ¬ n = 16 := fun zω => cz104ω (by rw [hNω.1, zω]; rfl)
        have hltω : n < 16 := by omega
        refine z_aload_n okω dL_goods_134 rfl ?_
        refine z_aload_n okω dL_goods_135 rfl ?_
        refine z_aload_n okω dL_goods_136 rfl ?_
        refine z_aload okω dL_goods_137 rfl ?_
        refine z_iload okω dL_goods_139 rfl ?_
        refine z_iload okω dL_goods_141 rfl ?_
        refine z_iload okω dL_goods_143 rfl ?_
        refine z_iload okω dL_goods_145 rfl ?_
        refine z_callSi okω dL_goods_147 zm_L_makes zw_384 zw_385 (ct_L_makes hmω hNω hltω) rfl rfl (by decide) (by decide) (by decide) (Nat.le_of_ble_eq_true rfl) (fun xz37ω Mz38ω qz39ω => ?_)
        obtain ⟨rfl, f9ω, t9ω, hm40ω, hf9ω⟩ := qz39ω
        refine z_istore okω dL_goods_150 (by decide) rfl ?_
        refine z_aload_n okω dL_goods_152 rfl ?_
        refine z_iconst (v := 4) okω dL_goods_153 (by decide) ?_
        refine z_iload okω dL_goods_154 rfl ?_
        refine z_imul okω dL_goods_156 ?_
        refine z_iload okω dL_goods_157 rfl ?_
        refine l_st3 n okω dL_goods_159 hm40ω (lx4_0 n) (by first | assumption | omega) (fun Mz42ω hm41ω frz43ω => ?_)
        refine z_aload_n okω dL_goods_160 rfl ?_
        refine z_iconst (v := 4) okω dL_goods_161 (by decide) ?_
        refine z_iload okω dL_goods_162 rfl ?_
        refine z_imul okω dL_goods_164 ?_
        refine z_iconst (v := 1) okω dL_goods_165 (by decide) ?_
        refine z_iadd okω dL_goods_166 ?_
        refine z_iload okω dL_goods_167 rfl ?_
        refine l_st4 n okω dL_goods_169 hm41ω (lx4_1 n) (by first | assumption | omega) (fun Mz45ω hm44ω frz46ω => ?_)
        refine z_aload_n okω dL_goods_170 rfl ?_
        refine z_iload okω dL_goods_171 rfl ?_
        refine z_iload okω dL_goods_173 rfl ?_
        refine z_iload okω dL_goods_175 rfl ?_
        refine z_iload okω dL_goods_177 rfl ?_
        refine z_iload okω dL_goods_179 rfl ?_
        refine z_iload okω dL_goods_181 rfl ?_
        have ho183ω := hoω.fr (show zFr M _ (c + 251) 6 from (zFr.tr hf9ω (zFr.tr frz43ω frz46ω)))
        obtain ⟨fs183ω, hs183ω⟩ := ho183ω.self
        refine z_callVi okω dL_goods_183 zm_X6_consign zw_335 zi_X6_consign hs183ω rfl (ho183ω.to_consign hNω) rfl rfl (by decide) (by decide) (by decide) (Nat.le_of_ble_eq_true rfl) (fun xz47ω Mz48ω qz49ω => ?_)
        have hccω := spC (s := s) (n := n) (p := (1 + (Y % 4))) (b := (1 + ((Y / 4) % 99))) (w := (1 + ((Y / 7) % 25))) (f := (τ + ((Y / 11) % 20))) (t := ((τ + ((Y / 11) % 20)) + ((Y / 13) % 25))) (o := ((Y / 17) % 200)) (by omega) (by omega) (by omega) (by omega) (by omega) (by omega)
        obtain ⟨hfqω, hxeω, hoqω⟩ := (qz49ω).inr ((if_pos hccω).trans (if_neg hn6ω))
        have hfzω := ((show zFr M _ (c + 251) 6 from (zFr.tr hf9ω (zFr.tr frz43ω frz46ω))).w (c := c) (by omega) (by omega)).tr (hfqω.w (c := c) (by omega) (by omega))
        have hm50ω := ((hm44ω).eqs (mk_ft)).fr hfqω
        refine z_iload okω dL_goods_186 rfl ?_
        refine z_icmp_ne (tgt := 195) okω dL_goods_188 (by decide) (fun q9ω => absurd hxeω q9ω) (fun _ => ?_)
        refine z_iconst (v := 1) okω dL_goods_191 (by decide) ?_
        refine z_goto (tgt := 196) okω dL_goods_192 (by decide) ?_
        exact z_iret okω dL_goods_196 rfl rfl rfl (Nat.zero_le _) ⟨rfl, _, n + 1, ⟨hoqω, hm50ω, hwω.make hltω hccω, hxω.make hwω hltω hccω.2.2.1⟩, zMk_o (q := 5) (by omega) (by omega), hfzω⟩
      · have hn6ω : n = 16 := (nI_eq (by omega) (by omega)).mp (hNω.1.symm.trans cz104ω)
        refine z_aload_n okω dL_goods_107 rfl ?_
        refine z_iload okω dL_goods_108 rfl ?_
        refine z_iload okω dL_goods_110 rfl ?_
        refine z_iload okω dL_goods_112 rfl ?_
        refine z_iload okω dL_goods_114 rfl ?_
        refine z_iload okω dL_goods_116 rfl ?_
        refine z_iload okω dL_goods_118 rfl ?_
        have ho120ω := hoω.fr (show zFr M _ (c + 251) 6 from zFr.rf)
        obtain ⟨fs120ω, hs120ω⟩ := ho120ω.self
        refine z_callVi okω dL_goods_120 zm_X6_consign zw_335 zi_X6_consign hs120ω rfl (ho120ω.to_consign hNω) rfl rfl (by decide) (by decide) (by decide) (Nat.le_of_ble_eq_true rfl) (fun xz51ω Mz52ω qz53ω => ?_)
        have hccω := spC (s := s) (n := n) (p := (1 + (Y % 4))) (b := (1 + ((Y / 4) % 99))) (w := (1 + ((Y / 7) % 25))) (f := (τ + ((Y / 11) % 20))) (t := ((τ + ((Y / 11) % 20)) + ((Y / 13) % 25))) (o := ((Y / 17) % 200)) (by omega) (by omega) (by omega) (by omega) (by omega) (by omega)
        obtain ⟨hfqω, hxeω, hoqω⟩ := (qz53ω).inl ((if_pos hccω).trans (if_pos hn6ω))
        have hfzω := ((show zFr M _ (c + 251) 6 from zFr.rf).w (c := c) (by omega) (by omega)).tr (hfqω.w (c := c) (by omega) (by omega))
        have hm54ω := ((hmω).eqs (rfl)).fr hfqω
        refine z_ldc okω dL_goods_123 zw_383 ?_
        refine z_icmp_ne (tgt := 132) okω dL_goods_125 (by decide) (fun q9ω => absurd hxeω q9ω) (fun _ => ?_)
        refine z_iconst (v := 1) okω dL_goods_128 (by decide) ?_
        refine z_goto (tgt := 133) okω dL_goods_129 (by decide) ?_
        exact z_iret okω dL_goods_133 rfl rfl rfl (Nat.zero_le _) ⟨rfl, s, n, ⟨hoqω, hm54ω, hwω, hxω⟩, rfl, hfzω⟩
    · refine z_bipush (v := 99) okω dL_goods_50 (by decide) ?_
      refine z_goto (tgt := 57) okω dL_goods_52 (by decide) ?_
      refine z_irem okω dL_goods_57 (by decide) ?_
      refine zV_eqi (yrem (d := 99) rfl (by omega) (by omega) (by omega)) ?_
      refine z_iadd okω dL_goods_58 ?_
      refine zV_eqi (yadd (a := 1) rfl) ?_
      refine z_istore okω dL_goods_59 (by decide) rfl ?_
      refine z_aload_n okω dL_goods_61 rfl ?_
      refine z_iconst (v := 5) okω dL_goods_62 (by decide) ?_
      refine l_ldG (t := 5) okω dL_goods_63 hmω rfl (by decide) ?_
      refine zV_eqi hτ ?_
      refine z_iload okω dL_goods_64 rfl ?_
      refine z_bipush (v := 11) okω dL_goods_66 (by decide) ?_
      refine z_idiv okω dL_goods_68 (by decide) ?_
      refine zV_eqi (ydiv (d := 11) rfl (by omega) (by omega) (by omega)) ?_
      refine z_bipush (v := 20) okω dL_goods_69 (by decide) ?_
      refine z_irem okω dL_goods_71 (by decide) ?_
      refine zV_eqi (yrem (d := 20) rfl (by omega) (by omega) (by omega)) ?_
      refine z_iadd okω dL_goods_72 ?_
      refine zV_eqi (nI_add _ _) ?_
      refine z_istore okω dL_goods_73 (by decide) rfl ?_
      refine z_iload okω dL_goods_75 rfl ?_
      refine z_iload okω dL_goods_77 rfl ?_
      refine z_bipush (v := 13) okω dL_goods_79 (by decide) ?_
      refine z_idiv okω dL_goods_81 (by decide) ?_
      refine zV_eqi (ydiv (d := 13) rfl (by omega) (by omega) (by omega)) ?_
      refine z_bipush (v := 25) okω dL_goods_82 (by decide) ?_
      refine z_irem okω dL_goods_84 (by decide) ?_
      refine zV_eqi (yrem (d := 25) rfl (by omega) (by omega) (by omega)) ?_
      refine z_iadd okω dL_goods_85 ?_
      refine zV_eqi (nI_add _ _) ?_
      refine z_istore okω dL_goods_86 (by decide) rfl ?_
      refine z_iload okω dL_goods_88 rfl ?_
      refine z_bipush (v := 17) okω dL_goods_90 (by decide) ?_
      refine z_idiv okω dL_goods_92 (by decide) ?_
      refine zV_eqi (ydiv (d := 17) rfl (by omega) (by omega) (by omega)) ?_
      refine z_sipush (v := 200) okω dL_goods_93 (by decide) ?_
      refine z_irem okω dL_goods_96 (by decide) ?_
      refine zV_eqi (yrem (d := 200) rfl (by omega) (by omega) (by omega)) ?_
      refine z_istore okω dL_goods_97 (by decide) rfl ?_
      refine z_aload_n okω dL_goods_99 rfl ?_
      refine z_iconst (v := 3) okω dL_goods_100 (by decide) ?_
      refine l_ldG (t := 3) okω dL_goods_101 hmω rfl (by decide) ?_
      refine z_bipush (v := 16) okω dL_goods_102 (by decide) ?_
      refine z_icmp_ne (tgt := 134) okω dL_goods_104 (by decide) (fun cz104ω => ?_) (fun cz104ω => ?_)
      · have hn6ω : ¬ n = 16 := fun zω => cz104ω (by rw [hNω.1, zω]; rfl)
        have hltω : n < 16 := by omega
        refine z_aload_n okω dL_goods_134 rfl ?_
        refine z_aload_n okω dL_goods_135 rfl ?_
        refine z_aload_n okω dL_goods_136 rfl ?_
        refine z_aload okω dL_goods_137 rfl ?_
        refine z_iload okω dL_goods_139 rfl ?_
        refine z_iload okω dL_goods_141 rfl ?_
        refine z_iload okω dL_goods_143 rfl ?_
        refine z_iload okω dL_goods_145 rfl ?_
        refine z_callSi okω dL_goods_147 zm_L_makes zw_384 zw_385 (ct_L_makes hmω hNω hltω) rfl rfl (by decide) (by decide) (by decide) (Nat.le_of_ble_eq_true rfl) (fun xz55ω Mz56ω qz57ω => ?_)
        obtain ⟨rfl, f9ω, t9ω, hm58ω, hf9ω⟩ := qz57ω
        refine z_istore okω dL_goods_150 (by decide) rfl ?_
        refine z_aload_n okω dL_goods_152 rfl ?_
        refine z_iconst (v := 4) okω dL_goods_153 (by decide) ?_
        refine z_iload okω dL_goods_154 rfl ?_
        refine z_imul okω dL_goods_156 ?_
        refine z_iload okω dL_goods_157 rfl ?_
        refine l_st3 n okω dL_goods_159 hm58ω (lx4_0 n) (by first | assumption | omega) (fun Mz60ω hm59ω frz61ω => ?_)
        refine z_aload_n okω dL_goods_160 rfl ?_
        refine z_iconst (v := 4) okω dL_goods_161 (by decide) ?_
        refine z_iload okω dL_goods_162 rfl ?_
        refine z_imul okω dL_goods_164 ?_
        refine z_iconst (v := 1) okω dL_goods_165 (by decide) ?_
        refine z_iadd okω dL_goods_166 ?_
        refine z_iload okω dL_goods_167 rfl ?_
        refine l_st4 n okω dL_goods_169 hm59ω (lx4_1 n) (by first | assumption | omega) (fun Mz63ω hm62ω frz64ω => ?_)
        refine z_aload_n okω dL_goods_170 rfl ?_
        refine z_iload okω dL_goods_171 rfl ?_
        refine z_iload okω dL_goods_173 rfl ?_
        refine z_iload okω dL_goods_175 rfl ?_
        refine z_iload okω dL_goods_177 rfl ?_
        refine z_iload okω dL_goods_179 rfl ?_
        refine z_iload okω dL_goods_181 rfl ?_
        have ho183ω := hoω.fr (show zFr M _ (c + 251) 6 from (zFr.tr hf9ω (zFr.tr frz61ω frz64ω)))
        obtain ⟨fs183ω, hs183ω⟩ := ho183ω.self
        refine z_callVi okω dL_goods_183 zm_X6_consign zw_335 zi_X6_consign hs183ω rfl (ho183ω.to_consign hNω) rfl rfl (by decide) (by decide) (by decide) (Nat.le_of_ble_eq_true rfl) (fun xz65ω Mz66ω qz67ω => ?_)
        have hccω := spC (s := s) (n := n) (p := (1 + (Y % 4))) (b := (1 + ((Y / 4) % 99))) (w := (1 + ((Y / 7) % 99))) (f := (τ + ((Y / 11) % 20))) (t := ((τ + ((Y / 11) % 20)) + ((Y / 13) % 25))) (o := ((Y / 17) % 200)) (by omega) (by omega) (by omega) (by omega) (by omega) (by omega)
        obtain ⟨hfqω, hxeω, hoqω⟩ := (qz67ω).inr ((if_pos hccω).trans (if_neg hn6ω))
        have hfzω := ((show zFr M _ (c + 251) 6 from (zFr.tr hf9ω (zFr.tr frz61ω frz64ω))).w (c := c) (by omega) (by omega)).tr (hfqω.w (c := c) (by omega) (by omega))
        have hm68ω := ((hm62ω).eqs (mk_ft)).fr hfqω
        refine z_iload okω dL_goods_186 rfl ?_
        refine z_icmp_ne (tgt := 195) okω dL_goods_188 (by decide) (fun q9ω => absurd hxeω q9ω) (fun _ => ?_)
        refine z_iconst (v := 1) okω dL_goods_191 (by decide) ?_
        refine z_goto (tgt := 196) okω dL_goods_192 (by decide) ?_
        exact z_iret okω dL_goods_196 rfl rfl rfl (Nat.zero_le _) ⟨rfl, _, n + 1, ⟨hoqω, hm68ω, hwω.make hltω hccω, hxω.make hwω hltω hccω.2.2.1⟩, zMk_o (q := 5) (by omega) (by omega), hfzω⟩
      · have hn6ω : n = 16 := (nI_eq (by omega) (by omega)).mp (hNω.1.symm.trans cz104ω)
        refine z_aload_n okω dL_goods_107 rfl ?_
        refine z_iload okω dL_goods_108 rfl ?_
        refine z_iload okω dL_goods_110 rfl ?_
        refine z_iload okω dL_goods_112 rfl ?_
        refine z_iload okω dL_goods_114 rfl ?_
        refine z_iload okω dL_goods_116 rfl ?_
        refine z_iload okω dL_goods_118 rfl ?_
        have ho120ω := hoω.fr (show zFr M _ (c + 251) 6 from zFr.rf)
        obtain ⟨fs120ω, hs120ω⟩ := ho120ω.self
        refine z_callVi okω dL_goods_120 zm_X6_consign zw_335 zi_X6_consign hs120ω rfl (ho120ω.to_consign hNω) rfl rfl (by decide) (by decide) (by decide) (Nat.le_of_ble_eq_true rfl) (fun xz69ω Mz70ω qz71ω => ?_)
        have hccω := spC (s := s) (n := n) (p := (1 + (Y % 4))) (b := (1 + ((Y / 4) % 99))) (w := (1 + ((Y / 7) % 99))) (f := (τ + ((Y / 11) % 20))) (t := ((τ + ((Y / 11) % 20)) + ((Y / 13) % 25))) (o := ((Y / 17) % 200)) (by omega) (by omega) (by omega) (by omega) (by omega) (by omega)
        obtain ⟨hfqω, hxeω, hoqω⟩ := (qz71ω).inl ((if_pos hccω).trans (if_pos hn6ω))
        have hfzω := ((show zFr M _ (c + 251) 6 from zFr.rf).w (c := c) (by omega) (by omega)).tr (hfqω.w (c := c) (by omega) (by omega))
        have hm72ω := ((hmω).eqs (rfl)).fr hfqω
        refine z_ldc okω dL_goods_123 zw_383 ?_
        refine z_icmp_ne (tgt := 132) okω dL_goods_125 (by decide) (fun q9ω => absurd hxeω q9ω) (fun _ => ?_)
        refine z_iconst (v := 1) okω dL_goods_128 (by decide) ?_
        refine z_goto (tgt := 133) okω dL_goods_129 (by decide) ?_
        exact z_iret okω dL_goods_133 rfl rfl rfl (Nat.zero_le _) ⟨rfl, s, n, ⟨hoqω, hm72ω, hwω, hxω⟩, rfl, hfzω⟩

set_option maxRecDepth 20000 in
set_option maxHeartbeats 1000000 in
theorem ct_L_goods2 {K : zK} {M : mM} {nx : Nat} {c : Nat} {s : Nat → Int32} {n nv no : Nat} (hS : lS M c s n nv no) {Y τ : Nat} (hY : Y < 10000000) (hτ : s 5 = nI τ) (hτ2 : τ ≤ 5000) : zCt K yL_goods cL_goods 14 zr_L_goods 6 [.ref c, .ref (c + 251), .ref (c + 251 + 1), .ref (c + 251 + 2), .ref (c + 251 + 3), .int 2, .int (nI Y)] M nx 0 0 (zI (fun x M' => x = 1 ∧ ∃ (s' : Nat → Int32) (n' : Nat), lS M' c s' n' nv no ∧ s' 5 = s 5 ∧ zFr M M' c 257)) := by
  refine z_enter [some (.ref c), some (.ref (c + 251)), some (.ref (c + 251 + 1)), some (.ref (c + 251 + 2)), some (.ref (c + 251 + 3)), some (.int 2), some (.int (nI Y)), none, none, none, none, none, none, none] (by decide +kernel) (Nat.le_of_ble_eq_true rfl) rfl (fun Bω okω hzω => ?_)
  have hmω := hS.2.1
  have hoω := hS.1
  have hwω := hS.2.2.1
  have hxω := hS.2.2.2
  have hNω := hwω.N
  have hn16ω := hNω.2.1
  have hnv4ω := hNω.2.2.2.1
  have hno10ω := hNω.2.2.2.2.2
  refine z_iload okω dL_goods_0 rfl ?_
  refine z_iconst (v := 2) okω dL_goods_2 (by decide) ?_
  refine z_icmp_ge (tgt := 197) okω dL_goods_3 (by decide) (fun _ => ?_) (fun q9ω => absurd (by decide) q9ω)
  refine z_aload_n okω dL_goods_197 rfl ?_
  refine z_aload_n okω dL_goods_198 rfl ?_
  refine z_iload okω dL_goods_199 rfl ?_
  refine z_iconst (v := 0) okω dL_goods_201 (by decide) ?_
  refine z_callSi okω dL_goods_202 zm_L_some zw_387 zw_388 (ct_L_some hmω hwω (y := Y) (by omega)) rfl rfl (by decide) (by decide) (by decide) (Nat.le_of_ble_eq_true rfl) (fun xz1ω Mz2ω qz3ω => ?_)
  obtain ⟨⟨kω, rfl, hk1ω, hk2ω⟩, hMeω⟩ := qz3ω
  obtain rfl := hMeω.symm
  refine z_istore okω dL_goods_205 (by decide) rfl ?_
  refine z_iload okω dL_goods_207 rfl ?_
  refine z_iconst (v := 2) okω dL_goods_209 (by decide) ?_
  refine z_icmp_ne (tgt := 515) okω dL_goods_210 (by decide) (fun q9ω => absurd rfl q9ω) (fun _ => ?_)
  refine z_aload_n okω dL_goods_213 rfl ?_
  refine z_aload_n okω dL_goods_214 rfl ?_
  refine z_iload okω dL_goods_215 rfl ?_
  refine z_callSi okω dL_goods_217 zm_L_is zw_390 zw_391 (ct_L_is hmω hwω) rfl rfl (by decide) (by decide) (by decide) (Nat.le_of_ble_eq_true rfl) (fun xz4ω Mz5ω qz6ω => ?_)
  obtain ⟨rfl, hMeω⟩ := qz6ω
  obtain rfl := hMeω.symm
  refine z_if_ne (tgt := 242) okω dL_goods_220 (by decide) (fun cz220ω => ?_) (fun cz220ω => ?_)
  · have hgkω := Decidable.not_not.mp (mt b2_0.mpr cz220ω)
    have hk31ω : kω < 2 ^ 31 := (Nat.eq_zero_or_pos n).elim (fun zω => by have := hk2ω zω; omega) (fun zω => by have := hk1ω zω; omega)
    have hkgω := zGoods_n hNω hgkω hk31ω
    have hknω : kω < n := hkgω.1
    have hgzω := hwω.g kω hknω
    have hw1ω : 1 ≤ gd s kω 2 := Int32.le_iff_toInt_le.mpr (hxω.1 kω hknω)
    refine z_iconst (v := 1) okω dL_goods_242 (by decide) ?_
    refine z_iload okω dL_goods_243 rfl ?_
    refine z_bipush (v := 16) okω dL_goods_245 (by decide) ?_
    refine z_idiv okω dL_goods_247 (by decide) ?_
    refine zV_eqi (ydiv (d := 16) rfl (by omega) (by omega) (by omega)) ?_
    refine z_bipush (v := 20) okω dL_goods_248 (by decide) ?_
    refine z_irem okω dL_goods_250 (by decide) ?_
    refine zV_eqi (yrem (d := 20) rfl (by omega) (by omega) (by omega)) ?_
    refine z_iadd okω dL_goods_251 ?_
    refine zV_eqi (yadd (a := 1) rfl) ?_
    refine z_istore okω dL_goods_252 (by decide) rfl ?_
    refine z_iconst (v := 1) okω dL_goods_254 (by decide) ?_
    refine z_iload okω dL_goods_255 rfl ?_
    refine z_iconst (v := 5) okω dL_goods_257 (by decide) ?_
    refine z_idiv okω dL_goods_258 (by decide) ?_
    refine zV_eqi (ydiv (d := 5) rfl (by omega) (by omega) (by omega)) ?_
    refine z_bipush (v := 20) okω dL_goods_259 (by decide) ?_
    refine z_irem okω dL_goods_261 (by decide) ?_
    refine zV_eqi (yrem (d := 20) rfl (by omega) (by omega) (by omega)) ?_
    refine z_iadd okω dL_goods_262 ?_
    refine zV_eqi (yadd (a := 1) rfl) ?_
    refine z_istore okω dL_goods_263 (by decide) rfl ?_
    refine z_iconst (v := 4) okω dL_goods_265 (by decide) ?_
    refine z_iload okω dL_goods_266 rfl ?_
    refine z_imul okω dL_goods_268 ?_
    refine z_istore okω dL_goods_269 (by decide) rfl ?_
    refine z_iload okω dL_goods_271 rfl ?_
    refine z_aload_n okω dL_goods_273 rfl ?_
    refine z_iload okω dL_goods_274 rfl ?_
    refine z_iconst (v := 1) okω dL_goods_276 (by decide) ?_
    refine z_iadd okω dL_goods_277 ?_
    refine l_ld1 kω okω dL_goods_278 hmω (lx4_1 kω) (by first | assumption | omega) ?_
    refine z_icmp_ge (tgt := 293) okω dL_goods_279 (by decide) (fun cz279ω => ?_) (fun cz279ω => ?_)
    · refine z_iconst (v := 1) okω dL_goods_293 (by decide) ?_
      refine z_goto (tgt := 298) okω dL_goods_294 (by decide) ?_
      refine z_istore okω dL_goods_298 (by decide) rfl ?_
      refine z_iload okω dL_goods_300 rfl ?_
      refine z_if_ne (tgt := 322) okω dL_goods_302 (by decide) (fun _ => ?_) (fun q9ω => absurd q9ω (by decide))
      refine z_aload_n okω dL_goods_322 rfl ?_
      refine z_iload okω dL_goods_323 rfl ?_
      refine z_iload okω dL_goods_325 rfl ?_
      refine z_iload okω dL_goods_327 rfl ?_
      have ho329ω := hoω.fr (show zFr M _ (c + 251) 6 from zFr.rf)
      obtain ⟨fs329ω, hs329ω⟩ := ho329ω.self
      refine z_callVi okω dL_goods_329 zm_X6_split zw_393 zi_X6_split hs329ω rfl (ho329ω.to_split hNω) rfl rfl (by decide) (by decide) (by decide) (Nat.le_of_ble_eq_true rfl) (fun xz7ω Mz8ω qz9ω => ?_)
      obtain ⟨hfqω, hxeω, hoqω⟩ := (qz9ω).inl (spS_bad hk31ω hgzω.2.1 hw1ω (Or.inl cz279ω))
      have hfzω := ((show zFr M _ (c + 251) 6 from zFr.rf).w (c := c) (by omega) (by omega)).tr (hfqω.w (c := c) (by omega) (by omega))
      have hm10ω := ((hmω).eqs (rfl)).fr hfqω
      refine z_iload okω dL_goods_332 rfl ?_
      refine z_if_eq (tgt := 342) okω dL_goods_334 (by decide) (fun q9ω => absurd q9ω (by decide)) (fun _ => ?_)
      refine z_ldc okω dL_goods_337 zw_409 ?_
      refine z_goto (tgt := 358) okω dL_goods_339 (by decide) ?_
      refine z_icmp_ne (tgt := 365) okω dL_goods_358 (by decide) (fun q9ω => absurd hxeω q9ω) (fun _ => ?_)
      refine z_iconst (v := 1) okω dL_goods_361 (by decide) ?_
      refine z_goto (tgt := 366) okω dL_goods_362 (by decide) ?_
      exact z_iret okω dL_goods_366 rfl rfl rfl (Nat.zero_le _) ⟨rfl, s, n, ⟨hoqω, hm10ω, hwω, hxω⟩, rfl, hfzω⟩
    · refine z_iload okω dL_goods_282 rfl ?_
      refine z_aload_n okω dL_goods_284 rfl ?_
      refine z_iload okω dL_goods_285 rfl ?_
      refine z_iconst (v := 2) okω dL_goods_287 (by decide) ?_
      refine z_iadd okω dL_goods_288 ?_
      refine l_ld2 kω okω dL_goods_289 hmω (lx4_2 kω) (by first | assumption | omega) ?_
      refine z_icmp_lt (tgt := 297) okω dL_goods_290 (by decide) (fun cz290ω => ?_) (fun cz290ω => ?_)
      · refine z_iconst (v := 0) okω dL_goods_297 (by decide) ?_
        refine z_istore okω dL_goods_298 (by decide) rfl ?_
        refine z_iload okω dL_goods_300 rfl ?_
        refine z_if_ne (tgt := 322) okω dL_goods_302 (by decide) (fun q9ω => absurd rfl q9ω) (fun _ => ?_)
        refine z_aload_n okω dL_goods_305 rfl ?_
        refine z_iload okω dL_goods_306 rfl ?_
        refine z_iconst (v := 2) okω dL_goods_308 (by decide) ?_
        refine z_iadd okω dL_goods_309 ?_
        refine l_ld6 kω okω dL_goods_310 hmω (lx4_2 kω) (by first | assumption | omega) ?_
        refine z_if_ne (tgt := 322) okω dL_goods_311 (by decide) (fun cz311ω => ?_) (fun cz311ω => ?_)
        · refine z_aload_n okω dL_goods_322 rfl ?_
          refine z_iload okω dL_goods_323 rfl ?_
          refine z_iload okω dL_goods_325 rfl ?_
          refine z_iload okω dL_goods_327 rfl ?_
          have ho329ω := hoω.fr (show zFr M _ (c + 251) 6 from zFr.rf)
          obtain ⟨fs329ω, hs329ω⟩ := ho329ω.self
          refine z_callVi okω dL_goods_329 zm_X6_split zw_393 zi_X6_split hs329ω rfl (ho329ω.to_split hNω) rfl rfl (by decide) (by decide) (by decide) (Nat.le_of_ble_eq_true rfl) (fun xz11ω Mz12ω qz13ω => ?_)
          obtain ⟨hfqω, hxeω, hoqω⟩ := (qz13ω).inl (spS_st hk31ω hgkω (nI_1le (by omega) (by omega)) (nI_1le (by omega) (by omega)) cz279ω cz290ω cz311ω)
          have hfzω := ((show zFr M _ (c + 251) 6 from zFr.rf).w (c := c) (by omega) (by omega)).tr (hfqω.w (c := c) (by omega) (by omega))
          have hm14ω := ((hmω).eqs (rfl)).fr hfqω
          refine z_iload okω dL_goods_332 rfl ?_
          refine z_if_eq (tgt := 342) okω dL_goods_334 (by decide) (fun _ => ?_) (fun q9ω => absurd (by decide) q9ω)
          refine z_aload_n okω dL_goods_342 rfl ?_
          refine z_iload okω dL_goods_343 rfl ?_
          refine z_iconst (v := 2) okω dL_goods_345 (by decide) ?_
          refine z_iadd okω dL_goods_346 ?_
          refine l_ld6 kω okω dL_goods_347 hm14ω (lx4_2 kω) (by first | assumption | omega) ?_
          refine z_if_eq (tgt := 356) okω dL_goods_348 (by decide) (fun q9ω => absurd q9ω cz311ω) (fun _ => ?_)
          refine z_ldc okω dL_goods_351 zw_410 ?_
          refine z_goto (tgt := 358) okω dL_goods_353 (by decide) ?_
          refine z_icmp_ne (tgt := 365) okω dL_goods_358 (by decide) (fun q9ω => absurd hxeω q9ω) (fun _ => ?_)
          refine z_iconst (v := 1) okω dL_goods_361 (by decide) ?_
          refine z_goto (tgt := 366) okω dL_goods_362 (by decide) ?_
          exact z_iret okω dL_goods_366 rfl rfl rfl (Nat.zero_le _) ⟨rfl, s, n, ⟨hoqω, hm14ω, hwω, hxω⟩, rfl, hfzω⟩
        · refine z_aload_n okω dL_goods_314 rfl ?_
          refine z_iconst (v := 3) okω dL_goods_315 (by decide) ?_
          refine l_ldG (t := 3) okω dL_goods_316 hmω rfl (by decide) ?_
          refine z_bipush (v := 16) okω dL_goods_317 (by decide) ?_
          refine z_icmp_ne (tgt := 367) okω dL_goods_319 (by decide) (fun cz319ω => ?_) (fun cz319ω => ?_)
          · have hn6ω : ¬ n = 16 := fun zω => cz319ω (by rw [hNω.1, zω]; rfl)
            have hltω : n < 16 := by omega
            refine z_iload okω dL_goods_367 rfl ?_
            refine z_aload_n okω dL_goods_369 rfl ?_
            refine z_iload okω dL_goods_370 rfl ?_
            refine z_iconst (v := 3) okω dL_goods_372 (by decide) ?_
            refine z_iadd okω dL_goods_373 ?_
            refine l_ld5 kω okω dL_goods_374 hmω (lx4_3 kω) (by first | assumption | omega) ?_
            refine z_imul okω dL_goods_375 ?_
            refine z_aload_n okω dL_goods_376 rfl ?_
            refine z_iload okω dL_goods_377 rfl ?_
            refine z_iconst (v := 1) okω dL_goods_379 (by decide) ?_
            refine z_iadd okω dL_goods_380 ?_
            refine l_ld1 kω okω dL_goods_381 hmω (lx4_1 kω) (by first | assumption | omega) ?_
            refine z_idiv okω dL_goods_382 (i_pos hgzω.2.1).1 ?_
            refine zV_eqi (show _ = gd s kω 5 * _ / gd s kω 1 from by rw [Int32.mul_comm]) ?_
            refine z_istore okω dL_goods_383 (by decide) rfl ?_
            refine z_aload_n okω dL_goods_385 rfl ?_
            refine z_aload_n okω dL_goods_386 rfl ?_
            refine z_aload_n okω dL_goods_387 rfl ?_
            refine z_aload okω dL_goods_388 rfl ?_
            refine z_aload_n okω dL_goods_390 rfl ?_
            refine z_iload okω dL_goods_391 rfl ?_
            refine l_ld0 kω okω dL_goods_393 hmω (lx4_0 kω) (by first | assumption | omega) ?_
            refine z_iload okω dL_goods_394 rfl ?_
            refine z_iload okω dL_goods_396 rfl ?_
            refine z_iload okω dL_goods_398 rfl ?_
            refine z_callSi okω dL_goods_400 zm_L_makes zw_384 zw_385 (ct_L_makes hmω hNω hltω) rfl rfl (by decide) (by decide) (by decide) (Nat.le_of_ble_eq_true rfl) (fun xz15ω Mz16ω qz17ω => ?_)
            obtain ⟨rfl, f9ω, t9ω, hm18ω, hf9ω⟩ := qz17ω
            refine z_istore okω dL_goods_403 (by decide) rfl ?_
            refine z_aload_n okω dL_goods_405 rfl ?_
            refine z_iconst (v := 4) okω dL_goods_406 (by decide) ?_
            refine z_iload okω dL_goods_407 rfl ?_
            refine z_imul okω dL_goods_409 ?_
            refine z_aload_n okω dL_goods_410 rfl ?_
            refine z_iload okω dL_goods_411 rfl ?_
            refine l_ld3 kω okω dL_goods_413 hm18ω (lx4_0 kω) (by first | assumption | omega) ?_
            refine l_st3 n okω dL_goods_414 hm18ω (lx4_0 n) (by first | assumption | omega) (fun Mz20ω hm19ω frz21ω => ?_)
            refine z_aload_n okω dL_goods_415 rfl ?_
            refine z_iconst (v := 4) okω dL_goods_416 (by decide) ?_
            refine z_iload okω dL_goods_417 rfl ?_
            refine z_imul okω dL_goods_419 ?_
            refine z_iconst (v := 1) okω dL_goods_420 (by decide) ?_
            refine z_iadd okω dL_goods_421 ?_
            refine z_aload_n okω dL_goods_422 rfl ?_
            refine z_iload okω dL_goods_423 rfl ?_
            refine z_iconst (v := 1) okω dL_goods_425 (by decide) ?_
            refine z_iadd okω dL_goods_426 ?_
            refine l_ld4 kω okω dL_goods_427 hm19ω (lx4_1 kω) (by first | assumption | omega) ?_
            refine l_st4 n okω dL_goods_428 hm19ω (lx4_1 n) (by first | assumption | omega) (fun Mz23ω hm22ω frz24ω => ?_)
            refine z_aload okω dL_goods_429 rfl ?_
            refine z_iconst (v := 4) okω dL_goods_431 (by decide) ?_
            refine z_iload okω dL_goods_432 rfl ?_
            refine z_imul okω dL_goods_434 ?_
            refine z_iconst (v := 1) okω dL_goods_435 (by decide) ?_
            refine z_iadd okω dL_goods_436 ?_
            refine z_aload okω dL_goods_437 rfl ?_
            refine z_iload okω dL_goods_439 rfl ?_
            refine z_iconst (v := 1) okω dL_goods_441 (by decide) ?_
            refine z_iadd okω dL_goods_442 ?_
            refine l_ld9 kω okω dL_goods_443 hm22ω (lx4_1 kω) (by first | assumption | omega) ?_
            refine l_st9 n okω dL_goods_444 hm22ω (lx4_1 n) (by first | assumption | omega) (fun Mz26ω hm25ω frz27ω => ?_)
            refine z_aload okω dL_goods_445 rfl ?_
            refine z_iconst (v := 4) okω dL_goods_447 (by decide) ?_
            refine z_iload okω dL_goods_448 rfl ?_
            refine z_imul okω dL_goods_450 ?_
            refine z_iconst (v := 2) okω dL_goods_451 (by decide) ?_
            refine z_iadd okω dL_goods_452 ?_
            refine z_aload okω dL_goods_453 rfl ?_
            refine z_iload okω dL_goods_455 rfl ?_
            refine z_iconst (v := 2) okω dL_goods_457 (by decide) ?_
            refine z_iadd okω dL_goods_458 ?_
            refine l_ld10 kω okω dL_goods_459 hm25ω (lx4_2 kω) (by first | assumption | omega) ?_
            refine l_st10 n okω dL_goods_460 hm25ω (lx4_2 n) (by first | assumption | omega) (fun Mz29ω hm28ω frz30ω => ?_)
            refine z_aload_n okω dL_goods_461 rfl ?_
            refine z_iload okω dL_goods_462 rfl ?_
            refine z_iconst (v := 1) okω dL_goods_464 (by decide) ?_
            refine z_iadd okω dL_goods_465 ?_
            refine z_dup2 okω dL_goods_466 rfl rfl ?_
            refine l_ld1 kω okω dL_goods_467 hm28ω (lx4_1 kω) (by first | assumption | omega) ?_
            refine z_iload okω dL_goods_468 rfl ?_
            refine z_isub okω dL_goods_470 ?_
            refine l_st1 kω okω dL_goods_471 hm28ω (lx4_1 kω) (by first | assumption | omega) (fun Mz32ω hm31ω frz33ω => ?_)
            refine z_aload_n okω dL_goods_472 rfl ?_
            refine z_iload okω dL_goods_473 rfl ?_
            refine z_iconst (v := 2) okω dL_goods_475 (by decide) ?_
            refine z_iadd okω dL_goods_476 ?_
            refine z_dup2 okω dL_goods_477 rfl rfl ?_
            refine l_ld2 kω okω dL_goods_478 hm31ω (lx4_2 kω) (by first | assumption | omega) ?_
            refine z_iload okω dL_goods_479 rfl ?_
            refine z_isub okω dL_goods_481 ?_
            refine l_st2 kω okω dL_goods_482 hm31ω (lx4_2 kω) (by first | assumption | omega) (fun Mz35ω hm34ω frz36ω => ?_)
            refine z_aload_n okω dL_goods_483 rfl ?_
            refine z_iload okω dL_goods_484 rfl ?_
            refine z_iconst (v := 3) okω dL_goods_486 (by decide) ?_
            refine z_iadd okω dL_goods_487 ?_
            refine z_dup2 okω dL_goods_488 rfl rfl ?_
            refine l_ld5 kω okω dL_goods_489 hm34ω (lx4_3 kω) (by first | assumption | omega) ?_
            refine z_iload okω dL_goods_490 rfl ?_
            refine z_isub okω dL_goods_492 ?_
            refine l_st5 kω okω dL_goods_493 hm34ω (lx4_3 kω) (by first | assumption | omega) (fun Mz38ω hm37ω frz39ω => ?_)
            refine z_aload_n okω dL_goods_494 rfl ?_
            refine z_iload okω dL_goods_495 rfl ?_
            refine z_iload okω dL_goods_497 rfl ?_
            refine z_iload okω dL_goods_499 rfl ?_
            have ho501ω := hoω.fr (show zFr M _ (c + 251) 6 from (zFr.tr hf9ω (zFr.tr frz21ω (zFr.tr frz24ω (zFr.tr frz27ω (zFr.tr frz30ω (zFr.tr frz33ω (zFr.tr frz36ω frz39ω))))))))
            obtain ⟨fs501ω, hs501ω⟩ := ho501ω.self
            refine z_callVi okω dL_goods_501 zm_X6_split zw_393 zi_X6_split hs501ω rfl (ho501ω.to_split hNω) rfl rfl (by decide) (by decide) (by decide) (Nat.le_of_ble_eq_true rfl) (fun xz40ω Mz41ω qz42ω => ?_)
            obtain ⟨hfqω, hxeω, hoqω⟩ := (qz42ω).inr (spS_ok hk31ω hgkω (nI_1le (by omega) (by omega)) (nI_1le (by omega) (by omega)) cz279ω cz290ω cz311ω hn6ω)
            have hfzω := ((show zFr M _ (c + 251) 6 from (zFr.tr hf9ω (zFr.tr frz21ω (zFr.tr frz24ω (zFr.tr frz27ω (zFr.tr frz30ω (zFr.tr frz33ω (zFr.tr frz36ω frz39ω)))))))).w (c := c) (by omega) (by omega)).tr (hfqω.w (c := c) (by omega) (by omega))
            have hm43ω := ((hm37ω).eqs ((congrArg (fun Sω => zSpr Sω n kω _ _ _) (mk_ft2 (f := f9ω) (t := t9ω) hknω)).trans zSpr_e.symm)).fr hfqω
            refine z_iload okω dL_goods_504 rfl ?_
            refine z_icmp_ne (tgt := 513) okω dL_goods_506 (by decide) (fun q9ω => absurd hxeω q9ω) (fun _ => ?_)
            refine z_iconst (v := 1) okω dL_goods_509 (by decide) ?_
            refine z_goto (tgt := 514) okω dL_goods_510 (by decide) ?_
            exact z_iret okω dL_goods_514 rfl rfl rfl (Nat.zero_le _) ⟨rfl, _, n + 1, ⟨hoqω, hm43ω, hwω.split hknω hltω cz311ω ⟨nI_1le (by omega) (by omega), i_le_pred (Int32.not_le.mp cz279ω)⟩ ⟨nI_1le (by omega) (by omega), i_le_pred cz290ω⟩, hxω.split hwω hknω hltω cz311ω ⟨nI_1le (by omega) (by omega), i_le_pred (Int32.not_le.mp cz279ω)⟩ ⟨nI_1le (by omega) (by omega), i_le_pred cz290ω⟩⟩, zSp_o (q := 5) (by omega) (by omega) (by omega), hfzω⟩
          · have hn6ω : n = 16 := (nI_eq (by omega) (by omega)).mp (hNω.1.symm.trans cz319ω)
            refine z_aload_n okω dL_goods_322 rfl ?_
            refine z_iload okω dL_goods_323 rfl ?_
            refine z_iload okω dL_goods_325 rfl ?_
            refine z_iload okω dL_goods_327 rfl ?_
            have ho329ω := hoω.fr (show zFr M _ (c + 251) 6 from zFr.rf)
            obtain ⟨fs329ω, hs329ω⟩ := ho329ω.self
            refine z_callVi okω dL_goods_329 zm_X6_split zw_393 zi_X6_split hs329ω rfl (ho329ω.to_split hNω) rfl rfl (by decide) (by decide) (by decide) (Nat.le_of_ble_eq_true rfl) (fun xz44ω Mz45ω qz46ω => ?_)
            obtain ⟨hfqω, hxeω, hoqω⟩ := (qz46ω).inl (spS_16 hk31ω hgkω (nI_1le (by omega) (by omega)) (nI_1le (by omega) (by omega)) cz279ω cz290ω cz311ω hn6ω)
            have hfzω := ((show zFr M _ (c + 251) 6 from zFr.rf).w (c := c) (by omega) (by omega)).tr (hfqω.w (c := c) (by omega) (by omega))
            have hm47ω := ((hmω).eqs (rfl)).fr hfqω
            refine z_iload okω dL_goods_332 rfl ?_
            refine z_if_eq (tgt := 342) okω dL_goods_334 (by decide) (fun _ => ?_) (fun q9ω => absurd (by decide) q9ω)
            refine z_aload_n okω dL_goods_342 rfl ?_
            refine z_iload okω dL_goods_343 rfl ?_
            refine z_iconst (v := 2) okω dL_goods_345 (by decide) ?_
            refine z_iadd okω dL_goods_346 ?_
            refine l_ld6 kω okω dL_goods_347 hm47ω (lx4_2 kω) (by first | assumption | omega) ?_
            refine z_if_eq (tgt := 356) okω dL_goods_348 (by decide) (fun _ => ?_) (fun q9ω => absurd cz311ω q9ω)
            refine z_ldc okω dL_goods_356 zw_383 ?_
            refine z_icmp_ne (tgt := 365) okω dL_goods_358 (by decide) (fun q9ω => absurd hxeω q9ω) (fun _ => ?_)
            refine z_iconst (v := 1) okω dL_goods_361 (by decide) ?_
            refine z_goto (tgt := 366) okω dL_goods_362 (by decide) ?_
            exact z_iret okω dL_goods_366 rfl rfl rfl (Nat.zero_le _) ⟨rfl, s, n, ⟨hoqω, hm47ω, hwω, hxω⟩, rfl, hfzω⟩
      · refine z_iconst (v := 1) okω dL_goods_293 (by decide) ?_
        refine z_goto (tgt := 298) okω dL_goods_294 (by decide) ?_
        refine z_istore okω dL_goods_298 (by decide) rfl ?_
        refine z_iload okω dL_goods_300 rfl ?_
        refine z_if_ne (tgt := 322) okω dL_goods_302 (by decide) (fun _ => ?_) (fun q9ω => absurd q9ω (by decide))
        refine z_aload_n okω dL_goods_322 rfl ?_
        refine z_iload okω dL_goods_323 rfl ?_
        refine z_iload okω dL_goods_325 rfl ?_
        refine z_iload okω dL_goods_327 rfl ?_
        have ho329ω := hoω.fr (show zFr M _ (c + 251) 6 from zFr.rf)
        obtain ⟨fs329ω, hs329ω⟩ := ho329ω.self
        refine z_callVi okω dL_goods_329 zm_X6_split zw_393 zi_X6_split hs329ω rfl (ho329ω.to_split hNω) rfl rfl (by decide) (by decide) (by decide) (Nat.le_of_ble_eq_true rfl) (fun xz48ω Mz49ω qz50ω => ?_)
        obtain ⟨hfqω, hxeω, hoqω⟩ := (qz50ω).inl (spS_bad hk31ω hgzω.2.1 hw1ω (Or.inr cz290ω))
        have hfzω := ((show zFr M _ (c + 251) 6 from zFr.rf).w (c := c) (by omega) (by omega)).tr (hfqω.w (c := c) (by omega) (by omega))
        have hm51ω := ((hmω).eqs (rfl)).fr hfqω
        refine z_iload okω dL_goods_332 rfl ?_
        refine z_if_eq (tgt := 342) okω dL_goods_334 (by decide) (fun q9ω => absurd q9ω (by decide)) (fun _ => ?_)
        refine z_ldc okω dL_goods_337 zw_409 ?_
        refine z_goto (tgt := 358) okω dL_goods_339 (by decide) ?_
        refine z_icmp_ne (tgt := 365) okω dL_goods_358 (by decide) (fun q9ω => absurd hxeω q9ω) (fun _ => ?_)
        refine z_iconst (v := 1) okω dL_goods_361 (by decide) ?_
        refine z_goto (tgt := 366) okω dL_goods_362 (by decide) ?_
        exact z_iret okω dL_goods_366 rfl rfl rfl (Nat.zero_le _) ⟨rfl, s, n, ⟨hoqω, hm51ω, hwω, hxω⟩, rfl, hfzω⟩
  · have hgkω := b2_0.mp cz220ω
    refine z_aload_n okω dL_goods_223 rfl ?_
    refine z_iload okω dL_goods_224 rfl ?_
    refine z_iconst (v := 1) okω dL_goods_226 (by decide) ?_
    refine z_iconst (v := 1) okω dL_goods_227 (by decide) ?_
    have ho228ω := hoω.fr (show zFr M _ (c + 251) 6 from zFr.rf)
    obtain ⟨fs228ω, hs228ω⟩ := ho228ω.self
    refine z_callVi okω dL_goods_228 zm_X6_split zw_393 zi_X6_split hs228ω rfl (ho228ω.to_split hNω) rfl rfl (by decide) (by decide) (by decide) (Nat.le_of_ble_eq_true rfl) (fun xz52ω Mz53ω qz54ω => ?_)
    obtain ⟨hfqω, hxeω, hoqω⟩ := (qz54ω).inl (if_neg (fun zω => hgkω zω.1))
    have hfzω := ((show zFr M _ (c + 251) 6 from zFr.rf).w (c := c) (by omega) (by omega)).tr (hfqω.w (c := c) (by omega) (by omega))
    have hm55ω := ((hmω).eqs (rfl)).fr hfqω
    refine z_ldc okω dL_goods_231 zw_409 ?_
    refine z_icmp_ne (tgt := 240) okω dL_goods_233 (by decide) (fun q9ω => absurd hxeω q9ω) (fun _ => ?_)
    refine z_iconst (v := 1) okω dL_goods_236 (by decide) ?_
    refine z_goto (tgt := 241) okω dL_goods_237 (by decide) ?_
    exact z_iret okω dL_goods_241 rfl rfl rfl (Nat.zero_le _) ⟨rfl, s, n, ⟨hoqω, hm55ω, hwω, hxω⟩, rfl, hfzω⟩

set_option maxRecDepth 20000 in
set_option maxHeartbeats 1000000 in
theorem ct_L_goods3 {K : zK} {M : mM} {nx : Nat} {c : Nat} {s : Nat → Int32} {n nv no : Nat} (hS : lS M c s n nv no) {Y τ : Nat} (hY : Y < 10000000) (hτ : s 5 = nI τ) (hτ2 : τ ≤ 5000) : zCt K yL_goods cL_goods 14 zr_L_goods 6 [.ref c, .ref (c + 251), .ref (c + 251 + 1), .ref (c + 251 + 2), .ref (c + 251 + 3), .int 3, .int (nI Y)] M nx 0 0 (zI (fun x M' => x = 1 ∧ ∃ (s' : Nat → Int32) (n' : Nat), lS M' c s' n' nv no ∧ s' 5 = s 5 ∧ zFr M M' c 257)) := by
  refine z_enter [some (.ref c), some (.ref (c + 251)), some (.ref (c + 251 + 1)), some (.ref (c + 251 + 2)), some (.ref (c + 251 + 3)), some (.int 3), some (.int (nI Y)), none, none, none, none, none, none, none] (by decide +kernel) (Nat.le_of_ble_eq_true rfl) rfl (fun Bω okω hzω => ?_)
  have hmω := hS.2.1
  have hoω := hS.1
  have hwω := hS.2.2.1
  have hxω := hS.2.2.2
  have hNω := hwω.N
  have hn16ω := hNω.2.1
  have hnv4ω := hNω.2.2.2.1
  have hno10ω := hNω.2.2.2.2.2
  refine z_iload okω dL_goods_0 rfl ?_
  refine z_iconst (v := 2) okω dL_goods_2 (by decide) ?_
  refine z_icmp_ge (tgt := 197) okω dL_goods_3 (by decide) (fun _ => ?_) (fun q9ω => absurd (by decide) q9ω)
  refine z_aload_n okω dL_goods_197 rfl ?_
  refine z_aload_n okω dL_goods_198 rfl ?_
  refine z_iload okω dL_goods_199 rfl ?_
  refine z_iconst (v := 0) okω dL_goods_201 (by decide) ?_
  refine z_callSi okω dL_goods_202 zm_L_some zw_387 zw_388 (ct_L_some hmω hwω (y := Y) (by omega)) rfl rfl (by decide) (by decide) (by decide) (Nat.le_of_ble_eq_true rfl) (fun xz1ω Mz2ω qz3ω => ?_)
  obtain ⟨⟨kω, rfl, hk1ω, hk2ω⟩, hMeω⟩ := qz3ω
  obtain rfl := hMeω.symm
  refine z_istore okω dL_goods_205 (by decide) rfl ?_
  refine z_iload okω dL_goods_207 rfl ?_
  refine z_iconst (v := 2) okω dL_goods_209 (by decide) ?_
  refine z_icmp_ne (tgt := 515) okω dL_goods_210 (by decide) (fun _ => ?_) (fun q9ω => absurd q9ω (by decide))
  refine z_aload_n okω dL_goods_515 rfl ?_
  refine z_aload_n okω dL_goods_516 rfl ?_
  refine z_iload okω dL_goods_517 rfl ?_
  refine z_bipush (v := 16) okω dL_goods_519 (by decide) ?_
  refine z_idiv okω dL_goods_521 (by decide) ?_
  refine zV_eqi (ydiv (d := 16) rfl (by omega) (by omega) (by omega)) ?_
  refine z_iconst (v := 0) okω dL_goods_522 (by decide) ?_
  refine z_callSi okω dL_goods_523 zm_L_some zw_387 zw_388 (ct_L_some hmω hwω (y := Y / 16) (by omega)) rfl rfl (by decide) (by decide) (by decide) (Nat.le_of_ble_eq_true rfl) (fun xz4ω Mz5ω qz6ω => ?_)
  obtain ⟨⟨lω, rfl, hl1ω, hl2ω⟩, hMeω⟩ := qz6ω
  obtain rfl := hMeω.symm
  refine z_istore okω dL_goods_526 (by decide) rfl ?_
  refine z_iconst (v := 0) okω dL_goods_528 (by decide) ?_
  refine z_istore okω dL_goods_529 (by decide) rfl ?_
  have loop531ω : ∀ (t6ω i6ω : Nat) (lω : Nat), 16 < i6ω + t6ω → i6ω ≤ 16 → (0 < n → lω < n) → (n = 0 → lω = 0) → zV 14 Bω (zE Bω (zI (fun x M' => x = 1 ∧ ∃ (s' : Nat → Int32) (n'ω : Nat), lS M' c s' n'ω nv no ∧ s' 5 = s 5 ∧ zFr M M' c 257)) 0 0) 531 [some (.ref c), some (.ref (c + 251)), some (.ref (c + 251 + 1)), some (.ref (c + 251 + 2)), some (.ref (c + 251 + 3)), some (.int 3), some (.int (nI Y)), some (.int (nI kω)), some (.int (nI lω)), some (.int (nI i6ω)), none, none, none, none] [] M 0 0 := by
    intro t6ω
    induction t6ω with
    | zero => intro i6ω lω h16ω h26ω; exact absurd h16ω (by omega)
    | succ t6ω ih6ω =>
      intro i6ω lω h16ω h26ω hl1ω hl2ω
      refine z_iload okω dL_goods_531 rfl ?_
      refine z_bipush (v := 16) okω dL_goods_533 (by decide) ?_
      refine z_icmp_ge (tgt := 605) okω dL_goods_535 (by decide) (fun cz535ω => ?_) (fun cz535ω => ?_)
      · have hk31ω : kω < 2 ^ 31 := (Nat.eq_zero_or_pos n).elim (fun zω => by have := hk2ω zω; omega) (fun zω => by have := hk1ω zω; omega)
        have hl31ω : lω < 2 ^ 31 := (Nat.eq_zero_or_pos n).elim (fun zω => by have := hl2ω zω; omega) (fun zω => by have := hl1ω zω; omega)
        refine z_aload_n okω dL_goods_605 rfl ?_
        refine z_aload_n okω dL_goods_606 rfl ?_
        refine z_iload okω dL_goods_607 rfl ?_
        refine z_callSi okω dL_goods_609 zm_L_is zw_390 zw_391 (ct_L_is hmω hwω) rfl rfl (by decide) (by decide) (by decide) (Nat.le_of_ble_eq_true rfl) (fun xz7ω Mz8ω qz9ω => ?_)
        obtain ⟨rfl, hMeω⟩ := qz9ω
        obtain rfl := hMeω.symm
        refine z_if_eq (tgt := 632) okω dL_goods_612 (by decide) (fun cz612ω => ?_) (fun cz612ω => ?_)
        · have hgkω := b2_0.mp cz612ω
          refine z_aload_n okω dL_goods_632 rfl ?_
          refine z_iload okω dL_goods_633 rfl ?_
          refine z_iload okω dL_goods_635 rfl ?_
          have ho637ω := hoω.fr (show zFr M _ (c + 251) 6 from zFr.rf)
          obtain ⟨fs637ω, hs637ω⟩ := ho637ω.self
          refine z_callVi okω dL_goods_637 zm_X6_join zw_411 zi_X6_join hs637ω rfl (ho637ω.to_join hNω) rfl rfl (by decide) (by decide) (by decide) (Nat.le_of_ble_eq_true rfl) (fun xz10ω Mz11ω qz12ω => ?_)
          obtain ⟨hfqω, hxeω, hoqω⟩ := (qz12ω).inl (spJ_no (fun zω => hgkω zω.1))
          have hfzω := ((show zFr M _ (c + 251) 6 from zFr.rf).w (c := c) (by omega) (by omega)).tr (hfqω.w (c := c) (by omega) (by omega))
          have hm13ω := ((hmω).eqs (rfl)).fr hfqω
          refine z_ldc okω dL_goods_640 zw_409 ?_
          refine z_icmp_ne (tgt := 649) okω dL_goods_642 (by decide) (fun q9ω => absurd hxeω q9ω) (fun _ => ?_)
          refine z_iconst (v := 1) okω dL_goods_645 (by decide) ?_
          refine z_goto (tgt := 650) okω dL_goods_646 (by decide) ?_
          exact z_iret okω dL_goods_650 rfl rfl rfl (Nat.zero_le _) ⟨rfl, s, n, ⟨hoqω, hm13ω, hwω, hxω⟩, rfl, hfzω⟩
        · have hgkω := Decidable.not_not.mp (mt b2_0.mpr cz612ω)
          refine z_aload_n okω dL_goods_615 rfl ?_
          refine z_aload_n okω dL_goods_616 rfl ?_
          refine z_iload okω dL_goods_617 rfl ?_
          refine z_callSi okω dL_goods_619 zm_L_is zw_390 zw_391 (ct_L_is hmω hwω) rfl rfl (by decide) (by decide) (by decide) (Nat.le_of_ble_eq_true rfl) (fun xz14ω Mz15ω qz16ω => ?_)
          obtain ⟨rfl, hMeω⟩ := qz16ω
          obtain rfl := hMeω.symm
          refine z_if_eq (tgt := 632) okω dL_goods_622 (by decide) (fun cz622ω => ?_) (fun cz622ω => ?_)
          · have hglω := b2_0.mp cz622ω
            refine z_aload_n okω dL_goods_632 rfl ?_
            refine z_iload okω dL_goods_633 rfl ?_
            refine z_iload okω dL_goods_635 rfl ?_
            have ho637ω := hoω.fr (show zFr M _ (c + 251) 6 from zFr.rf)
            obtain ⟨fs637ω, hs637ω⟩ := ho637ω.self
            refine z_callVi okω dL_goods_637 zm_X6_join zw_411 zi_X6_join hs637ω rfl (ho637ω.to_join hNω) rfl rfl (by decide) (by decide) (by decide) (Nat.le_of_ble_eq_true rfl) (fun xz17ω Mz18ω qz19ω => ?_)
            obtain ⟨hfqω, hxeω, hoqω⟩ := (qz19ω).inl (spJ_no (fun zω => hglω zω.2.1))
            have hfzω := ((show zFr M _ (c + 251) 6 from zFr.rf).w (c := c) (by omega) (by omega)).tr (hfqω.w (c := c) (by omega) (by omega))
            have hm20ω := ((hmω).eqs (rfl)).fr hfqω
            refine z_ldc okω dL_goods_640 zw_409 ?_
            refine z_icmp_ne (tgt := 649) okω dL_goods_642 (by decide) (fun q9ω => absurd hxeω q9ω) (fun _ => ?_)
            refine z_iconst (v := 1) okω dL_goods_645 (by decide) ?_
            refine z_goto (tgt := 650) okω dL_goods_646 (by decide) ?_
            exact z_iret okω dL_goods_650 rfl rfl rfl (Nat.zero_le _) ⟨rfl, s, n, ⟨hoqω, hm20ω, hwω, hxω⟩, rfl, hfzω⟩
          · have hglω := Decidable.not_not.mp (mt b2_0.mpr cz622ω)
            refine z_iload okω dL_goods_625 rfl ?_
            refine z_iload okω dL_goods_627 rfl ?_
            refine z_icmp_ne (tgt := 651) okω dL_goods_629 (by decide) (fun cz629ω => ?_) (fun cz629ω => ?_)
            · have hknω : kω < n := (zGoods_n hNω hgkω hk31ω).1
              have hlnω : lω < n := (zGoods_n hNω hglω hl31ω).1
              have hklω : kω ≠ lω := fun zω => cz629ω (by rw [zω])
              have hggω : zGoods s (nI kω) ∧ zGoods s (nI lω) ∧ ¬ nI kω = nI lω := ⟨hgkω, hglω, cz629ω⟩
              have hssω := st_sum (hwω.g kω hknω).2.2.2.2.1 (hwω.g lω hlnω).2.2.2.2.1
              refine z_aload okω dL_goods_651 rfl ?_
              refine z_iconst (v := 4) okω dL_goods_653 (by decide) ?_
              refine z_iload okω dL_goods_654 rfl ?_
              refine z_imul okω dL_goods_656 ?_
              refine z_iconst (v := 1) okω dL_goods_657 (by decide) ?_
              refine z_iadd okω dL_goods_658 ?_
              refine l_ld9 kω okω dL_goods_659 hmω (lx4_1 kω) (by first | assumption | omega) ?_
              refine z_aload okω dL_goods_660 rfl ?_
              refine z_iconst (v := 4) okω dL_goods_662 (by decide) ?_
              refine z_iload okω dL_goods_663 rfl ?_
              refine z_imul okω dL_goods_665 ?_
              refine z_iconst (v := 1) okω dL_goods_666 (by decide) ?_
              refine z_iadd okω dL_goods_667 ?_
              refine l_ld9 lω okω dL_goods_668 hmω (lx4_1 lω) (by first | assumption | omega) ?_
              refine z_icmp_ne (tgt := 692) okω dL_goods_669 (by decide) (fun cz669ω => ?_) (fun cz669ω => ?_)
              · refine z_aload_n okω dL_goods_692 rfl ?_
                refine z_iload okω dL_goods_693 rfl ?_
                refine z_iload okω dL_goods_695 rfl ?_
                have ho697ω := hoω.fr (show zFr M _ (c + 251) 6 from zFr.rf)
                obtain ⟨fs697ω, hs697ω⟩ := ho697ω.self
                refine z_callVi okω dL_goods_697 zm_X6_join zw_411 zi_X6_join hs697ω rfl (ho697ω.to_join hNω) rfl rfl (by decide) (by decide) (by decide) (Nat.le_of_ble_eq_true rfl) (fun xz21ω Mz22ω qz23ω => ?_)
                obtain ⟨hfqω, hxeω, hoqω⟩ := (qz23ω).inl (spJ_np hk31ω hl31ω hggω (fun zω => cz669ω zω.1))
                have hfzω := ((show zFr M _ (c + 251) 6 from zFr.rf).w (c := c) (by omega) (by omega)).tr (hfqω.w (c := c) (by omega) (by omega))
                have hm24ω := ((hmω).eqs (rfl)).fr hfqω
                refine z_ldc okω dL_goods_700 zw_410 ?_
                refine z_icmp_ne (tgt := 709) okω dL_goods_702 (by decide) (fun q9ω => absurd hxeω q9ω) (fun _ => ?_)
                refine z_iconst (v := 1) okω dL_goods_705 (by decide) ?_
                refine z_goto (tgt := 710) okω dL_goods_706 (by decide) ?_
                exact z_iret okω dL_goods_710 rfl rfl rfl (Nat.zero_le _) ⟨rfl, s, n, ⟨hoqω, hm24ω, hwω, hxω⟩, rfl, hfzω⟩
              · refine z_aload_n okω dL_goods_672 rfl ?_
                refine z_iconst (v := 4) okω dL_goods_673 (by decide) ?_
                refine z_iload okω dL_goods_674 rfl ?_
                refine z_imul okω dL_goods_676 ?_
                refine z_iconst (v := 2) okω dL_goods_677 (by decide) ?_
                refine z_iadd okω dL_goods_678 ?_
                refine l_ld6 kω okω dL_goods_679 hmω (lx4_2 kω) (by first | assumption | omega) ?_
                refine z_aload_n okω dL_goods_680 rfl ?_
                refine z_iconst (v := 4) okω dL_goods_681 (by decide) ?_
                refine z_iload okω dL_goods_682 rfl ?_
                refine z_imul okω dL_goods_684 ?_
                refine z_iconst (v := 2) okω dL_goods_685 (by decide) ?_
                refine z_iadd okω dL_goods_686 ?_
                refine l_ld6 lω okω dL_goods_687 hmω (lx4_2 lω) (by first | assumption | omega) ?_
                refine z_iadd okω dL_goods_688 ?_
                refine z_if_le (tgt := 711) okω dL_goods_689 (by decide) (fun cz689ω => ?_) (fun cz689ω => ?_)
                · have hstω := hssω.mp cz689ω
                  have hcdω : gd s kω 9 = gd s lω 9 ∧ gd s kω 6 = 0 ∧ gd s lω 6 = 0 := ⟨cz669ω, hstω.1, hstω.2⟩
                  refine z_iload okω dL_goods_711 rfl ?_
                  refine z_iload okω dL_goods_713 rfl ?_
                  refine z_icmp_ge (tgt := 723) okω dL_goods_715 (by decide) (fun cz715ω => ?_) (fun cz715ω => ?_)
                  · refine z_iload okω dL_goods_723 rfl ?_
                    refine z_istore okω dL_goods_725 (by decide) rfl ?_
                    refine z_iload okω dL_goods_727 rfl ?_
                    refine z_iload okω dL_goods_729 rfl ?_
                    refine z_iadd okω dL_goods_731 ?_
                    refine z_iload okω dL_goods_732 rfl ?_
                    refine z_isub okω dL_goods_734 ?_
                    refine zV_eqi sub_r ?_
                    refine z_istore okω dL_goods_735 (by decide) rfl ?_
                    refine z_iconst (v := 1) okω dL_goods_737 (by decide) ?_
                    refine z_istore okω dL_goods_738 (by decide) rfl ?_
                    refine z_iload okω dL_goods_740 rfl ?_
                    refine z_iconst (v := 4) okω dL_goods_742 (by decide) ?_
                    refine z_icmp_ge (tgt := 773) okω dL_goods_743 (by decide) (fun q9ω => absurd q9ω (by decide)) (fun _ => ?_)
                    refine z_aload_n okω dL_goods_746 rfl ?_
                    refine z_iconst (v := 4) okω dL_goods_747 (by decide) ?_
                    refine z_iload okω dL_goods_748 rfl ?_
                    refine z_imul okω dL_goods_750 ?_
                    refine z_iload okω dL_goods_751 rfl ?_
                    refine z_iadd okω dL_goods_753 ?_
                    refine z_dup2 okω dL_goods_754 rfl rfl ?_
                    refine l_ld1 lω okω dL_goods_755 hmω (lx4_1 lω) (by first | assumption | omega) ?_
                    refine z_aload_n okω dL_goods_756 rfl ?_
                    refine z_iconst (v := 4) okω dL_goods_757 (by decide) ?_
                    refine z_iload okω dL_goods_758 rfl ?_
                    refine z_imul okω dL_goods_760 ?_
                    refine z_iload okω dL_goods_761 rfl ?_
                    refine z_iadd okω dL_goods_763 ?_
                    refine l_ld1 kω okω dL_goods_764 hmω (lx4_1 kω) (by first | assumption | omega) ?_
                    refine z_iadd okω dL_goods_765 ?_
                    refine l_st1 lω okω dL_goods_766 hmω (lx4_1 lω) (by first | assumption | omega) (fun Mz26ω hm25ω frz27ω => ?_)
                    refine z_iinc okω dL_goods_767 rfl (show (1 : Int32) + Int32.ofInt (1) = 2 from by decide) (by decide) rfl ?_
                    refine z_goto (tgt := 740) okω dL_goods_770 (by decide) ?_
                    refine z_iload okω dL_goods_740 rfl ?_
                    refine z_iconst (v := 4) okω dL_goods_742 (by decide) ?_
                    refine z_icmp_ge (tgt := 773) okω dL_goods_743 (by decide) (fun q9ω => absurd q9ω (by decide)) (fun _ => ?_)
                    refine z_aload_n okω dL_goods_746 rfl ?_
                    refine z_iconst (v := 4) okω dL_goods_747 (by decide) ?_
                    refine z_iload okω dL_goods_748 rfl ?_
                    refine z_imul okω dL_goods_750 ?_
                    refine z_iload okω dL_goods_751 rfl ?_
                    refine z_iadd okω dL_goods_753 ?_
                    refine z_dup2 okω dL_goods_754 rfl rfl ?_
                    refine l_ld2 lω okω dL_goods_755 hm25ω (lx4_2 lω) (by first | assumption | omega) ?_
                    refine z_aload_n okω dL_goods_756 rfl ?_
                    refine z_iconst (v := 4) okω dL_goods_757 (by decide) ?_
                    refine z_iload okω dL_goods_758 rfl ?_
                    refine z_imul okω dL_goods_760 ?_
                    refine z_iload okω dL_goods_761 rfl ?_
                    refine z_iadd okω dL_goods_763 ?_
                    refine l_ld2 kω okω dL_goods_764 hm25ω (lx4_2 kω) (by first | assumption | omega) ?_
                    refine z_iadd okω dL_goods_765 ?_
                    refine l_st2 lω okω dL_goods_766 hm25ω (lx4_2 lω) (by first | assumption | omega) (fun Mz29ω hm28ω frz30ω => ?_)
                    refine z_iinc okω dL_goods_767 rfl (show (2 : Int32) + Int32.ofInt (1) = 3 from by decide) (by decide) rfl ?_
                    refine z_goto (tgt := 740) okω dL_goods_770 (by decide) ?_
                    refine z_iload okω dL_goods_740 rfl ?_
                    refine z_iconst (v := 4) okω dL_goods_742 (by decide) ?_
                    refine z_icmp_ge (tgt := 773) okω dL_goods_743 (by decide) (fun q9ω => absurd q9ω (by decide)) (fun _ => ?_)
                    refine z_aload_n okω dL_goods_746 rfl ?_
                    refine z_iconst (v := 4) okω dL_goods_747 (by decide) ?_
                    refine z_iload okω dL_goods_748 rfl ?_
                    refine z_imul okω dL_goods_750 ?_
                    refine z_iload okω dL_goods_751 rfl ?_
                    refine z_iadd okω dL_goods_753 ?_
                    refine z_dup2 okω dL_goods_754 rfl rfl ?_
                    refine l_ld5 lω okω dL_goods_755 hm28ω (lx4_3 lω) (by first | assumption | omega) ?_
                    refine z_aload_n okω dL_goods_756 rfl ?_
                    refine z_iconst (v := 4) okω dL_goods_757 (by decide) ?_
                    refine z_iload okω dL_goods_758 rfl ?_
                    refine z_imul okω dL_goods_760 ?_
                    refine z_iload okω dL_goods_761 rfl ?_
                    refine z_iadd okω dL_goods_763 ?_
                    refine l_ld5 kω okω dL_goods_764 hm28ω (lx4_3 kω) (by first | assumption | omega) ?_
                    refine z_iadd okω dL_goods_765 ?_
                    refine l_st5 lω okω dL_goods_766 hm28ω (lx4_3 lω) (by first | assumption | omega) (fun Mz32ω hm31ω frz33ω => ?_)
                    refine z_iinc okω dL_goods_767 rfl (show (3 : Int32) + Int32.ofInt (1) = 4 from by decide) (by decide) rfl ?_
                    refine z_goto (tgt := 740) okω dL_goods_770 (by decide) ?_
                    refine z_iload okω dL_goods_740 rfl ?_
                    refine z_iconst (v := 4) okω dL_goods_742 (by decide) ?_
                    refine z_icmp_ge (tgt := 773) okω dL_goods_743 (by decide) (fun _ => ?_) (fun q9ω => absurd (by decide) q9ω)
                    refine z_aload okω dL_goods_773 rfl ?_
                    refine z_iconst (v := 4) okω dL_goods_775 (by decide) ?_
                    refine z_iload okω dL_goods_776 rfl ?_
                    refine z_imul okω dL_goods_778 ?_
                    refine z_iconst (v := 2) okω dL_goods_779 (by decide) ?_
                    refine z_iadd okω dL_goods_780 ?_
                    refine z_aload okω dL_goods_781 rfl ?_
                    refine z_iconst (v := 4) okω dL_goods_783 (by decide) ?_
                    refine z_iload okω dL_goods_784 rfl ?_
                    refine z_imul okω dL_goods_786 ?_
                    refine z_iconst (v := 2) okω dL_goods_787 (by decide) ?_
                    refine z_iadd okω dL_goods_788 ?_
                    refine l_ld10 kω okω dL_goods_789 hm31ω (lx4_2 kω) (by first | assumption | omega) ?_
                    refine z_aload okω dL_goods_790 rfl ?_
                    refine z_iconst (v := 4) okω dL_goods_792 (by decide) ?_
                    refine z_iload okω dL_goods_793 rfl ?_
                    refine z_imul okω dL_goods_795 ?_
                    refine z_iconst (v := 2) okω dL_goods_796 (by decide) ?_
                    refine z_iadd okω dL_goods_797 ?_
                    refine l_ld10 lω okω dL_goods_798 hm31ω (lx4_2 lω) (by first | assumption | omega) ?_
                    refine z_icmp_ge (tgt := 814) okω dL_goods_799 (by decide) (fun cz799ω => ?_) (fun cz799ω => ?_)
                    · refine z_aload okω dL_goods_814 rfl ?_
                      refine z_iconst (v := 4) okω dL_goods_816 (by decide) ?_
                      refine z_iload okω dL_goods_817 rfl ?_
                      refine z_imul okω dL_goods_819 ?_
                      refine z_iconst (v := 2) okω dL_goods_820 (by decide) ?_
                      refine z_iadd okω dL_goods_821 ?_
                      refine l_ld10 lω okω dL_goods_822 hm31ω (lx4_2 lω) (by first | assumption | omega) ?_
                      refine l_st10 lω okω dL_goods_823 hm31ω (lx4_2 lω) (by first | assumption | omega) (fun Mz35ω hm34ω frz36ω => ?_)
                      refine z_aload_n okω dL_goods_824 rfl ?_
                      refine z_iconst (v := 4) okω dL_goods_825 (by decide) ?_
                      refine z_iload okω dL_goods_826 rfl ?_
                      refine z_imul okω dL_goods_828 ?_
                      refine z_iconst (v := 2) okω dL_goods_829 (by decide) ?_
                      refine z_iadd okω dL_goods_830 ?_
                      refine z_iconst (v := 5) okω dL_goods_831 (by decide) ?_
                      refine l_st6 kω okω dL_goods_832 hm34ω (lx4_2 kω) (by first | assumption | omega) (fun Mz38ω hm37ω frz39ω => ?_)
                      refine z_aload_n okω dL_goods_833 rfl ?_
                      refine z_iload okω dL_goods_834 rfl ?_
                      refine z_iload okω dL_goods_836 rfl ?_
                      have ho838ω := hoω.fr (show zFr M _ (c + 251) 6 from (zFr.tr frz27ω (zFr.tr frz30ω (zFr.tr frz33ω (zFr.tr frz36ω frz39ω)))))
                      obtain ⟨fs838ω, hs838ω⟩ := ho838ω.self
                      refine z_callVi okω dL_goods_838 zm_X6_join zw_411 zi_X6_join hs838ω rfl (ho838ω.to_join hNω) rfl rfl (by decide) (by decide) (by decide) (Nat.le_of_ble_eq_true rfl) (fun xz40ω Mz41ω qz42ω => ?_)
                      obtain ⟨hfqω, hxeω, hoqω⟩ := (qz42ω).inr (spJ_hi hk31ω hl31ω hggω hcdω (Int32.not_lt.mpr cz715ω))
                      have hfzω := ((show zFr M _ (c + 251) 6 from (zFr.tr frz27ω (zFr.tr frz30ω (zFr.tr frz33ω (zFr.tr frz36ω frz39ω))))).w (c := c) (by omega) (by omega)).tr (hfqω.w (c := c) (by omega) (by omega))
                      have hm43ω := ((hm37ω).eqs (show _ = zJn s lω kω from by unfold zJn; simp only []; first | rw [if_pos (Int32.not_le.mp cz799ω)] | rw [if_neg (Int32.not_lt.mpr cz799ω)])).fr hfqω
                      refine z_iload okω dL_goods_841 rfl ?_
                      refine z_icmp_ne (tgt := 850) okω dL_goods_843 (by decide) (fun q9ω => absurd hxeω q9ω) (fun _ => ?_)
                      refine z_iconst (v := 1) okω dL_goods_846 (by decide) ?_
                      refine z_goto (tgt := 851) okω dL_goods_847 (by decide) ?_
                      exact z_iret okω dL_goods_851 rfl rfl rfl (Nat.zero_le _) ⟨rfl, _, n, ⟨hoqω, hm43ω, by first | exact hwω.join hknω hlnω hklω hstω.1 hstω.2 | exact hwω.join hlnω hknω (Ne.symm hklω) hstω.2 hstω.1, by first | exact hxω.join hwω hknω hlnω hklω hstω.1 hstω.2 | exact hxω.join hwω hlnω hknω (Ne.symm hklω) hstω.2 hstω.1⟩, zJn_o (q := 5) (by omega) (by omega), hfzω⟩
                    · refine z_aload okω dL_goods_802 rfl ?_
                      refine z_iconst (v := 4) okω dL_goods_804 (by decide) ?_
                      refine z_iload okω dL_goods_805 rfl ?_
                      refine z_imul okω dL_goods_807 ?_
                      refine z_iconst (v := 2) okω dL_goods_808 (by decide) ?_
                      refine z_iadd okω dL_goods_809 ?_
                      refine l_ld10 kω okω dL_goods_810 hm31ω (lx4_2 kω) (by first | assumption | omega) ?_
                      refine z_goto (tgt := 823) okω dL_goods_811 (by decide) ?_
                      refine l_st10 lω okω dL_goods_823 hm31ω (lx4_2 lω) (by first | assumption | omega) (fun Mz45ω hm44ω frz46ω => ?_)
                      refine z_aload_n okω dL_goods_824 rfl ?_
                      refine z_iconst (v := 4) okω dL_goods_825 (by decide) ?_
                      refine z_iload okω dL_goods_826 rfl ?_
                      refine z_imul okω dL_goods_828 ?_
                      refine z_iconst (v := 2) okω dL_goods_829 (by decide) ?_
                      refine z_iadd okω dL_goods_830 ?_
                      refine z_iconst (v := 5) okω dL_goods_831 (by decide) ?_
                      refine l_st6 kω okω dL_goods_832 hm44ω (lx4_2 kω) (by first | assumption | omega) (fun Mz48ω hm47ω frz49ω => ?_)
                      refine z_aload_n okω dL_goods_833 rfl ?_
                      refine z_iload okω dL_goods_834 rfl ?_
                      refine z_iload okω dL_goods_836 rfl ?_
                      have ho838ω := hoω.fr (show zFr M _ (c + 251) 6 from (zFr.tr frz27ω (zFr.tr frz30ω (zFr.tr frz33ω (zFr.tr frz46ω frz49ω)))))
                      obtain ⟨fs838ω, hs838ω⟩ := ho838ω.self
                      refine z_callVi okω dL_goods_838 zm_X6_join zw_411 zi_X6_join hs838ω rfl (ho838ω.to_join hNω) rfl rfl (by decide) (by decide) (by decide) (Nat.le_of_ble_eq_true rfl) (fun xz50ω Mz51ω qz52ω => ?_)
                      obtain ⟨hfqω, hxeω, hoqω⟩ := (qz52ω).inr (spJ_hi hk31ω hl31ω hggω hcdω (Int32.not_lt.mpr cz715ω))
                      have hfzω := ((show zFr M _ (c + 251) 6 from (zFr.tr frz27ω (zFr.tr frz30ω (zFr.tr frz33ω (zFr.tr frz46ω frz49ω))))).w (c := c) (by omega) (by omega)).tr (hfqω.w (c := c) (by omega) (by omega))
                      have hm53ω := ((hm47ω).eqs (show _ = zJn s lω kω from by unfold zJn; simp only []; first | rw [if_pos (Int32.not_le.mp cz799ω)] | rw [if_neg (Int32.not_lt.mpr cz799ω)])).fr hfqω
                      refine z_iload okω dL_goods_841 rfl ?_
                      refine z_icmp_ne (tgt := 850) okω dL_goods_843 (by decide) (fun q9ω => absurd hxeω q9ω) (fun _ => ?_)
                      refine z_iconst (v := 1) okω dL_goods_846 (by decide) ?_
                      refine z_goto (tgt := 851) okω dL_goods_847 (by decide) ?_
                      exact z_iret okω dL_goods_851 rfl rfl rfl (Nat.zero_le _) ⟨rfl, _, n, ⟨hoqω, hm53ω, by first | exact hwω.join hknω hlnω hklω hstω.1 hstω.2 | exact hwω.join hlnω hknω (Ne.symm hklω) hstω.2 hstω.1, by first | exact hxω.join hwω hknω hlnω hklω hstω.1 hstω.2 | exact hxω.join hwω hlnω hknω (Ne.symm hklω) hstω.2 hstω.1⟩, zJn_o (q := 5) (by omega) (by omega), hfzω⟩
                  · refine z_iload okω dL_goods_718 rfl ?_
                    refine z_goto (tgt := 725) okω dL_goods_720 (by decide) ?_
                    refine z_istore okω dL_goods_725 (by decide) rfl ?_
                    refine z_iload okω dL_goods_727 rfl ?_
                    refine z_iload okω dL_goods_729 rfl ?_
                    refine z_iadd okω dL_goods_731 ?_
                    refine z_iload okω dL_goods_732 rfl ?_
                    refine z_isub okω dL_goods_734 ?_
                    refine zV_eqi sub_l ?_
                    refine z_istore okω dL_goods_735 (by decide) rfl ?_
                    refine z_iconst (v := 1) okω dL_goods_737 (by decide) ?_
                    refine z_istore okω dL_goods_738 (by decide) rfl ?_
                    refine z_iload okω dL_goods_740 rfl ?_
                    refine z_iconst (v := 4) okω dL_goods_742 (by decide) ?_
                    refine z_icmp_ge (tgt := 773) okω dL_goods_743 (by decide) (fun q9ω => absurd q9ω (by decide)) (fun _ => ?_)
                    refine z_aload_n okω dL_goods_746 rfl ?_
                    refine z_iconst (v := 4) okω dL_goods_747 (by decide) ?_
                    refine z_iload okω dL_goods_748 rfl ?_
                    refine z_imul okω dL_goods_750 ?_
                    refine z_iload okω dL_goods_751 rfl ?_
                    refine z_iadd okω dL_goods_753 ?_
                    refine z_dup2 okω dL_goods_754 rfl rfl ?_
                    refine l_ld1 kω okω dL_goods_755 hmω (lx4_1 kω) (by first | assumption | omega) ?_
                    refine z_aload_n okω dL_goods_756 rfl ?_
                    refine z_iconst (v := 4) okω dL_goods_757 (by decide) ?_
                    refine z_iload okω dL_goods_758 rfl ?_
                    refine z_imul okω dL_goods_760 ?_
                    refine z_iload okω dL_goods_761 rfl ?_
                    refine z_iadd okω dL_goods_763 ?_
                    refine l_ld1 lω okω dL_goods_764 hmω (lx4_1 lω) (by first | assumption | omega) ?_
                    refine z_iadd okω dL_goods_765 ?_
                    refine l_st1 kω okω dL_goods_766 hmω (lx4_1 kω) (by first | assumption | omega) (fun Mz55ω hm54ω frz56ω => ?_)
                    refine z_iinc okω dL_goods_767 rfl (show (1 : Int32) + Int32.ofInt (1) = 2 from by decide) (by decide) rfl ?_
                    refine z_goto (tgt := 740) okω dL_goods_770 (by decide) ?_
                    refine z_iload okω dL_goods_740 rfl ?_
                    refine z_iconst (v := 4) okω dL_goods_742 (by decide) ?_
                    refine z_icmp_ge (tgt := 773) okω dL_goods_743 (by decide) (fun q9ω => absurd q9ω (by decide)) (fun _ => ?_)
                    refine z_aload_n okω dL_goods_746 rfl ?_
                    refine z_iconst (v := 4) okω dL_goods_747 (by decide) ?_
                    refine z_iload okω dL_goods_748 rfl ?_
                    refine z_imul okω dL_goods_750 ?_
                    refine z_iload okω dL_goods_751 rfl ?_
                    refine z_iadd okω dL_goods_753 ?_
                    refine z_dup2 okω dL_goods_754 rfl rfl ?_
                    refine l_ld2 kω okω dL_goods_755 hm54ω (lx4_2 kω) (by first | assumption | omega) ?_
                    refine z_aload_n okω dL_goods_756 rfl ?_
                    refine z_iconst (v := 4) okω dL_goods_757 (by decide) ?_
                    refine z_iload okω dL_goods_758 rfl ?_
                    refine z_imul okω dL_goods_760 ?_
                    refine z_iload okω dL_goods_761 rfl ?_
                    refine z_iadd okω dL_goods_763 ?_
                    refine l_ld2 lω okω dL_goods_764 hm54ω (lx4_2 lω) (by first | assumption | omega) ?_
                    refine z_iadd okω dL_goods_765 ?_
                    refine l_st2 kω okω dL_goods_766 hm54ω (lx4_2 kω) (by first | assumption | omega) (fun Mz58ω hm57ω frz59ω => ?_)
                    refine z_iinc okω dL_goods_767 rfl (show (2 : Int32) + Int32.ofInt (1) = 3 from by decide) (by decide) rfl ?_
                    refine z_goto (tgt := 740) okω dL_goods_770 (by decide) ?_
                    refine z_iload okω dL_goods_740 rfl ?_
                    refine z_iconst (v := 4) okω dL_goods_742 (by decide) ?_
                    refine z_icmp_ge (tgt := 773) okω dL_goods_743 (by decide) (fun q9ω => absurd q9ω (by decide)) (fun _ => ?_)
                    refine z_aload_n okω dL_goods_746 rfl ?_
                    refine z_iconst (v := 4) okω dL_goods_747 (by decide) ?_
                    refine z_iload okω dL_goods_748 rfl ?_
                    refine z_imul okω dL_goods_750 ?_
                    refine z_iload okω dL_goods_751 rfl ?_
                    refine z_iadd okω dL_goods_753 ?_
                    refine z_dup2 okω dL_goods_754 rfl rfl ?_
                    refine l_ld5 kω okω dL_goods_755 hm57ω (lx4_3 kω) (by first | assumption | omega) ?_
                    refine z_aload_n okω dL_goods_756 rfl ?_
                    refine z_iconst (v := 4) okω dL_goods_757 (by decide) ?_
                    refine z_iload okω dL_goods_758 rfl ?_
                    refine z_imul okω dL_goods_760 ?_
                    refine z_iload okω dL_goods_761 rfl ?_
                    refine z_iadd okω dL_goods_763 ?_
                    refine l_ld5 lω okω dL_goods_764 hm57ω (lx4_3 lω) (by first | assumption | omega) ?_
                    refine z_iadd okω dL_goods_765 ?_
                    refine l_st5 kω okω dL_goods_766 hm57ω (lx4_3 kω) (by first | assumption | omega) (fun Mz61ω hm60ω frz62ω => ?_)
                    refine z_iinc okω dL_goods_767 rfl (show (3 : Int32) + Int32.ofInt (1) = 4 from by decide) (by decide) rfl ?_
                    refine z_goto (tgt := 740) okω dL_goods_770 (by decide) ?_
                    refine z_iload okω dL_goods_740 rfl ?_
                    refine z_iconst (v := 4) okω dL_goods_742 (by decide) ?_
                    refine z_icmp_ge (tgt := 773) okω dL_goods_743 (by decide) (fun _ => ?_) (fun q9ω => absurd (by decide) q9ω)
                    refine z_aload okω dL_goods_773 rfl ?_
                    refine z_iconst (v := 4) okω dL_goods_775 (by decide) ?_
                    refine z_iload okω dL_goods_776 rfl ?_
                    refine z_imul okω dL_goods_778 ?_
                    refine z_iconst (v := 2) okω dL_goods_779 (by decide) ?_
                    refine z_iadd okω dL_goods_780 ?_
                    refine z_aload okω dL_goods_781 rfl ?_
                    refine z_iconst (v := 4) okω dL_goods_783 (by decide) ?_
                    refine z_iload okω dL_goods_784 rfl ?_
                    refine z_imul okω dL_goods_786 ?_
                    refine z_iconst (v := 2) okω dL_goods_787 (by decide) ?_
                    refine z_iadd okω dL_goods_788 ?_
                    refine l_ld10 lω okω dL_goods_789 hm60ω (lx4_2 lω) (by first | assumption | omega) ?_
                    refine z_aload okω dL_goods_790 rfl ?_
                    refine z_iconst (v := 4) okω dL_goods_792 (by decide) ?_
                    refine z_iload okω dL_goods_793 rfl ?_
                    refine z_imul okω dL_goods_795 ?_
                    refine z_iconst (v := 2) okω dL_goods_796 (by decide) ?_
                    refine z_iadd okω dL_goods_797 ?_
                    refine l_ld10 kω okω dL_goods_798 hm60ω (lx4_2 kω) (by first | assumption | omega) ?_
                    refine z_icmp_ge (tgt := 814) okω dL_goods_799 (by decide) (fun cz799ω => ?_) (fun cz799ω => ?_)
                    · refine z_aload okω dL_goods_814 rfl ?_
                      refine z_iconst (v := 4) okω dL_goods_816 (by decide) ?_
                      refine z_iload okω dL_goods_817 rfl ?_
                      refine z_imul okω dL_goods_819 ?_
                      refine z_iconst (v := 2) okω dL_goods_820 (by decide) ?_
                      refine z_iadd okω dL_goods_821 ?_
                      refine l_ld10 kω okω dL_goods_822 hm60ω (lx4_2 kω) (by first | assumption | omega) ?_
                      refine l_st10 kω okω dL_goods_823 hm60ω (lx4_2 kω) (by first | assumption | omega) (fun Mz64ω hm63ω frz65ω => ?_)
                      refine z_aload_n okω dL_goods_824 rfl ?_
                      refine z_iconst (v := 4) okω dL_goods_825 (by decide) ?_
                      refine z_iload okω dL_goods_826 rfl ?_
                      refine z_imul okω dL_goods_828 ?_
                      refine z_iconst (v := 2) okω dL_goods_829 (by decide) ?_
                      refine z_iadd okω dL_goods_830 ?_
                      refine z_iconst (v := 5) okω dL_goods_831 (by decide) ?_
                      refine l_st6 lω okω dL_goods_832 hm63ω (lx4_2 lω) (by first | assumption | omega) (fun Mz67ω hm66ω frz68ω => ?_)
                      refine z_aload_n okω dL_goods_833 rfl ?_
                      refine z_iload okω dL_goods_834 rfl ?_
                      refine z_iload okω dL_goods_836 rfl ?_
                      have ho838ω := hoω.fr (show zFr M _ (c + 251) 6 from (zFr.tr frz56ω (zFr.tr frz59ω (zFr.tr frz62ω (zFr.tr frz65ω frz68ω)))))
                      obtain ⟨fs838ω, hs838ω⟩ := ho838ω.self
                      refine z_callVi okω dL_goods_838 zm_X6_join zw_411 zi_X6_join hs838ω rfl (ho838ω.to_join hNω) rfl rfl (by decide) (by decide) (by decide) (Nat.le_of_ble_eq_true rfl) (fun xz69ω Mz70ω qz71ω => ?_)
                      obtain ⟨hfqω, hxeω, hoqω⟩ := (qz71ω).inr (spJ_lo hk31ω hl31ω hggω hcdω (Int32.not_le.mp cz715ω))
                      have hfzω := ((show zFr M _ (c + 251) 6 from (zFr.tr frz56ω (zFr.tr frz59ω (zFr.tr frz62ω (zFr.tr frz65ω frz68ω))))).w (c := c) (by omega) (by omega)).tr (hfqω.w (c := c) (by omega) (by omega))
                      have hm72ω := ((hm66ω).eqs (show _ = zJn s kω lω from by unfold zJn; simp only []; first | rw [if_pos (Int32.not_le.mp cz799ω)] | rw [if_neg (Int32.not_lt.mpr cz799ω)])).fr hfqω
                      refine z_iload okω dL_goods_841 rfl ?_
                      refine z_icmp_ne (tgt := 850) okω dL_goods_843 (by decide) (fun q9ω => absurd hxeω q9ω) (fun _ => ?_)
                      refine z_iconst (v := 1) okω dL_goods_846 (by decide) ?_
                      refine z_goto (tgt := 851) okω dL_goods_847 (by decide) ?_
                      exact z_iret okω dL_goods_851 rfl rfl rfl (Nat.zero_le _) ⟨rfl, _, n, ⟨hoqω, hm72ω, by first | exact hwω.join hknω hlnω hklω hstω.1 hstω.2 | exact hwω.join hlnω hknω (Ne.symm hklω) hstω.2 hstω.1, by first | exact hxω.join hwω hknω hlnω hklω hstω.1 hstω.2 | exact hxω.join hwω hlnω hknω (Ne.symm hklω) hstω.2 hstω.1⟩, zJn_o (q := 5) (by omega) (by omega), hfzω⟩
                    · refine z_aload okω dL_goods_802 rfl ?_
                      refine z_iconst (v := 4) okω dL_goods_804 (by decide) ?_
                      refine z_iload okω dL_goods_805 rfl ?_
                      refine z_imul okω dL_goods_807 ?_
                      refine z_iconst (v := 2) okω dL_goods_808 (by decide) ?_
                      refine z_iadd okω dL_goods_809 ?_
                      refine l_ld10 lω okω dL_goods_810 hm60ω (lx4_2 lω) (by first | assumption | omega) ?_
                      refine z_goto (tgt := 823) okω dL_goods_811 (by decide) ?_
                      refine l_st10 kω okω dL_goods_823 hm60ω (lx4_2 kω) (by first | assumption | omega) (fun Mz74ω hm73ω frz75ω => ?_)
                      refine z_aload_n okω dL_goods_824 rfl ?_
                      refine z_iconst (v := 4) okω dL_goods_825 (by decide) ?_
                      refine z_iload okω dL_goods_826 rfl ?_
                      refine z_imul okω dL_goods_828 ?_
                      refine z_iconst (v := 2) okω dL_goods_829 (by decide) ?_
                      refine z_iadd okω dL_goods_830 ?_
                      refine z_iconst (v := 5) okω dL_goods_831 (by decide) ?_
                      refine l_st6 lω okω dL_goods_832 hm73ω (lx4_2 lω) (by first | assumption | omega) (fun Mz77ω hm76ω frz78ω => ?_)
                      refine z_aload_n okω dL_goods_833 rfl ?_
                      refine z_iload okω dL_goods_834 rfl ?_
                      refine z_iload okω dL_goods_836 rfl ?_
                      have ho838ω := hoω.fr (show zFr M _ (c + 251) 6 from (zFr.tr frz56ω (zFr.tr frz59ω (zFr.tr frz62ω (zFr.tr frz75ω frz78ω)))))
                      obtain ⟨fs838ω, hs838ω⟩ := ho838ω.self
                      refine z_callVi okω dL_goods_838 zm_X6_join zw_411 zi_X6_join hs838ω rfl (ho838ω.to_join hNω) rfl rfl (by decide) (by decide) (by decide) (Nat.le_of_ble_eq_true rfl) (fun xz79ω Mz80ω qz81ω => ?_)
                      obtain ⟨hfqω, hxeω, hoqω⟩ := (qz81ω).inr (spJ_lo hk31ω hl31ω hggω hcdω (Int32.not_le.mp cz715ω))
                      have hfzω := ((show zFr M _ (c + 251) 6 from (zFr.tr frz56ω (zFr.tr frz59ω (zFr.tr frz62ω (zFr.tr frz75ω frz78ω))))).w (c := c) (by omega) (by omega)).tr (hfqω.w (c := c) (by omega) (by omega))
                      have hm82ω := ((hm76ω).eqs (show _ = zJn s kω lω from by unfold zJn; simp only []; first | rw [if_pos (Int32.not_le.mp cz799ω)] | rw [if_neg (Int32.not_lt.mpr cz799ω)])).fr hfqω
                      refine z_iload okω dL_goods_841 rfl ?_
                      refine z_icmp_ne (tgt := 850) okω dL_goods_843 (by decide) (fun q9ω => absurd hxeω q9ω) (fun _ => ?_)
                      refine z_iconst (v := 1) okω dL_goods_846 (by decide) ?_
                      refine z_goto (tgt := 851) okω dL_goods_847 (by decide) ?_
                      exact z_iret okω dL_goods_851 rfl rfl rfl (Nat.zero_le _) ⟨rfl, _, n, ⟨hoqω, hm82ω, by first | exact hwω.join hknω hlnω hklω hstω.1 hstω.2 | exact hwω.join hlnω hknω (Ne.symm hklω) hstω.2 hstω.1, by first | exact hxω.join hwω hknω hlnω hklω hstω.1 hstω.2 | exact hxω.join hwω hlnω hknω (Ne.symm hklω) hstω.2 hstω.1⟩, zJn_o (q := 5) (by omega) (by omega), hfzω⟩
                · refine z_aload_n okω dL_goods_692 rfl ?_
                  refine z_iload okω dL_goods_693 rfl ?_
                  refine z_iload okω dL_goods_695 rfl ?_
                  have ho697ω := hoω.fr (show zFr M _ (c + 251) 6 from zFr.rf)
                  obtain ⟨fs697ω, hs697ω⟩ := ho697ω.self
                  refine z_callVi okω dL_goods_697 zm_X6_join zw_411 zi_X6_join hs697ω rfl (ho697ω.to_join hNω) rfl rfl (by decide) (by decide) (by decide) (Nat.le_of_ble_eq_true rfl) (fun xz83ω Mz84ω qz85ω => ?_)
                  obtain ⟨hfqω, hxeω, hoqω⟩ := (qz85ω).inl (spJ_np hk31ω hl31ω hggω (fun zω => cz689ω (hssω.mpr zω.2)))
                  have hfzω := ((show zFr M _ (c + 251) 6 from zFr.rf).w (c := c) (by omega) (by omega)).tr (hfqω.w (c := c) (by omega) (by omega))
                  have hm86ω := ((hmω).eqs (rfl)).fr hfqω
                  refine z_ldc okω dL_goods_700 zw_410 ?_
                  refine z_icmp_ne (tgt := 709) okω dL_goods_702 (by decide) (fun q9ω => absurd hxeω q9ω) (fun _ => ?_)
                  refine z_iconst (v := 1) okω dL_goods_705 (by decide) ?_
                  refine z_goto (tgt := 710) okω dL_goods_706 (by decide) ?_
                  exact z_iret okω dL_goods_710 rfl rfl rfl (Nat.zero_le _) ⟨rfl, s, n, ⟨hoqω, hm86ω, hwω, hxω⟩, rfl, hfzω⟩
            · refine z_aload_n okω dL_goods_632 rfl ?_
              refine z_iload okω dL_goods_633 rfl ?_
              refine z_iload okω dL_goods_635 rfl ?_
              have ho637ω := hoω.fr (show zFr M _ (c + 251) 6 from zFr.rf)
              obtain ⟨fs637ω, hs637ω⟩ := ho637ω.self
              refine z_callVi okω dL_goods_637 zm_X6_join zw_411 zi_X6_join hs637ω rfl (ho637ω.to_join hNω) rfl rfl (by decide) (by decide) (by decide) (Nat.le_of_ble_eq_true rfl) (fun xz87ω Mz88ω qz89ω => ?_)
              obtain ⟨hfqω, hxeω, hoqω⟩ := (qz89ω).inl (spJ_no (fun zω => zω.2.2 cz629ω))
              have hfzω := ((show zFr M _ (c + 251) 6 from zFr.rf).w (c := c) (by omega) (by omega)).tr (hfqω.w (c := c) (by omega) (by omega))
              have hm90ω := ((hmω).eqs (rfl)).fr hfqω
              refine z_ldc okω dL_goods_640 zw_409 ?_
              refine z_icmp_ne (tgt := 649) okω dL_goods_642 (by decide) (fun q9ω => absurd hxeω q9ω) (fun _ => ?_)
              refine z_iconst (v := 1) okω dL_goods_645 (by decide) ?_
              refine z_goto (tgt := 650) okω dL_goods_646 (by decide) ?_
              exact z_iret okω dL_goods_650 rfl rfl rfl (Nat.zero_le _) ⟨rfl, s, n, ⟨hoqω, hm90ω, hwω, hxω⟩, rfl, hfzω⟩
      · have hi16ω : i6ω < 16 := by have := mt (nI_leI (a := 16) (b := i6ω) (by omega) (by omega)).mpr cz535ω; omega
        refine z_iload okω dL_goods_538 rfl ?_
        refine z_iconst (v := 4) okω dL_goods_540 (by decide) ?_
        refine z_irem okω dL_goods_541 (by decide) ?_
        refine zV_eqi (yrem (d := 4) rfl (by omega) (by omega) (by omega)) ?_
        refine z_if_le (tgt := 605) okω dL_goods_542 (by decide) (fun cz542ω => ?_) (fun cz542ω => ?_)
        · have hk31ω : kω < 2 ^ 31 := (Nat.eq_zero_or_pos n).elim (fun zω => by have := hk2ω zω; omega) (fun zω => by have := hk1ω zω; omega)
          have hl31ω : lω < 2 ^ 31 := (Nat.eq_zero_or_pos n).elim (fun zω => by have := hl2ω zω; omega) (fun zω => by have := hl1ω zω; omega)
          refine z_aload_n okω dL_goods_605 rfl ?_
          refine z_aload_n okω dL_goods_606 rfl ?_
          refine z_iload okω dL_goods_607 rfl ?_
          refine z_callSi okω dL_goods_609 zm_L_is zw_390 zw_391 (ct_L_is hmω hwω) rfl rfl (by decide) (by decide) (by decide) (Nat.le_of_ble_eq_true rfl) (fun xz91ω Mz92ω qz93ω => ?_)
          obtain ⟨rfl, hMeω⟩ := qz93ω
          obtain rfl := hMeω.symm
          refine z_if_eq (tgt := 632) okω dL_goods_612 (by decide) (fun cz612ω => ?_) (fun cz612ω => ?_)
          · have hgkω := b2_0.mp cz612ω
            refine z_aload_n okω dL_goods_632 rfl ?_
            refine z_iload okω dL_goods_633 rfl ?_
            refine z_iload okω dL_goods_635 rfl ?_
            have ho637ω := hoω.fr (show zFr M _ (c + 251) 6 from zFr.rf)
            obtain ⟨fs637ω, hs637ω⟩ := ho637ω.self
            refine z_callVi okω dL_goods_637 zm_X6_join zw_411 zi_X6_join hs637ω rfl (ho637ω.to_join hNω) rfl rfl (by decide) (by decide) (by decide) (Nat.le_of_ble_eq_true rfl) (fun xz94ω Mz95ω qz96ω => ?_)
            obtain ⟨hfqω, hxeω, hoqω⟩ := (qz96ω).inl (spJ_no (fun zω => hgkω zω.1))
            have hfzω := ((show zFr M _ (c + 251) 6 from zFr.rf).w (c := c) (by omega) (by omega)).tr (hfqω.w (c := c) (by omega) (by omega))
            have hm97ω := ((hmω).eqs (rfl)).fr hfqω
            refine z_ldc okω dL_goods_640 zw_409 ?_
            refine z_icmp_ne (tgt := 649) okω dL_goods_642 (by decide) (fun q9ω => absurd hxeω q9ω) (fun _ => ?_)
            refine z_iconst (v := 1) okω dL_goods_645 (by decide) ?_
            refine z_goto (tgt := 650) okω dL_goods_646 (by decide) ?_
            exact z_iret okω dL_goods_650 rfl rfl rfl (Nat.zero_le _) ⟨rfl, s, n, ⟨hoqω, hm97ω, hwω, hxω⟩, rfl, hfzω⟩
          · have hgkω := Decidable.not_not.mp (mt b2_0.mpr cz612ω)
            refine z_aload_n okω dL_goods_615 rfl ?_
            refine z_aload_n okω dL_goods_616 rfl ?_
            refine z_iload okω dL_goods_617 rfl ?_
            refine z_callSi okω dL_goods_619 zm_L_is zw_390 zw_391 (ct_L_is hmω hwω) rfl rfl (by decide) (by decide) (by decide) (Nat.le_of_ble_eq_true rfl) (fun xz98ω Mz99ω qz100ω => ?_)
            obtain ⟨rfl, hMeω⟩ := qz100ω
            obtain rfl := hMeω.symm
            refine z_if_eq (tgt := 632) okω dL_goods_622 (by decide) (fun cz622ω => ?_) (fun cz622ω => ?_)
            · have hglω := b2_0.mp cz622ω
              refine z_aload_n okω dL_goods_632 rfl ?_
              refine z_iload okω dL_goods_633 rfl ?_
              refine z_iload okω dL_goods_635 rfl ?_
              have ho637ω := hoω.fr (show zFr M _ (c + 251) 6 from zFr.rf)
              obtain ⟨fs637ω, hs637ω⟩ := ho637ω.self
              refine z_callVi okω dL_goods_637 zm_X6_join zw_411 zi_X6_join hs637ω rfl (ho637ω.to_join hNω) rfl rfl (by decide) (by decide) (by decide) (Nat.le_of_ble_eq_true rfl) (fun xz101ω Mz102ω qz103ω => ?_)
              obtain ⟨hfqω, hxeω, hoqω⟩ := (qz103ω).inl (spJ_no (fun zω => hglω zω.2.1))
              have hfzω := ((show zFr M _ (c + 251) 6 from zFr.rf).w (c := c) (by omega) (by omega)).tr (hfqω.w (c := c) (by omega) (by omega))
              have hm104ω := ((hmω).eqs (rfl)).fr hfqω
              refine z_ldc okω dL_goods_640 zw_409 ?_
              refine z_icmp_ne (tgt := 649) okω dL_goods_642 (by decide) (fun q9ω => absurd hxeω q9ω) (fun _ => ?_)
              refine z_iconst (v := 1) okω dL_goods_645 (by decide) ?_
              refine z_goto (tgt := 650) okω dL_goods_646 (by decide) ?_
              exact z_iret okω dL_goods_650 rfl rfl rfl (Nat.zero_le _) ⟨rfl, s, n, ⟨hoqω, hm104ω, hwω, hxω⟩, rfl, hfzω⟩
            · have hglω := Decidable.not_not.mp (mt b2_0.mpr cz622ω)
              refine z_iload okω dL_goods_625 rfl ?_
              refine z_iload okω dL_goods_627 rfl ?_
              refine z_icmp_ne (tgt := 651) okω dL_goods_629 (by decide) (fun cz629ω => ?_) (fun cz629ω => ?_)
              · have hknω : kω < n := (zGoods_n hNω hgkω hk31ω).1
                have hlnω : lω < n := (zGoods_n hNω hglω hl31ω).1
                have hklω : kω ≠ lω := fun zω => cz629ω (by rw [zω])
                have hggω : zGoods s (nI kω) ∧ zGoods s (nI lω) ∧ ¬ nI kω = nI lω := ⟨hgkω, hglω, cz629ω⟩
                have hssω := st_sum (hwω.g kω hknω).2.2.2.2.1 (hwω.g lω hlnω).2.2.2.2.1
                refine z_aload okω dL_goods_651 rfl ?_
                refine z_iconst (v := 4) okω dL_goods_653 (by decide) ?_
                refine z_iload okω dL_goods_654 rfl ?_
                refine z_imul okω dL_goods_656 ?_
                refine z_iconst (v := 1) okω dL_goods_657 (by decide) ?_
                refine z_iadd okω dL_goods_658 ?_
                refine l_ld9 kω okω dL_goods_659 hmω (lx4_1 kω) (by first | assumption | omega) ?_
                refine z_aload okω dL_goods_660 rfl ?_
                refine z_iconst (v := 4) okω dL_goods_662 (by decide) ?_
                refine z_iload okω dL_goods_663 rfl ?_
                refine z_imul okω dL_goods_665 ?_
                refine z_iconst (v := 1) okω dL_goods_666 (by decide) ?_
                refine z_iadd okω dL_goods_667 ?_
                refine l_ld9 lω okω dL_goods_668 hmω (lx4_1 lω) (by first | assumption | omega) ?_
                refine z_icmp_ne (tgt := 692) okω dL_goods_669 (by decide) (fun cz669ω => ?_) (fun cz669ω => ?_)
                · refine z_aload_n okω dL_goods_692 rfl ?_
                  refine z_iload okω dL_goods_693 rfl ?_
                  refine z_iload okω dL_goods_695 rfl ?_
                  have ho697ω := hoω.fr (show zFr M _ (c + 251) 6 from zFr.rf)
                  obtain ⟨fs697ω, hs697ω⟩ := ho697ω.self
                  refine z_callVi okω dL_goods_697 zm_X6_join zw_411 zi_X6_join hs697ω rfl (ho697ω.to_join hNω) rfl rfl (by decide) (by decide) (by decide) (Nat.le_of_ble_eq_true rfl) (fun xz105ω Mz106ω qz107ω => ?_)
                  obtain ⟨hfqω, hxeω, hoqω⟩ := (qz107ω).inl (spJ_np hk31ω hl31ω hggω (fun zω => cz669ω zω.1))
                  have hfzω := ((show zFr M _ (c + 251) 6 from zFr.rf).w (c := c) (by omega) (by omega)).tr (hfqω.w (c := c) (by omega) (by omega))
                  have hm108ω := ((hmω).eqs (rfl)).fr hfqω
                  refine z_ldc okω dL_goods_700 zw_410 ?_
                  refine z_icmp_ne (tgt := 709) okω dL_goods_702 (by decide) (fun q9ω => absurd hxeω q9ω) (fun _ => ?_)
                  refine z_iconst (v := 1) okω dL_goods_705 (by decide) ?_
                  refine z_goto (tgt := 710) okω dL_goods_706 (by decide) ?_
                  exact z_iret okω dL_goods_710 rfl rfl rfl (Nat.zero_le _) ⟨rfl, s, n, ⟨hoqω, hm108ω, hwω, hxω⟩, rfl, hfzω⟩
                · refine z_aload_n okω dL_goods_672 rfl ?_
                  refine z_iconst (v := 4) okω dL_goods_673 (by decide) ?_
                  refine z_iload okω dL_goods_674 rfl ?_
                  refine z_imul okω dL_goods_676 ?_
                  refine z_iconst (v := 2) okω dL_goods_677 (by decide) ?_
                  refine z_iadd okω dL_goods_678 ?_
                  refine l_ld6 kω okω dL_goods_679 hmω (lx4_2 kω) (by first | assumption | omega) ?_
                  refine z_aload_n okω dL_goods_680 rfl ?_
                  refine z_iconst (v := 4) okω dL_goods_681 (by decide) ?_
                  refine z_iload okω dL_goods_682 rfl ?_
                  refine z_imul okω dL_goods_684 ?_
                  refine z_iconst (v := 2) okω dL_goods_685 (by decide) ?_
                  refine z_iadd okω dL_goods_686 ?_
                  refine l_ld6 lω okω dL_goods_687 hmω (lx4_2 lω) (by first | assumption | omega) ?_
                  refine z_iadd okω dL_goods_688 ?_
                  refine z_if_le (tgt := 711) okω dL_goods_689 (by decide) (fun cz689ω => ?_) (fun cz689ω => ?_)
                  · have hstω := hssω.mp cz689ω
                    have hcdω : gd s kω 9 = gd s lω 9 ∧ gd s kω 6 = 0 ∧ gd s lω 6 = 0 := ⟨cz669ω, hstω.1, hstω.2⟩
                    refine z_iload okω dL_goods_711 rfl ?_
                    refine z_iload okω dL_goods_713 rfl ?_
                    refine z_icmp_ge (tgt := 723) okω dL_goods_715 (by decide) (fun cz715ω => ?_) (fun cz715ω => ?_)
                    · refine z_iload okω dL_goods_723 rfl ?_
                      refine z_istore okω dL_goods_725 (by decide) rfl ?_
                      refine z_iload okω dL_goods_727 rfl ?_
                      refine z_iload okω dL_goods_729 rfl ?_
                      refine z_iadd okω dL_goods_731 ?_
                      refine z_iload okω dL_goods_732 rfl ?_
                      refine z_isub okω dL_goods_734 ?_
                      refine zV_eqi sub_r ?_
                      refine z_istore okω dL_goods_735 (by decide) rfl ?_
                      refine z_iconst (v := 1) okω dL_goods_737 (by decide) ?_
                      refine z_istore okω dL_goods_738 (by decide) rfl ?_
                      refine z_iload okω dL_goods_740 rfl ?_
                      refine z_iconst (v := 4) okω dL_goods_742 (by decide) ?_
                      refine z_icmp_ge (tgt := 773) okω dL_goods_743 (by decide) (fun q9ω => absurd q9ω (by decide)) (fun _ => ?_)
                      refine z_aload_n okω dL_goods_746 rfl ?_
                      refine z_iconst (v := 4) okω dL_goods_747 (by decide) ?_
                      refine z_iload okω dL_goods_748 rfl ?_
                      refine z_imul okω dL_goods_750 ?_
                      refine z_iload okω dL_goods_751 rfl ?_
                      refine z_iadd okω dL_goods_753 ?_
                      refine z_dup2 okω dL_goods_754 rfl rfl ?_
                      refine l_ld1 lω okω dL_goods_755 hmω (lx4_1 lω) (by first | assumption | omega) ?_
                      refine z_aload_n okω dL_goods_756 rfl ?_
                      refine z_iconst (v := 4) okω dL_goods_757 (by decide) ?_
                      refine z_iload okω dL_goods_758 rfl ?_
                      refine z_imul okω dL_goods_760 ?_
                      refine z_iload okω dL_goods_761 rfl ?_
                      refine z_iadd okω dL_goods_763 ?_
                      refine l_ld1 kω okω dL_goods_764 hmω (lx4_1 kω) (by first | assumption | omega) ?_
                      refine z_iadd okω dL_goods_765 ?_
                      refine l_st1 lω okω dL_goods_766 hmω (lx4_1 lω) (by first | assumption | omega) (fun Mz110ω hm109ω frz111ω => ?_)
                      refine z_iinc okω dL_goods_767 rfl (show (1 : Int32) + Int32.ofInt (1) = 2 from by decide) (by decide) rfl ?_
                      refine z_goto (tgt := 740) okω dL_goods_770 (by decide) ?_
                      refine z_iload okω dL_goods_740 rfl ?_
                      refine z_iconst (v := 4) okω dL_goods_742 (by decide) ?_
                      refine z_icmp_ge (tgt := 773) okω dL_goods_743 (by decide) (fun q9ω => absurd q9ω (by decide)) (fun _ => ?_)
                      refine z_aload_n okω dL_goods_746 rfl ?_
                      refine z_iconst (v := 4) okω dL_goods_747 (by decide) ?_
                      refine z_iload okω dL_goods_748 rfl ?_
                      refine z_imul okω dL_goods_750 ?_
                      refine z_iload okω dL_goods_751 rfl ?_
                      refine z_iadd okω dL_goods_753 ?_
                      refine z_dup2 okω dL_goods_754 rfl rfl ?_
                      refine l_ld2 lω okω dL_goods_755 hm109ω (lx4_2 lω) (by first | assumption | omega) ?_
                      refine z_aload_n okω dL_goods_756 rfl ?_
                      refine z_iconst (v := 4) okω dL_goods_757 (by decide) ?_
                      refine z_iload okω dL_goods_758 rfl ?_
                      refine z_imul okω dL_goods_760 ?_
                      refine z_iload okω dL_goods_761 rfl ?_
                      refine z_iadd okω dL_goods_763 ?_
                      refine l_ld2 kω okω dL_goods_764 hm109ω (lx4_2 kω) (by first | assumption | omega) ?_
                      refine z_iadd okω dL_goods_765 ?_
                      refine l_st2 lω okω dL_goods_766 hm109ω (lx4_2 lω) (by first | assumption | omega) (fun Mz113ω hm112ω frz114ω => ?_)
                      refine z_iinc okω dL_goods_767 rfl (show (2 : Int32) + Int32.ofInt (1) = 3 from by decide) (by decide) rfl ?_
                      refine z_goto (tgt := 740) okω dL_goods_770 (by decide) ?_
                      refine z_iload okω dL_goods_740 rfl ?_
                      refine z_iconst (v := 4) okω dL_goods_742 (by decide) ?_
                      refine z_icmp_ge (tgt := 773) okω dL_goods_743 (by decide) (fun q9ω => absurd q9ω (by decide)) (fun _ => ?_)
                      refine z_aload_n okω dL_goods_746 rfl ?_
                      refine z_iconst (v := 4) okω dL_goods_747 (by decide) ?_
                      refine z_iload okω dL_goods_748 rfl ?_
                      refine z_imul okω dL_goods_750 ?_
                      refine z_iload okω dL_goods_751 rfl ?_
                      refine z_iadd okω dL_goods_753 ?_
                      refine z_dup2 okω dL_goods_754 rfl rfl ?_
                      refine l_ld5 lω okω dL_goods_755 hm112ω (lx4_3 lω) (by first | assumption | omega) ?_
                      refine z_aload_n okω dL_goods_756 rfl ?_
                      refine z_iconst (v := 4) okω dL_goods_757 (by decide) ?_
                      refine z_iload okω dL_goods_758 rfl ?_
                      refine z_imul okω dL_goods_760 ?_
                      refine z_iload okω dL_goods_761 rfl ?_
                      refine z_iadd okω dL_goods_763 ?_
                      refine l_ld5 kω okω dL_goods_764 hm112ω (lx4_3 kω) (by first | assumption | omega) ?_
                      refine z_iadd okω dL_goods_765 ?_
                      refine l_st5 lω okω dL_goods_766 hm112ω (lx4_3 lω) (by first | assumption | omega) (fun Mz116ω hm115ω frz117ω => ?_)
                      refine z_iinc okω dL_goods_767 rfl (show (3 : Int32) + Int32.ofInt (1) = 4 from by decide) (by decide) rfl ?_
                      refine z_goto (tgt := 740) okω dL_goods_770 (by decide) ?_
                      refine z_iload okω dL_goods_740 rfl ?_
                      refine z_iconst (v := 4) okω dL_goods_742 (by decide) ?_
                      refine z_icmp_ge (tgt := 773) okω dL_goods_743 (by decide) (fun _ => ?_) (fun q9ω => absurd (by decide) q9ω)
                      refine z_aload okω dL_goods_773 rfl ?_
                      refine z_iconst (v := 4) okω dL_goods_775 (by decide) ?_
                      refine z_iload okω dL_goods_776 rfl ?_
                      refine z_imul okω dL_goods_778 ?_
                      refine z_iconst (v := 2) okω dL_goods_779 (by decide) ?_
                      refine z_iadd okω dL_goods_780 ?_
                      refine z_aload okω dL_goods_781 rfl ?_
                      refine z_iconst (v := 4) okω dL_goods_783 (by decide) ?_
                      refine z_iload okω dL_goods_784 rfl ?_
                      refine z_imul okω dL_goods_786 ?_
                      refine z_iconst (v := 2) okω dL_goods_787 (by decide) ?_
                      refine z_iadd okω dL_goods_788 ?_
                      refine l_ld10 kω okω dL_goods_789 hm115ω (lx4_2 kω) (by first | assumption | omega) ?_
                      refine z_aload okω dL_goods_790 rfl ?_
                      refine z_iconst (v := 4) okω dL_goods_792 (by decide) ?_
                      refine z_iload okω dL_goods_793 rfl ?_
                      refine z_imul okω dL_goods_795 ?_
                      refine z_iconst (v := 2) okω dL_goods_796 (by decide) ?_
                      refine z_iadd okω dL_goods_797 ?_
                      refine l_ld10 lω okω dL_goods_798 hm115ω (lx4_2 lω) (by first | assumption | omega) ?_
                      refine z_icmp_ge (tgt := 814) okω dL_goods_799 (by decide) (fun cz799ω => ?_) (fun cz799ω => ?_)
                      · refine z_aload okω dL_goods_814 rfl ?_
                        refine z_iconst (v := 4) okω dL_goods_816 (by decide) ?_
                        refine z_iload okω dL_goods_817 rfl ?_
                        refine z_imul okω dL_goods_819 ?_
                        refine z_iconst (v := 2) okω dL_goods_820 (by decide) ?_
                        refine z_iadd okω dL_goods_821 ?_
                        refine l_ld10 lω okω dL_goods_822 hm115ω (lx4_2 lω) (by first | assumption | omega) ?_
                        refine l_st10 lω okω dL_goods_823 hm115ω (lx4_2 lω) (by first | assumption | omega) (fun Mz119ω hm118ω frz120ω => ?_)
                        refine z_aload_n okω dL_goods_824 rfl ?_
                        refine z_iconst (v := 4) okω dL_goods_825 (by decide) ?_
                        refine z_iload okω dL_goods_826 rfl ?_
                        refine z_imul okω dL_goods_828 ?_
                        refine z_iconst (v := 2) okω dL_goods_829 (by decide) ?_
                        refine z_iadd okω dL_goods_830 ?_
                        refine z_iconst (v := 5) okω dL_goods_831 (by decide) ?_
                        refine l_st6 kω okω dL_goods_832 hm118ω (lx4_2 kω) (by first | assumption | omega) (fun Mz122ω hm121ω frz123ω => ?_)
                        refine z_aload_n okω dL_goods_833 rfl ?_
                        refine z_iload okω dL_goods_834 rfl ?_
                        refine z_iload okω dL_goods_836 rfl ?_
                        have ho838ω := hoω.fr (show zFr M _ (c + 251) 6 from (zFr.tr frz111ω (zFr.tr frz114ω (zFr.tr frz117ω (zFr.tr frz120ω frz123ω)))))
                        obtain ⟨fs838ω, hs838ω⟩ := ho838ω.self
                        refine z_callVi okω dL_goods_838 zm_X6_join zw_411 zi_X6_join hs838ω rfl (ho838ω.to_join hNω) rfl rfl (by decide) (by decide) (by decide) (Nat.le_of_ble_eq_true rfl) (fun xz124ω Mz125ω qz126ω => ?_)
                        obtain ⟨hfqω, hxeω, hoqω⟩ := (qz126ω).inr (spJ_hi hk31ω hl31ω hggω hcdω (Int32.not_lt.mpr cz715ω))
                        have hfzω := ((show zFr M _ (c + 251) 6 from (zFr.tr frz111ω (zFr.tr frz114ω (zFr.tr frz117ω (zFr.tr frz120ω frz123ω))))).w (c := c) (by omega) (by omega)).tr (hfqω.w (c := c) (by omega) (by omega))
                        have hm127ω := ((hm121ω).eqs (show _ = zJn s lω kω from by unfold zJn; simp only []; first | rw [if_pos (Int32.not_le.mp cz799ω)] | rw [if_neg (Int32.not_lt.mpr cz799ω)])).fr hfqω
                        refine z_iload okω dL_goods_841 rfl ?_
                        refine z_icmp_ne (tgt := 850) okω dL_goods_843 (by decide) (fun q9ω => absurd hxeω q9ω) (fun _ => ?_)
                        refine z_iconst (v := 1) okω dL_goods_846 (by decide) ?_
                        refine z_goto (tgt := 851) okω dL_goods_847 (by decide) ?_
                        exact z_iret okω dL_goods_851 rfl rfl rfl (Nat.zero_le _) ⟨rfl, _, n, ⟨hoqω, hm127ω, by first | exact hwω.join hknω hlnω hklω hstω.1 hstω.2 | exact hwω.join hlnω hknω (Ne.symm hklω) hstω.2 hstω.1, by first | exact hxω.join hwω hknω hlnω hklω hstω.1 hstω.2 | exact hxω.join hwω hlnω hknω (Ne.symm hklω) hstω.2 hstω.1⟩, zJn_o (q := 5) (by omega) (by omega), hfzω⟩
                      · refine z_aload okω dL_goods_802 rfl ?_
                        refine z_iconst (v := 4) okω dL_goods_804 (by decide) ?_
                        refine z_iload okω dL_goods_805 rfl ?_
                        refine z_imul okω dL_goods_807 ?_
                        refine z_iconst (v := 2) okω dL_goods_808 (by decide) ?_
                        refine z_iadd okω dL_goods_809 ?_
                        refine l_ld10 kω okω dL_goods_810 hm115ω (lx4_2 kω) (by first | assumption | omega) ?_
                        refine z_goto (tgt := 823) okω dL_goods_811 (by decide) ?_
                        refine l_st10 lω okω dL_goods_823 hm115ω (lx4_2 lω) (by first | assumption | omega) (fun Mz129ω hm128ω frz130ω => ?_)
                        refine z_aload_n okω dL_goods_824 rfl ?_
                        refine z_iconst (v := 4) okω dL_goods_825 (by decide) ?_
                        refine z_iload okω dL_goods_826 rfl ?_
                        refine z_imul okω dL_goods_828 ?_
                        refine z_iconst (v := 2) okω dL_goods_829 (by decide) ?_
                        refine z_iadd okω dL_goods_830 ?_
                        refine z_iconst (v := 5) okω dL_goods_831 (by decide) ?_
                        refine l_st6 kω okω dL_goods_832 hm128ω (lx4_2 kω) (by first | assumption | omega) (fun Mz132ω hm131ω frz133ω => ?_)
                        refine z_aload_n okω dL_goods_833 rfl ?_
                        refine z_iload okω dL_goods_834 rfl ?_
                        refine z_iload okω dL_goods_836 rfl ?_
                        have ho838ω := hoω.fr (show zFr M _ (c + 251) 6 from (zFr.tr frz111ω (zFr.tr frz114ω (zFr.tr frz117ω (zFr.tr frz130ω frz133ω)))))
                        obtain ⟨fs838ω, hs838ω⟩ := ho838ω.self
                        refine z_callVi okω dL_goods_838 zm_X6_join zw_411 zi_X6_join hs838ω rfl (ho838ω.to_join hNω) rfl rfl (by decide) (by decide) (by decide) (Nat.le_of_ble_eq_true rfl) (fun xz134ω Mz135ω qz136ω => ?_)
                        obtain ⟨hfqω, hxeω, hoqω⟩ := (qz136ω).inr (spJ_hi hk31ω hl31ω hggω hcdω (Int32.not_lt.mpr cz715ω))
                        have hfzω := ((show zFr M _ (c + 251) 6 from (zFr.tr frz111ω (zFr.tr frz114ω (zFr.tr frz117ω (zFr.tr frz130ω frz133ω))))).w (c := c) (by omega) (by omega)).tr (hfqω.w (c := c) (by omega) (by omega))
                        have hm137ω := ((hm131ω).eqs (show _ = zJn s lω kω from by unfold zJn; simp only []; first | rw [if_pos (Int32.not_le.mp cz799ω)] | rw [if_neg (Int32.not_lt.mpr cz799ω)])).fr hfqω
                        refine z_iload okω dL_goods_841 rfl ?_
                        refine z_icmp_ne (tgt := 850) okω dL_goods_843 (by decide) (fun q9ω => absurd hxeω q9ω) (fun _ => ?_)
                        refine z_iconst (v := 1) okω dL_goods_846 (by decide) ?_
                        refine z_goto (tgt := 851) okω dL_goods_847 (by decide) ?_
                        exact z_iret okω dL_goods_851 rfl rfl rfl (Nat.zero_le _) ⟨rfl, _, n, ⟨hoqω, hm137ω, by first | exact hwω.join hknω hlnω hklω hstω.1 hstω.2 | exact hwω.join hlnω hknω (Ne.symm hklω) hstω.2 hstω.1, by first | exact hxω.join hwω hknω hlnω hklω hstω.1 hstω.2 | exact hxω.join hwω hlnω hknω (Ne.symm hklω) hstω.2 hstω.1⟩, zJn_o (q := 5) (by omega) (by omega), hfzω⟩
                    · refine z_iload okω dL_goods_718 rfl ?_
                      refine z_goto (tgt := 725) okω dL_goods_720 (by decide) ?_
                      refine z_istore okω dL_goods_725 (by decide) rfl ?_
                      refine z_iload okω dL_goods_727 rfl ?_
                      refine z_iload okω dL_goods_729 rfl ?_
                      refine z_iadd okω dL_goods_731 ?_
                      refine z_iload okω dL_goods_732 rfl ?_
                      refine z_isub okω dL_goods_734 ?_
                      refine zV_eqi sub_l ?_
                      refine z_istore okω dL_goods_735 (by decide) rfl ?_
                      refine z_iconst (v := 1) okω dL_goods_737 (by decide) ?_
                      refine z_istore okω dL_goods_738 (by decide) rfl ?_
                      refine z_iload okω dL_goods_740 rfl ?_
                      refine z_iconst (v := 4) okω dL_goods_742 (by decide) ?_
                      refine z_icmp_ge (tgt := 773) okω dL_goods_743 (by decide) (fun q9ω => absurd q9ω (by decide)) (fun _ => ?_)
                      refine z_aload_n okω dL_goods_746 rfl ?_
                      refine z_iconst (v := 4) okω dL_goods_747 (by decide) ?_
                      refine z_iload okω dL_goods_748 rfl ?_
                      refine z_imul okω dL_goods_750 ?_
                      refine z_iload okω dL_goods_751 rfl ?_
                      refine z_iadd okω dL_goods_753 ?_
                      refine z_dup2 okω dL_goods_754 rfl rfl ?_
                      refine l_ld1 kω okω dL_goods_755 hmω (lx4_1 kω) (by first | assumption | omega) ?_
                      refine z_aload_n okω dL_goods_756 rfl ?_
                      refine z_iconst (v := 4) okω dL_goods_757 (by decide) ?_
                      refine z_iload okω dL_goods_758 rfl ?_
                      refine z_imul okω dL_goods_760 ?_
                      refine z_iload okω dL_goods_761 rfl ?_
                      refine z_iadd okω dL_goods_763 ?_
                      refine l_ld1 lω okω dL_goods_764 hmω (lx4_1 lω) (by first | assumption | omega) ?_
                      refine z_iadd okω dL_goods_765 ?_
                      refine l_st1 kω okω dL_goods_766 hmω (lx4_1 kω) (by first | assumption | omega) (fun Mz139ω hm138ω frz140ω => ?_)
                      refine z_iinc okω dL_goods_767 rfl (show (1 : Int32) + Int32.ofInt (1) = 2 from by decide) (by decide) rfl ?_
                      refine z_goto (tgt := 740) okω dL_goods_770 (by decide) ?_
                      refine z_iload okω dL_goods_740 rfl ?_
                      refine z_iconst (v := 4) okω dL_goods_742 (by decide) ?_
                      refine z_icmp_ge (tgt := 773) okω dL_goods_743 (by decide) (fun q9ω => absurd q9ω (by decide)) (fun _ => ?_)
                      refine z_aload_n okω dL_goods_746 rfl ?_
                      refine z_iconst (v := 4) okω dL_goods_747 (by decide) ?_
                      refine z_iload okω dL_goods_748 rfl ?_
                      refine z_imul okω dL_goods_750 ?_
                      refine z_iload okω dL_goods_751 rfl ?_
                      refine z_iadd okω dL_goods_753 ?_
                      refine z_dup2 okω dL_goods_754 rfl rfl ?_
                      refine l_ld2 kω okω dL_goods_755 hm138ω (lx4_2 kω) (by first | assumption | omega) ?_
                      refine z_aload_n okω dL_goods_756 rfl ?_
                      refine z_iconst (v := 4) okω dL_goods_757 (by decide) ?_
                      refine z_iload okω dL_goods_758 rfl ?_
                      refine z_imul okω dL_goods_760 ?_
                      refine z_iload okω dL_goods_761 rfl ?_
                      refine z_iadd okω dL_goods_763 ?_
                      refine l_ld2 lω okω dL_goods_764 hm138ω (lx4_2 lω) (by first | assumption | omega) ?_
                      refine z_iadd okω dL_goods_765 ?_
                      refine l_st2 kω okω dL_goods_766 hm138ω (lx4_2 kω) (by first | assumption | omega) (fun Mz142ω hm141ω frz143ω => ?_)
                      refine z_iinc okω dL_goods_767 rfl (show (2 : Int32) + Int32.ofInt (1) = 3 from by decide) (by decide) rfl ?_
                      refine z_goto (tgt := 740) okω dL_goods_770 (by decide) ?_
                      refine z_iload okω dL_goods_740 rfl ?_
                      refine z_iconst (v := 4) okω dL_goods_742 (by decide) ?_
                      refine z_icmp_ge (tgt := 773) okω dL_goods_743 (by decide) (fun q9ω => absurd q9ω (by decide)) (fun _ => ?_)
                      refine z_aload_n okω dL_goods_746 rfl ?_
                      refine z_iconst (v := 4) okω dL_goods_747 (by decide) ?_
                      refine z_iload okω dL_goods_748 rfl ?_
                      refine z_imul okω dL_goods_750 ?_
                      refine z_iload okω dL_goods_751 rfl ?_
                      refine z_iadd okω dL_goods_753 ?_
                      refine z_dup2 okω dL_goods_754 rfl rfl ?_
                      refine l_ld5 kω okω dL_goods_755 hm141ω (lx4_3 kω) (by first | assumption | omega) ?_
                      refine z_aload_n okω dL_goods_756 rfl ?_
                      refine z_iconst (v := 4) okω dL_goods_757 (by decide) ?_
                      refine z_iload okω dL_goods_758 rfl ?_
                      refine z_imul okω dL_goods_760 ?_
                      refine z_iload okω dL_goods_761 rfl ?_
                      refine z_iadd okω dL_goods_763 ?_
                      refine l_ld5 lω okω dL_goods_764 hm141ω (lx4_3 lω) (by first | assumption | omega) ?_
                      refine z_iadd okω dL_goods_765 ?_
                      refine l_st5 kω okω dL_goods_766 hm141ω (lx4_3 kω) (by first | assumption | omega) (fun Mz145ω hm144ω frz146ω => ?_)
                      refine z_iinc okω dL_goods_767 rfl (show (3 : Int32) + Int32.ofInt (1) = 4 from by decide) (by decide) rfl ?_
                      refine z_goto (tgt := 740) okω dL_goods_770 (by decide) ?_
                      refine z_iload okω dL_goods_740 rfl ?_
                      refine z_iconst (v := 4) okω dL_goods_742 (by decide) ?_
                      refine z_icmp_ge (tgt := 773) okω dL_goods_743 (by decide) (fun _ => ?_) (fun q9ω => absurd (by decide) q9ω)
                      refine z_aload okω dL_goods_773 rfl ?_
                      refine z_iconst (v := 4) okω dL_goods_775 (by decide) ?_
                      refine z_iload okω dL_goods_776 rfl ?_
                      refine z_imul okω dL_goods_778 ?_
                      refine z_iconst (v := 2) okω dL_goods_779 (by decide) ?_
                      refine z_iadd okω dL_goods_780 ?_
                      refine z_aload okω dL_goods_781 rfl ?_
                      refine z_iconst (v := 4) okω dL_goods_783 (by decide) ?_
                      refine z_iload okω dL_goods_784 rfl ?_
                      refine z_imul okω dL_goods_786 ?_
                      refine z_iconst (v := 2) okω dL_goods_787 (by decide) ?_
                      refine z_iadd okω dL_goods_788 ?_
                      refine l_ld10 lω okω dL_goods_789 hm144ω (lx4_2 lω) (by first | assumption | omega) ?_
                      refine z_aload okω dL_goods_790 rfl ?_
                      refine z_iconst (v := 4) okω dL_goods_792 (by decide) ?_
                      refine z_iload okω dL_goods_793 rfl ?_
                      refine z_imul okω dL_goods_795 ?_
                      refine z_iconst (v := 2) okω dL_goods_796 (by decide) ?_
                      refine z_iadd okω dL_goods_797 ?_
                      refine l_ld10 kω okω dL_goods_798 hm144ω (lx4_2 kω) (by first | assumption | omega) ?_
                      refine z_icmp_ge (tgt := 814) okω dL_goods_799 (by decide) (fun cz799ω => ?_) (fun cz799ω => ?_)
                      · refine z_aload okω dL_goods_814 rfl ?_
                        refine z_iconst (v := 4) okω dL_goods_816 (by decide) ?_
                        refine z_iload okω dL_goods_817 rfl ?_
                        refine z_imul okω dL_goods_819 ?_
                        refine z_iconst (v := 2) okω dL_goods_820 (by decide) ?_
                        refine z_iadd okω dL_goods_821 ?_
                        refine l_ld10 kω okω dL_goods_822 hm144ω (lx4_2 kω) (by first | assumption | omega) ?_
                        refine l_st10 kω okω dL_goods_823 hm144ω (lx4_2 kω) (by first | assumption | omega) (fun Mz148ω hm147ω frz149ω => ?_)
                        refine z_aload_n okω dL_goods_824 rfl ?_
                        refine z_iconst (v := 4) okω dL_goods_825 (by decide) ?_
                        refine z_iload okω dL_goods_826 rfl ?_
                        refine z_imul okω dL_goods_828 ?_
                        refine z_iconst (v := 2) okω dL_goods_829 (by decide) ?_
                        refine z_iadd okω dL_goods_830 ?_
                        refine z_iconst (v := 5) okω dL_goods_831 (by decide) ?_
                        refine l_st6 lω okω dL_goods_832 hm147ω (lx4_2 lω) (by first | assumption | omega) (fun Mz151ω hm150ω frz152ω => ?_)
                        refine z_aload_n okω dL_goods_833 rfl ?_
                        refine z_iload okω dL_goods_834 rfl ?_
                        refine z_iload okω dL_goods_836 rfl ?_
                        have ho838ω := hoω.fr (show zFr M _ (c + 251) 6 from (zFr.tr frz140ω (zFr.tr frz143ω (zFr.tr frz146ω (zFr.tr frz149ω frz152ω)))))
                        obtain ⟨fs838ω, hs838ω⟩ := ho838ω.self
                        refine z_callVi okω dL_goods_838 zm_X6_join zw_411 zi_X6_join hs838ω rfl (ho838ω.to_join hNω) rfl rfl (by decide) (by decide) (by decide) (Nat.le_of_ble_eq_true rfl) (fun xz153ω Mz154ω qz155ω => ?_)
                        obtain ⟨hfqω, hxeω, hoqω⟩ := (qz155ω).inr (spJ_lo hk31ω hl31ω hggω hcdω (Int32.not_le.mp cz715ω))
                        have hfzω := ((show zFr M _ (c + 251) 6 from (zFr.tr frz140ω (zFr.tr frz143ω (zFr.tr frz146ω (zFr.tr frz149ω frz152ω))))).w (c := c) (by omega) (by omega)).tr (hfqω.w (c := c) (by omega) (by omega))
                        have hm156ω := ((hm150ω).eqs (show _ = zJn s kω lω from by unfold zJn; simp only []; first | rw [if_pos (Int32.not_le.mp cz799ω)] | rw [if_neg (Int32.not_lt.mpr cz799ω)])).fr hfqω
                        refine z_iload okω dL_goods_841 rfl ?_
                        refine z_icmp_ne (tgt := 850) okω dL_goods_843 (by decide) (fun q9ω => absurd hxeω q9ω) (fun _ => ?_)
                        refine z_iconst (v := 1) okω dL_goods_846 (by decide) ?_
                        refine z_goto (tgt := 851) okω dL_goods_847 (by decide) ?_
                        exact z_iret okω dL_goods_851 rfl rfl rfl (Nat.zero_le _) ⟨rfl, _, n, ⟨hoqω, hm156ω, by first | exact hwω.join hknω hlnω hklω hstω.1 hstω.2 | exact hwω.join hlnω hknω (Ne.symm hklω) hstω.2 hstω.1, by first | exact hxω.join hwω hknω hlnω hklω hstω.1 hstω.2 | exact hxω.join hwω hlnω hknω (Ne.symm hklω) hstω.2 hstω.1⟩, zJn_o (q := 5) (by omega) (by omega), hfzω⟩
                      · refine z_aload okω dL_goods_802 rfl ?_
                        refine z_iconst (v := 4) okω dL_goods_804 (by decide) ?_
                        refine z_iload okω dL_goods_805 rfl ?_
                        refine z_imul okω dL_goods_807 ?_
                        refine z_iconst (v := 2) okω dL_goods_808 (by decide) ?_
                        refine z_iadd okω dL_goods_809 ?_
                        refine l_ld10 lω okω dL_goods_810 hm144ω (lx4_2 lω) (by first | assumption | omega) ?_
                        refine z_goto (tgt := 823) okω dL_goods_811 (by decide) ?_
                        refine l_st10 kω okω dL_goods_823 hm144ω (lx4_2 kω) (by first | assumption | omega) (fun Mz158ω hm157ω frz159ω => ?_)
                        refine z_aload_n okω dL_goods_824 rfl ?_
                        refine z_iconst (v := 4) okω dL_goods_825 (by decide) ?_
                        refine z_iload okω dL_goods_826 rfl ?_
                        refine z_imul okω dL_goods_828 ?_
                        refine z_iconst (v := 2) okω dL_goods_829 (by decide) ?_
                        refine z_iadd okω dL_goods_830 ?_
                        refine z_iconst (v := 5) okω dL_goods_831 (by decide) ?_
                        refine l_st6 lω okω dL_goods_832 hm157ω (lx4_2 lω) (by first | assumption | omega) (fun Mz161ω hm160ω frz162ω => ?_)
                        refine z_aload_n okω dL_goods_833 rfl ?_
                        refine z_iload okω dL_goods_834 rfl ?_
                        refine z_iload okω dL_goods_836 rfl ?_
                        have ho838ω := hoω.fr (show zFr M _ (c + 251) 6 from (zFr.tr frz140ω (zFr.tr frz143ω (zFr.tr frz146ω (zFr.tr frz159ω frz162ω)))))
                        obtain ⟨fs838ω, hs838ω⟩ := ho838ω.self
                        refine z_callVi okω dL_goods_838 zm_X6_join zw_411 zi_X6_join hs838ω rfl (ho838ω.to_join hNω) rfl rfl (by decide) (by decide) (by decide) (Nat.le_of_ble_eq_true rfl) (fun xz163ω Mz164ω qz165ω => ?_)
                        obtain ⟨hfqω, hxeω, hoqω⟩ := (qz165ω).inr (spJ_lo hk31ω hl31ω hggω hcdω (Int32.not_le.mp cz715ω))
                        have hfzω := ((show zFr M _ (c + 251) 6 from (zFr.tr frz140ω (zFr.tr frz143ω (zFr.tr frz146ω (zFr.tr frz159ω frz162ω))))).w (c := c) (by omega) (by omega)).tr (hfqω.w (c := c) (by omega) (by omega))
                        have hm166ω := ((hm160ω).eqs (show _ = zJn s kω lω from by unfold zJn; simp only []; first | rw [if_pos (Int32.not_le.mp cz799ω)] | rw [if_neg (Int32.not_lt.mpr cz799ω)])).fr hfqω
                        refine z_iload okω dL_goods_841 rfl ?_
                        refine z_icmp_ne (tgt := 850) okω dL_goods_843 (by decide) (fun q9ω => absurd hxeω q9ω) (fun _ => ?_)
                        refine z_iconst (v := 1) okω dL_goods_846 (by decide) ?_
                        refine z_goto (tgt := 851) okω dL_goods_847 (by decide) ?_
                        exact z_iret okω dL_goods_851 rfl rfl rfl (Nat.zero_le _) ⟨rfl, _, n, ⟨hoqω, hm166ω, by first | exact hwω.join hknω hlnω hklω hstω.1 hstω.2 | exact hwω.join hlnω hknω (Ne.symm hklω) hstω.2 hstω.1, by first | exact hxω.join hwω hknω hlnω hklω hstω.1 hstω.2 | exact hxω.join hwω hlnω hknω (Ne.symm hklω) hstω.2 hstω.1⟩, zJn_o (q := 5) (by omega) (by omega), hfzω⟩
                  · refine z_aload_n okω dL_goods_692 rfl ?_
                    refine z_iload okω dL_goods_693 rfl ?_
                    refine z_iload okω dL_goods_695 rfl ?_
                    have ho697ω := hoω.fr (show zFr M _ (c + 251) 6 from zFr.rf)
                    obtain ⟨fs697ω, hs697ω⟩ := ho697ω.self
                    refine z_callVi okω dL_goods_697 zm_X6_join zw_411 zi_X6_join hs697ω rfl (ho697ω.to_join hNω) rfl rfl (by decide) (by decide) (by decide) (Nat.le_of_ble_eq_true rfl) (fun xz167ω Mz168ω qz169ω => ?_)
                    obtain ⟨hfqω, hxeω, hoqω⟩ := (qz169ω).inl (spJ_np hk31ω hl31ω hggω (fun zω => cz689ω (hssω.mpr zω.2)))
                    have hfzω := ((show zFr M _ (c + 251) 6 from zFr.rf).w (c := c) (by omega) (by omega)).tr (hfqω.w (c := c) (by omega) (by omega))
                    have hm170ω := ((hmω).eqs (rfl)).fr hfqω
                    refine z_ldc okω dL_goods_700 zw_410 ?_
                    refine z_icmp_ne (tgt := 709) okω dL_goods_702 (by decide) (fun q9ω => absurd hxeω q9ω) (fun _ => ?_)
                    refine z_iconst (v := 1) okω dL_goods_705 (by decide) ?_
                    refine z_goto (tgt := 710) okω dL_goods_706 (by decide) ?_
                    exact z_iret okω dL_goods_710 rfl rfl rfl (Nat.zero_le _) ⟨rfl, s, n, ⟨hoqω, hm170ω, hwω, hxω⟩, rfl, hfzω⟩
              · refine z_aload_n okω dL_goods_632 rfl ?_
                refine z_iload okω dL_goods_633 rfl ?_
                refine z_iload okω dL_goods_635 rfl ?_
                have ho637ω := hoω.fr (show zFr M _ (c + 251) 6 from zFr.rf)
                obtain ⟨fs637ω, hs637ω⟩ := ho637ω.self
                refine z_callVi okω dL_goods_637 zm_X6_join zw_411 zi_X6_join hs637ω rfl (ho637ω.to_join hNω) rfl rfl (by decide) (by decide) (by decide) (Nat.le_of_ble_eq_true rfl) (fun xz171ω Mz172ω qz173ω => ?_)
                obtain ⟨hfqω, hxeω, hoqω⟩ := (qz173ω).inl (spJ_no (fun zω => zω.2.2 cz629ω))
                have hfzω := ((show zFr M _ (c + 251) 6 from zFr.rf).w (c := c) (by omega) (by omega)).tr (hfqω.w (c := c) (by omega) (by omega))
                have hm174ω := ((hmω).eqs (rfl)).fr hfqω
                refine z_ldc okω dL_goods_640 zw_409 ?_
                refine z_icmp_ne (tgt := 649) okω dL_goods_642 (by decide) (fun q9ω => absurd hxeω q9ω) (fun _ => ?_)
                refine z_iconst (v := 1) okω dL_goods_645 (by decide) ?_
                refine z_goto (tgt := 650) okω dL_goods_646 (by decide) ?_
                exact z_iret okω dL_goods_650 rfl rfl rfl (Nat.zero_le _) ⟨rfl, s, n, ⟨hoqω, hm174ω, hwω, hxω⟩, rfl, hfzω⟩
        · refine z_aload_n okω dL_goods_545 rfl ?_
          refine z_iconst (v := 3) okω dL_goods_546 (by decide) ?_
          refine l_ldG (t := 3) okω dL_goods_547 hmω rfl (by decide) ?_
          refine z_if_le (tgt := 605) okω dL_goods_548 (by decide) (fun cz548ω => ?_) (fun cz548ω => ?_)
          · have hk31ω : kω < 2 ^ 31 := (Nat.eq_zero_or_pos n).elim (fun zω => by have := hk2ω zω; omega) (fun zω => by have := hk1ω zω; omega)
            have hl31ω : lω < 2 ^ 31 := (Nat.eq_zero_or_pos n).elim (fun zω => by have := hl2ω zω; omega) (fun zω => by have := hl1ω zω; omega)
            refine z_aload_n okω dL_goods_605 rfl ?_
            refine z_aload_n okω dL_goods_606 rfl ?_
            refine z_iload okω dL_goods_607 rfl ?_
            refine z_callSi okω dL_goods_609 zm_L_is zw_390 zw_391 (ct_L_is hmω hwω) rfl rfl (by decide) (by decide) (by decide) (Nat.le_of_ble_eq_true rfl) (fun xz175ω Mz176ω qz177ω => ?_)
            obtain ⟨rfl, hMeω⟩ := qz177ω
            obtain rfl := hMeω.symm
            refine z_if_eq (tgt := 632) okω dL_goods_612 (by decide) (fun cz612ω => ?_) (fun cz612ω => ?_)
            · have hgkω := b2_0.mp cz612ω
              refine z_aload_n okω dL_goods_632 rfl ?_
              refine z_iload okω dL_goods_633 rfl ?_
              refine z_iload okω dL_goods_635 rfl ?_
              have ho637ω := hoω.fr (show zFr M _ (c + 251) 6 from zFr.rf)
              obtain ⟨fs637ω, hs637ω⟩ := ho637ω.self
              refine z_callVi okω dL_goods_637 zm_X6_join zw_411 zi_X6_join hs637ω rfl (ho637ω.to_join hNω) rfl rfl (by decide) (by decide) (by decide) (Nat.le_of_ble_eq_true rfl) (fun xz178ω Mz179ω qz180ω => ?_)
              obtain ⟨hfqω, hxeω, hoqω⟩ := (qz180ω).inl (spJ_no (fun zω => hgkω zω.1))
              have hfzω := ((show zFr M _ (c + 251) 6 from zFr.rf).w (c := c) (by omega) (by omega)).tr (hfqω.w (c := c) (by omega) (by omega))
              have hm181ω := ((hmω).eqs (rfl)).fr hfqω
              refine z_ldc okω dL_goods_640 zw_409 ?_
              refine z_icmp_ne (tgt := 649) okω dL_goods_642 (by decide) (fun q9ω => absurd hxeω q9ω) (fun _ => ?_)
              refine z_iconst (v := 1) okω dL_goods_645 (by decide) ?_
              refine z_goto (tgt := 650) okω dL_goods_646 (by decide) ?_
              exact z_iret okω dL_goods_650 rfl rfl rfl (Nat.zero_le _) ⟨rfl, s, n, ⟨hoqω, hm181ω, hwω, hxω⟩, rfl, hfzω⟩
            · have hgkω := Decidable.not_not.mp (mt b2_0.mpr cz612ω)
              refine z_aload_n okω dL_goods_615 rfl ?_
              refine z_aload_n okω dL_goods_616 rfl ?_
              refine z_iload okω dL_goods_617 rfl ?_
              refine z_callSi okω dL_goods_619 zm_L_is zw_390 zw_391 (ct_L_is hmω hwω) rfl rfl (by decide) (by decide) (by decide) (Nat.le_of_ble_eq_true rfl) (fun xz182ω Mz183ω qz184ω => ?_)
              obtain ⟨rfl, hMeω⟩ := qz184ω
              obtain rfl := hMeω.symm
              refine z_if_eq (tgt := 632) okω dL_goods_622 (by decide) (fun cz622ω => ?_) (fun cz622ω => ?_)
              · have hglω := b2_0.mp cz622ω
                refine z_aload_n okω dL_goods_632 rfl ?_
                refine z_iload okω dL_goods_633 rfl ?_
                refine z_iload okω dL_goods_635 rfl ?_
                have ho637ω := hoω.fr (show zFr M _ (c + 251) 6 from zFr.rf)
                obtain ⟨fs637ω, hs637ω⟩ := ho637ω.self
                refine z_callVi okω dL_goods_637 zm_X6_join zw_411 zi_X6_join hs637ω rfl (ho637ω.to_join hNω) rfl rfl (by decide) (by decide) (by decide) (Nat.le_of_ble_eq_true rfl) (fun xz185ω Mz186ω qz187ω => ?_)
                obtain ⟨hfqω, hxeω, hoqω⟩ := (qz187ω).inl (spJ_no (fun zω => hglω zω.2.1))
                have hfzω := ((show zFr M _ (c + 251) 6 from zFr.rf).w (c := c) (by omega) (by omega)).tr (hfqω.w (c := c) (by omega) (by omega))
                have hm188ω := ((hmω).eqs (rfl)).fr hfqω
                refine z_ldc okω dL_goods_640 zw_409 ?_
                refine z_icmp_ne (tgt := 649) okω dL_goods_642 (by decide) (fun q9ω => absurd hxeω q9ω) (fun _ => ?_)
                refine z_iconst (v := 1) okω dL_goods_645 (by decide) ?_
                refine z_goto (tgt := 650) okω dL_goods_646 (by decide) ?_
                exact z_iret okω dL_goods_650 rfl rfl rfl (Nat.zero_le _) ⟨rfl, s, n, ⟨hoqω, hm188ω, hwω, hxω⟩, rfl, hfzω⟩
              · have hglω := Decidable.not_not.mp (mt b2_0.mpr cz622ω)
                refine z_iload okω dL_goods_625 rfl ?_
                refine z_iload okω dL_goods_627 rfl ?_
                refine z_icmp_ne (tgt := 651) okω dL_goods_629 (by decide) (fun cz629ω => ?_) (fun cz629ω => ?_)
                · have hknω : kω < n := (zGoods_n hNω hgkω hk31ω).1
                  have hlnω : lω < n := (zGoods_n hNω hglω hl31ω).1
                  have hklω : kω ≠ lω := fun zω => cz629ω (by rw [zω])
                  have hggω : zGoods s (nI kω) ∧ zGoods s (nI lω) ∧ ¬ nI kω = nI lω := ⟨hgkω, hglω, cz629ω⟩
                  have hssω := st_sum (hwω.g kω hknω).2.2.2.2.1 (hwω.g lω hlnω).2.2.2.2.1
                  refine z_aload okω dL_goods_651 rfl ?_
                  refine z_iconst (v := 4) okω dL_goods_653 (by decide) ?_
                  refine z_iload okω dL_goods_654 rfl ?_
                  refine z_imul okω dL_goods_656 ?_
                  refine z_iconst (v := 1) okω dL_goods_657 (by decide) ?_
                  refine z_iadd okω dL_goods_658 ?_
                  refine l_ld9 kω okω dL_goods_659 hmω (lx4_1 kω) (by first | assumption | omega) ?_
                  refine z_aload okω dL_goods_660 rfl ?_
                  refine z_iconst (v := 4) okω dL_goods_662 (by decide) ?_
                  refine z_iload okω dL_goods_663 rfl ?_
                  refine z_imul okω dL_goods_665 ?_
                  refine z_iconst (v := 1) okω dL_goods_666 (by decide) ?_
                  refine z_iadd okω dL_goods_667 ?_
                  refine l_ld9 lω okω dL_goods_668 hmω (lx4_1 lω) (by first | assumption | omega) ?_
                  refine z_icmp_ne (tgt := 692) okω dL_goods_669 (by decide) (fun cz669ω => ?_) (fun cz669ω => ?_)
                  · refine z_aload_n okω dL_goods_692 rfl ?_
                    refine z_iload okω dL_goods_693 rfl ?_
                    refine z_iload okω dL_goods_695 rfl ?_
                    have ho697ω := hoω.fr (show zFr M _ (c + 251) 6 from zFr.rf)
                    obtain ⟨fs697ω, hs697ω⟩ := ho697ω.self
                    refine z_callVi okω dL_goods_697 zm_X6_join zw_411 zi_X6_join hs697ω rfl (ho697ω.to_join hNω) rfl rfl (by decide) (by decide) (by decide) (Nat.le_of_ble_eq_true rfl) (fun xz189ω Mz190ω qz191ω => ?_)
                    obtain ⟨hfqω, hxeω, hoqω⟩ := (qz191ω).inl (spJ_np hk31ω hl31ω hggω (fun zω => cz669ω zω.1))
                    have hfzω := ((show zFr M _ (c + 251) 6 from zFr.rf).w (c := c) (by omega) (by omega)).tr (hfqω.w (c := c) (by omega) (by omega))
                    have hm192ω := ((hmω).eqs (rfl)).fr hfqω
                    refine z_ldc okω dL_goods_700 zw_410 ?_
                    refine z_icmp_ne (tgt := 709) okω dL_goods_702 (by decide) (fun q9ω => absurd hxeω q9ω) (fun _ => ?_)
                    refine z_iconst (v := 1) okω dL_goods_705 (by decide) ?_
                    refine z_goto (tgt := 710) okω dL_goods_706 (by decide) ?_
                    exact z_iret okω dL_goods_710 rfl rfl rfl (Nat.zero_le _) ⟨rfl, s, n, ⟨hoqω, hm192ω, hwω, hxω⟩, rfl, hfzω⟩
                  · refine z_aload_n okω dL_goods_672 rfl ?_
                    refine z_iconst (v := 4) okω dL_goods_673 (by decide) ?_
                    refine z_iload okω dL_goods_674 rfl ?_
                    refine z_imul okω dL_goods_676 ?_
                    refine z_iconst (v := 2) okω dL_goods_677 (by decide) ?_
                    refine z_iadd okω dL_goods_678 ?_
                    refine l_ld6 kω okω dL_goods_679 hmω (lx4_2 kω) (by first | assumption | omega) ?_
                    refine z_aload_n okω dL_goods_680 rfl ?_
                    refine z_iconst (v := 4) okω dL_goods_681 (by decide) ?_
                    refine z_iload okω dL_goods_682 rfl ?_
                    refine z_imul okω dL_goods_684 ?_
                    refine z_iconst (v := 2) okω dL_goods_685 (by decide) ?_
                    refine z_iadd okω dL_goods_686 ?_
                    refine l_ld6 lω okω dL_goods_687 hmω (lx4_2 lω) (by first | assumption | omega) ?_
                    refine z_iadd okω dL_goods_688 ?_
                    refine z_if_le (tgt := 711) okω dL_goods_689 (by decide) (fun cz689ω => ?_) (fun cz689ω => ?_)
                    · have hstω := hssω.mp cz689ω
                      have hcdω : gd s kω 9 = gd s lω 9 ∧ gd s kω 6 = 0 ∧ gd s lω 6 = 0 := ⟨cz669ω, hstω.1, hstω.2⟩
                      refine z_iload okω dL_goods_711 rfl ?_
                      refine z_iload okω dL_goods_713 rfl ?_
                      refine z_icmp_ge (tgt := 723) okω dL_goods_715 (by decide) (fun cz715ω => ?_) (fun cz715ω => ?_)
                      · refine z_iload okω dL_goods_723 rfl ?_
                        refine z_istore okω dL_goods_725 (by decide) rfl ?_
                        refine z_iload okω dL_goods_727 rfl ?_
                        refine z_iload okω dL_goods_729 rfl ?_
                        refine z_iadd okω dL_goods_731 ?_
                        refine z_iload okω dL_goods_732 rfl ?_
                        refine z_isub okω dL_goods_734 ?_
                        refine zV_eqi sub_r ?_
                        refine z_istore okω dL_goods_735 (by decide) rfl ?_
                        refine z_iconst (v := 1) okω dL_goods_737 (by decide) ?_
                        refine z_istore okω dL_goods_738 (by decide) rfl ?_
                        refine z_iload okω dL_goods_740 rfl ?_
                        refine z_iconst (v := 4) okω dL_goods_742 (by decide) ?_
                        refine z_icmp_ge (tgt := 773) okω dL_goods_743 (by decide) (fun q9ω => absurd q9ω (by decide)) (fun _ => ?_)
                        refine z_aload_n okω dL_goods_746 rfl ?_
                        refine z_iconst (v := 4) okω dL_goods_747 (by decide) ?_
                        refine z_iload okω dL_goods_748 rfl ?_
                        refine z_imul okω dL_goods_750 ?_
                        refine z_iload okω dL_goods_751 rfl ?_
                        refine z_iadd okω dL_goods_753 ?_
                        refine z_dup2 okω dL_goods_754 rfl rfl ?_
                        refine l_ld1 lω okω dL_goods_755 hmω (lx4_1 lω) (by first | assumption | omega) ?_
                        refine z_aload_n okω dL_goods_756 rfl ?_
                        refine z_iconst (v := 4) okω dL_goods_757 (by decide) ?_
                        refine z_iload okω dL_goods_758 rfl ?_
                        refine z_imul okω dL_goods_760 ?_
                        refine z_iload okω dL_goods_761 rfl ?_
                        refine z_iadd okω dL_goods_763 ?_
                        refine l_ld1 kω okω dL_goods_764 hmω (lx4_1 kω) (by first | assumption | omega) ?_
                        refine z_iadd okω dL_goods_765 ?_
                        refine l_st1 lω okω dL_goods_766 hmω (lx4_1 lω) (by first | assumption | omega) (fun Mz194ω hm193ω frz195ω => ?_)
                        refine z_iinc okω dL_goods_767 rfl (show (1 : Int32) + Int32.ofInt (1) = 2 from by decide) (by decide) rfl ?_
                        refine z_goto (tgt := 740) okω dL_goods_770 (by decide) ?_
                        refine z_iload okω dL_goods_740 rfl ?_
                        refine z_iconst (v := 4) okω dL_goods_742 (by decide) ?_
                        refine z_icmp_ge (tgt := 773) okω dL_goods_743 (by decide) (fun q9ω => absurd q9ω (by decide)) (fun _ => ?_)
                        refine z_aload_n okω dL_goods_746 rfl ?_
                        refine z_iconst (v := 4) okω dL_goods_747 (by decide) ?_
                        refine z_iload okω dL_goods_748 rfl ?_
                        refine z_imul okω dL_goods_750 ?_
                        refine z_iload okω dL_goods_751 rfl ?_
                        refine z_iadd okω dL_goods_753 ?_
                        refine z_dup2 okω dL_goods_754 rfl rfl ?_
                        refine l_ld2 lω okω dL_goods_755 hm193ω (lx4_2 lω) (by first | assumption | omega) ?_
                        refine z_aload_n okω dL_goods_756 rfl ?_
                        refine z_iconst (v := 4) okω dL_goods_757 (by decide) ?_
                        refine z_iload okω dL_goods_758 rfl ?_
                        refine z_imul okω dL_goods_760 ?_
                        refine z_iload okω dL_goods_761 rfl ?_
                        refine z_iadd okω dL_goods_763 ?_
                        refine l_ld2 kω okω dL_goods_764 hm193ω (lx4_2 kω) (by first | assumption | omega) ?_
                        refine z_iadd okω dL_goods_765 ?_
                        refine l_st2 lω okω dL_goods_766 hm193ω (lx4_2 lω) (by first | assumption | omega) (fun Mz197ω hm196ω frz198ω => ?_)
                        refine z_iinc okω dL_goods_767 rfl (show (2 : Int32) + Int32.ofInt (1) = 3 from by decide) (by decide) rfl ?_
                        refine z_goto (tgt := 740) okω dL_goods_770 (by decide) ?_
                        refine z_iload okω dL_goods_740 rfl ?_
                        refine z_iconst (v := 4) okω dL_goods_742 (by decide) ?_
                        refine z_icmp_ge (tgt := 773) okω dL_goods_743 (by decide) (fun q9ω => absurd q9ω (by decide)) (fun _ => ?_)
                        refine z_aload_n okω dL_goods_746 rfl ?_
                        refine z_iconst (v := 4) okω dL_goods_747 (by decide) ?_
                        refine z_iload okω dL_goods_748 rfl ?_
                        refine z_imul okω dL_goods_750 ?_
                        refine z_iload okω dL_goods_751 rfl ?_
                        refine z_iadd okω dL_goods_753 ?_
                        refine z_dup2 okω dL_goods_754 rfl rfl ?_
                        refine l_ld5 lω okω dL_goods_755 hm196ω (lx4_3 lω) (by first | assumption | omega) ?_
                        refine z_aload_n okω dL_goods_756 rfl ?_
                        refine z_iconst (v := 4) okω dL_goods_757 (by decide) ?_
                        refine z_iload okω dL_goods_758 rfl ?_
                        refine z_imul okω dL_goods_760 ?_
                        refine z_iload okω dL_goods_761 rfl ?_
                        refine z_iadd okω dL_goods_763 ?_
                        refine l_ld5 kω okω dL_goods_764 hm196ω (lx4_3 kω) (by first | assumption | omega) ?_
                        refine z_iadd okω dL_goods_765 ?_
                        refine l_st5 lω okω dL_goods_766 hm196ω (lx4_3 lω) (by first | assumption | omega) (fun Mz200ω hm199ω frz201ω => ?_)
                        refine z_iinc okω dL_goods_767 rfl (show (3 : Int32) + Int32.ofInt (1) = 4 from by decide) (by decide) rfl ?_
                        refine z_goto (tgt := 740) okω dL_goods_770 (by decide) ?_
                        refine z_iload okω dL_goods_740 rfl ?_
                        refine z_iconst (v := 4) okω dL_goods_742 (by decide) ?_
                        refine z_icmp_ge (tgt := 773) okω dL_goods_743 (by decide) (fun _ => ?_) (fun q9ω => absurd (by decide) q9ω)
                        refine z_aload okω dL_goods_773 rfl ?_
                        refine z_iconst (v := 4) okω dL_goods_775 (by decide) ?_
                        refine z_iload okω dL_goods_776 rfl ?_
                        refine z_imul okω dL_goods_778 ?_
                        refine z_iconst (v := 2) okω dL_goods_779 (by decide) ?_
                        refine z_iadd okω dL_goods_780 ?_
                        refine z_aload okω dL_goods_781 rfl ?_
                        refine z_iconst (v := 4) okω dL_goods_783 (by decide) ?_
                        refine z_iload okω dL_goods_784 rfl ?_
                        refine z_imul okω dL_goods_786 ?_
                        refine z_iconst (v := 2) okω dL_goods_787 (by decide) ?_
                        refine z_iadd okω dL_goods_788 ?_
                        refine l_ld10 kω okω dL_goods_789 hm199ω (lx4_2 kω) (by first | assumption | omega) ?_
                        refine z_aload okω dL_goods_790 rfl ?_
                        refine z_iconst (v := 4) okω dL_goods_792 (by decide) ?_
                        refine z_iload okω dL_goods_793 rfl ?_
                        refine z_imul okω dL_goods_795 ?_
                        refine z_iconst (v := 2) okω dL_goods_796 (by decide) ?_
                        refine z_iadd okω dL_goods_797 ?_
                        refine l_ld10 lω okω dL_goods_798 hm199ω (lx4_2 lω) (by first | assumption | omega) ?_
                        refine z_icmp_ge (tgt := 814) okω dL_goods_799 (by decide) (fun cz799ω => ?_) (fun cz799ω => ?_)
                        · refine z_aload okω dL_goods_814 rfl ?_
                          refine z_iconst (v := 4) okω dL_goods_816 (by decide) ?_
                          refine z_iload okω dL_goods_817 rfl ?_
                          refine z_imul okω dL_goods_819 ?_
                          refine z_iconst (v := 2) okω dL_goods_820 (by decide) ?_
                          refine z_iadd okω dL_goods_821 ?_
                          refine l_ld10 lω okω dL_goods_822 hm199ω (lx4_2 lω) (by first | assumption | omega) ?_
                          refine l_st10 lω okω dL_goods_823 hm199ω (lx4_2 lω) (by first | assumption | omega) (fun Mz203ω hm202ω frz204ω => ?_)
                          refine z_aload_n okω dL_goods_824 rfl ?_
                          refine z_iconst (v := 4) okω dL_goods_825 (by decide) ?_
                          refine z_iload okω dL_goods_826 rfl ?_
                          refine z_imul okω dL_goods_828 ?_
                          refine z_iconst (v := 2) okω dL_goods_829 (by decide) ?_
                          refine z_iadd okω dL_goods_830 ?_
                          refine z_iconst (v := 5) okω dL_goods_831 (by decide) ?_
                          refine l_st6 kω okω dL_goods_832 hm202ω (lx4_2 kω) (by first | assumption | omega) (fun Mz206ω hm205ω frz207ω => ?_)
                          refine z_aload_n okω dL_goods_833 rfl ?_
                          refine z_iload okω dL_goods_834 rfl ?_
                          refine z_iload okω dL_goods_836 rfl ?_
                          have ho838ω := hoω.fr (show zFr M _ (c + 251) 6 from (zFr.tr frz195ω (zFr.tr frz198ω (zFr.tr frz201ω (zFr.tr frz204ω frz207ω)))))
                          obtain ⟨fs838ω, hs838ω⟩ := ho838ω.self
                          refine z_callVi okω dL_goods_838 zm_X6_join zw_411 zi_X6_join hs838ω rfl (ho838ω.to_join hNω) rfl rfl (by decide) (by decide) (by decide) (Nat.le_of_ble_eq_true rfl) (fun xz208ω Mz209ω qz210ω => ?_)
                          obtain ⟨hfqω, hxeω, hoqω⟩ := (qz210ω).inr (spJ_hi hk31ω hl31ω hggω hcdω (Int32.not_lt.mpr cz715ω))
                          have hfzω := ((show zFr M _ (c + 251) 6 from (zFr.tr frz195ω (zFr.tr frz198ω (zFr.tr frz201ω (zFr.tr frz204ω frz207ω))))).w (c := c) (by omega) (by omega)).tr (hfqω.w (c := c) (by omega) (by omega))
                          have hm211ω := ((hm205ω).eqs (show _ = zJn s lω kω from by unfold zJn; simp only []; first | rw [if_pos (Int32.not_le.mp cz799ω)] | rw [if_neg (Int32.not_lt.mpr cz799ω)])).fr hfqω
                          refine z_iload okω dL_goods_841 rfl ?_
                          refine z_icmp_ne (tgt := 850) okω dL_goods_843 (by decide) (fun q9ω => absurd hxeω q9ω) (fun _ => ?_)
                          refine z_iconst (v := 1) okω dL_goods_846 (by decide) ?_
                          refine z_goto (tgt := 851) okω dL_goods_847 (by decide) ?_
                          exact z_iret okω dL_goods_851 rfl rfl rfl (Nat.zero_le _) ⟨rfl, _, n, ⟨hoqω, hm211ω, by first | exact hwω.join hknω hlnω hklω hstω.1 hstω.2 | exact hwω.join hlnω hknω (Ne.symm hklω) hstω.2 hstω.1, by first | exact hxω.join hwω hknω hlnω hklω hstω.1 hstω.2 | exact hxω.join hwω hlnω hknω (Ne.symm hklω) hstω.2 hstω.1⟩, zJn_o (q := 5) (by omega) (by omega), hfzω⟩
                        · refine z_aload okω dL_goods_802 rfl ?_
                          refine z_iconst (v := 4) okω dL_goods_804 (by decide) ?_
                          refine z_iload okω dL_goods_805 rfl ?_
                          refine z_imul okω dL_goods_807 ?_
                          refine z_iconst (v := 2) okω dL_goods_808 (by decide) ?_
                          refine z_iadd okω dL_goods_809 ?_
                          refine l_ld10 kω okω dL_goods_810 hm199ω (lx4_2 kω) (by first | assumption | omega) ?_
                          refine z_goto (tgt := 823) okω dL_goods_811 (by decide) ?_
                          refine l_st10 lω okω dL_goods_823 hm199ω (lx4_2 lω) (by first | assumption | omega) (fun Mz213ω hm212ω frz214ω => ?_)
                          refine z_aload_n okω dL_goods_824 rfl ?_
                          refine z_iconst (v := 4) okω dL_goods_825 (by decide) ?_
                          refine z_iload okω dL_goods_826 rfl ?_
                          refine z_imul okω dL_goods_828 ?_
                          refine z_iconst (v := 2) okω dL_goods_829 (by decide) ?_
                          refine z_iadd okω dL_goods_830 ?_
                          refine z_iconst (v := 5) okω dL_goods_831 (by decide) ?_
                          refine l_st6 kω okω dL_goods_832 hm212ω (lx4_2 kω) (by first | assumption | omega) (fun Mz216ω hm215ω frz217ω => ?_)
                          refine z_aload_n okω dL_goods_833 rfl ?_
                          refine z_iload okω dL_goods_834 rfl ?_
                          refine z_iload okω dL_goods_836 rfl ?_
                          have ho838ω := hoω.fr (show zFr M _ (c + 251) 6 from (zFr.tr frz195ω (zFr.tr frz198ω (zFr.tr frz201ω (zFr.tr frz214ω frz217ω)))))
                          obtain ⟨fs838ω, hs838ω⟩ := ho838ω.self
                          refine z_callVi okω dL_goods_838 zm_X6_join zw_411 zi_X6_join hs838ω rfl (ho838ω.to_join hNω) rfl rfl (by decide) (by decide) (by decide) (Nat.le_of_ble_eq_true rfl) (fun xz218ω Mz219ω qz220ω => ?_)
                          obtain ⟨hfqω, hxeω, hoqω⟩ := (qz220ω).inr (spJ_hi hk31ω hl31ω hggω hcdω (Int32.not_lt.mpr cz715ω))
                          have hfzω := ((show zFr M _ (c + 251) 6 from (zFr.tr frz195ω (zFr.tr frz198ω (zFr.tr frz201ω (zFr.tr frz214ω frz217ω))))).w (c := c) (by omega) (by omega)).tr (hfqω.w (c := c) (by omega) (by omega))
                          have hm221ω := ((hm215ω).eqs (show _ = zJn s lω kω from by unfold zJn; simp only []; first | rw [if_pos (Int32.not_le.mp cz799ω)] | rw [if_neg (Int32.not_lt.mpr cz799ω)])).fr hfqω
                          refine z_iload okω dL_goods_841 rfl ?_
                          refine z_icmp_ne (tgt := 850) okω dL_goods_843 (by decide) (fun q9ω => absurd hxeω q9ω) (fun _ => ?_)
                          refine z_iconst (v := 1) okω dL_goods_846 (by decide) ?_
                          refine z_goto (tgt := 851) okω dL_goods_847 (by decide) ?_
                          exact z_iret okω dL_goods_851 rfl rfl rfl (Nat.zero_le _) ⟨rfl, _, n, ⟨hoqω, hm221ω, by first | exact hwω.join hknω hlnω hklω hstω.1 hstω.2 | exact hwω.join hlnω hknω (Ne.symm hklω) hstω.2 hstω.1, by first | exact hxω.join hwω hknω hlnω hklω hstω.1 hstω.2 | exact hxω.join hwω hlnω hknω (Ne.symm hklω) hstω.2 hstω.1⟩, zJn_o (q := 5) (by omega) (by omega), hfzω⟩
                      · refine z_iload okω dL_goods_718 rfl ?_
                        refine z_goto (tgt := 725) okω dL_goods_720 (by decide) ?_
                        refine z_istore okω dL_goods_725 (by decide) rfl ?_
                        refine z_iload okω dL_goods_727 rfl ?_
                        refine z_iload okω dL_goods_729 rfl ?_
                        refine z_iadd okω dL_goods_731 ?_
                        refine z_iload okω dL_goods_732 rfl ?_
                        refine z_isub okω dL_goods_734 ?_
                        refine zV_eqi sub_l ?_
                        refine z_istore okω dL_goods_735 (by decide) rfl ?_
                        refine z_iconst (v := 1) okω dL_goods_737 (by decide) ?_
                        refine z_istore okω dL_goods_738 (by decide) rfl ?_
                        refine z_iload okω dL_goods_740 rfl ?_
                        refine z_iconst (v := 4) okω dL_goods_742 (by decide) ?_
                        refine z_icmp_ge (tgt := 773) okω dL_goods_743 (by decide) (fun q9ω => absurd q9ω (by decide)) (fun _ => ?_)
                        refine z_aload_n okω dL_goods_746 rfl ?_
                        refine z_iconst (v := 4) okω dL_goods_747 (by decide) ?_
                        refine z_iload okω dL_goods_748 rfl ?_
                        refine z_imul okω dL_goods_750 ?_
                        refine z_iload okω dL_goods_751 rfl ?_
                        refine z_iadd okω dL_goods_753 ?_
                        refine z_dup2 okω dL_goods_754 rfl rfl ?_
                        refine l_ld1 kω okω dL_goods_755 hmω (lx4_1 kω) (by first | assumption | omega) ?_
                        refine z_aload_n okω dL_goods_756 rfl ?_
                        refine z_iconst (v := 4) okω dL_goods_757 (by decide) ?_
                        refine z_iload okω dL_goods_758 rfl ?_
                        refine z_imul okω dL_goods_760 ?_
                        refine z_iload okω dL_goods_761 rfl ?_
                        refine z_iadd okω dL_goods_763 ?_
                        refine l_ld1 lω okω dL_goods_764 hmω (lx4_1 lω) (by first | assumption | omega) ?_
                        refine z_iadd okω dL_goods_765 ?_
                        refine l_st1 kω okω dL_goods_766 hmω (lx4_1 kω) (by first | assumption | omega) (fun Mz223ω hm222ω frz224ω => ?_)
                        refine z_iinc okω dL_goods_767 rfl (show (1 : Int32) + Int32.ofInt (1) = 2 from by decide) (by decide) rfl ?_
                        refine z_goto (tgt := 740) okω dL_goods_770 (by decide) ?_
                        refine z_iload okω dL_goods_740 rfl ?_
                        refine z_iconst (v := 4) okω dL_goods_742 (by decide) ?_
                        refine z_icmp_ge (tgt := 773) okω dL_goods_743 (by decide) (fun q9ω => absurd q9ω (by decide)) (fun _ => ?_)
                        refine z_aload_n okω dL_goods_746 rfl ?_
                        refine z_iconst (v := 4) okω dL_goods_747 (by decide) ?_
                        refine z_iload okω dL_goods_748 rfl ?_
                        refine z_imul okω dL_goods_750 ?_
                        refine z_iload okω dL_goods_751 rfl ?_
                        refine z_iadd okω dL_goods_753 ?_
                        refine z_dup2 okω dL_goods_754 rfl rfl ?_
                        refine l_ld2 kω okω dL_goods_755 hm222ω (lx4_2 kω) (by first | assumption | omega) ?_
                        refine z_aload_n okω dL_goods_756 rfl ?_
                        refine z_iconst (v := 4) okω dL_goods_757 (by decide) ?_
                        refine z_iload okω dL_goods_758 rfl ?_
                        refine z_imul okω dL_goods_760 ?_
                        refine z_iload okω dL_goods_761 rfl ?_
                        refine z_iadd okω dL_goods_763 ?_
                        refine l_ld2 lω okω dL_goods_764 hm222ω (lx4_2 lω) (by first | assumption | omega) ?_
                        refine z_iadd okω dL_goods_765 ?_
                        refine l_st2 kω okω dL_goods_766 hm222ω (lx4_2 kω) (by first | assumption | omega) (fun Mz226ω hm225ω frz227ω => ?_)
                        refine z_iinc okω dL_goods_767 rfl (show (2 : Int32) + Int32.ofInt (1) = 3 from by decide) (by decide) rfl ?_
                        refine z_goto (tgt := 740) okω dL_goods_770 (by decide) ?_
                        refine z_iload okω dL_goods_740 rfl ?_
                        refine z_iconst (v := 4) okω dL_goods_742 (by decide) ?_
                        refine z_icmp_ge (tgt := 773) okω dL_goods_743 (by decide) (fun q9ω => absurd q9ω (by decide)) (fun _ => ?_)
                        refine z_aload_n okω dL_goods_746 rfl ?_
                        refine z_iconst (v := 4) okω dL_goods_747 (by decide) ?_
                        refine z_iload okω dL_goods_748 rfl ?_
                        refine z_imul okω dL_goods_750 ?_
                        refine z_iload okω dL_goods_751 rfl ?_
                        refine z_iadd okω dL_goods_753 ?_
                        refine z_dup2 okω dL_goods_754 rfl rfl ?_
                        refine l_ld5 kω okω dL_goods_755 hm225ω (lx4_3 kω) (by first | assumption | omega) ?_
                        refine z_aload_n okω dL_goods_756 rfl ?_
                        refine z_iconst (v := 4) okω dL_goods_757 (by decide) ?_
                        refine z_iload okω dL_goods_758 rfl ?_
                        refine z_imul okω dL_goods_760 ?_
                        refine z_iload okω dL_goods_761 rfl ?_
                        refine z_iadd okω dL_goods_763 ?_
                        refine l_ld5 lω okω dL_goods_764 hm225ω (lx4_3 lω) (by first | assumption | omega) ?_
                        refine z_iadd okω dL_goods_765 ?_
                        refine l_st5 kω okω dL_goods_766 hm225ω (lx4_3 kω) (by first | assumption | omega) (fun Mz229ω hm228ω frz230ω => ?_)
                        refine z_iinc okω dL_goods_767 rfl (show (3 : Int32) + Int32.ofInt (1) = 4 from by decide) (by decide) rfl ?_
                        refine z_goto (tgt := 740) okω dL_goods_770 (by decide) ?_
                        refine z_iload okω dL_goods_740 rfl ?_
                        refine z_iconst (v := 4) okω dL_goods_742 (by decide) ?_
                        refine z_icmp_ge (tgt := 773) okω dL_goods_743 (by decide) (fun _ => ?_) (fun q9ω => absurd (by decide) q9ω)
                        refine z_aload okω dL_goods_773 rfl ?_
                        refine z_iconst (v := 4) okω dL_goods_775 (by decide) ?_
                        refine z_iload okω dL_goods_776 rfl ?_
                        refine z_imul okω dL_goods_778 ?_
                        refine z_iconst (v := 2) okω dL_goods_779 (by decide) ?_
                        refine z_iadd okω dL_goods_780 ?_
                        refine z_aload okω dL_goods_781 rfl ?_
                        refine z_iconst (v := 4) okω dL_goods_783 (by decide) ?_
                        refine z_iload okω dL_goods_784 rfl ?_
                        refine z_imul okω dL_goods_786 ?_
                        refine z_iconst (v := 2) okω dL_goods_787 (by decide) ?_
                        refine z_iadd okω dL_goods_788 ?_
                        refine l_ld10 lω okω dL_goods_789 hm228ω (lx4_2 lω) (by first | assumption | omega) ?_
                        refine z_aload okω dL_goods_790 rfl ?_
                        refine z_iconst (v := 4) okω dL_goods_792 (by decide) ?_
                        refine z_iload okω dL_goods_793 rfl ?_
                        refine z_imul okω dL_goods_795 ?_
                        refine z_iconst (v := 2) okω dL_goods_796 (by decide) ?_
                        refine z_iadd okω dL_goods_797 ?_
                        refine l_ld10 kω okω dL_goods_798 hm228ω (lx4_2 kω) (by first | assumption | omega) ?_
                        refine z_icmp_ge (tgt := 814) okω dL_goods_799 (by decide) (fun cz799ω => ?_) (fun cz799ω => ?_)
                        · refine z_aload okω dL_goods_814 rfl ?_
                          refine z_iconst (v := 4) okω dL_goods_816 (by decide) ?_
                          refine z_iload okω dL_goods_817 rfl ?_
                          refine z_imul okω dL_goods_819 ?_
                          refine z_iconst (v := 2) okω dL_goods_820 (by decide) ?_
                          refine z_iadd okω dL_goods_821 ?_
                          refine l_ld10 kω okω dL_goods_822 hm228ω (lx4_2 kω) (by first | assumption | omega) ?_
                          refine l_st10 kω okω dL_goods_823 hm228ω (lx4_2 kω) (by first | assumption | omega) (fun Mz232ω hm231ω frz233ω => ?_)
                          refine z_aload_n okω dL_goods_824 rfl ?_
                          refine z_iconst (v := 4) okω dL_goods_825 (by decide) ?_
                          refine z_iload okω dL_goods_826 rfl ?_
                          refine z_imul okω dL_goods_828 ?_
                          refine z_iconst (v := 2) okω dL_goods_829 (by decide) ?_
                          refine z_iadd okω dL_goods_830 ?_
                          refine z_iconst (v := 5) okω dL_goods_831 (by decide) ?_
                          refine l_st6 lω okω dL_goods_832 hm231ω (lx4_2 lω) (by first | assumption | omega) (fun Mz235ω hm234ω frz236ω => ?_)
                          refine z_aload_n okω dL_goods_833 rfl ?_
                          refine z_iload okω dL_goods_834 rfl ?_
                          refine z_iload okω dL_goods_836 rfl ?_
                          have ho838ω := hoω.fr (show zFr M _ (c + 251) 6 from (zFr.tr frz224ω (zFr.tr frz227ω (zFr.tr frz230ω (zFr.tr frz233ω frz236ω)))))
                          obtain ⟨fs838ω, hs838ω⟩ := ho838ω.self
                          refine z_callVi okω dL_goods_838 zm_X6_join zw_411 zi_X6_join hs838ω rfl (ho838ω.to_join hNω) rfl rfl (by decide) (by decide) (by decide) (Nat.le_of_ble_eq_true rfl) (fun xz237ω Mz238ω qz239ω => ?_)
                          obtain ⟨hfqω, hxeω, hoqω⟩ := (qz239ω).inr (spJ_lo hk31ω hl31ω hggω hcdω (Int32.not_le.mp cz715ω))
                          have hfzω := ((show zFr M _ (c + 251) 6 from (zFr.tr frz224ω (zFr.tr frz227ω (zFr.tr frz230ω (zFr.tr frz233ω frz236ω))))).w (c := c) (by omega) (by omega)).tr (hfqω.w (c := c) (by omega) (by omega))
                          have hm240ω := ((hm234ω).eqs (show _ = zJn s kω lω from by unfold zJn; simp only []; first | rw [if_pos (Int32.not_le.mp cz799ω)] | rw [if_neg (Int32.not_lt.mpr cz799ω)])).fr hfqω
                          refine z_iload okω dL_goods_841 rfl ?_
                          refine z_icmp_ne (tgt := 850) okω dL_goods_843 (by decide) (fun q9ω => absurd hxeω q9ω) (fun _ => ?_)
                          refine z_iconst (v := 1) okω dL_goods_846 (by decide) ?_
                          refine z_goto (tgt := 851) okω dL_goods_847 (by decide) ?_
                          exact z_iret okω dL_goods_851 rfl rfl rfl (Nat.zero_le _) ⟨rfl, _, n, ⟨hoqω, hm240ω, by first | exact hwω.join hknω hlnω hklω hstω.1 hstω.2 | exact hwω.join hlnω hknω (Ne.symm hklω) hstω.2 hstω.1, by first | exact hxω.join hwω hknω hlnω hklω hstω.1 hstω.2 | exact hxω.join hwω hlnω hknω (Ne.symm hklω) hstω.2 hstω.1⟩, zJn_o (q := 5) (by omega) (by omega), hfzω⟩
                        · refine z_aload okω dL_goods_802 rfl ?_
                          refine z_iconst (v := 4) okω dL_goods_804 (by decide) ?_
                          refine z_iload okω dL_goods_805 rfl ?_
                          refine z_imul okω dL_goods_807 ?_
                          refine z_iconst (v := 2) okω dL_goods_808 (by decide) ?_
                          refine z_iadd okω dL_goods_809 ?_
                          refine l_ld10 lω okω dL_goods_810 hm228ω (lx4_2 lω) (by first | assumption | omega) ?_
                          refine z_goto (tgt := 823) okω dL_goods_811 (by decide) ?_
                          refine l_st10 kω okω dL_goods_823 hm228ω (lx4_2 kω) (by first | assumption | omega) (fun Mz242ω hm241ω frz243ω => ?_)
                          refine z_aload_n okω dL_goods_824 rfl ?_
                          refine z_iconst (v := 4) okω dL_goods_825 (by decide) ?_
                          refine z_iload okω dL_goods_826 rfl ?_
                          refine z_imul okω dL_goods_828 ?_
                          refine z_iconst (v := 2) okω dL_goods_829 (by decide) ?_
                          refine z_iadd okω dL_goods_830 ?_
                          refine z_iconst (v := 5) okω dL_goods_831 (by decide) ?_
                          refine l_st6 lω okω dL_goods_832 hm241ω (lx4_2 lω) (by first | assumption | omega) (fun Mz245ω hm244ω frz246ω => ?_)
                          refine z_aload_n okω dL_goods_833 rfl ?_
                          refine z_iload okω dL_goods_834 rfl ?_
                          refine z_iload okω dL_goods_836 rfl ?_
                          have ho838ω := hoω.fr (show zFr M _ (c + 251) 6 from (zFr.tr frz224ω (zFr.tr frz227ω (zFr.tr frz230ω (zFr.tr frz243ω frz246ω)))))
                          obtain ⟨fs838ω, hs838ω⟩ := ho838ω.self
                          refine z_callVi okω dL_goods_838 zm_X6_join zw_411 zi_X6_join hs838ω rfl (ho838ω.to_join hNω) rfl rfl (by decide) (by decide) (by decide) (Nat.le_of_ble_eq_true rfl) (fun xz247ω Mz248ω qz249ω => ?_)
                          obtain ⟨hfqω, hxeω, hoqω⟩ := (qz249ω).inr (spJ_lo hk31ω hl31ω hggω hcdω (Int32.not_le.mp cz715ω))
                          have hfzω := ((show zFr M _ (c + 251) 6 from (zFr.tr frz224ω (zFr.tr frz227ω (zFr.tr frz230ω (zFr.tr frz243ω frz246ω))))).w (c := c) (by omega) (by omega)).tr (hfqω.w (c := c) (by omega) (by omega))
                          have hm250ω := ((hm244ω).eqs (show _ = zJn s kω lω from by unfold zJn; simp only []; first | rw [if_pos (Int32.not_le.mp cz799ω)] | rw [if_neg (Int32.not_lt.mpr cz799ω)])).fr hfqω
                          refine z_iload okω dL_goods_841 rfl ?_
                          refine z_icmp_ne (tgt := 850) okω dL_goods_843 (by decide) (fun q9ω => absurd hxeω q9ω) (fun _ => ?_)
                          refine z_iconst (v := 1) okω dL_goods_846 (by decide) ?_
                          refine z_goto (tgt := 851) okω dL_goods_847 (by decide) ?_
                          exact z_iret okω dL_goods_851 rfl rfl rfl (Nat.zero_le _) ⟨rfl, _, n, ⟨hoqω, hm250ω, by first | exact hwω.join hknω hlnω hklω hstω.1 hstω.2 | exact hwω.join hlnω hknω (Ne.symm hklω) hstω.2 hstω.1, by first | exact hxω.join hwω hknω hlnω hklω hstω.1 hstω.2 | exact hxω.join hwω hlnω hknω (Ne.symm hklω) hstω.2 hstω.1⟩, zJn_o (q := 5) (by omega) (by omega), hfzω⟩
                    · refine z_aload_n okω dL_goods_692 rfl ?_
                      refine z_iload okω dL_goods_693 rfl ?_
                      refine z_iload okω dL_goods_695 rfl ?_
                      have ho697ω := hoω.fr (show zFr M _ (c + 251) 6 from zFr.rf)
                      obtain ⟨fs697ω, hs697ω⟩ := ho697ω.self
                      refine z_callVi okω dL_goods_697 zm_X6_join zw_411 zi_X6_join hs697ω rfl (ho697ω.to_join hNω) rfl rfl (by decide) (by decide) (by decide) (Nat.le_of_ble_eq_true rfl) (fun xz251ω Mz252ω qz253ω => ?_)
                      obtain ⟨hfqω, hxeω, hoqω⟩ := (qz253ω).inl (spJ_np hk31ω hl31ω hggω (fun zω => cz689ω (hssω.mpr zω.2)))
                      have hfzω := ((show zFr M _ (c + 251) 6 from zFr.rf).w (c := c) (by omega) (by omega)).tr (hfqω.w (c := c) (by omega) (by omega))
                      have hm254ω := ((hmω).eqs (rfl)).fr hfqω
                      refine z_ldc okω dL_goods_700 zw_410 ?_
                      refine z_icmp_ne (tgt := 709) okω dL_goods_702 (by decide) (fun q9ω => absurd hxeω q9ω) (fun _ => ?_)
                      refine z_iconst (v := 1) okω dL_goods_705 (by decide) ?_
                      refine z_goto (tgt := 710) okω dL_goods_706 (by decide) ?_
                      exact z_iret okω dL_goods_710 rfl rfl rfl (Nat.zero_le _) ⟨rfl, s, n, ⟨hoqω, hm254ω, hwω, hxω⟩, rfl, hfzω⟩
                · refine z_aload_n okω dL_goods_632 rfl ?_
                  refine z_iload okω dL_goods_633 rfl ?_
                  refine z_iload okω dL_goods_635 rfl ?_
                  have ho637ω := hoω.fr (show zFr M _ (c + 251) 6 from zFr.rf)
                  obtain ⟨fs637ω, hs637ω⟩ := ho637ω.self
                  refine z_callVi okω dL_goods_637 zm_X6_join zw_411 zi_X6_join hs637ω rfl (ho637ω.to_join hNω) rfl rfl (by decide) (by decide) (by decide) (Nat.le_of_ble_eq_true rfl) (fun xz255ω Mz256ω qz257ω => ?_)
                  obtain ⟨hfqω, hxeω, hoqω⟩ := (qz257ω).inl (spJ_no (fun zω => zω.2.2 cz629ω))
                  have hfzω := ((show zFr M _ (c + 251) 6 from zFr.rf).w (c := c) (by omega) (by omega)).tr (hfqω.w (c := c) (by omega) (by omega))
                  have hm258ω := ((hmω).eqs (rfl)).fr hfqω
                  refine z_ldc okω dL_goods_640 zw_409 ?_
                  refine z_icmp_ne (tgt := 649) okω dL_goods_642 (by decide) (fun q9ω => absurd hxeω q9ω) (fun _ => ?_)
                  refine z_iconst (v := 1) okω dL_goods_645 (by decide) ?_
                  refine z_goto (tgt := 650) okω dL_goods_646 (by decide) ?_
                  exact z_iret okω dL_goods_650 rfl rfl rfl (Nat.zero_le _) ⟨rfl, s, n, ⟨hoqω, hm258ω, hwω, hxω⟩, rfl, hfzω⟩
          · have hnpω : 0 < n := (Nat.eq_zero_or_pos n).elim (fun zω => absurd (show s 3 ≤ 0 from by rw [hNω.1, zω]; decide) cz548ω) id
            have hknω := hk1ω hnpω
            have hlnω := hl1ω hnpω
            refine z_iload okω dL_goods_551 rfl ?_
            refine z_iload okω dL_goods_553 rfl ?_
            refine z_icmp_eq (tgt := 589) okω dL_goods_555 (by decide) (fun cz555ω => ?_) (fun cz555ω => ?_)
            · refine z_iload okω dL_goods_589 rfl ?_
              refine z_iconst (v := 1) okω dL_goods_591 (by decide) ?_
              refine z_iadd okω dL_goods_592 ?_
              refine z_aload_n okω dL_goods_593 rfl ?_
              refine z_iconst (v := 3) okω dL_goods_594 (by decide) ?_
              refine l_ldG (t := 3) okω dL_goods_595 hmω rfl (by decide) ?_
              refine z_irem okω dL_goods_596 (by rw [hNω.1]; exact fun zω => absurd (nI_eq0 (by omega) zω) (by omega)) ?_
              refine zV_eqi (show _ = nI ((lω + 1) % n) from by rw [hNω.1, nI_1, pk_rem (by omega) hnpω (by omega)]) ?_
              refine z_istore okω dL_goods_597 (by decide) rfl ?_
              refine z_iinc okω dL_goods_599 rfl (zinc2 _) (by decide) rfl ?_
              refine z_goto (tgt := 531) okω dL_goods_602 (by decide) ?_
              exact ih6ω (i6ω + 1) ((lω + 1) % n) (by omega) (by omega) (fun zω => Nat.mod_lt _ zω) (fun zω => absurd zω (by omega))
            · refine z_aload okω dL_goods_558 rfl ?_
              refine z_iconst (v := 4) okω dL_goods_560 (by decide) ?_
              refine z_iload okω dL_goods_561 rfl ?_
              refine z_imul okω dL_goods_563 ?_
              refine z_iconst (v := 1) okω dL_goods_564 (by decide) ?_
              refine z_iadd okω dL_goods_565 ?_
              refine l_ld9 lω okω dL_goods_566 hmω (lx4_1 lω) (by first | assumption | omega) ?_
              refine z_aload okω dL_goods_567 rfl ?_
              refine z_iconst (v := 4) okω dL_goods_569 (by decide) ?_
              refine z_iload okω dL_goods_570 rfl ?_
              refine z_imul okω dL_goods_572 ?_
              refine z_iconst (v := 1) okω dL_goods_573 (by decide) ?_
              refine z_iadd okω dL_goods_574 ?_
              refine l_ld9 kω okω dL_goods_575 hmω (lx4_1 kω) (by first | assumption | omega) ?_
              refine z_icmp_ne (tgt := 589) okω dL_goods_576 (by decide) (fun cz576ω => ?_) (fun cz576ω => ?_)
              · refine z_iload okω dL_goods_589 rfl ?_
                refine z_iconst (v := 1) okω dL_goods_591 (by decide) ?_
                refine z_iadd okω dL_goods_592 ?_
                refine z_aload_n okω dL_goods_593 rfl ?_
                refine z_iconst (v := 3) okω dL_goods_594 (by decide) ?_
                refine l_ldG (t := 3) okω dL_goods_595 hmω rfl (by decide) ?_
                refine z_irem okω dL_goods_596 (by rw [hNω.1]; exact fun zω => absurd (nI_eq0 (by omega) zω) (by omega)) ?_
                refine zV_eqi (show _ = nI ((lω + 1) % n) from by rw [hNω.1, nI_1, pk_rem (by omega) hnpω (by omega)]) ?_
                refine z_istore okω dL_goods_597 (by decide) rfl ?_
                refine z_iinc okω dL_goods_599 rfl (zinc2 _) (by decide) rfl ?_
                refine z_goto (tgt := 531) okω dL_goods_602 (by decide) ?_
                exact ih6ω (i6ω + 1) ((lω + 1) % n) (by omega) (by omega) (fun zω => Nat.mod_lt _ zω) (fun zω => absurd zω (by omega))
              · refine z_aload_n okω dL_goods_579 rfl ?_
                refine z_aload_n okω dL_goods_580 rfl ?_
                refine z_iload okω dL_goods_581 rfl ?_
                refine z_callSi okω dL_goods_583 zm_L_is zw_390 zw_391 (ct_L_is hmω hwω) rfl rfl (by decide) (by decide) (by decide) (Nat.le_of_ble_eq_true rfl) (fun xz259ω Mz260ω qz261ω => ?_)
                obtain ⟨rfl, hMeω⟩ := qz261ω
                obtain rfl := hMeω.symm
                refine z_if_ne (tgt := 605) okω dL_goods_586 (by decide) (fun cz586ω => ?_) (fun cz586ω => ?_)
                · have hk31ω : kω < 2 ^ 31 := (Nat.eq_zero_or_pos n).elim (fun zω => by have := hk2ω zω; omega) (fun zω => by have := hk1ω zω; omega)
                  have hl31ω : lω < 2 ^ 31 := (Nat.eq_zero_or_pos n).elim (fun zω => by have := hl2ω zω; omega) (fun zω => by have := hl1ω zω; omega)
                  refine z_aload_n okω dL_goods_605 rfl ?_
                  refine z_aload_n okω dL_goods_606 rfl ?_
                  refine z_iload okω dL_goods_607 rfl ?_
                  refine z_callSi okω dL_goods_609 zm_L_is zw_390 zw_391 (ct_L_is hmω hwω) rfl rfl (by decide) (by decide) (by decide) (Nat.le_of_ble_eq_true rfl) (fun xz262ω Mz263ω qz264ω => ?_)
                  obtain ⟨rfl, hMeω⟩ := qz264ω
                  obtain rfl := hMeω.symm
                  refine z_if_eq (tgt := 632) okω dL_goods_612 (by decide) (fun cz612ω => ?_) (fun cz612ω => ?_)
                  · have hgkω := b2_0.mp cz612ω
                    refine z_aload_n okω dL_goods_632 rfl ?_
                    refine z_iload okω dL_goods_633 rfl ?_
                    refine z_iload okω dL_goods_635 rfl ?_
                    have ho637ω := hoω.fr (show zFr M _ (c + 251) 6 from zFr.rf)
                    obtain ⟨fs637ω, hs637ω⟩ := ho637ω.self
                    refine z_callVi okω dL_goods_637 zm_X6_join zw_411 zi_X6_join hs637ω rfl (ho637ω.to_join hNω) rfl rfl (by decide) (by decide) (by decide) (Nat.le_of_ble_eq_true rfl) (fun xz265ω Mz266ω qz267ω => ?_)
                    obtain ⟨hfqω, hxeω, hoqω⟩ := (qz267ω).inl (spJ_no (fun zω => hgkω zω.1))
                    have hfzω := ((show zFr M _ (c + 251) 6 from zFr.rf).w (c := c) (by omega) (by omega)).tr (hfqω.w (c := c) (by omega) (by omega))
                    have hm268ω := ((hmω).eqs (rfl)).fr hfqω
                    refine z_ldc okω dL_goods_640 zw_409 ?_
                    refine z_icmp_ne (tgt := 649) okω dL_goods_642 (by decide) (fun q9ω => absurd hxeω q9ω) (fun _ => ?_)
                    refine z_iconst (v := 1) okω dL_goods_645 (by decide) ?_
                    refine z_goto (tgt := 650) okω dL_goods_646 (by decide) ?_
                    exact z_iret okω dL_goods_650 rfl rfl rfl (Nat.zero_le _) ⟨rfl, s, n, ⟨hoqω, hm268ω, hwω, hxω⟩, rfl, hfzω⟩
                  · have hgkω := Decidable.not_not.mp (mt b2_0.mpr cz612ω)
                    refine z_aload_n okω dL_goods_615 rfl ?_
                    refine z_aload_n okω dL_goods_616 rfl ?_
                    refine z_iload okω dL_goods_617 rfl ?_
                    refine z_callSi okω dL_goods_619 zm_L_is zw_390 zw_391 (ct_L_is hmω hwω) rfl rfl (by decide) (by decide) (by decide) (Nat.le_of_ble_eq_true rfl) (fun xz269ω Mz270ω qz271ω => ?_)
                    obtain ⟨rfl, hMeω⟩ := qz271ω
                    obtain rfl := hMeω.symm
                    refine z_if_eq (tgt := 632) okω dL_goods_622 (by decide) (fun cz622ω => ?_) (fun cz622ω => ?_)
                    · have hglω := b2_0.mp cz622ω
                      refine z_aload_n okω dL_goods_632 rfl ?_
                      refine z_iload okω dL_goods_633 rfl ?_
                      refine z_iload okω dL_goods_635 rfl ?_
                      have ho637ω := hoω.fr (show zFr M _ (c + 251) 6 from zFr.rf)
                      obtain ⟨fs637ω, hs637ω⟩ := ho637ω.self
                      refine z_callVi okω dL_goods_637 zm_X6_join zw_411 zi_X6_join hs637ω rfl (ho637ω.to_join hNω) rfl rfl (by decide) (by decide) (by decide) (Nat.le_of_ble_eq_true rfl) (fun xz272ω Mz273ω qz274ω => ?_)
                      obtain ⟨hfqω, hxeω, hoqω⟩ := (qz274ω).inl (spJ_no (fun zω => hglω zω.2.1))
                      have hfzω := ((show zFr M _ (c + 251) 6 from zFr.rf).w (c := c) (by omega) (by omega)).tr (hfqω.w (c := c) (by omega) (by omega))
                      have hm275ω := ((hmω).eqs (rfl)).fr hfqω
                      refine z_ldc okω dL_goods_640 zw_409 ?_
                      refine z_icmp_ne (tgt := 649) okω dL_goods_642 (by decide) (fun q9ω => absurd hxeω q9ω) (fun _ => ?_)
                      refine z_iconst (v := 1) okω dL_goods_645 (by decide) ?_
                      refine z_goto (tgt := 650) okω dL_goods_646 (by decide) ?_
                      exact z_iret okω dL_goods_650 rfl rfl rfl (Nat.zero_le _) ⟨rfl, s, n, ⟨hoqω, hm275ω, hwω, hxω⟩, rfl, hfzω⟩
                    · have hglω := Decidable.not_not.mp (mt b2_0.mpr cz622ω)
                      refine z_iload okω dL_goods_625 rfl ?_
                      refine z_iload okω dL_goods_627 rfl ?_
                      refine z_icmp_ne (tgt := 651) okω dL_goods_629 (by decide) (fun cz629ω => ?_) (fun cz629ω => ?_)
                      · have hknω : kω < n := (zGoods_n hNω hgkω hk31ω).1
                        have hlnω : lω < n := (zGoods_n hNω hglω hl31ω).1
                        have hklω : kω ≠ lω := fun zω => cz629ω (by rw [zω])
                        have hggω : zGoods s (nI kω) ∧ zGoods s (nI lω) ∧ ¬ nI kω = nI lω := ⟨hgkω, hglω, cz629ω⟩
                        have hssω := st_sum (hwω.g kω hknω).2.2.2.2.1 (hwω.g lω hlnω).2.2.2.2.1
                        refine z_aload okω dL_goods_651 rfl ?_
                        refine z_iconst (v := 4) okω dL_goods_653 (by decide) ?_
                        refine z_iload okω dL_goods_654 rfl ?_
                        refine z_imul okω dL_goods_656 ?_
                        refine z_iconst (v := 1) okω dL_goods_657 (by decide) ?_
                        refine z_iadd okω dL_goods_658 ?_
                        refine l_ld9 kω okω dL_goods_659 hmω (lx4_1 kω) (by first | assumption | omega) ?_
                        refine z_aload okω dL_goods_660 rfl ?_
                        refine z_iconst (v := 4) okω dL_goods_662 (by decide) ?_
                        refine z_iload okω dL_goods_663 rfl ?_
                        refine z_imul okω dL_goods_665 ?_
                        refine z_iconst (v := 1) okω dL_goods_666 (by decide) ?_
                        refine z_iadd okω dL_goods_667 ?_
                        refine l_ld9 lω okω dL_goods_668 hmω (lx4_1 lω) (by first | assumption | omega) ?_
                        refine z_icmp_ne (tgt := 692) okω dL_goods_669 (by decide) (fun cz669ω => ?_) (fun cz669ω => ?_)
                        · refine z_aload_n okω dL_goods_692 rfl ?_
                          refine z_iload okω dL_goods_693 rfl ?_
                          refine z_iload okω dL_goods_695 rfl ?_
                          have ho697ω := hoω.fr (show zFr M _ (c + 251) 6 from zFr.rf)
                          obtain ⟨fs697ω, hs697ω⟩ := ho697ω.self
                          refine z_callVi okω dL_goods_697 zm_X6_join zw_411 zi_X6_join hs697ω rfl (ho697ω.to_join hNω) rfl rfl (by decide) (by decide) (by decide) (Nat.le_of_ble_eq_true rfl) (fun xz276ω Mz277ω qz278ω => ?_)
                          obtain ⟨hfqω, hxeω, hoqω⟩ := (qz278ω).inl (spJ_np hk31ω hl31ω hggω (fun zω => cz669ω zω.1))
                          have hfzω := ((show zFr M _ (c + 251) 6 from zFr.rf).w (c := c) (by omega) (by omega)).tr (hfqω.w (c := c) (by omega) (by omega))
                          have hm279ω := ((hmω).eqs (rfl)).fr hfqω
                          refine z_ldc okω dL_goods_700 zw_410 ?_
                          refine z_icmp_ne (tgt := 709) okω dL_goods_702 (by decide) (fun q9ω => absurd hxeω q9ω) (fun _ => ?_)
                          refine z_iconst (v := 1) okω dL_goods_705 (by decide) ?_
                          refine z_goto (tgt := 710) okω dL_goods_706 (by decide) ?_
                          exact z_iret okω dL_goods_710 rfl rfl rfl (Nat.zero_le _) ⟨rfl, s, n, ⟨hoqω, hm279ω, hwω, hxω⟩, rfl, hfzω⟩
                        · refine z_aload_n okω dL_goods_672 rfl ?_
                          refine z_iconst (v := 4) okω dL_goods_673 (by decide) ?_
                          refine z_iload okω dL_goods_674 rfl ?_
                          refine z_imul okω dL_goods_676 ?_
                          refine z_iconst (v := 2) okω dL_goods_677 (by decide) ?_
                          refine z_iadd okω dL_goods_678 ?_
                          refine l_ld6 kω okω dL_goods_679 hmω (lx4_2 kω) (by first | assumption | omega) ?_
                          refine z_aload_n okω dL_goods_680 rfl ?_
                          refine z_iconst (v := 4) okω dL_goods_681 (by decide) ?_
                          refine z_iload okω dL_goods_682 rfl ?_
                          refine z_imul okω dL_goods_684 ?_
                          refine z_iconst (v := 2) okω dL_goods_685 (by decide) ?_
                          refine z_iadd okω dL_goods_686 ?_
                          refine l_ld6 lω okω dL_goods_687 hmω (lx4_2 lω) (by first | assumption | omega) ?_
                          refine z_iadd okω dL_goods_688 ?_
                          refine z_if_le (tgt := 711) okω dL_goods_689 (by decide) (fun cz689ω => ?_) (fun cz689ω => ?_)
                          · have hstω := hssω.mp cz689ω
                            have hcdω : gd s kω 9 = gd s lω 9 ∧ gd s kω 6 = 0 ∧ gd s lω 6 = 0 := ⟨cz669ω, hstω.1, hstω.2⟩
                            refine z_iload okω dL_goods_711 rfl ?_
                            refine z_iload okω dL_goods_713 rfl ?_
                            refine z_icmp_ge (tgt := 723) okω dL_goods_715 (by decide) (fun cz715ω => ?_) (fun cz715ω => ?_)
                            · refine z_iload okω dL_goods_723 rfl ?_
                              refine z_istore okω dL_goods_725 (by decide) rfl ?_
                              refine z_iload okω dL_goods_727 rfl ?_
                              refine z_iload okω dL_goods_729 rfl ?_
                              refine z_iadd okω dL_goods_731 ?_
                              refine z_iload okω dL_goods_732 rfl ?_
                              refine z_isub okω dL_goods_734 ?_
                              refine zV_eqi sub_r ?_
                              refine z_istore okω dL_goods_735 (by decide) rfl ?_
                              refine z_iconst (v := 1) okω dL_goods_737 (by decide) ?_
                              refine z_istore okω dL_goods_738 (by decide) rfl ?_
                              refine z_iload okω dL_goods_740 rfl ?_
                              refine z_iconst (v := 4) okω dL_goods_742 (by decide) ?_
                              refine z_icmp_ge (tgt := 773) okω dL_goods_743 (by decide) (fun q9ω => absurd q9ω (by decide)) (fun _ => ?_)
                              refine z_aload_n okω dL_goods_746 rfl ?_
                              refine z_iconst (v := 4) okω dL_goods_747 (by decide) ?_
                              refine z_iload okω dL_goods_748 rfl ?_
                              refine z_imul okω dL_goods_750 ?_
                              refine z_iload okω dL_goods_751 rfl ?_
                              refine z_iadd okω dL_goods_753 ?_
                              refine z_dup2 okω dL_goods_754 rfl rfl ?_
                              refine l_ld1 lω okω dL_goods_755 hmω (lx4_1 lω) (by first | assumption | omega) ?_
                              refine z_aload_n okω dL_goods_756 rfl ?_
                              refine z_iconst (v := 4) okω dL_goods_757 (by decide) ?_
                              refine z_iload okω dL_goods_758 rfl ?_
                              refine z_imul okω dL_goods_760 ?_
                              refine z_iload okω dL_goods_761 rfl ?_
                              refine z_iadd okω dL_goods_763 ?_
                              refine l_ld1 kω okω dL_goods_764 hmω (lx4_1 kω) (by first | assumption | omega) ?_
                              refine z_iadd okω dL_goods_765 ?_
                              refine l_st1 lω okω dL_goods_766 hmω (lx4_1 lω) (by first | assumption | omega) (fun Mz281ω hm280ω frz282ω => ?_)
                              refine z_iinc okω dL_goods_767 rfl (show (1 : Int32) + Int32.ofInt (1) = 2 from by decide) (by decide) rfl ?_
                              refine z_goto (tgt := 740) okω dL_goods_770 (by decide) ?_
                              refine z_iload okω dL_goods_740 rfl ?_
                              refine z_iconst (v := 4) okω dL_goods_742 (by decide) ?_
                              refine z_icmp_ge (tgt := 773) okω dL_goods_743 (by decide) (fun q9ω => absurd q9ω (by decide)) (fun _ => ?_)
                              refine z_aload_n okω dL_goods_746 rfl ?_
                              refine z_iconst (v := 4) okω dL_goods_747 (by decide) ?_
                              refine z_iload okω dL_goods_748 rfl ?_
                              refine z_imul okω dL_goods_750 ?_
                              refine z_iload okω dL_goods_751 rfl ?_
                              refine z_iadd okω dL_goods_753 ?_
                              refine z_dup2 okω dL_goods_754 rfl rfl ?_
                              refine l_ld2 lω okω dL_goods_755 hm280ω (lx4_2 lω) (by first | assumption | omega) ?_
                              refine z_aload_n okω dL_goods_756 rfl ?_
                              refine z_iconst (v := 4) okω dL_goods_757 (by decide) ?_
                              refine z_iload okω dL_goods_758 rfl ?_
                              refine z_imul okω dL_goods_760 ?_
                              refine z_iload okω dL_goods_761 rfl ?_
                              refine z_iadd okω dL_goods_763 ?_
                              refine l_ld2 kω okω dL_goods_764 hm280ω (lx4_2 kω) (by first | assumption | omega) ?_
                              refine z_iadd okω dL_goods_765 ?_
                              refine l_st2 lω okω dL_goods_766 hm280ω (lx4_2 lω) (by first | assumption | omega) (fun Mz284ω hm283ω frz285ω => ?_)
                              refine z_iinc okω dL_goods_767 rfl (show (2 : Int32) + Int32.ofInt (1) = 3 from by decide) (by decide) rfl ?_
                              refine z_goto (tgt := 740) okω dL_goods_770 (by decide) ?_
                              refine z_iload okω dL_goods_740 rfl ?_
                              refine z_iconst (v := 4) okω dL_goods_742 (by decide) ?_
                              refine z_icmp_ge (tgt := 773) okω dL_goods_743 (by decide) (fun q9ω => absurd q9ω (by decide)) (fun _ => ?_)
                              refine z_aload_n okω dL_goods_746 rfl ?_
                              refine z_iconst (v := 4) okω dL_goods_747 (by decide) ?_
                              refine z_iload okω dL_goods_748 rfl ?_
                              refine z_imul okω dL_goods_750 ?_
                              refine z_iload okω dL_goods_751 rfl ?_
                              refine z_iadd okω dL_goods_753 ?_
                              refine z_dup2 okω dL_goods_754 rfl rfl ?_
                              refine l_ld5 lω okω dL_goods_755 hm283ω (lx4_3 lω) (by first | assumption | omega) ?_
                              refine z_aload_n okω dL_goods_756 rfl ?_
                              refine z_iconst (v := 4) okω dL_goods_757 (by decide) ?_
                              refine z_iload okω dL_goods_758 rfl ?_
                              refine z_imul okω dL_goods_760 ?_
                              refine z_iload okω dL_goods_761 rfl ?_
                              refine z_iadd okω dL_goods_763 ?_
                              refine l_ld5 kω okω dL_goods_764 hm283ω (lx4_3 kω) (by first | assumption | omega) ?_
                              refine z_iadd okω dL_goods_765 ?_
                              refine l_st5 lω okω dL_goods_766 hm283ω (lx4_3 lω) (by first | assumption | omega) (fun Mz287ω hm286ω frz288ω => ?_)
                              refine z_iinc okω dL_goods_767 rfl (show (3 : Int32) + Int32.ofInt (1) = 4 from by decide) (by decide) rfl ?_
                              refine z_goto (tgt := 740) okω dL_goods_770 (by decide) ?_
                              refine z_iload okω dL_goods_740 rfl ?_
                              refine z_iconst (v := 4) okω dL_goods_742 (by decide) ?_
                              refine z_icmp_ge (tgt := 773) okω dL_goods_743 (by decide) (fun _ => ?_) (fun q9ω => absurd (by decide) q9ω)
                              refine z_aload okω dL_goods_773 rfl ?_
                              refine z_iconst (v := 4) okω dL_goods_775 (by decide) ?_
                              refine z_iload okω dL_goods_776 rfl ?_
                              refine z_imul okω dL_goods_778 ?_
                              refine z_iconst (v := 2) okω dL_goods_779 (by decide) ?_
                              refine z_iadd okω dL_goods_780 ?_
                              refine z_aload okω dL_goods_781 rfl ?_
                              refine z_iconst (v := 4) okω dL_goods_783 (by decide) ?_
                              refine z_iload okω dL_goods_784 rfl ?_
                              refine z_imul okω dL_goods_786 ?_
                              refine z_iconst (v := 2) okω dL_goods_787 (by decide) ?_
                              refine z_iadd okω dL_goods_788 ?_
                              refine l_ld10 kω okω dL_goods_789 hm286ω (lx4_2 kω) (by first | assumption | omega) ?_
                              refine z_aload okω dL_goods_790 rfl ?_
                              refine z_iconst (v := 4) okω dL_goods_792 (by decide) ?_
                              refine z_iload okω dL_goods_793 rfl ?_
                              refine z_imul okω dL_goods_795 ?_
                              refine z_iconst (v := 2) okω dL_goods_796 (by decide) ?_
                              refine z_iadd okω dL_goods_797 ?_
                              refine l_ld10 lω okω dL_goods_798 hm286ω (lx4_2 lω) (by first | assumption | omega) ?_
                              refine z_icmp_ge (tgt := 814) okω dL_goods_799 (by decide) (fun cz799ω => ?_) (fun cz799ω => ?_)
                              · refine z_aload okω dL_goods_814 rfl ?_
                                refine z_iconst (v := 4) okω dL_goods_816 (by decide) ?_
                                refine z_iload okω dL_goods_817 rfl ?_
                                refine z_imul okω dL_goods_819 ?_
                                refine z_iconst (v := 2) okω dL_goods_820 (by decide) ?_
                                refine z_iadd okω dL_goods_821 ?_
                                refine l_ld10 lω okω dL_goods_822 hm286ω (lx4_2 lω) (by first | assumption | omega) ?_
                                refine l_st10 lω okω dL_goods_823 hm286ω (lx4_2 lω) (by first | assumption | omega) (fun Mz290ω hm289ω frz291ω => ?_)
                                refine z_aload_n okω dL_goods_824 rfl ?_
                                refine z_iconst (v := 4) okω dL_goods_825 (by decide) ?_
                                refine z_iload okω dL_goods_826 rfl ?_
                                refine z_imul okω dL_goods_828 ?_
                                refine z_iconst (v := 2) okω dL_goods_829 (by decide) ?_
                                refine z_iadd okω dL_goods_830 ?_
                                refine z_iconst (v := 5) okω dL_goods_831 (by decide) ?_
                                refine l_st6 kω okω dL_goods_832 hm289ω (lx4_2 kω) (by first | assumption | omega) (fun Mz293ω hm292ω frz294ω => ?_)
                                refine z_aload_n okω dL_goods_833 rfl ?_
                                refine z_iload okω dL_goods_834 rfl ?_
                                refine z_iload okω dL_goods_836 rfl ?_
                                have ho838ω := hoω.fr (show zFr M _ (c + 251) 6 from (zFr.tr frz282ω (zFr.tr frz285ω (zFr.tr frz288ω (zFr.tr frz291ω frz294ω)))))
                                obtain ⟨fs838ω, hs838ω⟩ := ho838ω.self
                                refine z_callVi okω dL_goods_838 zm_X6_join zw_411 zi_X6_join hs838ω rfl (ho838ω.to_join hNω) rfl rfl (by decide) (by decide) (by decide) (Nat.le_of_ble_eq_true rfl) (fun xz295ω Mz296ω qz297ω => ?_)
                                obtain ⟨hfqω, hxeω, hoqω⟩ := (qz297ω).inr (spJ_hi hk31ω hl31ω hggω hcdω (Int32.not_lt.mpr cz715ω))
                                have hfzω := ((show zFr M _ (c + 251) 6 from (zFr.tr frz282ω (zFr.tr frz285ω (zFr.tr frz288ω (zFr.tr frz291ω frz294ω))))).w (c := c) (by omega) (by omega)).tr (hfqω.w (c := c) (by omega) (by omega))
                                have hm298ω := ((hm292ω).eqs (show _ = zJn s lω kω from by unfold zJn; simp only []; first | rw [if_pos (Int32.not_le.mp cz799ω)] | rw [if_neg (Int32.not_lt.mpr cz799ω)])).fr hfqω
                                refine z_iload okω dL_goods_841 rfl ?_
                                refine z_icmp_ne (tgt := 850) okω dL_goods_843 (by decide) (fun q9ω => absurd hxeω q9ω) (fun _ => ?_)
                                refine z_iconst (v := 1) okω dL_goods_846 (by decide) ?_
                                refine z_goto (tgt := 851) okω dL_goods_847 (by decide) ?_
                                exact z_iret okω dL_goods_851 rfl rfl rfl (Nat.zero_le _) ⟨rfl, _, n, ⟨hoqω, hm298ω, by first | exact hwω.join hknω hlnω hklω hstω.1 hstω.2 | exact hwω.join hlnω hknω (Ne.symm hklω) hstω.2 hstω.1, by first | exact hxω.join hwω hknω hlnω hklω hstω.1 hstω.2 | exact hxω.join hwω hlnω hknω (Ne.symm hklω) hstω.2 hstω.1⟩, zJn_o (q := 5) (by omega) (by omega), hfzω⟩
                              · refine z_aload okω dL_goods_802 rfl ?_
                                refine z_iconst (v := 4) okω dL_goods_804 (by decide) ?_
                                refine z_iload okω dL_goods_805 rfl ?_
                                refine z_imul okω dL_goods_807 ?_
                                refine z_iconst (v := 2) okω dL_goods_808 (by decide) ?_
                                refine z_iadd okω dL_goods_809 ?_
                                refine l_ld10 kω okω dL_goods_810 hm286ω (lx4_2 kω) (by first | assumption | omega) ?_
                                refine z_goto (tgt := 823) okω dL_goods_811 (by decide) ?_
                                refine l_st10 lω okω dL_goods_823 hm286ω (lx4_2 lω) (by first | assumption | omega) (fun Mz300ω hm299ω frz301ω => ?_)
                                refine z_aload_n okω dL_goods_824 rfl ?_
                                refine z_iconst (v := 4) okω dL_goods_825 (by decide) ?_
                                refine z_iload okω dL_goods_826 rfl ?_
                                refine z_imul okω dL_goods_828 ?_
                                refine z_iconst (v := 2) okω dL_goods_829 (by decide) ?_
                                refine z_iadd okω dL_goods_830 ?_
                                refine z_iconst (v := 5) okω dL_goods_831 (by decide) ?_
                                refine l_st6 kω okω dL_goods_832 hm299ω (lx4_2 kω) (by first | assumption | omega) (fun Mz303ω hm302ω frz304ω => ?_)
                                refine z_aload_n okω dL_goods_833 rfl ?_
                                refine z_iload okω dL_goods_834 rfl ?_
                                refine z_iload okω dL_goods_836 rfl ?_
                                have ho838ω := hoω.fr (show zFr M _ (c + 251) 6 from (zFr.tr frz282ω (zFr.tr frz285ω (zFr.tr frz288ω (zFr.tr frz301ω frz304ω)))))
                                obtain ⟨fs838ω, hs838ω⟩ := ho838ω.self
                                refine z_callVi okω dL_goods_838 zm_X6_join zw_411 zi_X6_join hs838ω rfl (ho838ω.to_join hNω) rfl rfl (by decide) (by decide) (by decide) (Nat.le_of_ble_eq_true rfl) (fun xz305ω Mz306ω qz307ω => ?_)
                                obtain ⟨hfqω, hxeω, hoqω⟩ := (qz307ω).inr (spJ_hi hk31ω hl31ω hggω hcdω (Int32.not_lt.mpr cz715ω))
                                have hfzω := ((show zFr M _ (c + 251) 6 from (zFr.tr frz282ω (zFr.tr frz285ω (zFr.tr frz288ω (zFr.tr frz301ω frz304ω))))).w (c := c) (by omega) (by omega)).tr (hfqω.w (c := c) (by omega) (by omega))
                                have hm308ω := ((hm302ω).eqs (show _ = zJn s lω kω from by unfold zJn; simp only []; first | rw [if_pos (Int32.not_le.mp cz799ω)] | rw [if_neg (Int32.not_lt.mpr cz799ω)])).fr hfqω
                                refine z_iload okω dL_goods_841 rfl ?_
                                refine z_icmp_ne (tgt := 850) okω dL_goods_843 (by decide) (fun q9ω => absurd hxeω q9ω) (fun _ => ?_)
                                refine z_iconst (v := 1) okω dL_goods_846 (by decide) ?_
                                refine z_goto (tgt := 851) okω dL_goods_847 (by decide) ?_
                                exact z_iret okω dL_goods_851 rfl rfl rfl (Nat.zero_le _) ⟨rfl, _, n, ⟨hoqω, hm308ω, by first | exact hwω.join hknω hlnω hklω hstω.1 hstω.2 | exact hwω.join hlnω hknω (Ne.symm hklω) hstω.2 hstω.1, by first | exact hxω.join hwω hknω hlnω hklω hstω.1 hstω.2 | exact hxω.join hwω hlnω hknω (Ne.symm hklω) hstω.2 hstω.1⟩, zJn_o (q := 5) (by omega) (by omega), hfzω⟩
                            · refine z_iload okω dL_goods_718 rfl ?_
                              refine z_goto (tgt := 725) okω dL_goods_720 (by decide) ?_
                              refine z_istore okω dL_goods_725 (by decide) rfl ?_
                              refine z_iload okω dL_goods_727 rfl ?_
                              refine z_iload okω dL_goods_729 rfl ?_
                              refine z_iadd okω dL_goods_731 ?_
                              refine z_iload okω dL_goods_732 rfl ?_
                              refine z_isub okω dL_goods_734 ?_
                              refine zV_eqi sub_l ?_
                              refine z_istore okω dL_goods_735 (by decide) rfl ?_
                              refine z_iconst (v := 1) okω dL_goods_737 (by decide) ?_
                              refine z_istore okω dL_goods_738 (by decide) rfl ?_
                              refine z_iload okω dL_goods_740 rfl ?_
                              refine z_iconst (v := 4) okω dL_goods_742 (by decide) ?_
                              refine z_icmp_ge (tgt := 773) okω dL_goods_743 (by decide) (fun q9ω => absurd q9ω (by decide)) (fun _ => ?_)
                              refine z_aload_n okω dL_goods_746 rfl ?_
                              refine z_iconst (v := 4) okω dL_goods_747 (by decide) ?_
                              refine z_iload okω dL_goods_748 rfl ?_
                              refine z_imul okω dL_goods_750 ?_
                              refine z_iload okω dL_goods_751 rfl ?_
                              refine z_iadd okω dL_goods_753 ?_
                              refine z_dup2 okω dL_goods_754 rfl rfl ?_
                              refine l_ld1 kω okω dL_goods_755 hmω (lx4_1 kω) (by first | assumption | omega) ?_
                              refine z_aload_n okω dL_goods_756 rfl ?_
                              refine z_iconst (v := 4) okω dL_goods_757 (by decide) ?_
                              refine z_iload okω dL_goods_758 rfl ?_
                              refine z_imul okω dL_goods_760 ?_
                              refine z_iload okω dL_goods_761 rfl ?_
                              refine z_iadd okω dL_goods_763 ?_
                              refine l_ld1 lω okω dL_goods_764 hmω (lx4_1 lω) (by first | assumption | omega) ?_
                              refine z_iadd okω dL_goods_765 ?_
                              refine l_st1 kω okω dL_goods_766 hmω (lx4_1 kω) (by first | assumption | omega) (fun Mz310ω hm309ω frz311ω => ?_)
                              refine z_iinc okω dL_goods_767 rfl (show (1 : Int32) + Int32.ofInt (1) = 2 from by decide) (by decide) rfl ?_
                              refine z_goto (tgt := 740) okω dL_goods_770 (by decide) ?_
                              refine z_iload okω dL_goods_740 rfl ?_
                              refine z_iconst (v := 4) okω dL_goods_742 (by decide) ?_
                              refine z_icmp_ge (tgt := 773) okω dL_goods_743 (by decide) (fun q9ω => absurd q9ω (by decide)) (fun _ => ?_)
                              refine z_aload_n okω dL_goods_746 rfl ?_
                              refine z_iconst (v := 4) okω dL_goods_747 (by decide) ?_
                              refine z_iload okω dL_goods_748 rfl ?_
                              refine z_imul okω dL_goods_750 ?_
                              refine z_iload okω dL_goods_751 rfl ?_
                              refine z_iadd okω dL_goods_753 ?_
                              refine z_dup2 okω dL_goods_754 rfl rfl ?_
                              refine l_ld2 kω okω dL_goods_755 hm309ω (lx4_2 kω) (by first | assumption | omega) ?_
                              refine z_aload_n okω dL_goods_756 rfl ?_
                              refine z_iconst (v := 4) okω dL_goods_757 (by decide) ?_
                              refine z_iload okω dL_goods_758 rfl ?_
                              refine z_imul okω dL_goods_760 ?_
                              refine z_iload okω dL_goods_761 rfl ?_
                              refine z_iadd okω dL_goods_763 ?_
                              refine l_ld2 lω okω dL_goods_764 hm309ω (lx4_2 lω) (by first | assumption | omega) ?_
                              refine z_iadd okω dL_goods_765 ?_
                              refine l_st2 kω okω dL_goods_766 hm309ω (lx4_2 kω) (by first | assumption | omega) (fun Mz313ω hm312ω frz314ω => ?_)
                              refine z_iinc okω dL_goods_767 rfl (show (2 : Int32) + Int32.ofInt (1) = 3 from by decide) (by decide) rfl ?_
                              refine z_goto (tgt := 740) okω dL_goods_770 (by decide) ?_
                              refine z_iload okω dL_goods_740 rfl ?_
                              refine z_iconst (v := 4) okω dL_goods_742 (by decide) ?_
                              refine z_icmp_ge (tgt := 773) okω dL_goods_743 (by decide) (fun q9ω => absurd q9ω (by decide)) (fun _ => ?_)
                              refine z_aload_n okω dL_goods_746 rfl ?_
                              refine z_iconst (v := 4) okω dL_goods_747 (by decide) ?_
                              refine z_iload okω dL_goods_748 rfl ?_
                              refine z_imul okω dL_goods_750 ?_
                              refine z_iload okω dL_goods_751 rfl ?_
                              refine z_iadd okω dL_goods_753 ?_
                              refine z_dup2 okω dL_goods_754 rfl rfl ?_
                              refine l_ld5 kω okω dL_goods_755 hm312ω (lx4_3 kω) (by first | assumption | omega) ?_
                              refine z_aload_n okω dL_goods_756 rfl ?_
                              refine z_iconst (v := 4) okω dL_goods_757 (by decide) ?_
                              refine z_iload okω dL_goods_758 rfl ?_
                              refine z_imul okω dL_goods_760 ?_
                              refine z_iload okω dL_goods_761 rfl ?_
                              refine z_iadd okω dL_goods_763 ?_
                              refine l_ld5 lω okω dL_goods_764 hm312ω (lx4_3 lω) (by first | assumption | omega) ?_
                              refine z_iadd okω dL_goods_765 ?_
                              refine l_st5 kω okω dL_goods_766 hm312ω (lx4_3 kω) (by first | assumption | omega) (fun Mz316ω hm315ω frz317ω => ?_)
                              refine z_iinc okω dL_goods_767 rfl (show (3 : Int32) + Int32.ofInt (1) = 4 from by decide) (by decide) rfl ?_
                              refine z_goto (tgt := 740) okω dL_goods_770 (by decide) ?_
                              refine z_iload okω dL_goods_740 rfl ?_
                              refine z_iconst (v := 4) okω dL_goods_742 (by decide) ?_
                              refine z_icmp_ge (tgt := 773) okω dL_goods_743 (by decide) (fun _ => ?_) (fun q9ω => absurd (by decide) q9ω)
                              refine z_aload okω dL_goods_773 rfl ?_
                              refine z_iconst (v := 4) okω dL_goods_775 (by decide) ?_
                              refine z_iload okω dL_goods_776 rfl ?_
                              refine z_imul okω dL_goods_778 ?_
                              refine z_iconst (v := 2) okω dL_goods_779 (by decide) ?_
                              refine z_iadd okω dL_goods_780 ?_
                              refine z_aload okω dL_goods_781 rfl ?_
                              refine z_iconst (v := 4) okω dL_goods_783 (by decide) ?_
                              refine z_iload okω dL_goods_784 rfl ?_
                              refine z_imul okω dL_goods_786 ?_
                              refine z_iconst (v := 2) okω dL_goods_787 (by decide) ?_
                              refine z_iadd okω dL_goods_788 ?_
                              refine l_ld10 lω okω dL_goods_789 hm315ω (lx4_2 lω) (by first | assumption | omega) ?_
                              refine z_aload okω dL_goods_790 rfl ?_
                              refine z_iconst (v := 4) okω dL_goods_792 (by decide) ?_
                              refine z_iload okω dL_goods_793 rfl ?_
                              refine z_imul okω dL_goods_795 ?_
                              refine z_iconst (v := 2) okω dL_goods_796 (by decide) ?_
                              refine z_iadd okω dL_goods_797 ?_
                              refine l_ld10 kω okω dL_goods_798 hm315ω (lx4_2 kω) (by first | assumption | omega) ?_
                              refine z_icmp_ge (tgt := 814) okω dL_goods_799 (by decide) (fun cz799ω => ?_) (fun cz799ω => ?_)
                              · refine z_aload okω dL_goods_814 rfl ?_
                                refine z_iconst (v := 4) okω dL_goods_816 (by decide) ?_
                                refine z_iload okω dL_goods_817 rfl ?_
                                refine z_imul okω dL_goods_819 ?_
                                refine z_iconst (v := 2) okω dL_goods_820 (by decide) ?_
                                refine z_iadd okω dL_goods_821 ?_
                                refine l_ld10 kω okω dL_goods_822 hm315ω (lx4_2 kω) (by first | assumption | omega) ?_
                                refine l_st10 kω okω dL_goods_823 hm315ω (lx4_2 kω) (by first | assumption | omega) (fun Mz319ω hm318ω frz320ω => ?_)
                                refine z_aload_n okω dL_goods_824 rfl ?_
                                refine z_iconst (v := 4) okω dL_goods_825 (by decide) ?_
                                refine z_iload okω dL_goods_826 rfl ?_
                                refine z_imul okω dL_goods_828 ?_
                                refine z_iconst (v := 2) okω dL_goods_829 (by decide) ?_
                                refine z_iadd okω dL_goods_830 ?_
                                refine z_iconst (v := 5) okω dL_goods_831 (by decide) ?_
                                refine l_st6 lω okω dL_goods_832 hm318ω (lx4_2 lω) (by first | assumption | omega) (fun Mz322ω hm321ω frz323ω => ?_)
                                refine z_aload_n okω dL_goods_833 rfl ?_
                                refine z_iload okω dL_goods_834 rfl ?_
                                refine z_iload okω dL_goods_836 rfl ?_
                                have ho838ω := hoω.fr (show zFr M _ (c + 251) 6 from (zFr.tr frz311ω (zFr.tr frz314ω (zFr.tr frz317ω (zFr.tr frz320ω frz323ω)))))
                                obtain ⟨fs838ω, hs838ω⟩ := ho838ω.self
                                refine z_callVi okω dL_goods_838 zm_X6_join zw_411 zi_X6_join hs838ω rfl (ho838ω.to_join hNω) rfl rfl (by decide) (by decide) (by decide) (Nat.le_of_ble_eq_true rfl) (fun xz324ω Mz325ω qz326ω => ?_)
                                obtain ⟨hfqω, hxeω, hoqω⟩ := (qz326ω).inr (spJ_lo hk31ω hl31ω hggω hcdω (Int32.not_le.mp cz715ω))
                                have hfzω := ((show zFr M _ (c + 251) 6 from (zFr.tr frz311ω (zFr.tr frz314ω (zFr.tr frz317ω (zFr.tr frz320ω frz323ω))))).w (c := c) (by omega) (by omega)).tr (hfqω.w (c := c) (by omega) (by omega))
                                have hm327ω := ((hm321ω).eqs (show _ = zJn s kω lω from by unfold zJn; simp only []; first | rw [if_pos (Int32.not_le.mp cz799ω)] | rw [if_neg (Int32.not_lt.mpr cz799ω)])).fr hfqω
                                refine z_iload okω dL_goods_841 rfl ?_
                                refine z_icmp_ne (tgt := 850) okω dL_goods_843 (by decide) (fun q9ω => absurd hxeω q9ω) (fun _ => ?_)
                                refine z_iconst (v := 1) okω dL_goods_846 (by decide) ?_
                                refine z_goto (tgt := 851) okω dL_goods_847 (by decide) ?_
                                exact z_iret okω dL_goods_851 rfl rfl rfl (Nat.zero_le _) ⟨rfl, _, n, ⟨hoqω, hm327ω, by first | exact hwω.join hknω hlnω hklω hstω.1 hstω.2 | exact hwω.join hlnω hknω (Ne.symm hklω) hstω.2 hstω.1, by first | exact hxω.join hwω hknω hlnω hklω hstω.1 hstω.2 | exact hxω.join hwω hlnω hknω (Ne.symm hklω) hstω.2 hstω.1⟩, zJn_o (q := 5) (by omega) (by omega), hfzω⟩
                              · refine z_aload okω dL_goods_802 rfl ?_
                                refine z_iconst (v := 4) okω dL_goods_804 (by decide) ?_
                                refine z_iload okω dL_goods_805 rfl ?_
                                refine z_imul okω dL_goods_807 ?_
                                refine z_iconst (v := 2) okω dL_goods_808 (by decide) ?_
                                refine z_iadd okω dL_goods_809 ?_
                                refine l_ld10 lω okω dL_goods_810 hm315ω (lx4_2 lω) (by first | assumption | omega) ?_
                                refine z_goto (tgt := 823) okω dL_goods_811 (by decide) ?_
                                refine l_st10 kω okω dL_goods_823 hm315ω (lx4_2 kω) (by first | assumption | omega) (fun Mz329ω hm328ω frz330ω => ?_)
                                refine z_aload_n okω dL_goods_824 rfl ?_
                                refine z_iconst (v := 4) okω dL_goods_825 (by decide) ?_
                                refine z_iload okω dL_goods_826 rfl ?_
                                refine z_imul okω dL_goods_828 ?_
                                refine z_iconst (v := 2) okω dL_goods_829 (by decide) ?_
                                refine z_iadd okω dL_goods_830 ?_
                                refine z_iconst (v := 5) okω dL_goods_831 (by decide) ?_
                                refine l_st6 lω okω dL_goods_832 hm328ω (lx4_2 lω) (by first | assumption | omega) (fun Mz332ω hm331ω frz333ω => ?_)
                                refine z_aload_n okω dL_goods_833 rfl ?_
                                refine z_iload okω dL_goods_834 rfl ?_
                                refine z_iload okω dL_goods_836 rfl ?_
                                have ho838ω := hoω.fr (show zFr M _ (c + 251) 6 from (zFr.tr frz311ω (zFr.tr frz314ω (zFr.tr frz317ω (zFr.tr frz330ω frz333ω)))))
                                obtain ⟨fs838ω, hs838ω⟩ := ho838ω.self
                                refine z_callVi okω dL_goods_838 zm_X6_join zw_411 zi_X6_join hs838ω rfl (ho838ω.to_join hNω) rfl rfl (by decide) (by decide) (by decide) (Nat.le_of_ble_eq_true rfl) (fun xz334ω Mz335ω qz336ω => ?_)
                                obtain ⟨hfqω, hxeω, hoqω⟩ := (qz336ω).inr (spJ_lo hk31ω hl31ω hggω hcdω (Int32.not_le.mp cz715ω))
                                have hfzω := ((show zFr M _ (c + 251) 6 from (zFr.tr frz311ω (zFr.tr frz314ω (zFr.tr frz317ω (zFr.tr frz330ω frz333ω))))).w (c := c) (by omega) (by omega)).tr (hfqω.w (c := c) (by omega) (by omega))
                                have hm337ω := ((hm331ω).eqs (show _ = zJn s kω lω from by unfold zJn; simp only []; first | rw [if_pos (Int32.not_le.mp cz799ω)] | rw [if_neg (Int32.not_lt.mpr cz799ω)])).fr hfqω
                                refine z_iload okω dL_goods_841 rfl ?_
                                refine z_icmp_ne (tgt := 850) okω dL_goods_843 (by decide) (fun q9ω => absurd hxeω q9ω) (fun _ => ?_)
                                refine z_iconst (v := 1) okω dL_goods_846 (by decide) ?_
                                refine z_goto (tgt := 851) okω dL_goods_847 (by decide) ?_
                                exact z_iret okω dL_goods_851 rfl rfl rfl (Nat.zero_le _) ⟨rfl, _, n, ⟨hoqω, hm337ω, by first | exact hwω.join hknω hlnω hklω hstω.1 hstω.2 | exact hwω.join hlnω hknω (Ne.symm hklω) hstω.2 hstω.1, by first | exact hxω.join hwω hknω hlnω hklω hstω.1 hstω.2 | exact hxω.join hwω hlnω hknω (Ne.symm hklω) hstω.2 hstω.1⟩, zJn_o (q := 5) (by omega) (by omega), hfzω⟩
                          · refine z_aload_n okω dL_goods_692 rfl ?_
                            refine z_iload okω dL_goods_693 rfl ?_
                            refine z_iload okω dL_goods_695 rfl ?_
                            have ho697ω := hoω.fr (show zFr M _ (c + 251) 6 from zFr.rf)
                            obtain ⟨fs697ω, hs697ω⟩ := ho697ω.self
                            refine z_callVi okω dL_goods_697 zm_X6_join zw_411 zi_X6_join hs697ω rfl (ho697ω.to_join hNω) rfl rfl (by decide) (by decide) (by decide) (Nat.le_of_ble_eq_true rfl) (fun xz338ω Mz339ω qz340ω => ?_)
                            obtain ⟨hfqω, hxeω, hoqω⟩ := (qz340ω).inl (spJ_np hk31ω hl31ω hggω (fun zω => cz689ω (hssω.mpr zω.2)))
                            have hfzω := ((show zFr M _ (c + 251) 6 from zFr.rf).w (c := c) (by omega) (by omega)).tr (hfqω.w (c := c) (by omega) (by omega))
                            have hm341ω := ((hmω).eqs (rfl)).fr hfqω
                            refine z_ldc okω dL_goods_700 zw_410 ?_
                            refine z_icmp_ne (tgt := 709) okω dL_goods_702 (by decide) (fun q9ω => absurd hxeω q9ω) (fun _ => ?_)
                            refine z_iconst (v := 1) okω dL_goods_705 (by decide) ?_
                            refine z_goto (tgt := 710) okω dL_goods_706 (by decide) ?_
                            exact z_iret okω dL_goods_710 rfl rfl rfl (Nat.zero_le _) ⟨rfl, s, n, ⟨hoqω, hm341ω, hwω, hxω⟩, rfl, hfzω⟩
                      · refine z_aload_n okω dL_goods_632 rfl ?_
                        refine z_iload okω dL_goods_633 rfl ?_
                        refine z_iload okω dL_goods_635 rfl ?_
                        have ho637ω := hoω.fr (show zFr M _ (c + 251) 6 from zFr.rf)
                        obtain ⟨fs637ω, hs637ω⟩ := ho637ω.self
                        refine z_callVi okω dL_goods_637 zm_X6_join zw_411 zi_X6_join hs637ω rfl (ho637ω.to_join hNω) rfl rfl (by decide) (by decide) (by decide) (Nat.le_of_ble_eq_true rfl) (fun xz342ω Mz343ω qz344ω => ?_)
                        obtain ⟨hfqω, hxeω, hoqω⟩ := (qz344ω).inl (spJ_no (fun zω => zω.2.2 cz629ω))
                        have hfzω := ((show zFr M _ (c + 251) 6 from zFr.rf).w (c := c) (by omega) (by omega)).tr (hfqω.w (c := c) (by omega) (by omega))
                        have hm345ω := ((hmω).eqs (rfl)).fr hfqω
                        refine z_ldc okω dL_goods_640 zw_409 ?_
                        refine z_icmp_ne (tgt := 649) okω dL_goods_642 (by decide) (fun q9ω => absurd hxeω q9ω) (fun _ => ?_)
                        refine z_iconst (v := 1) okω dL_goods_645 (by decide) ?_
                        refine z_goto (tgt := 650) okω dL_goods_646 (by decide) ?_
                        exact z_iret okω dL_goods_650 rfl rfl rfl (Nat.zero_le _) ⟨rfl, s, n, ⟨hoqω, hm345ω, hwω, hxω⟩, rfl, hfzω⟩
                · refine z_iload okω dL_goods_589 rfl ?_
                  refine z_iconst (v := 1) okω dL_goods_591 (by decide) ?_
                  refine z_iadd okω dL_goods_592 ?_
                  refine z_aload_n okω dL_goods_593 rfl ?_
                  refine z_iconst (v := 3) okω dL_goods_594 (by decide) ?_
                  refine l_ldG (t := 3) okω dL_goods_595 hmω rfl (by decide) ?_
                  refine z_irem okω dL_goods_596 (by rw [hNω.1]; exact fun zω => absurd (nI_eq0 (by omega) zω) (by omega)) ?_
                  refine zV_eqi (show _ = nI ((lω + 1) % n) from by rw [hNω.1, nI_1, pk_rem (by omega) hnpω (by omega)]) ?_
                  refine z_istore okω dL_goods_597 (by decide) rfl ?_
                  refine z_iinc okω dL_goods_599 rfl (zinc2 _) (by decide) rfl ?_
                  refine z_goto (tgt := 531) okω dL_goods_602 (by decide) ?_
                  exact ih6ω (i6ω + 1) ((lω + 1) % n) (by omega) (by omega) (fun zω => Nat.mod_lt _ zω) (fun zω => absurd zω (by omega))
  exact loop531ω 17 0 lω (by omega) (by omega) hl1ω hl2ω

