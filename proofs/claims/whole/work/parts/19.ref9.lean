/-- what a change answers: an error, or the new numbers and an answer -/
abbrev zRes : Type := Int32 ⊕ ((Nat → Int32) × Int32)
def tN (x : Int32) : Nat := x.toNatClampNeg
theorem tN_nI {n : Nat} (h : n < 2 ^ 31) : tN (nI n) = n := nI_clamp h
def zRuns (μ : zMS) (p : Nat) : Prop := (μ.2 5 = 0 ∧ μ.2 4 = nI p ∧ p ≤ 4) ∨ μ.2 5 = 1
def zCC (μ : zMS) (p : Nat) : zMS := if μ.2 5 = 0 then zCh μ p else μ
theorem zCC_a {μ : zMS} {p k : Nat} (h : k ≠ 2) : (zCC μ p).1 k = μ.1 k := by
  unfold zCC zCh
  split
  · rw [mS_1, mA_n _ _ h]
  · rfl
theorem zCC_1 {μ : zMS} {p : Nat} : (zCC μ p).1 1 = μ.1 1 := zCC_a (by decide)
theorem zCC_s {μ : zMS} {p k : Nat} (h : k ≠ 4) : (zCC μ p).2 k = μ.2 k := by
  unfold zCC zCh
  split
  · rw [mS_n _ _ h, mA_2]
  · rfl
def zPost (M : mM) (m : Nat) (μ : zMS) (p : Nat) (r : zRes) (x : Int32) (M' : mM) : Prop := match r with
  | .inl e => x = e ∧ M' = M
  | .inr q => x = q.2 ∧ mPic M' m (mA (zCC μ p) 1 q.1) ∧ zFr M M' m 9
theorem zPost_e {M : mM} {m : Nat} {μ : zMS} {p : Nat} {r : zRes} {e : Int32} (h : r = .inl e) : zPost M m μ p r e M := by
  rw [h]
  exact ⟨rfl, rfl⟩
theorem zPost_ok {M M' : mM} {m : Nat} {μ : zMS} {p : Nat} {r : zRes} {s : Nat → Int32} {x : Int32} (hm : mPic M' m (mA (zCC μ p) 1 s)) (hf : zFr M M' m 9) (h : r = .inr (s, x)) : zPost M m μ p r x M' := by
  rw [h]
  exact ⟨rfl, hm, hf⟩
theorem ct_X7_changesC {K : zK} {M : mM} {nx : Nat} {m : Nat} {μ : zMS} (hm : mPic M m μ) {p : Nat} (hr : zRuns μ p) : zCt K yX7_changes cX7_changes 2 zr_X7_changes 0 [.ref m] M nx 0 0 (zU (fun M' => mPic M' m (zCC μ p) ∧ zFr M M' m 9)) := by
  rcases hr with ⟨h0, hp, hp4⟩ | h1
  · refine (ct_X7_changes hm h0 hp hp4).mono (fun r M' h => ?_)
    rw [zCC, if_pos h0]
    exact h
  · refine (ct_X7_changesR hm h1).mono (fun r M' h => ?_)
    rw [zCC, if_neg (by rw [h1]; decide)]
    exact ⟨h.1, by rw [h.2]; exact hm, by rw [h.2]; exact zFr.rf⟩
theorem zN_CC {μ : zMS} {p n nv no : Nat} (h : zN (μ.1 1) n nv no) : zN ((zCC μ p).1 1) n nv no := by
  rw [zCC_1]
  exact h
abbrev zW (a b x : Int32) : Prop := a ≤ x ∧ x ≤ b
def spConsign (s : Nat → Int32) (n : Nat) (p b w f t wo : Int32) : zRes := if zW 1 4 p ∧ zW 1 99 b ∧ zW 1 99 w ∧ zW 0 9999 f ∧ zW f 9999 t ∧ zW 0 999 wo then (if n = 16 then .inl (-1000003) else .inr (zMk s n p b w f t wo, nI n)) else .inl (-1000001)
def zSp (s : Nat → Int32) (n ic : Nat) (b w : Int32) : Nat → Int32 :=
  let wo := gd s ic 5 * b / gd s ic 1
  let s1 := zMk s n (gd s ic 0) b w (gd s ic 3) (gd s ic 4) wo
  let s2 := pg s1 n 9 (gd s1 ic 9)
  let s3 := pg s2 n 10 (gd s2 ic 10)
  let s4 := pg s3 ic 1 (gd s3 ic 1 - b)
  let s5 := pg s4 ic 2 (gd s4 ic 2 - w)
  pg s5 ic 5 (gd s5 ic 5 - wo)
def spSplit (s : Nat → Int32) (n : Nat) (c b w : Int32) : zRes := if zGoods s c ∧ zW 1 (gd s (tN c) 1 - 1) b ∧ zW 1 (gd s (tN c) 2 - 1) w then (if gd s (tN c) 6 = 0 then (if n = 16 then .inl (-1000003) else .inr (zSp s n (tN c) b w, nI n)) else .inl (-1000002)) else .inl (-1000001)
def zJn (s : Nat → Int32) (l h : Nat) : Nat → Int32 :=
  let s1 := pg s l 1 (gd s l 1 + gd s h 1)
  let s2 := pg s1 l 2 (gd s1 l 2 + gd s1 h 2)
  let s3 := pg s2 l 5 (gd s2 l 5 + gd s2 h 5)
  let s4 := pg s3 l 10 (if gd s3 h 10 < gd s3 l 10 then gd s3 h 10 else gd s3 l 10)
  pg s4 h 6 5
def spJoin (s : Nat → Int32) (a b : Int32) : zRes := if zGoods s a ∧ zGoods s b ∧ ¬ a = b then (if gd s (tN a) 9 = gd s (tN b) 9 ∧ gd s (tN a) 6 = 0 ∧ gd s (tN b) 6 = 0 then (if a < b then .inr (zJn s (tN a) (tN b), a) else .inr (zJn s (tN b) (tN a), b)) else .inl (-1000002)) else .inl (-1000001)
def spLoad (s : Nat → Int32) (n : Nat) (c v : Int32) : zRes := if zGoods s c ∧ zVeh s v then (if zCan s n (tN c) (tN v) then .inr (zLoads s (tN c) (tN v), vd (zLoads s (tN c) (tN v)) (tN v) 0 - zLd (zLoads s (tN c) (tN v)) n v 1) else .inl (-1000002)) else .inl (-1000001)
def spUnload (s : Nat → Int32) (c : Int32) : zRes := if zGoods s c then (if gd s (tN c) 6 = 1 then .inr (pg s (tN c) 6 0, gd (pg s (tN c) 6 0) (tN c) 7) else .inl (-1000002)) else .inl (-1000001)
def spFill (s : Nat → Int32) (n : Nat) (v place rule : Int32) : zRes := if zVeh s v ∧ zW 1 4 place ∧ zW 0 2 rule then (if 0 < vd s (tN v) 2 then .inl (-1000002) else .inr ((zFill n (tN v) place rule n s 0 0).1, zBits (zFill n (tN v) place rule n s 0 0).2 16)) else .inl (-1000001)
def spSet (s : Nat → Int32) (w x : Int32) : zRes := if zW 0 2 w ∧ zW (if w = 0 then 1 else 0) (if w = 0 then 24 else if w = 1 then 99 else 20) x then .inr (upd s (tN w) x, s (tN w)) else .inl (-1000001)
def spPass (s : Nat → Int32) (n nv : Nat) (h : Int32) : zRes := if zW 1 99 h then (if 9000 < s 5 + h then .inl (-1000003) else .inr ((zPass n nv s (tN h)).1, (zPass n nv s (tN h)).2)) else .inl (-1000001)
set_option maxRecDepth 20000 in
set_option maxHeartbeats 4000000 in
theorem ct_X7_consign {K : zK} {M : mM} {nx : Nat} {m : Nat} {μ : zMS} (hm : mPic M m μ) {n nv no : Nat} (hN : zN (μ.1 1) n nv no) {p : Nat} (hr : zRuns μ p) {p1 b w f t wo : Int32} : zCt K yX7_consign cX7_consign 7 zr_X7_consign 2 [.ref m, .int p1, .int b, .int w, .int f, .int t, .int wo] M nx 0 0 (zI (zPost M m μ p (spConsign (μ.1 1) n p1 b w f t wo))) := by
  refine z_enter [some (.ref m), some (.int p1), some (.int b), some (.int w), some (.int f), some (.int t), some (.int wo)] (by decide +kernel) (Nat.le_of_ble_eq_true rfl) rfl (fun B ok hz => ?_)
  have hn16 := hN.2.1
  refine z_iload_n ok dX7_consign_0 rfl ?_
  refine z_iconst (v := 1) ok dX7_consign_1 (by decide) ?_
  refine z_iconst (v := 4) ok dX7_consign_2 (by decide) ?_
  refine z_callSi ok dX7_consign_3 zm_X7_in zw_819 zw_820 (ct_X7_in) rfl rfl (by decide) (by decide) (by decide) (Nat.le_of_ble_eq_true rfl) (fun xz1 Mz2 qz3 => ?_)
  obtain ⟨rfl, hMe⟩ := qz3
  obtain rfl := hMe.symm
  refine z_if_eq (tgt := 66) ok dX7_consign_6 (by decide) (fun cz6 => ?_) (fun cz6 => ?_)
  · have hb6 := b2_0.mp cz6
    refine z_ldc ok dX7_consign_66 zw_822 ?_
    exact z_iret ok dX7_consign_68 rfl rfl rfl (Nat.zero_le _) (zPost_e (by unfold spConsign; grind))
  · have hb6 := Decidable.not_not.mp (mt b2_0.mpr cz6)
    refine z_iload_n ok dX7_consign_9 rfl ?_
    refine z_iconst (v := 1) ok dX7_consign_10 (by decide) ?_
    refine z_bipush (v := 99) ok dX7_consign_11 (by decide) ?_
    refine z_callSi ok dX7_consign_13 zm_X7_in zw_819 zw_820 (ct_X7_in) rfl rfl (by decide) (by decide) (by decide) (Nat.le_of_ble_eq_true rfl) (fun xz4 Mz5 qz6 => ?_)
    obtain ⟨rfl, hMe⟩ := qz6
    obtain rfl := hMe.symm
    refine z_if_eq (tgt := 66) ok dX7_consign_16 (by decide) (fun cz16 => ?_) (fun cz16 => ?_)
    · have hb16 := b2_0.mp cz16
      refine z_ldc ok dX7_consign_66 zw_822 ?_
      exact z_iret ok dX7_consign_68 rfl rfl rfl (Nat.zero_le _) (zPost_e (by unfold spConsign; grind))
    · have hb16 := Decidable.not_not.mp (mt b2_0.mpr cz16)
      refine z_iload_n ok dX7_consign_19 rfl ?_
      refine z_iconst (v := 1) ok dX7_consign_20 (by decide) ?_
      refine z_bipush (v := 99) ok dX7_consign_21 (by decide) ?_
      refine z_callSi ok dX7_consign_23 zm_X7_in zw_819 zw_820 (ct_X7_in) rfl rfl (by decide) (by decide) (by decide) (Nat.le_of_ble_eq_true rfl) (fun xz7 Mz8 qz9 => ?_)
      obtain ⟨rfl, hMe⟩ := qz9
      obtain rfl := hMe.symm
      refine z_if_eq (tgt := 66) ok dX7_consign_26 (by decide) (fun cz26 => ?_) (fun cz26 => ?_)
      · have hb26 := b2_0.mp cz26
        refine z_ldc ok dX7_consign_66 zw_822 ?_
        exact z_iret ok dX7_consign_68 rfl rfl rfl (Nat.zero_le _) (zPost_e (by unfold spConsign; grind))
      · have hb26 := Decidable.not_not.mp (mt b2_0.mpr cz26)
        refine z_iload ok dX7_consign_29 rfl ?_
        refine z_iconst (v := 0) ok dX7_consign_31 (by decide) ?_
        refine z_sipush (v := 9999) ok dX7_consign_32 (by decide) ?_
        refine z_callSi ok dX7_consign_35 zm_X7_in zw_819 zw_820 (ct_X7_in) rfl rfl (by decide) (by decide) (by decide) (Nat.le_of_ble_eq_true rfl) (fun xz10 Mz11 qz12 => ?_)
        obtain ⟨rfl, hMe⟩ := qz12
        obtain rfl := hMe.symm
        refine z_if_eq (tgt := 66) ok dX7_consign_38 (by decide) (fun cz38 => ?_) (fun cz38 => ?_)
        · have hb38 := b2_0.mp cz38
          refine z_ldc ok dX7_consign_66 zw_822 ?_
          exact z_iret ok dX7_consign_68 rfl rfl rfl (Nat.zero_le _) (zPost_e (by unfold spConsign; grind))
        · have hb38 := Decidable.not_not.mp (mt b2_0.mpr cz38)
          refine z_iload ok dX7_consign_41 rfl ?_
          refine z_iload ok dX7_consign_43 rfl ?_
          refine z_sipush (v := 9999) ok dX7_consign_45 (by decide) ?_
          refine z_callSi ok dX7_consign_48 zm_X7_in zw_819 zw_820 (ct_X7_in) rfl rfl (by decide) (by decide) (by decide) (Nat.le_of_ble_eq_true rfl) (fun xz13 Mz14 qz15 => ?_)
          obtain ⟨rfl, hMe⟩ := qz15
          obtain rfl := hMe.symm
          refine z_if_eq (tgt := 66) ok dX7_consign_51 (by decide) (fun cz51 => ?_) (fun cz51 => ?_)
          · have hb51 := b2_0.mp cz51
            refine z_ldc ok dX7_consign_66 zw_822 ?_
            exact z_iret ok dX7_consign_68 rfl rfl rfl (Nat.zero_le _) (zPost_e (by unfold spConsign; grind))
          · have hb51 := Decidable.not_not.mp (mt b2_0.mpr cz51)
            refine z_iload ok dX7_consign_54 rfl ?_
            refine z_iconst (v := 0) ok dX7_consign_56 (by decide) ?_
            refine z_sipush (v := 999) ok dX7_consign_57 (by decide) ?_
            refine z_callSi ok dX7_consign_60 zm_X7_in zw_819 zw_820 (ct_X7_in) rfl rfl (by decide) (by decide) (by decide) (Nat.le_of_ble_eq_true rfl) (fun xz16 Mz17 qz18 => ?_)
            obtain ⟨rfl, hMe⟩ := qz18
            obtain rfl := hMe.symm
            refine z_if_ne (tgt := 69) ok dX7_consign_63 (by decide) (fun cz63 => ?_) (fun cz63 => ?_)
            · have hb63 := Decidable.not_not.mp (mt b2_0.mpr cz63)
              refine z_aload_n ok dX7_consign_69 rfl ?_
              refine z_getf ok dX7_consign_70 zin_X7 rfl 0 (by decide) zw_771 hm.1 rfl ?_
              refine z_iconst (v := 3) ok dX7_consign_73 (by decide) ?_
              refine m_ald1 ok dX7_consign_74 hm rfl (by decide) ?_
              refine z_bipush (v := 16) ok dX7_consign_75 (by decide) ?_
              refine z_icmp_ne (tgt := 83) ok dX7_consign_77 (by decide) (fun cz77 => ?_) (fun cz77 => ?_)
              · have hn9 : ¬ n = 16 := fun z9 => cz77 (hN.1.trans (congrArg nI z9))
                refine z_aload_n ok dX7_consign_83 rfl ?_
                refine z_callVv ok dX7_consign_84 zm_X7_changes zw_824 zi_X7_changes hm.1 rfl (ct_X7_changesC hm hr) rfl rfl (by decide) (by decide) (by decide) (Nat.le_of_ble_eq_true rfl) (fun Mz20 qz21 => ?_)
                obtain ⟨hm22, fzqxz19⟩ := qz21
                have hNC : zN ((zCC μ p).1 1) n nv no := zN_CC hN
                refine z_aload_n ok dX7_consign_87 rfl ?_
                refine z_iload_n ok dX7_consign_88 rfl ?_
                refine z_iload_n ok dX7_consign_89 rfl ?_
                refine z_iload_n ok dX7_consign_90 rfl ?_
                refine z_iload ok dX7_consign_91 rfl ?_
                refine z_iload ok dX7_consign_93 rfl ?_
                refine z_iload ok dX7_consign_95 rfl ?_
                refine z_callVi ok dX7_consign_97 zm_X7_makes zw_828 zi_X7_makes hm22.1 rfl (ct_X7_makes hm22 hNC (by omega)) rfl rfl (by decide) (by decide) (by decide) (Nat.le_of_ble_eq_true rfl) (fun xz23 Mz24 qz25 => ?_)
                obtain ⟨rfl, hm26, fzqxz23⟩ := qz25
                exact z_iret ok dX7_consign_100 rfl rfl rfl (Nat.zero_le _) (zPost_ok (by (have h9 := hm26; (try simp only [mA_s, mA_mA, zCC_1] at h9); exact h9)) (by repeat (first | assumption | exact zFr.rf | refine zFr.tr (by assumption) ?_)) (by unfold spConsign; grind))
              · have hn9 : n = 16 := (nI_eq (b := 16) (by omega) (by omega)).mp (hN.1.symm.trans cz77)
                refine z_ldc ok dX7_consign_80 zw_823 ?_
                exact z_iret ok dX7_consign_82 rfl rfl rfl (Nat.zero_le _) (zPost_e (by unfold spConsign; grind))
            · have hb63 := b2_0.mp cz63
              refine z_ldc ok dX7_consign_66 zw_822 ?_
              exact z_iret ok dX7_consign_68 rfl rfl rfl (Nat.zero_le _) (zPost_e (by unfold spConsign; grind))

