/-! what the reference's row of numbers says: goods by twelve from 13 on, vehicles by eight from 205 on, offers by five from 237 on -/
def gd (s : Nat → Int32) (c k : Nat) : Int32 := s (13 + 12 * c + k)
def vd (s : Nat → Int32) (v k : Nat) : Int32 := s (205 + 8 * v + k)
def od (s : Nat → Int32) (o k : Nat) : Int32 := s (237 + 5 * o + k)
def pg (s : Nat → Int32) (c k : Nat) (x : Int32) : Nat → Int32 := upd s (13 + 12 * c + k) x
def pv (s : Nat → Int32) (v k : Nat) (x : Int32) : Nat → Int32 := upd s (205 + 8 * v + k) x
def b2 (p : Prop) [Decidable p] : Int32 := if p then 1 else 0
theorem b2_t {p : Prop} [Decidable p] (h : p) : (1 : Int32) = b2 p := (if_pos h).symm
theorem b2_f {p : Prop} [Decidable p] (h : ¬ p) : (0 : Int32) = b2 p := (if_neg h).symm
theorem b2_0 {p : Prop} [Decidable p] : b2 p = 0 ↔ ¬ p := by
  unfold b2
  split <;> simp_all
theorem b2_01 {p : Prop} [Decidable p] : b2 p = 0 ∨ b2 p = 1 := by
  unfold b2
  split
  · exact Or.inr rfl
  · exact Or.inl rfl
theorem b2_nar {p : Prop} [Decidable p] : narrow .boolean (.int (b2 p)) = .int (b2 p) := by
  unfold b2
  split <;> rfl
/-- how many goods, vehicles, offers there are -/
def zN (s : Nat → Int32) (n nv no : Nat) : Prop := s 3 = nI n ∧ n ≤ 16 ∧ s 4 = nI nv ∧ nv ≤ 4 ∧ s 6 = nI no ∧ no ≤ 10
def zWin (v a b : Int32) : Prop := a ≤ v ∧ v ≤ b
theorem i_nle {a b : Int32} (h : ¬ a ≤ b) : b < a := Int32.not_le.mp h
theorem i_nlt {a b : Int32} (h : ¬ a < b) : b ≤ a := Int32.not_lt.mp h
theorem i_lt_n {a b : Int32} (h : a < b) : ¬ b ≤ a := Int32.not_le.mpr h
/-- a number below nI n that isn't negative -/
theorem i_nat {x : Int32} {n : Nat} (hn : n < 2 ^ 31) (h0 : ¬ x < 0) (h1 : ¬ nI n ≤ x) : ∃ j, j < n ∧ x = nI j := by
  rcases pk_ix x hn with h | h | h
  · exact absurd h h0
  · exact absurd h h1
  · exact h

set_option maxRecDepth 20000 in
set_option maxHeartbeats 4000000 in
theorem ct_X7_in {K : zK} {M : mM} {nx : Nat} {v a b : Int32} : zCt K yX7_in cX7_in 3 zr_X7_in 0 [.int v, .int a, .int b] M nx 0 0 (zI (fun x M' => x = b2 (a ≤ v ∧ v ≤ b) ∧ M' = M)) := by
  refine z_enter [some (.int v), some (.int a), some (.int b)] (by decide +kernel) (Nat.le_of_ble_eq_true rfl) rfl (fun B ok hz => ?_)
  refine z_iload_n ok dX7_in_0 rfl ?_
  refine z_iload_n ok dX7_in_1 rfl ?_
  refine z_icmp_lt (tgt := 14) ok dX7_in_2 (by decide) (fun cz2 => ?_) (fun cz2 => ?_)
  · refine z_iconst (v := 0) ok dX7_in_14 (by decide) ?_
    exact z_iret ok dX7_in_15 rfl rfl rfl (Nat.zero_le _) ⟨by first | (exact b2_t (by grind)) | (exact b2_f (by grind)), rfl⟩
  · refine z_iload_n ok dX7_in_5 rfl ?_
    refine z_iload_n ok dX7_in_6 rfl ?_
    refine z_icmp_gt (tgt := 14) ok dX7_in_7 (by decide) (fun cz7 => ?_) (fun cz7 => ?_)
    · refine z_iconst (v := 0) ok dX7_in_14 (by decide) ?_
      exact z_iret ok dX7_in_15 rfl rfl rfl (Nat.zero_le _) ⟨by first | (exact b2_t (by grind)) | (exact b2_f (by grind)), rfl⟩
    · refine z_iconst (v := 1) ok dX7_in_10 (by decide) ?_
      refine z_goto (tgt := 15) ok dX7_in_11 (by decide) ?_
      exact z_iret ok dX7_in_15 rfl rfl rfl (Nat.zero_le _) ⟨by first | (exact b2_t (by grind)) | (exact b2_f (by grind)), rfl⟩

set_option maxRecDepth 20000 in
set_option maxHeartbeats 4000000 in
theorem ct_X7_of {K : zK} {M : mM} {nx : Nat} {m : Nat} {μ : zMS} (hm : mPic M m μ) {c w : Int32} {i k : Nat} (hc : c = nI i) (hk : w = nI k) (hb : 13 + 12 * i + k < 287) : zCt K yX7_of cX7_of 3 zr_X7_of 0 [.ref m, .int c, .int w] M nx 0 0 (zI (fun x M' => x = gd (μ.1 1) i k ∧ M' = M)) := by
  refine z_enter [some (.ref m), some (.int c), some (.int w)] (by decide +kernel) (Nat.le_of_ble_eq_true rfl) rfl (fun B ok hz => ?_)
  refine z_aload_n ok dX7_of_0 rfl ?_
  refine z_getf ok dX7_of_1 zin_X7 rfl 0 (by decide) zw_771 hm.1 rfl ?_
  refine z_bipush (v := 13) ok dX7_of_4 (by decide) ?_
  refine z_bipush (v := 12) ok dX7_of_6 (by decide) ?_
  refine z_iload_n ok dX7_of_8 rfl ?_
  refine z_imul ok dX7_of_9 ?_
  refine z_iadd ok dX7_of_10 ?_
  refine z_iload_n ok dX7_of_11 rfl ?_
  refine z_iadd ok dX7_of_12 ?_
  refine m_ald1 ok dX7_of_13 hm (by subst hc; subst hk; rw [show (13 : Int32) = nI 13 from rfl, show (12 : Int32) = nI 12 from rfl, pk_mul, nI_add, nI_add]) (by omega) ?_
  exact z_iret ok dX7_of_14 rfl rfl rfl (Nat.zero_le _) ⟨rfl, rfl⟩

set_option maxRecDepth 20000 in
set_option maxHeartbeats 4000000 in
theorem ct_X7_ofVehicle {K : zK} {M : mM} {nx : Nat} {m : Nat} {μ : zMS} (hm : mPic M m μ) {c w : Int32} {i k : Nat} (hc : c = nI i) (hk : w = nI k) (hb : 205 + 8 * i + k < 287) : zCt K yX7_ofVehicle cX7_ofVehicle 3 zr_X7_ofVehicle 0 [.ref m, .int c, .int w] M nx 0 0 (zI (fun x M' => x = vd (μ.1 1) i k ∧ M' = M)) := by
  refine z_enter [some (.ref m), some (.int c), some (.int w)] (by decide +kernel) (Nat.le_of_ble_eq_true rfl) rfl (fun B ok hz => ?_)
  refine z_aload_n ok dX7_ofVehicle_0 rfl ?_
  refine z_getf ok dX7_ofVehicle_1 zin_X7 rfl 0 (by decide) zw_771 hm.1 rfl ?_
  refine z_sipush (v := 205) ok dX7_ofVehicle_4 (by decide) ?_
  refine z_bipush (v := 8) ok dX7_ofVehicle_7 (by decide) ?_
  refine z_iload_n ok dX7_ofVehicle_9 rfl ?_
  refine z_imul ok dX7_ofVehicle_10 ?_
  refine z_iadd ok dX7_ofVehicle_11 ?_
  refine z_iload_n ok dX7_ofVehicle_12 rfl ?_
  refine z_iadd ok dX7_ofVehicle_13 ?_
  refine m_ald1 ok dX7_ofVehicle_14 hm (by subst hc; subst hk; rw [show (205 : Int32) = nI 205 from rfl, show (8 : Int32) = nI 8 from rfl, pk_mul, nI_add, nI_add]) (by omega) ?_
  exact z_iret ok dX7_ofVehicle_15 rfl rfl rfl (Nat.zero_le _) ⟨rfl, rfl⟩

set_option maxRecDepth 20000 in
set_option maxHeartbeats 4000000 in
theorem ct_X7_ofOffer {K : zK} {M : mM} {nx : Nat} {m : Nat} {μ : zMS} (hm : mPic M m μ) {c w : Int32} {i k : Nat} (hc : c = nI i) (hk : w = nI k) (hb : 237 + 5 * i + k < 287) : zCt K yX7_ofOffer cX7_ofOffer 3 zr_X7_ofOffer 0 [.ref m, .int c, .int w] M nx 0 0 (zI (fun x M' => x = od (μ.1 1) i k ∧ M' = M)) := by
  refine z_enter [some (.ref m), some (.int c), some (.int w)] (by decide +kernel) (Nat.le_of_ble_eq_true rfl) rfl (fun B ok hz => ?_)
  refine z_aload_n ok dX7_ofOffer_0 rfl ?_
  refine z_getf ok dX7_ofOffer_1 zin_X7 rfl 0 (by decide) zw_771 hm.1 rfl ?_
  refine z_sipush (v := 237) ok dX7_ofOffer_4 (by decide) ?_
  refine z_iconst (v := 5) ok dX7_ofOffer_7 (by decide) ?_
  refine z_iload_n ok dX7_ofOffer_8 rfl ?_
  refine z_imul ok dX7_ofOffer_9 ?_
  refine z_iadd ok dX7_ofOffer_10 ?_
  refine z_iload_n ok dX7_ofOffer_11 rfl ?_
  refine z_iadd ok dX7_ofOffer_12 ?_
  refine m_ald1 ok dX7_ofOffer_13 hm (by subst hc; subst hk; rw [show (237 : Int32) = nI 237 from rfl, show (5 : Int32) = nI 5 from rfl, pk_mul, nI_add, nI_add]) (by omega) ?_
  exact z_iret ok dX7_ofOffer_14 rfl rfl rfl (Nat.zero_le _) ⟨rfl, rfl⟩

set_option maxRecDepth 20000 in
set_option maxHeartbeats 4000000 in
theorem ct_X7_puts {K : zK} {M : mM} {nx : Nat} {m : Nat} {μ : zMS} (hm : mPic M m μ) {c w x : Int32} {i k : Nat} (hc : c = nI i) (hk : w = nI k) (hb : 13 + 12 * i + k < 287) : zCt K yX7_puts cX7_puts 4 zr_X7_puts 0 [.ref m, .int c, .int w, .int x] M nx 0 0 (zU (fun M' => mPic M' m (mA μ 1 (pg (μ.1 1) i k x)) ∧ zFr M M' m 9)) := by
  refine z_enter [some (.ref m), some (.int c), some (.int w), some (.int x)] (by decide +kernel) (Nat.le_of_ble_eq_true rfl) rfl (fun B ok hz => ?_)
  refine z_aload_n ok dX7_puts_0 rfl ?_
  refine z_getf ok dX7_puts_1 zin_X7 rfl 0 (by decide) zw_771 hm.1 rfl ?_
  refine z_bipush (v := 13) ok dX7_puts_4 (by decide) ?_
  refine z_bipush (v := 12) ok dX7_puts_6 (by decide) ?_
  refine z_iload_n ok dX7_puts_8 rfl ?_
  refine z_imul ok dX7_puts_9 ?_
  refine z_iadd ok dX7_puts_10 ?_
  refine z_iload_n ok dX7_puts_11 rfl ?_
  refine z_iadd ok dX7_puts_12 ?_
  refine z_iload_n ok dX7_puts_13 rfl ?_
  refine m_ast1 ok dX7_puts_14 hm (by subst hc; subst hk; rw [show (13 : Int32) = nI 13 from rfl, show (12 : Int32) = nI 12 from rfl, pk_mul, nI_add, nI_add]) (by omega) (fun Mz2 hm1 frz3 => ?_)
  exact z_vret ok dX7_puts_15 rfl rfl (Nat.zero_le _) ⟨hm1, frz3⟩

set_option maxRecDepth 20000 in
set_option maxHeartbeats 4000000 in
theorem ct_X7_putsVehicle {K : zK} {M : mM} {nx : Nat} {m : Nat} {μ : zMS} (hm : mPic M m μ) {c w x : Int32} {i k : Nat} (hc : c = nI i) (hk : w = nI k) (hb : 205 + 8 * i + k < 287) : zCt K yX7_putsVehicle cX7_putsVehicle 4 zr_X7_putsVehicle 0 [.ref m, .int c, .int w, .int x] M nx 0 0 (zU (fun M' => mPic M' m (mA μ 1 (pv (μ.1 1) i k x)) ∧ zFr M M' m 9)) := by
  refine z_enter [some (.ref m), some (.int c), some (.int w), some (.int x)] (by decide +kernel) (Nat.le_of_ble_eq_true rfl) rfl (fun B ok hz => ?_)
  refine z_aload_n ok dX7_putsVehicle_0 rfl ?_
  refine z_getf ok dX7_putsVehicle_1 zin_X7 rfl 0 (by decide) zw_771 hm.1 rfl ?_
  refine z_sipush (v := 205) ok dX7_putsVehicle_4 (by decide) ?_
  refine z_bipush (v := 8) ok dX7_putsVehicle_7 (by decide) ?_
  refine z_iload_n ok dX7_putsVehicle_9 rfl ?_
  refine z_imul ok dX7_putsVehicle_10 ?_
  refine z_iadd ok dX7_putsVehicle_11 ?_
  refine z_iload_n ok dX7_putsVehicle_12 rfl ?_
  refine z_iadd ok dX7_putsVehicle_13 ?_
  refine z_iload_n ok dX7_putsVehicle_14 rfl ?_
  refine m_ast1 ok dX7_putsVehicle_15 hm (by subst hc; subst hk; rw [show (205 : Int32) = nI 205 from rfl, show (8 : Int32) = nI 8 from rfl, pk_mul, nI_add, nI_add]) (by omega) (fun Mz2 hm1 frz3 => ?_)
  exact z_vret ok dX7_putsVehicle_16 rfl rfl (Nat.zero_le _) ⟨hm1, frz3⟩

abbrev zGoods (s : Nat → Int32) (c : Int32) : Prop := ¬ c < 0 ∧ ¬ s 3 ≤ c ∧ ¬ gd s c.toNatClampNeg 6 = 5
abbrev zVeh (s : Nat → Int32) (v : Int32) : Prop := ¬ v < 0 ∧ ¬ s 4 ≤ v
theorem zGoods_nat {s : Nat → Int32} {c : Int32} {n nv no : Nat} (hN : zN s n nv no) (h0 : ¬ c < 0) (h1 : ¬ s 3 ≤ c) : ∃ jz, jz < n ∧ c = nI jz := i_nat (by have := hN.2.1; omega) h0 (by rw [← hN.1]; exact h1)
theorem zVeh_nat {s : Nat → Int32} {c : Int32} {n nv no : Nat} (hN : zN s n nv no) (h0 : ¬ c < 0) (h1 : ¬ s 4 ≤ c) : ∃ jz, jz < nv ∧ c = nI jz := i_nat (by have := hN.2.2.2.1; omega) h0 (by rw [← hN.2.2.1]; exact h1)
set_option maxRecDepth 20000 in
set_option maxHeartbeats 4000000 in
theorem ct_X7_isGoods {K : zK} {M : mM} {nx : Nat} {m : Nat} {μ : zMS} (hm : mPic M m μ) {c : Int32} {n nv no : Nat} (hN : zN (μ.1 1) n nv no) : zCt K yX7_isGoods cX7_isGoods 2 zr_X7_isGoods 1 [.ref m, .int c] M nx 0 0 (zI (fun x M' => x = b2 (zGoods (μ.1 1) c) ∧ M' = M)) := by
  refine z_enter [some (.ref m), some (.int c)] (by decide +kernel) (Nat.le_of_ble_eq_true rfl) rfl (fun B ok hz => ?_)
  refine z_iload_n ok dX7_isGoods_0 rfl ?_
  refine z_if_lt (tgt := 29) ok dX7_isGoods_1 (by decide) (fun cz1 => ?_) (fun cz1 => ?_)
  · refine z_iconst (v := 0) ok dX7_isGoods_29 (by decide) ?_
    exact z_iret ok dX7_isGoods_30 rfl rfl rfl (Nat.zero_le _) ⟨by first | (exact b2_t (by rw [zGoods, hcl]; grind)) | (exact b2_f (by rw [zGoods, hcl]; grind)) | (exact b2_f (by grind)), rfl⟩
  · refine z_iload_n ok dX7_isGoods_4 rfl ?_
    refine z_aload_n ok dX7_isGoods_5 rfl ?_
    refine z_getf ok dX7_isGoods_6 zin_X7 rfl 0 (by decide) zw_771 hm.1 rfl ?_
    refine z_iconst (v := 3) ok dX7_isGoods_9 (by decide) ?_
    refine m_ald1 ok dX7_isGoods_10 hm rfl (by decide) ?_
    refine z_icmp_ge (tgt := 29) ok dX7_isGoods_11 (by decide) (fun cz11 => ?_) (fun cz11 => ?_)
    · refine z_iconst (v := 0) ok dX7_isGoods_29 (by decide) ?_
      exact z_iret ok dX7_isGoods_30 rfl rfl rfl (Nat.zero_le _) ⟨by first | (exact b2_t (by rw [zGoods, hcl]; grind)) | (exact b2_f (by rw [zGoods, hcl]; grind)) | (exact b2_f (by grind)), rfl⟩
    · obtain ⟨jz, hjz, rfl⟩ := zGoods_nat hN cz1 cz11
      have hn16 := hN.2.1
      have hcl := nI_clamp (n := jz) (by omega)
      refine z_aload_n ok dX7_isGoods_14 rfl ?_
      refine z_iload_n ok dX7_isGoods_15 rfl ?_
      refine z_bipush (v := 6) ok dX7_isGoods_16 (by decide) ?_
      refine z_callVi ok dX7_isGoods_18 zm_X7_of zw_845 zi_X7_of hm.1 rfl (ct_X7_of hm (i := jz) (k := 6) rfl rfl (by omega)) rfl rfl (by decide) (by decide) (by decide) (Nat.le_of_ble_eq_true rfl) (fun xz1 Mz2 qz3 => ?_)
      obtain ⟨rfl, hMe⟩ := qz3
      obtain rfl := hMe.symm
      refine z_iconst (v := 5) ok dX7_isGoods_21 (by decide) ?_
      refine z_icmp_eq (tgt := 29) ok dX7_isGoods_22 (by decide) (fun cz22 => ?_) (fun cz22 => ?_)
      · refine z_iconst (v := 0) ok dX7_isGoods_29 (by decide) ?_
        exact z_iret ok dX7_isGoods_30 rfl rfl rfl (Nat.zero_le _) ⟨by first | (exact b2_t (by rw [zGoods, hcl]; grind)) | (exact b2_f (by rw [zGoods, hcl]; grind)) | (exact b2_f (by grind)), rfl⟩
      · refine z_iconst (v := 1) ok dX7_isGoods_25 (by decide) ?_
        refine z_goto (tgt := 30) ok dX7_isGoods_26 (by decide) ?_
        exact z_iret ok dX7_isGoods_30 rfl rfl rfl (Nat.zero_le _) ⟨by first | (exact b2_t (by rw [zGoods, hcl]; grind)) | (exact b2_f (by rw [zGoods, hcl]; grind)) | (exact b2_f (by grind)), rfl⟩

set_option maxRecDepth 20000 in
set_option maxHeartbeats 4000000 in
theorem ct_X7_isVehicle {K : zK} {M : mM} {nx : Nat} {m : Nat} {μ : zMS} (hm : mPic M m μ) {c : Int32} : zCt K yX7_isVehicle cX7_isVehicle 2 zr_X7_isVehicle 0 [.ref m, .int c] M nx 0 0 (zI (fun x M' => x = b2 (zVeh (μ.1 1) c) ∧ M' = M)) := by
  refine z_enter [some (.ref m), some (.int c)] (by decide +kernel) (Nat.le_of_ble_eq_true rfl) rfl (fun B ok hz => ?_)
  refine z_iload_n ok dX7_isVehicle_0 rfl ?_
  refine z_if_lt (tgt := 18) ok dX7_isVehicle_1 (by decide) (fun cz1 => ?_) (fun cz1 => ?_)
  · refine z_iconst (v := 0) ok dX7_isVehicle_18 (by decide) ?_
    exact z_iret ok dX7_isVehicle_19 rfl rfl rfl (Nat.zero_le _) ⟨by first | (exact b2_t (by grind)) | (exact b2_f (by grind)), rfl⟩
  · refine z_iload_n ok dX7_isVehicle_4 rfl ?_
    refine z_aload_n ok dX7_isVehicle_5 rfl ?_
    refine z_getf ok dX7_isVehicle_6 zin_X7 rfl 0 (by decide) zw_771 hm.1 rfl ?_
    refine z_iconst (v := 4) ok dX7_isVehicle_9 (by decide) ?_
    refine m_ald1 ok dX7_isVehicle_10 hm rfl (by decide) ?_
    refine z_icmp_ge (tgt := 18) ok dX7_isVehicle_11 (by decide) (fun cz11 => ?_) (fun cz11 => ?_)
    · refine z_iconst (v := 0) ok dX7_isVehicle_18 (by decide) ?_
      exact z_iret ok dX7_isVehicle_19 rfl rfl rfl (Nat.zero_le _) ⟨by first | (exact b2_t (by grind)) | (exact b2_f (by grind)), rfl⟩
    · refine z_iconst (v := 1) ok dX7_isVehicle_14 (by decide) ?_
      refine z_goto (tgt := 19) ok dX7_isVehicle_15 (by decide) ?_
      exact z_iret ok dX7_isVehicle_19 rfl rfl rfl (Nat.zero_le _) ⟨by first | (exact b2_t (by grind)) | (exact b2_f (by grind)), rfl⟩

theorem zGoods_in {s : Nat → Int32} {c : Int32} {n nv no : Nat} (hN : zN s n nv no) (h : zGoods s c) : ∃ jz, jz < n ∧ c = nI jz ∧ ¬ gd s jz 6 = 5 := by
  obtain ⟨jz, h1, rfl⟩ := zGoods_nat hN h.1 h.2.1
  have := hN.2.1
  have h3 := h.2.2
  rw [nI_clamp (by omega)] at h3
  exact ⟨jz, h1, rfl, h3⟩
theorem zGoods_of {s : Nat → Int32} {j n nv no : Nat} (hN : zN s n nv no) (hj : j < n) : zGoods s (nI j) ↔ ¬ gd s j 6 = 5 := by
  have := hN.2.1
  rw [zGoods, nI_clamp (by omega), hN.1, nI_leI (by omega) (by omega)]
  constructor
  · exact fun h => h.2.2
  · exact fun h => ⟨nI_pos (by omega), by omega, h⟩
abbrev zHere (s : Nat → Int32) (j : Nat) : Prop := ¬ gd s j 6 = 5 ∧ gd s j 6 < 2
abbrev zInV (s : Nat → Int32) (j : Nat) (v : Int32) : Prop := ¬ gd s j 6 = 5 ∧ (1 ≤ gd s j 6 ∧ gd s j 6 ≤ 2) ∧ gd s j 7 = v
set_option maxRecDepth 20000 in
set_option maxHeartbeats 4000000 in
theorem ct_X7_isHere {K : zK} {M : mM} {nx : Nat} {m : Nat} {μ : zMS} (hm : mPic M m μ) {c : Int32} {n nv no jz : Nat} (hN : zN (μ.1 1) n nv no) (hj : jz < n) (hc : c = nI jz) : zCt K yX7_isHere cX7_isHere 2 zr_X7_isHere 2 [.ref m, .int c] M nx 0 0 (zI (fun x M' => x = b2 (zHere (μ.1 1) jz) ∧ M' = M)) := by
  refine z_enter [some (.ref m), some (.int c)] (by decide +kernel) (Nat.le_of_ble_eq_true rfl) rfl (fun B ok hz => ?_)
  subst hc
  have hn16 := hN.2.1
  have hG := zGoods_of hN hj
  refine z_aload_n ok dX7_isHere_0 rfl ?_
  refine z_iload_n ok dX7_isHere_1 rfl ?_
  refine z_callVi ok dX7_isHere_2 zm_X7_isGoods zw_841 zi_X7_isGoods hm.1 rfl (ct_X7_isGoods hm hN) rfl rfl (by decide) (by decide) (by decide) (Nat.le_of_ble_eq_true rfl) (fun xz1 Mz2 qz3 => ?_)
  obtain ⟨rfl, hMe⟩ := qz3
  obtain rfl := hMe.symm
  refine z_if_eq (tgt := 23) ok dX7_isHere_5 (by decide) (fun cz5 => ?_) (fun cz5 => ?_)
  · refine z_iconst (v := 0) ok dX7_isHere_23 (by decide) ?_
    exact z_iret ok dX7_isHere_24 rfl rfl rfl (Nat.zero_le _) ⟨by first | (exact b2_t (by simp only [b2_0] at *; grind)) | (exact b2_f (by simp only [b2_0] at *; grind)), rfl⟩
  · refine z_aload_n ok dX7_isHere_8 rfl ?_
    refine z_iload_n ok dX7_isHere_9 rfl ?_
    refine z_bipush (v := 6) ok dX7_isHere_10 (by decide) ?_
    refine z_callVi ok dX7_isHere_12 zm_X7_of zw_845 zi_X7_of hm.1 rfl (ct_X7_of hm (i := jz) (k := 6) rfl rfl (by omega)) rfl rfl (by decide) (by decide) (by decide) (Nat.le_of_ble_eq_true rfl) (fun xz4 Mz5 qz6 => ?_)
    obtain ⟨rfl, hMe⟩ := qz6
    obtain rfl := hMe.symm
    refine z_iconst (v := 2) ok dX7_isHere_15 (by decide) ?_
    refine z_icmp_ge (tgt := 23) ok dX7_isHere_16 (by decide) (fun cz16 => ?_) (fun cz16 => ?_)
    · refine z_iconst (v := 0) ok dX7_isHere_23 (by decide) ?_
      exact z_iret ok dX7_isHere_24 rfl rfl rfl (Nat.zero_le _) ⟨by first | (exact b2_t (by simp only [b2_0] at *; grind)) | (exact b2_f (by simp only [b2_0] at *; grind)), rfl⟩
    · refine z_iconst (v := 1) ok dX7_isHere_19 (by decide) ?_
      refine z_goto (tgt := 24) ok dX7_isHere_20 (by decide) ?_
      exact z_iret ok dX7_isHere_24 rfl rfl rfl (Nat.zero_le _) ⟨by first | (exact b2_t (by simp only [b2_0] at *; grind)) | (exact b2_f (by simp only [b2_0] at *; grind)), rfl⟩

set_option maxRecDepth 20000 in
set_option maxHeartbeats 4000000 in
theorem ct_X7_isIn {K : zK} {M : mM} {nx : Nat} {m : Nat} {μ : zMS} (hm : mPic M m μ) {c : Int32} {n nv no jz : Nat} (hN : zN (μ.1 1) n nv no) (hj : jz < n) (hc : c = nI jz) {v : Int32} : zCt K yX7_isIn cX7_isIn 3 zr_X7_isIn 2 [.ref m, .int c, .int v] M nx 0 0 (zI (fun x M' => x = b2 (zInV (μ.1 1) jz v) ∧ M' = M)) := by
  refine z_enter [some (.ref m), some (.int c), some (.int v)] (by decide +kernel) (Nat.le_of_ble_eq_true rfl) rfl (fun B ok hz => ?_)
  subst hc
  have hn16 := hN.2.1
  have hG := zGoods_of hN hj
  refine z_aload_n ok dX7_isIn_0 rfl ?_
  refine z_iload_n ok dX7_isIn_1 rfl ?_
  refine z_callVi ok dX7_isIn_2 zm_X7_isGoods zw_841 zi_X7_isGoods hm.1 rfl (ct_X7_isGoods hm hN) rfl rfl (by decide) (by decide) (by decide) (Nat.le_of_ble_eq_true rfl) (fun xz1 Mz2 qz3 => ?_)
  obtain ⟨rfl, hMe⟩ := qz3
  obtain rfl := hMe.symm
  refine z_if_eq (tgt := 38) ok dX7_isIn_5 (by decide) (fun cz5 => ?_) (fun cz5 => ?_)
  · refine z_iconst (v := 0) ok dX7_isIn_38 (by decide) ?_
    exact z_iret ok dX7_isIn_39 rfl rfl rfl (Nat.zero_le _) ⟨by first | (exact b2_t (by simp only [b2_0] at *; grind)) | (exact b2_f (by simp only [b2_0] at *; grind)), rfl⟩
  · refine z_aload_n ok dX7_isIn_8 rfl ?_
    refine z_iload_n ok dX7_isIn_9 rfl ?_
    refine z_bipush (v := 6) ok dX7_isIn_10 (by decide) ?_
    refine z_callVi ok dX7_isIn_12 zm_X7_of zw_845 zi_X7_of hm.1 rfl (ct_X7_of hm (i := jz) (k := 6) rfl rfl (by omega)) rfl rfl (by decide) (by decide) (by decide) (Nat.le_of_ble_eq_true rfl) (fun xz4 Mz5 qz6 => ?_)
    obtain ⟨rfl, hMe⟩ := qz6
    obtain rfl := hMe.symm
    refine z_iconst (v := 1) ok dX7_isIn_15 (by decide) ?_
    refine z_iconst (v := 2) ok dX7_isIn_16 (by decide) ?_
    refine z_callSi ok dX7_isIn_17 zm_X7_in zw_819 zw_820 (ct_X7_in) rfl rfl (by decide) (by decide) (by decide) (Nat.le_of_ble_eq_true rfl) (fun xz7 Mz8 qz9 => ?_)
    obtain ⟨rfl, hMe⟩ := qz9
    obtain rfl := hMe.symm
    refine z_if_eq (tgt := 38) ok dX7_isIn_20 (by decide) (fun cz20 => ?_) (fun cz20 => ?_)
    · refine z_iconst (v := 0) ok dX7_isIn_38 (by decide) ?_
      exact z_iret ok dX7_isIn_39 rfl rfl rfl (Nat.zero_le _) ⟨by first | (exact b2_t (by simp only [b2_0] at *; grind)) | (exact b2_f (by simp only [b2_0] at *; grind)), rfl⟩
    · refine z_aload_n ok dX7_isIn_23 rfl ?_
      refine z_iload_n ok dX7_isIn_24 rfl ?_
      refine z_bipush (v := 7) ok dX7_isIn_25 (by decide) ?_
      refine z_callVi ok dX7_isIn_27 zm_X7_of zw_845 zi_X7_of hm.1 rfl (ct_X7_of hm (i := jz) (k := 7) rfl rfl (by omega)) rfl rfl (by decide) (by decide) (by decide) (Nat.le_of_ble_eq_true rfl) (fun xz10 Mz11 qz12 => ?_)
      obtain ⟨rfl, hMe⟩ := qz12
      obtain rfl := hMe.symm
      refine z_iload_n ok dX7_isIn_30 rfl ?_
      refine z_icmp_ne (tgt := 38) ok dX7_isIn_31 (by decide) (fun cz31 => ?_) (fun cz31 => ?_)
      · refine z_iconst (v := 0) ok dX7_isIn_38 (by decide) ?_
        exact z_iret ok dX7_isIn_39 rfl rfl rfl (Nat.zero_le _) ⟨by first | (exact b2_t (by simp only [b2_0] at *; grind)) | (exact b2_f (by simp only [b2_0] at *; grind)), rfl⟩
      · refine z_iconst (v := 1) ok dX7_isIn_34 (by decide) ?_
        refine z_goto (tgt := 39) ok dX7_isIn_35 (by decide) ?_
        exact z_iret ok dX7_isIn_39 rfl rfl rfl (Nat.zero_le _) ⟨by first | (exact b2_t (by simp only [b2_0] at *; grind)) | (exact b2_f (by simp only [b2_0] at *; grind)), rfl⟩

