theorem bt_nI {a i : Nat} (ha : a < 2 ^ 31) : bt (nI a) i = a.testBit i := by
  show (BitVec.ofNat 32 a).getLsbD i = _
  rw [BitVec.getLsbD_ofNat]
  by_cases hi : i < 32
  · simp [hi]
  · simp only [hi, decide_false, Bool.false_and]
    exact (Nat.testBit_lt_two_pow (Nat.lt_of_lt_of_le ha (Nat.pow_le_pow_right (by decide) (by omega)))).symm
theorem l_and {a b : Nat} (ha : a < 2 ^ 31) (hb : b < 2 ^ 31) : nI a &&& nI b = nI (a &&& b) := by
  refine b_ext (fun iω hiω => ?_)
  have habω : a &&& b < 2 ^ 31 := Nat.lt_of_le_of_lt Nat.and_le_left ha
  rw [b_and, bt_nI ha, bt_nI hb, bt_nI habω, Nat.testBit_and]
theorem l_ushr {a k : Nat} (ha : a < 2 ^ 31) (hk : k < 32) : ((nI a).toUInt32 >>> ((nI k).toUInt32 &&& Int32.toUInt32 31)).toInt32 = nI (a >>> k) := by
  refine b_ext (fun iω hiω => ?_)
  have habω : a >>> k < 2 ^ 31 := Nat.lt_of_le_of_lt (Nat.shiftRight_le a k) ha
  rw [b_ushr k hk, bt_nI ha, bt_nI habω, Nat.testBit_shiftRight]
theorem l_sshr {a k : Nat} (ha : a < 2 ^ 31) (hk : k < 32) : nI a >>> (nI k &&& 31) = nI (a >>> k) := by
  refine b_ext (fun iω hiω => ?_)
  have habω : a >>> k < 2 ^ 31 := Nat.lt_of_le_of_lt (Nat.shiftRight_le a k) ha
  rw [b_sshr k hk _ hiω, bt_nI ha, bt_nI ha, bt_nI habω, Nat.testBit_shiftRight]
  by_cases h : k + iω < 32
  · rw [if_pos h]
  · rw [if_neg h, Nat.testBit_lt_two_pow ha]
    exact (Nat.testBit_lt_two_pow (Nat.lt_of_lt_of_le ha (Nat.pow_le_pow_right (by decide) (by omega)))).symm
theorem l_sub {a b : Nat} (hb : b ≤ a) (ha : a < 2 ^ 31) : nI a - nI b = nI (a - b) := by
  have h1ω : nI b + nI (a - b) = nI a := by rw [nI_add]; congr 1; omega
  rw [← h1ω, Int32.add_comm, Int32.add_sub_cancel]
theorem bc_eq {m : Nat} (hm : m < 65536) : bcN m = pcN m 16 := by
  have hbω := Nat.mod_lt m (show 256 > 0 by decide)
  have eω : ∀ qω, m / 256 = 16 * qω + m / 256 % 16 → m = 256 * (16 * qω + m / 256 % 16) + m % 256 := fun qω hqω => by omega
  have hrω := Nat.mod_lt (m / 256) (show 16 > 0 by decide)
  rcases (by omega : m / 256 / 16 = 0 ∨ m / 256 / 16 = 1 ∨ m / 256 / 16 = 2 ∨ m / 256 / 16 = 3 ∨ m / 256 / 16 = 4 ∨ m / 256 / 16 = 5 ∨ m / 256 / 16 = 6 ∨ m / 256 / 16 = 7 ∨ m / 256 / 16 = 8 ∨ m / 256 / 16 = 9 ∨ m / 256 / 16 = 10 ∨ m / 256 / 16 = 11 ∨ m / 256 / 16 = 12 ∨ m / 256 / 16 = 13 ∨ m / 256 / 16 = 14 ∨ m / 256 / 16 = 15) with hω | hω | hω | hω | hω | hω | hω | hω | hω | hω | hω | hω | hω | hω | hω | hω
  · rw [eω 0 (by omega)]; exact bc_0 _ hrω _ hbω
  · rw [eω 1 (by omega)]; exact bc_1 _ hrω _ hbω
  · rw [eω 2 (by omega)]; exact bc_2 _ hrω _ hbω
  · rw [eω 3 (by omega)]; exact bc_3 _ hrω _ hbω
  · rw [eω 4 (by omega)]; exact bc_4 _ hrω _ hbω
  · rw [eω 5 (by omega)]; exact bc_5 _ hrω _ hbω
  · rw [eω 6 (by omega)]; exact bc_6 _ hrω _ hbω
  · rw [eω 7 (by omega)]; exact bc_7 _ hrω _ hbω
  · rw [eω 8 (by omega)]; exact bc_8 _ hrω _ hbω
  · rw [eω 9 (by omega)]; exact bc_9 _ hrω _ hbω
  · rw [eω 10 (by omega)]; exact bc_10 _ hrω _ hbω
  · rw [eω 11 (by omega)]; exact bc_11 _ hrω _ hbω
  · rw [eω 12 (by omega)]; exact bc_12 _ hrω _ hbω
  · rw [eω 13 (by omega)]; exact bc_13 _ hrω _ hbω
  · rw [eω 14 (by omega)]; exact bc_14 _ hrω _ hbω
  · rw [eω 15 (by omega)]; exact bc_15 _ hrω _ hbω
theorem bc1_le {m : Nat} : bc1 m ≤ m := Nat.sub_le _ _
theorem bc2_lt {m : Nat} : bc2 m ≤ 1717986918 := by
  have h1ω : m &&& 858993459 ≤ 858993459 := Nat.and_le_right
  have h2ω : m >>> 2 &&& 858993459 ≤ 858993459 := Nat.and_le_right
  unfold bc2
  omega
theorem bc3_lt {m : Nat} : bc3 m ≤ 252645135 := Nat.and_le_right
theorem bc4_lt {m : Nat} (h : m ≤ 252645135) : bc4 m ≤ 505290270 := by
  have h1ω := Nat.shiftRight_le m 8
  unfold bc4
  omega
theorem bc5_lt {m : Nat} (h : m ≤ 505290270) : bc5 m ≤ 1010580540 := by
  have h1ω := Nat.shiftRight_le m 16
  unfold bc5
  omega
theorem zBits_nI {m : Nat} (hm : m < 65536) : ∀ k, k ≤ 16 → zBits (nI m) k = nI (pcN m k)
  | 0, _ => rfl
  | kω + 1, hkω => by
    have ihω := zBits_nI hm kω (by omega)
    unfold zBits at ihω ⊢
    have hsω : m >>> kω < 2 ^ 31 := Nat.lt_of_le_of_lt (Nat.shiftRight_le m kω) (by omega)
    rw [zSum, ihω, l_sshr (by omega) (by omega), show (1 : Int32) = nI 1 from rfl, l_and hsω (by decide), nI_add]
    rfl
theorem nI_of16 {x : Int32} (h : ∀ i, 16 ≤ i → bt x i = false) : ∃ m, m < 65536 ∧ x = nI m := by
  have h0ω : 0 ≤ x := b_nn (h 31 (by decide))
  obtain ⟨mω, hmω, heω⟩ := nI_of (x := x) (Int32.not_lt.mpr h0ω)
  refine ⟨mω, ?_, heω⟩
  refine Nat.lt_pow_two_of_testBit (n := 16) mω (fun jω hjω => ?_)
  have h9ω := h jω hjω
  rw [heω, bt_nI hmω] at h9ω
  exact h9ω
set_option maxRecDepth 20000 in
set_option maxHeartbeats 4000000 in
theorem ct_J6_bitCount_0f7a4 {K : zK} {M : mM} {nx : Nat} {m : Nat} (hm16 : m < 65536) : zCt K yJ6_bitCount_0f7a4 cJ6_bitCount_0f7a4 1 zr_J6_bitCount_0f7a4 0 [.int (nI m)] M nx 0 0 (zI (fun y M' => y = zBits (nI m) 16 ∧ M' = M)) := by
  refine z_enter [some (.int (nI m))] (by decide +kernel) (Nat.le_of_ble_eq_true rfl) rfl (fun Bω okω hzω => ?_)
  refine z_iload_n okω dJ6_bitCount_0f7a4_0 rfl ?_
  refine z_iload_n okω dJ6_bitCount_0f7a4_1 rfl ?_
  refine z_iconst (v := 1) okω dJ6_bitCount_0f7a4_2 (by decide) ?_
  refine z_iushr okω dJ6_bitCount_0f7a4_3 ?_
  refine z_ldcw okω dJ6_bitCount_0f7a4_4 zw_504 ?_
  refine z_iand okω dJ6_bitCount_0f7a4_7 ?_
  refine z_isub okω dJ6_bitCount_0f7a4_8 ?_
  refine z_istore_n okω dJ6_bitCount_0f7a4_9 (by decide) rfl ?_
  refine z_iload_n okω dJ6_bitCount_0f7a4_10 rfl ?_
  refine z_ldcw okω dJ6_bitCount_0f7a4_11 zw_505 ?_
  refine z_iand okω dJ6_bitCount_0f7a4_14 ?_
  refine z_iload_n okω dJ6_bitCount_0f7a4_15 rfl ?_
  refine z_iconst (v := 2) okω dJ6_bitCount_0f7a4_16 (by decide) ?_
  refine z_iushr okω dJ6_bitCount_0f7a4_17 ?_
  refine z_ldcw okω dJ6_bitCount_0f7a4_18 zw_505 ?_
  refine z_iand okω dJ6_bitCount_0f7a4_21 ?_
  refine z_iadd okω dJ6_bitCount_0f7a4_22 ?_
  refine z_istore_n okω dJ6_bitCount_0f7a4_23 (by decide) rfl ?_
  refine z_iload_n okω dJ6_bitCount_0f7a4_24 rfl ?_
  refine z_iload_n okω dJ6_bitCount_0f7a4_25 rfl ?_
  refine z_iconst (v := 4) okω dJ6_bitCount_0f7a4_26 (by decide) ?_
  refine z_iushr okω dJ6_bitCount_0f7a4_27 ?_
  refine z_iadd okω dJ6_bitCount_0f7a4_28 ?_
  refine z_ldcw okω dJ6_bitCount_0f7a4_29 zw_506 ?_
  refine z_iand okω dJ6_bitCount_0f7a4_32 ?_
  refine z_istore_n okω dJ6_bitCount_0f7a4_33 (by decide) rfl ?_
  refine z_iload_n okω dJ6_bitCount_0f7a4_34 rfl ?_
  refine z_iload_n okω dJ6_bitCount_0f7a4_35 rfl ?_
  refine z_bipush (v := 8) okω dJ6_bitCount_0f7a4_36 (by decide) ?_
  refine z_iushr okω dJ6_bitCount_0f7a4_38 ?_
  refine z_iadd okω dJ6_bitCount_0f7a4_39 ?_
  refine z_istore_n okω dJ6_bitCount_0f7a4_40 (by decide) rfl ?_
  refine z_iload_n okω dJ6_bitCount_0f7a4_41 rfl ?_
  refine z_iload_n okω dJ6_bitCount_0f7a4_42 rfl ?_
  refine z_bipush (v := 16) okω dJ6_bitCount_0f7a4_43 (by decide) ?_
  refine z_iushr okω dJ6_bitCount_0f7a4_45 ?_
  refine z_iadd okω dJ6_bitCount_0f7a4_46 ?_
  refine z_istore_n okω dJ6_bitCount_0f7a4_47 (by decide) rfl ?_
  refine z_iload_n okω dJ6_bitCount_0f7a4_48 rfl ?_
  refine z_bipush (v := 63) okω dJ6_bitCount_0f7a4_49 (by decide) ?_
  refine z_iand okω dJ6_bitCount_0f7a4_51 ?_
  refine z_iret okω dJ6_bitCount_0f7a4_52 rfl rfl rfl (Nat.zero_le _) ⟨?_, rfl⟩
  have hmzω : m < 2 ^ 31 := by omega
  have e1ω : nI m - (((nI m).toUInt32 >>> ((1 : Int32).toUInt32 &&& Int32.toUInt32 31)).toInt32 &&& 1431655765) = nI (bc1 m) := by
    rw [show (1 : Int32) = nI 1 from rfl, l_ushr hmzω (by decide), show (1431655765 : Int32) = nI 1431655765 from rfl, l_and (Nat.lt_of_le_of_lt (Nat.shiftRight_le _ _) hmzω) (by decide), l_sub (Nat.le_trans Nat.and_le_left (Nat.shiftRight_le _ _)) hmzω]
    rfl
  have h1zω : bc1 m < 2 ^ 31 := Nat.lt_of_le_of_lt bc1_le hmzω
  have e2ω : (nI (bc1 m) &&& 858993459) + (((nI (bc1 m)).toUInt32 >>> ((2 : Int32).toUInt32 &&& Int32.toUInt32 31)).toInt32 &&& 858993459) = nI (bc2 (bc1 m)) := by
    rw [show (2 : Int32) = nI 2 from rfl, l_ushr h1zω (by decide), show (858993459 : Int32) = nI 858993459 from rfl, l_and (Nat.lt_of_le_of_lt (Nat.shiftRight_le _ _) h1zω) (by decide), l_and h1zω (by decide), nI_add]
    rfl
  have h2zω : bc2 (bc1 m) ≤ 1717986918 := bc2_lt
  have h3yω : bc2 (bc1 m) + bc2 (bc1 m) >>> 4 < 2 ^ 31 := by have h9ω : bc2 (bc1 m) >>> 4 ≤ bc2 (bc1 m) / 16 := (by rw [Nat.shiftRight_eq_div_pow]; exact Nat.le_refl _); omega
  have e3ω : (nI (bc2 (bc1 m)) + ((nI (bc2 (bc1 m))).toUInt32 >>> ((4 : Int32).toUInt32 &&& Int32.toUInt32 31)).toInt32) &&& 252645135 = nI (bc3 (bc2 (bc1 m))) := by
    rw [show (4 : Int32) = nI 4 from rfl, l_ushr (by omega) (by decide), nI_add, show (252645135 : Int32) = nI 252645135 from rfl, l_and h3yω (by decide)]
    rfl
  have h3zω : bc3 (bc2 (bc1 m)) ≤ 252645135 := bc3_lt
  have e4ω : nI (bc3 (bc2 (bc1 m))) + ((nI (bc3 (bc2 (bc1 m)))).toUInt32 >>> ((8 : Int32).toUInt32 &&& Int32.toUInt32 31)).toInt32 = nI (bc4 (bc3 (bc2 (bc1 m)))) := by
    rw [show (8 : Int32) = nI 8 from rfl, l_ushr (by omega) (by decide), nI_add]
    rfl
  have h4zω := bc4_lt h3zω
  have e5ω : nI (bc4 (bc3 (bc2 (bc1 m)))) + ((nI (bc4 (bc3 (bc2 (bc1 m))))).toUInt32 >>> ((16 : Int32).toUInt32 &&& Int32.toUInt32 31)).toInt32 = nI (bc5 (bc4 (bc3 (bc2 (bc1 m))))) := by
    rw [show (16 : Int32) = nI 16 from rfl, l_ushr (by omega) (by decide), nI_add]
    rfl
  have h5zω := bc5_lt h4zω
  rw [e1ω, e2ω, e3ω, e4ω, e5ω, show (63 : Int32) = nI 63 from rfl, l_and (by omega) (by decide), zBits_nI hm16 16 (Nat.le_refl _)]
  exact congrArg nI (bc_eq hm16)


