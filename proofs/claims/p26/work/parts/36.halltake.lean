theorem zLast_d {p : Nat → Prop} [DecidablePred p] {f : Nat → Int32} {x : Int32} : ∀ n, ((∀ k, k < n → ¬ p k) ∧ zLast p f x n = x) ∨ ∃ k, k < n ∧ zLast p f x n = f k ∧ p k
  | 0 => Or.inl ⟨fun _ hk => absurd hk (by omega), rfl⟩
  | n + 1 => by
    by_cases h : p n
    · exact Or.inr ⟨n, by omega, (zLast_t h).symm, h⟩
    · rw [← zLast_f h]
      rcases zLast_d (p := p) (f := f) (x := x) n with ⟨h1, h2⟩ | ⟨k, hk, h2⟩
      · exact Or.inl ⟨fun k hk => by rcases (by omega : k < n ∨ k = n) with hl9 | he9; exact h1 k hl9; rw [he9]; exact h, h2⟩
      · exact Or.inr ⟨k, by omega, h2⟩
def zSm (s : Nat → Int32) (n v : Nat) : Prop := ∀ c, c < n → ∀ c', c' < n → zInV s c (nI v) → zInV s c' (nI v) → gd s c 0 = gd s c' 0
def zP1 (s : Nat → Int32) (n : Nat) : Prop := ∀ c, c < n → 1 ≤ gd s c 0 ∧ gd s c 0 ≤ 4
theorem i_pos {x : Int32} (h : 1 ≤ x) : ¬ x = 0 ∧ ¬ x < 0 := by
  have h1 := Int32.le_iff_toInt_le.mp h
  have e1 : (1 : Int32).toInt = 1 := rfl
  have e0 : (0 : Int32).toInt = 0 := rfl
  rw [e1] at h1
  refine ⟨fun h2 => ?_, fun h2 => ?_⟩
  · rw [h2, e0] at h1
    omega
  · have h3 := Int32.lt_iff_toInt_lt.mp h2
    rw [e0] at h3
    omega
theorem kPlace_goal {s : Nat → Int32} {n v : Nat} {x p : Int32} (h : kPlace s n v x) (h0 : vd s v 2 = 0) (hs : zSm s n v) (h1 : zP1 s n) : (x = 0 ∨ x = p) ↔ (zGoal s n v < 0 ∨ zGoal s n v = p) := by
  unfold zGoal
  rw [if_pos h0]
  rcases h with ⟨hx, hn⟩ | ⟨c, hc, hin, hx⟩
  · rcases zLast_d (p := fun c => zInV s c (nI v)) (f := fun c => gd s c 0) (x := -1000004) n with ⟨_, h3⟩ | ⟨k, hk, _, h3⟩
    · rw [h3]
      exact ⟨fun _ => Or.inl (by decide), fun _ => Or.inl hx⟩
    · exact absurd h3 (hn k hk)
  · rcases zLast_d (p := fun c => zInV s c (nI v)) (f := fun c => gd s c 0) (x := -1000004) n with ⟨h2, _⟩ | ⟨k, hk, h2, h3⟩
    · exact absurd hin (h2 c hc)
    · rw [h2, hx, hs k hk c hc h3 hin]
      have h9 := i_pos (h1 c hc).1
      exact ⟨fun h => h.elim (fun z => absurd z h9.1) Or.inr, fun h => h.elim (fun z => absurd z h9.2) Or.inr⟩
set_option maxRecDepth 20000 in
set_option maxHeartbeats 4000000 in
theorem ct_X1_canTake {K : zK} {M : mM} {nx : Nat} {b : Nat} {κ : hK} {π : Nat → Nat} (hm : hPicP M b κ π) {s : Nat → Int32} {n nv no : Nat} (hr : hRel κ s n nv no) {v i : Nat} (hvv : v < nv) (hii : i < n) (hsm : zSm s n v) (hp1 : zP1 s n) : zCt K yX1_canTake cX1_canTake 4 zr_X1_canTake 2 [.ref b, .ref (b + 21 + v), .ref (b + 5 + i)] M nx 0 0 (zI (fun x M' => x = b2 (zCan s n i v) ∧ M' = M)) := by
  refine z_enter [some (.ref b), some (.ref (b + 21 + v)), some (.ref (b + 5 + i)), none] (by decide +kernel) (Nat.le_of_ble_eq_true rfl) rfl (fun B ok hz => ?_)
  have hmd := hr.made
  have hn16 := hr.1.2.1
  have hn4 := hr.1.2.2.2.1
  have hv : v < 4 := by omega
  have hcc := hr.c hii
  have hkv := hr.2.2.2.2.1 v hvv
  have hq1 := hcc.1
  have hq2 := hcc.2.1
  have hq3 := hcc.2.2.1
  have hq7 := hcc.2.2.2.2.2.2.1
  have hw1 := hkv.1
  have hw2 := hkv.2.1
  have hw3 := hkv.2.2.1
  refine z_aload_n ok dX1_canTake_0 rfl ?_
  refine z_getf ok dX1_canTake_1 zin_X5 rfl 3 (by decide) zw_120 (hm.2.2.2.2.2.1 v (by omega)).1 rfl ?_
  refine z_if_ne (tgt := 14) ok dX1_canTake_4 (by decide) (fun cz4 => ?_) (fun cz4 => ?_)
  · refine z_iconst (v := 0) ok dX1_canTake_14 (by decide) ?_
    exact z_iret ok dX1_canTake_15 rfl rfl rfl (Nat.zero_le _) ⟨by first | (exact b2_t (by grind)) | (exact b2_f (by grind)), rfl⟩
  · have hv20 : vd s v 2 = 0 := by rw [← hw3]; exact cz4
    refine z_aload_n ok dX1_canTake_7 rfl ?_
    refine z_getf ok dX1_canTake_8 zin_X0 rfl 7 (by decide) zw_60 (hm.2.2.2.2.1 i (by omega)).1 rfl ?_
    refine z_if_eq (tgt := 16) ok dX1_canTake_11 (by decide) (fun cz11 => ?_) (fun cz11 => ?_)
    · refine z_aload_n ok dX1_canTake_16 rfl ?_
      refine z_aload_n ok dX1_canTake_17 rfl ?_
      refine z_callVi ok dX1_canTake_18 zm_X1_loadPlace zw_449 zi_X1_loadPlace hm.1 rfl (ct_X1_loadPlace hm hr hv) rfl rfl (by decide) (by decide) (by decide) (Nat.le_of_ble_eq_true rfl) (fun xz1 Mz2 qz3 => ?_)
      obtain ⟨hkp, hMe⟩ := qz3
      obtain rfl := hMe.symm
      have hpg := kPlace_goal (p := gd s i 0) hkp hv20 hsm hp1
      refine z_istore_n ok dX1_canTake_21 (by decide) rfl ?_
      refine z_iload_n ok dX1_canTake_22 rfl ?_
      refine z_if_eq (tgt := 34) ok dX1_canTake_23 (by decide) (fun cz23 => ?_) (fun cz23 => ?_)
      · refine z_aload_n ok dX1_canTake_34 rfl ?_
        refine z_aload_n ok dX1_canTake_35 rfl ?_
        refine z_callVi ok dX1_canTake_36 zm_X1_loadSize zw_457 zi_X1_loadSize hm.1 rfl (ct_X1_loadSize hm hr hv) rfl rfl (by decide) (by decide) (by decide) (Nat.le_of_ble_eq_true rfl) (fun xz4 Mz5 qz6 => ?_)
        obtain ⟨rfl, hMe⟩ := qz6
        obtain rfl := hMe.symm
        refine z_aload_n ok dX1_canTake_39 rfl ?_
        refine z_getf ok dX1_canTake_40 zin_X0 rfl 2 (by decide) zw_45 (hm.2.2.2.2.1 i (by omega)).1 rfl ?_
        refine z_iadd ok dX1_canTake_43 ?_
        refine z_aload_n ok dX1_canTake_44 rfl ?_
        refine z_getf ok dX1_canTake_45 zin_X5 rfl 1 (by decide) zw_114 (hm.2.2.2.2.2.1 v (by omega)).1 rfl ?_
        refine z_icmp_gt (tgt := 72) ok dX1_canTake_48 (by decide) (fun cz48 => ?_) (fun cz48 => ?_)
        · refine z_iconst (v := 0) ok dX1_canTake_72 (by decide) ?_
          exact z_iret ok dX1_canTake_73 rfl rfl rfl (Nat.zero_le _) ⟨by first | (exact b2_t (by grind)) | (exact b2_f (by grind)), rfl⟩
        · refine z_aload_n ok dX1_canTake_51 rfl ?_
          refine z_aload_n ok dX1_canTake_52 rfl ?_
          refine z_callVi ok dX1_canTake_53 zm_X1_loadWeight zw_461 zi_X1_loadWeight hm.1 rfl (ct_X1_loadWeight hm hr hv) rfl rfl (by decide) (by decide) (by decide) (Nat.le_of_ble_eq_true rfl) (fun xz7 Mz8 qz9 => ?_)
          obtain ⟨rfl, hMe⟩ := qz9
          obtain rfl := hMe.symm
          refine z_aload_n ok dX1_canTake_56 rfl ?_
          refine z_getf ok dX1_canTake_57 zin_X0 rfl 3 (by decide) zw_48 (hm.2.2.2.2.1 i (by omega)).1 rfl ?_
          refine z_iadd ok dX1_canTake_60 ?_
          refine z_aload_n ok dX1_canTake_61 rfl ?_
          refine z_getf ok dX1_canTake_62 zin_X5 rfl 2 (by decide) zw_117 (hm.2.2.2.2.2.1 v (by omega)).1 rfl ?_
          refine z_icmp_gt (tgt := 72) ok dX1_canTake_65 (by decide) (fun cz65 => ?_) (fun cz65 => ?_)
          · refine z_iconst (v := 0) ok dX1_canTake_72 (by decide) ?_
            exact z_iret ok dX1_canTake_73 rfl rfl rfl (Nat.zero_le _) ⟨by first | (exact b2_t (by grind)) | (exact b2_f (by grind)), rfl⟩
          · refine z_iconst (v := 1) ok dX1_canTake_68 (by decide) ?_
            refine z_goto (tgt := 73) ok dX1_canTake_69 (by decide) ?_
            exact z_iret ok dX1_canTake_73 rfl rfl rfl (Nat.zero_le _) ⟨by first | (exact b2_t (by grind)) | (exact b2_f (by grind)), rfl⟩
      · refine z_iload_n ok dX1_canTake_26 rfl ?_
        refine z_aload_n ok dX1_canTake_27 rfl ?_
        refine z_getf ok dX1_canTake_28 zin_X0 rfl 1 (by decide) zw_42 (hm.2.2.2.2.1 i (by omega)).1 rfl ?_
        refine z_icmp_ne (tgt := 72) ok dX1_canTake_31 (by decide) (fun cz31 => ?_) (fun cz31 => ?_)
        · refine z_iconst (v := 0) ok dX1_canTake_72 (by decide) ?_
          exact z_iret ok dX1_canTake_73 rfl rfl rfl (Nat.zero_le _) ⟨by first | (exact b2_t (by grind)) | (exact b2_f (by grind)), rfl⟩
        · refine z_aload_n ok dX1_canTake_34 rfl ?_
          refine z_aload_n ok dX1_canTake_35 rfl ?_
          refine z_callVi ok dX1_canTake_36 zm_X1_loadSize zw_457 zi_X1_loadSize hm.1 rfl (ct_X1_loadSize hm hr hv) rfl rfl (by decide) (by decide) (by decide) (Nat.le_of_ble_eq_true rfl) (fun xz10 Mz11 qz12 => ?_)
          obtain ⟨rfl, hMe⟩ := qz12
          obtain rfl := hMe.symm
          refine z_aload_n ok dX1_canTake_39 rfl ?_
          refine z_getf ok dX1_canTake_40 zin_X0 rfl 2 (by decide) zw_45 (hm.2.2.2.2.1 i (by omega)).1 rfl ?_
          refine z_iadd ok dX1_canTake_43 ?_
          refine z_aload_n ok dX1_canTake_44 rfl ?_
          refine z_getf ok dX1_canTake_45 zin_X5 rfl 1 (by decide) zw_114 (hm.2.2.2.2.2.1 v (by omega)).1 rfl ?_
          refine z_icmp_gt (tgt := 72) ok dX1_canTake_48 (by decide) (fun cz48 => ?_) (fun cz48 => ?_)
          · refine z_iconst (v := 0) ok dX1_canTake_72 (by decide) ?_
            exact z_iret ok dX1_canTake_73 rfl rfl rfl (Nat.zero_le _) ⟨by first | (exact b2_t (by grind)) | (exact b2_f (by grind)), rfl⟩
          · refine z_aload_n ok dX1_canTake_51 rfl ?_
            refine z_aload_n ok dX1_canTake_52 rfl ?_
            refine z_callVi ok dX1_canTake_53 zm_X1_loadWeight zw_461 zi_X1_loadWeight hm.1 rfl (ct_X1_loadWeight hm hr hv) rfl rfl (by decide) (by decide) (by decide) (Nat.le_of_ble_eq_true rfl) (fun xz13 Mz14 qz15 => ?_)
            obtain ⟨rfl, hMe⟩ := qz15
            obtain rfl := hMe.symm
            refine z_aload_n ok dX1_canTake_56 rfl ?_
            refine z_getf ok dX1_canTake_57 zin_X0 rfl 3 (by decide) zw_48 (hm.2.2.2.2.1 i (by omega)).1 rfl ?_
            refine z_iadd ok dX1_canTake_60 ?_
            refine z_aload_n ok dX1_canTake_61 rfl ?_
            refine z_getf ok dX1_canTake_62 zin_X5 rfl 2 (by decide) zw_117 (hm.2.2.2.2.2.1 v (by omega)).1 rfl ?_
            refine z_icmp_gt (tgt := 72) ok dX1_canTake_65 (by decide) (fun cz65 => ?_) (fun cz65 => ?_)
            · refine z_iconst (v := 0) ok dX1_canTake_72 (by decide) ?_
              exact z_iret ok dX1_canTake_73 rfl rfl rfl (Nat.zero_le _) ⟨by first | (exact b2_t (by grind)) | (exact b2_f (by grind)), rfl⟩
            · refine z_iconst (v := 1) ok dX1_canTake_68 (by decide) ?_
              refine z_goto (tgt := 73) ok dX1_canTake_69 (by decide) ?_
              exact z_iret ok dX1_canTake_73 rfl rfl rfl (Nat.zero_le _) ⟨by first | (exact b2_t (by grind)) | (exact b2_f (by grind)), rfl⟩
    · refine z_iconst (v := 0) ok dX1_canTake_14 (by decide) ?_
      exact z_iret ok dX1_canTake_15 rfl rfl rfl (Nat.zero_le _) ⟨by first | (exact b2_t (by grind)) | (exact b2_f (by grind)), rfl⟩


