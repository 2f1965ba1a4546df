set_option maxRecDepth 20000 in
set_option maxHeartbeats 4000000 in
theorem ct_X4_wordOf {K : zK} {M : mM} {nx : Nat} {v : Int32} {w : Nat} (hvw : (w < 7 ∧ v = nI w) ∨ (w = 7 ∧ v = -1)) : zCt K yX4_wordOf cX4_wordOf 1 zr_X4_wordOf 0 [.int v] M nx 0 0 (zA (fun vv M' => M' = M ∧ vv = .ref (K.1 w))) := by
  refine z_enter [some (.int v)] (by decide +kernel) (Nat.le_of_ble_eq_true rfl) rfl (fun Bω okω hzω => ?_)
  refine z_iload_n okω dX4_wordOf_0 rfl ?_
  rcases hvw with ⟨hwω, hvω⟩ | ⟨hwω, hvω⟩
  · rcases (by omega : w = 0 ∨ w = 1 ∨ w = 2 ∨ w = 3 ∨ w = 4 ∨ w = 5 ∨ w = 6) with eω | eω | eω | eω | eω | eω | eω
    · rw [hvω, eω]
      refine z_tableIn (off := 43) (tgt := 44) okω dX4_wordOf_1 (by decide) (by decide) rfl (by decide) ?_
      refine z_ldcS (i := 0) okω dX4_wordOf_44 (by decide) (by decide) rfl ?_
      exact z_aret okω dX4_wordOf_46 rfl (Or.inl ⟨_, rfl⟩) (Or.inr ⟨_, rfl⟩) rfl (Nat.zero_le _) ⟨rfl, rfl⟩
    · rw [hvω, eω]
      refine z_tableIn (off := 46) (tgt := 47) okω dX4_wordOf_1 (by decide) (by decide) rfl (by decide) ?_
      refine z_ldcS (i := 1) okω dX4_wordOf_47 (by decide) (by decide) rfl ?_
      exact z_aret okω dX4_wordOf_49 rfl (Or.inl ⟨_, rfl⟩) (Or.inr ⟨_, rfl⟩) rfl (Nat.zero_le _) ⟨rfl, rfl⟩
    · rw [hvω, eω]
      refine z_tableIn (off := 49) (tgt := 50) okω dX4_wordOf_1 (by decide) (by decide) rfl (by decide) ?_
      refine z_ldcS (i := 2) okω dX4_wordOf_50 (by decide) (by decide) rfl ?_
      exact z_aret okω dX4_wordOf_52 rfl (Or.inl ⟨_, rfl⟩) (Or.inr ⟨_, rfl⟩) rfl (Nat.zero_le _) ⟨rfl, rfl⟩
    · rw [hvω, eω]
      refine z_tableIn (off := 52) (tgt := 53) okω dX4_wordOf_1 (by decide) (by decide) rfl (by decide) ?_
      refine z_ldcS (i := 3) okω dX4_wordOf_53 (by decide) (by decide) rfl ?_
      exact z_aret okω dX4_wordOf_55 rfl (Or.inl ⟨_, rfl⟩) (Or.inr ⟨_, rfl⟩) rfl (Nat.zero_le _) ⟨rfl, rfl⟩
    · rw [hvω, eω]
      refine z_tableIn (off := 55) (tgt := 56) okω dX4_wordOf_1 (by decide) (by decide) rfl (by decide) ?_
      refine z_ldcS (i := 4) okω dX4_wordOf_56 (by decide) (by decide) rfl ?_
      exact z_aret okω dX4_wordOf_58 rfl (Or.inl ⟨_, rfl⟩) (Or.inr ⟨_, rfl⟩) rfl (Nat.zero_le _) ⟨rfl, rfl⟩
    · rw [hvω, eω]
      refine z_tableIn (off := 58) (tgt := 59) okω dX4_wordOf_1 (by decide) (by decide) rfl (by decide) ?_
      refine z_ldcS (i := 5) okω dX4_wordOf_59 (by decide) (by decide) rfl ?_
      exact z_aret okω dX4_wordOf_61 rfl (Or.inl ⟨_, rfl⟩) (Or.inr ⟨_, rfl⟩) rfl (Nat.zero_le _) ⟨rfl, rfl⟩
    · rw [hvω, eω]
      refine z_tableIn (off := 61) (tgt := 62) okω dX4_wordOf_1 (by decide) (by decide) rfl (by decide) ?_
      refine z_ldcS (i := 6) okω dX4_wordOf_62 (by decide) (by decide) rfl ?_
      exact z_aret okω dX4_wordOf_64 rfl (Or.inl ⟨_, rfl⟩) (Or.inr ⟨_, rfl⟩) rfl (Nat.zero_le _) ⟨rfl, rfl⟩
  · rw [hvω, hwω]
    refine z_tableOut (tgt := 65) okω dX4_wordOf_1 (Or.inl (by decide)) (by decide) ?_
    refine z_ldcS (i := 7) okω dX4_wordOf_65 (by decide) (by decide) rfl ?_
    exact z_aret okω dX4_wordOf_67 rfl (Or.inl ⟨_, rfl⟩) (Or.inr ⟨_, rfl⟩) rfl (Nat.zero_le _) ⟨rfl, rfl⟩

set_option maxRecDepth 20000 in
set_option maxHeartbeats 4000000 in
theorem ct_X4_numbersOf {K : zK} {M : mM} {nx : Nat} {v : Int32} {w : Nat} (hvw : (w < 7 ∧ v = nI w) ∨ (w = 7 ∧ v = -1)) : zCt K yX4_numbersOf cX4_numbersOf 1 zr_X4_numbersOf 0 [.int v] M nx 0 0 (zI (fun x M' => x = nI (if w = 7 then 0 else zCnt w) ∧ M' = M)) := by
  refine z_enter [some (.int v)] (by decide +kernel) (Nat.le_of_ble_eq_true rfl) rfl (fun Bω okω hzω => ?_)
  refine z_iload_n okω dX4_numbersOf_0 rfl ?_
  rcases hvw with ⟨hwω, hvω⟩ | ⟨hwω, hvω⟩
  · rcases (by omega : w = 0 ∨ w = 1 ∨ w = 2 ∨ w = 3 ∨ w = 4 ∨ w = 5 ∨ w = 6) with eω | eω | eω | eω | eω | eω | eω
    · rw [hvω, eω]
      refine z_tableIn (off := 43) (tgt := 44) okω dX4_numbersOf_1 (by decide) (by decide) rfl (by decide) ?_
      refine z_iconst (v := 2) okω dX4_numbersOf_44 (by decide) ?_
      exact z_iret okω dX4_numbersOf_45 rfl rfl rfl (Nat.zero_le _) ⟨rfl, rfl⟩
    · rw [hvω, eω]
      refine z_tableIn (off := 45) (tgt := 46) okω dX4_numbersOf_1 (by decide) (by decide) rfl (by decide) ?_
      refine z_iconst (v := 3) okω dX4_numbersOf_46 (by decide) ?_
      exact z_iret okω dX4_numbersOf_47 rfl rfl rfl (Nat.zero_le _) ⟨rfl, rfl⟩
    · rw [hvω, eω]
      refine z_tableIn (off := 47) (tgt := 48) okω dX4_numbersOf_1 (by decide) (by decide) rfl (by decide) ?_
      refine z_iconst (v := 1) okω dX4_numbersOf_48 (by decide) ?_
      exact z_iret okω dX4_numbersOf_49 rfl rfl rfl (Nat.zero_le _) ⟨rfl, rfl⟩
    · rw [hvω, eω]
      refine z_tableIn (off := 49) (tgt := 50) okω dX4_numbersOf_1 (by decide) (by decide) rfl (by decide) ?_
      refine z_iconst (v := 3) okω dX4_numbersOf_50 (by decide) ?_
      exact z_iret okω dX4_numbersOf_51 rfl rfl rfl (Nat.zero_le _) ⟨rfl, rfl⟩
    · rw [hvω, eω]
      refine z_tableIn (off := 51) (tgt := 52) okω dX4_numbersOf_1 (by decide) (by decide) rfl (by decide) ?_
      refine z_iconst (v := 2) okω dX4_numbersOf_52 (by decide) ?_
      exact z_iret okω dX4_numbersOf_53 rfl rfl rfl (Nat.zero_le _) ⟨rfl, rfl⟩
    · rw [hvω, eω]
      refine z_tableIn (off := 53) (tgt := 54) okω dX4_numbersOf_1 (by decide) (by decide) rfl (by decide) ?_
      refine z_iconst (v := 5) okω dX4_numbersOf_54 (by decide) ?_
      exact z_iret okω dX4_numbersOf_55 rfl rfl rfl (Nat.zero_le _) ⟨rfl, rfl⟩
    · rw [hvω, eω]
      refine z_tableIn (off := 55) (tgt := 56) okω dX4_numbersOf_1 (by decide) (by decide) rfl (by decide) ?_
      refine z_iconst (v := 1) okω dX4_numbersOf_56 (by decide) ?_
      exact z_iret okω dX4_numbersOf_57 rfl rfl rfl (Nat.zero_le _) ⟨rfl, rfl⟩
  · rw [hvω, hwω]
    refine z_tableOut (tgt := 58) okω dX4_numbersOf_1 (Or.inl (by decide)) (by decide) ?_
    refine z_iconst (v := 0) okω dX4_numbersOf_58 (by decide) ?_
    exact z_iret okω dX4_numbersOf_59 rfl rfl rfl (Nat.zero_le _) ⟨rfl, rfl⟩

set_option maxRecDepth 20000 in
set_option maxHeartbeats 4000000 in
theorem ct_X4_standsAt {K : zK} {M : mM} {nx : Nat} {c : Nat} {s : Nat → Int32} {n nv no : Nat} {rows : Nat → Nat → Int32} {kk p o : Nat} {fp fr : Int32} {ty : Nat} {tx : Nat → Int32} {vb nxz : Int32} {nums : Nat → Int32} (hm : cR M c s n nv no rows kk p o fp fr ty tx vb nxz nums) {w st : Nat} (hw : w < 8) (hst : st ≤ 80) : zCt K yX4_standsAt cX4_standsAt 4 zr_X4_standsAt 4 [.ref (c + 248), .ref (K.1 w), .int (nI st)] M nx 0 0 (zI (fun x M' => ((x = 1 ∧ zPfx tx ty st w) ∨ (x = 0 ∧ ¬ zPfx tx ty st w)) ∧ M' = M)) := by
  refine z_enter [some (.ref (c + 248)), some (.ref (K.1 w)), some (.int (nI st)), none] (by decide +kernel) (Nat.le_of_ble_eq_true rfl) rfl (fun Bω okω hzω => ?_)
  have hb5ω := hm.B
  have hl5ω := zLen_5 w hw
  refine z_iload_n okω dX4_standsAt_0 rfl ?_
  refine z_if_lt (tgt := 17) okω dX4_standsAt_1 (by decide) (fun q9ω => absurd q9ω (nI_pos (by omega))) (fun _ => ?_)
  refine z_iload_n okω dX4_standsAt_4 rfl ?_
  refine z_aload_n okω dX4_standsAt_5 rfl ?_
  refine z_callVS okω dX4_standsAt_6 zm_J0_length_8abf5 zw_684 zi_J0_length_8abf5 (i := w) (by omega) rfl (ct_J0_length_8abf5 (by omega)) rfl rfl (by decide) (by decide) (by decide) (Nat.le_of_ble_eq_true rfl) (fun xz1ω _ qz2ω => ?_)
  obtain ⟨rfl, hMeω⟩ := qz2ω
  obtain rfl := hMeω.symm
  refine z_iadd okω dX4_standsAt_9 ?_
  refine z_aload_n okω dX4_standsAt_10 rfl ?_
  refine z_getf okω dX4_standsAt_11 zin_X4 rfl 2 (by decide) zw_301 hm.S rfl ?_
  rw [nI_add]
  refine z_icmp_le (tgt := 19) okω dX4_standsAt_14 (by decide) (fun cz14ω => ?_) (fun cz14ω => ?_)
  · have hleω : st + zLen.getD w 0 ≤ ty := by rw [nI_leI (by omega) (by omega)] at cz14ω; exact cz14ω
    refine z_iconst (v := 0) okω dX4_standsAt_19 (by decide) ?_
    refine z_istore_n okω dX4_standsAt_20 (by decide) rfl ?_
    have loop21ω : ∀ (tω iω : Nat), (zLen.getD w 0) < iω + tω → iω ≤ (zLen.getD w 0) → (∀ jzω, jzω < iω → tx (st + jzω) = zLtr w jzω) → zV 4 Bω (zE Bω (zI (fun xω M'ω => ((xω = 1 ∧ zPfx tx ty st w) ∨ (xω = 0 ∧ ¬ zPfx tx ty st w)) ∧ M'ω = M)) 0 0) 21 [some (.ref (c + 248)), some (.ref (K.1 w)), some (.int (nI st)), some (.int (nI iω))] [] M 0 0 := by
      intro tω
      induction tω with
      | zero => intro iω  h1ω h2ω; exact absurd h1ω (by omega)
      | succ tω ihω =>
        intro iω  h1ω h2ω hyω
        refine z_iload_n okω dX4_standsAt_21 rfl ?_
        refine z_aload_n okω dX4_standsAt_22 rfl ?_
        refine z_callVS okω dX4_standsAt_23 zm_J0_length_8abf5 zw_684 zi_J0_length_8abf5 (i := w) (by omega) rfl (ct_J0_length_8abf5 (by omega)) rfl rfl (by decide) (by decide) (by decide) (Nat.le_of_ble_eq_true rfl) (fun xz3ω _ qz4ω => ?_)
        obtain ⟨rfl, hMeω⟩ := qz4ω
        obtain rfl := hMeω.symm
        refine z_icmp_ge (tgt := 53) okω dX4_standsAt_26 (by decide) (fun cz26ω => ?_) (fun cz26ω => ?_)
        · have hinω : iω = zLen.getD w 0 := by rw [nI_leI (by omega) (by omega)] at cz26ω; omega
          refine z_iconst (v := 1) okω dX4_standsAt_53 (by decide) ?_
          exact z_iret okω dX4_standsAt_54 rfl rfl rfl (Nat.zero_le _) ⟨Or.inl ⟨rfl, hleω, fun jzω hjzω => hyω jzω (by omega)⟩, rfl⟩
        · have hilω : iω < zLen.getD w 0 := by rw [nI_leI (by omega) (by omega)] at cz26ω; omega
          refine z_aload_n okω dX4_standsAt_29 rfl ?_
          refine z_getf okω dX4_standsAt_30 zin_X4 rfl 0 (by decide) zw_298 hm.S rfl ?_
          refine z_iload_n okω dX4_standsAt_33 rfl ?_
          refine z_iload_n okω dX4_standsAt_34 rfl ?_
          refine z_iadd okω dX4_standsAt_35 ?_
          refine h_ldc (j := (st + iω)) okω dX4_standsAt_36 hm.C (nI_add st iω) (by omega) (by decide) ?_
          refine z_aload_n okω dX4_standsAt_37 rfl ?_
          refine z_iload_n okω dX4_standsAt_38 rfl ?_
          refine z_callVS okω dX4_standsAt_39 zm_J0_charAt_5068e zw_694 zi_J0_charAt_5068e (i := w) (by omega) rfl (ct_J0_charAt_5068e (j := iω) (by omega) hilω) rfl rfl (by decide) (by decide) (by decide) (Nat.le_of_ble_eq_true rfl) (fun xz5ω _ qz6ω => ?_)
          obtain ⟨rfl, hMeω⟩ := qz6ω
          obtain rfl := hMeω.symm
          refine z_icmp_eq (tgt := 47) okω dX4_standsAt_42 (by decide) (fun cz42ω => ?_) (fun cz42ω => ?_)
          · refine z_iinc okω dX4_standsAt_47 rfl (zinc _) (by decide) rfl ?_
            refine z_goto (tgt := 21) okω dX4_standsAt_50 (by decide) ?_
            exact ihω (iω + 1) (by omega) (by omega) (fun jzω hjzω => by rcases (by omega : jzω < iω ∨ jzω = iω) with hl9ω | he9ω; exact hyω jzω hl9ω; rw [he9ω]; exact cz42ω)
          · refine z_iconst (v := 0) okω dX4_standsAt_45 (by decide) ?_
            exact z_iret okω dX4_standsAt_46 rfl rfl rfl (Nat.zero_le _) ⟨Or.inr ⟨rfl, fun z9ω => cz42ω (z9ω.2 iω hilω)⟩, rfl⟩
    exact loop21ω (zLen.getD w 0 + 1) 0 (by omega) (by omega) (fun jzω hjzω => absurd hjzω (Nat.not_lt_zero _))
  · have hleω : ¬ st + zLen.getD w 0 ≤ ty := by rw [nI_leI (by omega) (by omega)] at cz14ω; exact cz14ω
    refine z_iconst (v := 0) okω dX4_standsAt_17 (by decide) ?_
    exact z_iret okω dX4_standsAt_18 rfl rfl rfl (Nat.zero_le _) ⟨Or.inr ⟨rfl, fun z9ω => hleω z9ω.1⟩, rfl⟩

set_option maxRecDepth 20000 in
set_option maxHeartbeats 4000000 in
theorem ct_X4_verbAt {K : zK} {M : mM} {nx : Nat} {c : Nat} {s : Nat → Int32} {n nv no : Nat} {rows : Nat → Nat → Int32} {kk p o : Nat} {fp fr : Int32} {ty : Nat} {tx : Nat → Int32} {vb nxz : Int32} {nums : Nat → Int32} (hm : cR M c s n nv no rows kk p o fp fr ty tx vb nxz nums) {st : Nat} (hst : st ≤ 80) : zCt K yX4_verbAt cX4_verbAt 3 zr_X4_verbAt 5 [.ref (c + 248), .int (nI st)] M nx 0 0 (zI (fun x M' => ((∃ w, w < 7 ∧ x = nI w ∧ zPfx tx ty st w) ∨ (x = -1 ∧ ∀ w, w < 7 → ¬ zPfx tx ty st w)) ∧ M' = M)) := by
  refine z_enter [some (.ref (c + 248)), some (.int (nI st)), none] (by decide +kernel) (Nat.le_of_ble_eq_true rfl) rfl (fun Bω okω hzω => ?_)
  refine z_iconst (v := 0) okω dX4_verbAt_0 (by decide) ?_
  refine z_istore_n okω dX4_verbAt_1 (by decide) rfl ?_
  have loop2ω : ∀ (tω iω : Nat), 7 < iω + tω → iω ≤ 7 → (∀ wω, wω < iω → ¬ zPfx tx ty st wω) → zV 3 Bω (zE Bω (zI (fun xω M'ω => ((∃ wω, wω < 7 ∧ xω = nI wω ∧ zPfx tx ty st wω) ∨ (xω = -1 ∧ ∀ wω, wω < 7 → ¬ zPfx tx ty st wω)) ∧ M'ω = M)) 0 0) 2 [some (.ref (c + 248)), some (.int (nI st)), some (.int (nI iω))] [] M 0 0 := by
    intro tω
    induction tω with
    | zero => intro iω  h1ω h2ω; exact absurd h1ω (by omega)
    | succ tω ihω =>
      intro iω  h1ω h2ω hyω
      refine z_iload_n okω dX4_verbAt_2 rfl ?_
      refine z_bipush (v := 7) okω dX4_verbAt_3 (by decide) ?_
      refine z_icmp_ge (tgt := 28) okω dX4_verbAt_5 (by decide) (fun cz5ω => ?_) (fun cz5ω => ?_)
      · have hinω : iω = 7 := by have h9ω := (nI_leI (a := 7) (by omega) (by omega)).mp cz5ω; omega
        refine z_iconst (v := -1) okω dX4_verbAt_28 (by decide) ?_
        exact z_iret okω dX4_verbAt_29 rfl rfl rfl (Nat.zero_le _) ⟨Or.inr ⟨rfl, by rw [hinω] at hyω; exact hyω⟩, rfl⟩
      · have hinω : iω < 7 := by have h9ω := mt (nI_leI (a := 7) (b := iω) (by omega) (by omega)).mpr cz5ω; omega
        refine z_aload_n okω dX4_verbAt_8 rfl ?_
        refine z_iload_n okω dX4_verbAt_9 rfl ?_
        refine z_callSa okω dX4_verbAt_10 zm_X4_wordOf zw_669 zw_670 (ct_X4_wordOf (w := iω) (Or.inl ⟨hinω, rfl⟩)) rfl rfl (by decide) (by decide) (by decide) (Nat.le_of_ble_eq_true rfl) (fun xz1ω Mz2ω qz3ω => ?_)
        obtain ⟨hMeω, hvvω⟩ := qz3ω
        obtain rfl := hMeω.symm
        rw [hvvω]
        refine z_iload_n okω dX4_verbAt_13 rfl ?_
        refine z_callVi okω dX4_verbAt_14 zm_X4_standsAt zw_680 zi_X4_standsAt hm.S rfl (ct_X4_standsAt hm (w := iω) (by omega) hst) rfl rfl (by decide) (by decide) (by decide) (Nat.le_of_ble_eq_true rfl) (fun xz4ω Mz5ω qz6ω => ?_)
        obtain ⟨hspω, hMeω⟩ := qz6ω
        obtain rfl := hMeω.symm
        refine z_if_eq (tgt := 22) okω dX4_verbAt_17 (by decide) (fun cz17ω => ?_) (fun cz17ω => ?_)
        · have hnoω : ¬ zPfx tx ty st iω := by rcases hspω with ⟨h9ω, _⟩ | ⟨_, h9ω⟩; exact absurd (h9ω.symm.trans cz17ω) (by decide); exact h9ω
          refine z_iinc okω dX4_verbAt_22 rfl (zinc _) (by decide) rfl ?_
          refine z_goto (tgt := 2) okω dX4_verbAt_25 (by decide) ?_
          exact ihω (iω + 1) (by omega) (by omega) (fun wzω hwzω => by rcases (by omega : wzω < iω ∨ wzω = iω) with hl9ω | he9ω; exact hyω wzω hl9ω; rw [he9ω]; exact hnoω)
        · have hyesω : zPfx tx ty st iω := by rcases hspω with ⟨_, h9ω⟩ | ⟨h9ω, _⟩; exact h9ω; exact absurd h9ω cz17ω
          refine z_iload_n okω dX4_verbAt_20 rfl ?_
          exact z_iret okω dX4_verbAt_21 rfl rfl rfl (Nat.zero_le _) ⟨Or.inl ⟨iω, hinω, rfl, hyesω⟩, rfl⟩
  exact loop2ω 8 0 (by omega) (by omega) (fun wzω hwzω => absurd hwzω (Nat.not_lt_zero _))

set_option maxRecDepth 20000 in
set_option maxHeartbeats 4000000 in
theorem ct_X4_readSign {K : zK} {M : mM} {nx : Nat} {c : Nat} {s : Nat → Int32} {n nv no : Nat} {rows : Nat → Nat → Int32} {kk p o : Nat} {fp fr : Int32} {ty : Nat} {tx : Nat → Int32} {vb : Int32} {nums : Nat → Int32} {q : Nat} (hq80 : q ≤ 1000) (hm : cR M c s n nv no rows kk p o fp fr ty tx vb (nI q) nums) {ch : Int32} : zCt K yX4_readSign cX4_readSign 2 zr_X4_readSign 0 [.ref (c + 248), .int ch] M nx 0 0 (zI (fun x M' => (zAt tx ty q ch ch ∧ x = 1 ∧ cR M' c s n nv no rows kk p o fp fr ty tx vb (nI (q + 1)) nums ∧ zFr M M' (c + 248) 3) ∨ (¬ zAt tx ty q ch ch ∧ x = 0 ∧ M' = M))) := by
  refine z_enter [some (.ref (c + 248)), some (.int ch)] (by decide +kernel) (Nat.le_of_ble_eq_true rfl) rfl (fun Bω okω hzω => ?_)
  have hb5ω := hm.B
  refine z_aload_n okω dX4_readSign_0 rfl ?_
  refine z_getf okω dX4_readSign_1 zin_X4 rfl 4 (by decide) zw_305 hm.S rfl ?_
  refine z_if_lt (tgt := 31) okω dX4_readSign_4 (by decide) (fun q9ω => absurd q9ω (nI_pos (by omega))) (fun _ => ?_)
  refine z_aload_n okω dX4_readSign_7 rfl ?_
  refine z_getf okω dX4_readSign_8 zin_X4 rfl 4 (by decide) zw_305 hm.S rfl ?_
  refine z_aload_n okω dX4_readSign_11 rfl ?_
  refine z_getf okω dX4_readSign_12 zin_X4 rfl 2 (by decide) zw_301 hm.S rfl ?_
  refine z_icmp_ge (tgt := 31) okω dX4_readSign_15 (by decide) (fun cz15ω => ?_) (fun cz15ω => ?_)
  · have hnoω : ¬ zAt tx ty q ch ch := fun z9ω => by have h9ω := z9ω.1; rw [nI_leI (by omega) (by omega)] at cz15ω; omega
    refine z_iconst (v := 0) okω dX4_readSign_31 (by decide) ?_
    exact z_iret okω dX4_readSign_32 rfl rfl rfl (Nat.zero_le _) (Or.inr ⟨hnoω, rfl, rfl⟩)
  · have hltω : q < ty := by rw [nI_leI (by omega) (by omega)] at cz15ω; omega
    refine z_aload_n okω dX4_readSign_18 rfl ?_
    refine z_getf okω dX4_readSign_19 zin_X4 rfl 0 (by decide) zw_298 hm.S rfl ?_
    refine z_aload_n okω dX4_readSign_22 rfl ?_
    refine z_getf okω dX4_readSign_23 zin_X4 rfl 4 (by decide) zw_305 hm.S rfl ?_
    refine h_ldc (j := q) okω dX4_readSign_26 hm.C rfl (by omega) (by decide) ?_
    refine z_iload_n okω dX4_readSign_27 rfl ?_
    refine z_icmp_eq (tgt := 33) okω dX4_readSign_28 (by decide) (fun cz28ω => ?_) (fun cz28ω => ?_)
    · have hyesω : zAt tx ty q ch ch := ⟨hltω, by rw [cz28ω]; exact Int32.le_refl _, by rw [cz28ω]; exact Int32.le_refl _⟩
      refine z_aload_n okω dX4_readSign_33 rfl ?_
      refine z_dup okω dX4_readSign_34 rfl ?_
      refine z_getf okω dX4_readSign_35 zin_X4 rfl 4 (by decide) zw_305 hm.S rfl ?_
      refine z_iconst (v := 1) okω dX4_readSign_38 (by decide) ?_
      refine z_iadd okω dX4_readSign_39 ?_
      rw [nI_1]
      refine z_putf (T := TX4) (N := 5) (ty := .int) okω dX4_readSign_40 zin_X4 tyX4 tyX4_ok nmX4 rfl 4 (by decide) zw_305 rfl hm.S (by decide +kernel) rfl rfl (Nat.le_of_ble_eq_true rfl) ?_
      refine zV_up (fun Mp40ω he40ω hu40ω => ?_)
      have hm1ω := hm.typed he40ω (hm.C.kept (hu40ω _ (by omega))) (hm.U.kept (hu40ω _ (by omega))) hm.B.2.2.2.2 (fun q9ω h9ω => hu40ω q9ω (by omega))
      have fz40ω : zFr _ Mp40ω (c + 248) 3 := fun q9ω h9ω => hu40ω q9ω (by omega)
      refine z_iconst (v := 1) okω dX4_readSign_43 (by decide) ?_
      exact z_iret okω dX4_readSign_44 rfl rfl rfl (Nat.zero_le _) (Or.inl ⟨hyesω, rfl, hm1ω, fz40ω⟩)
    · have hnoω : ¬ zAt tx ty q ch ch := fun z9ω => cz28ω (Int32.le_antisymm z9ω.2.2 z9ω.2.1)
      refine z_iconst (v := 0) okω dX4_readSign_31 (by decide) ?_
      exact z_iret okω dX4_readSign_32 rfl rfl rfl (Nat.zero_le _) (Or.inr ⟨hnoω, rfl, rfl⟩)

theorem zNm_t {tx : Nat → Int32} {ty f i : Nat} {v : Int32} (h : zAt tx ty i 48 57) : zNm tx ty (f + 1) i v = zNm tx ty f (i + 1) (10 * v + tx i - 48) := if_pos h
theorem zNm_f {tx : Nat → Int32} {ty f i : Nat} {v : Int32} (h : ¬ zAt tx ty i 48 57) : zNm tx ty f i v = (v, i) := by
  cases f with
  | zero => rfl
  | succ f => exact if_neg h
theorem z_dig {v d : Int32} {B : Nat} (h0 : 0 ≤ v.toInt) (h1 : v.toInt < B) (hB : B ≤ 100) (hd : 48 ≤ d ∧ d ≤ 57) : 0 ≤ (10 * v + d - 48).toInt ∧ (10 * v + d - 48).toInt < 10 * B ∧ v * 10 + (d - 48) = 10 * v + d - 48 := by
  have aω := Int32.le_iff_toInt_le.mp hd.1
  have bω := Int32.le_iff_toInt_le.mp hd.2
  have e1ω : (48 : Int32).toInt = 48 := rfl
  have e2ω : (57 : Int32).toInt = 57 := rfl
  have e3ω : (10 : Int32).toInt = 10 := rfl
  have mω : (10 * v).toInt = 10 * v.toInt := by rw [Int32.toInt_mul, e3ω, Int.bmod_eq_of_le (by omega) (by omega)]
  have s1ω : (10 * v + d).toInt = 10 * v.toInt + d.toInt := by rw [Int32.toInt_add, mω, Int.bmod_eq_of_le (by omega) (by omega)]
  have s2ω : (10 * v + d - 48).toInt = 10 * v.toInt + d.toInt - 48 := by rw [Int32.toInt_sub, s1ω, e1ω, Int.bmod_eq_of_le (by omega) (by omega)]
  refine ⟨by omega, by omega, ?_⟩
  grind
theorem z_max0 {v : Int32} (h : 0 ≤ v.toInt) : (if v < 0 then (0 : Int32) else v) = v := by
  rw [if_neg]
  intro zω
  have z2ω := Int32.lt_iff_toInt_lt.mp zω
  have e0ω : (0 : Int32).toInt = 0 := rfl
  omega
set_option maxRecDepth 20000 in
set_option maxHeartbeats 4000000 in
theorem ct_X4_readNumber {K : zK} {M : mM} {nx : Nat} {c : Nat} {s : Nat → Int32} {n nv no : Nat} {rows : Nat → Nat → Int32} {kk p o : Nat} {fp fr : Int32} {ty : Nat} {tx : Nat → Int32} {vb : Int32} {nums : Nat → Int32} {q : Nat} (hq80 : q ≤ 1000) (hm : cR M c s n nv no rows kk p o fp fr ty tx vb (nI q) nums) : zCt K yX4_readNumber cX4_readNumber 3 zr_X4_readNumber 1 [.ref (c + 248)] M nx 0 0 (zI (fun x M' => x = (if q < (zNm tx ty 3 q 0).2 then (zNm tx ty 3 q 0).1 else -1) ∧ cR M' c s n nv no rows kk p o fp fr ty tx vb (nI (zNm tx ty 3 q 0).2) nums ∧ zFr M M' (c + 248) 3)) := by
  refine z_enter [some (.ref (c + 248)), none, none] (by decide +kernel) (Nat.le_of_ble_eq_true rfl) rfl (fun Bω okω hzω => ?_)
  have hb5ω := hm.B
  refine z_iconst (v := -1) okω dX4_readNumber_0 (by decide) ?_
  refine z_istore_n okω dX4_readNumber_1 (by decide) rfl ?_
  refine z_iconst (v := 0) okω dX4_readNumber_2 (by decide) ?_
  refine z_istore_n okω dX4_readNumber_3 (by decide) rfl ?_
  have loop4ω : ∀ (tω iω : Nat) (M1ω : mM) (yω valω : Int32), 3 < iω + tω → iω ≤ 3 → zNm tx ty (3 - iω) (q + iω) valω = (zNm tx ty 3 q 0) → 0 ≤ valω.toInt → valω.toInt < ((10 ^ iω : Nat) : Int) → (iω = 0 → yω = -1) → (0 < iω → yω = valω) → (iω = 0 → valω = 0) → cR M1ω c s n nv no rows kk p o fp fr ty tx vb (nI (q + iω)) nums → zFr M M1ω (c + 248) 3 → zV 3 Bω (zE Bω (zI (fun xω M'ω => xω = (if q < (zNm tx ty 3 q 0).2 then (zNm tx ty 3 q 0).1 else -1) ∧ cR M'ω c s n nv no rows kk p o fp fr ty tx vb (nI (zNm tx ty 3 q 0).2) nums ∧ zFr M M'ω (c + 248) 3)) 0 0) 4 [some (.ref (c + 248)), some (.int yω), some (.int (nI iω))] [] M1ω 0 0 := by
    intro tω
    induction tω with
    | zero => intro iω M1ω yω valω h1ω h2ω; exact absurd h1ω (by omega)
    | succ tω ihω =>
      intro iω M1ω yω valω h1ω h2ω hz9ω hv0ω hv1ω hy0ω hy1ω hv9ω hm1ω hf1ω
      refine z_iload_n okω dX4_readNumber_4 rfl ?_
      refine z_iconst (v := 3) okω dX4_readNumber_5 (by decide) ?_
      refine z_icmp_ge (tgt := 87) okω dX4_readNumber_6 (by decide) (fun cz6ω => ?_) (fun cz6ω => ?_)
      · have hinω : iω = 3 := by have h9ω := (nI_leI (a := 3) (by omega) (by omega)).mp cz6ω; omega
        have hendω : (zNm tx ty 3 q 0) = (valω, q + iω) := by rw [← hz9ω, hinω]; rfl
        refine z_iload_n okω dX4_readNumber_87 rfl ?_
        exact z_iret okω dX4_readNumber_88 rfl rfl rfl (Nat.zero_le _) ⟨by rw [hendω]; rcases Nat.eq_zero_or_pos iω with h9ω | h9ω; rw [hy0ω h9ω, if_neg (by show ¬ q < q + iω; omega)]; rw [hy1ω h9ω, if_pos (by show q < q + iω; omega)], by rw [hendω]; exact hm1ω, hf1ω⟩
      · have hinω : iω < 3 := by have h9ω := mt (nI_leI (a := 3) (b := iω) (by omega) (by omega)).mpr cz6ω; omega
        refine z_aload_n okω dX4_readNumber_9 rfl ?_
        refine z_getf okω dX4_readNumber_10 zin_X4 rfl 4 (by decide) zw_305 hm1ω.S rfl ?_
        refine z_if_lt (tgt := 87) okω dX4_readNumber_13 (by decide) (fun q9ω => absurd q9ω (nI_pos (by omega))) (fun _ => ?_)
        refine z_aload_n okω dX4_readNumber_16 rfl ?_
        refine z_getf okω dX4_readNumber_17 zin_X4 rfl 4 (by decide) zw_305 hm1ω.S rfl ?_
        refine z_aload_n okω dX4_readNumber_20 rfl ?_
        refine z_getf okω dX4_readNumber_21 zin_X4 rfl 2 (by decide) zw_301 hm1ω.S rfl ?_
        refine z_icmp_ge (tgt := 87) okω dX4_readNumber_24 (by decide) (fun cz24ω => ?_) (fun cz24ω => ?_)
        · have hendω : (zNm tx ty 3 q 0) = (valω, q + iω) := by rw [← hz9ω]; exact zNm_f (fun z9ω => by have h9ω := z9ω.1; rw [nI_leI (by omega) (by omega)] at cz24ω; omega)
          refine z_iload_n okω dX4_readNumber_87 rfl ?_
          exact z_iret okω dX4_readNumber_88 rfl rfl rfl (Nat.zero_le _) ⟨by rw [hendω]; rcases Nat.eq_zero_or_pos iω with h9ω | h9ω; rw [hy0ω h9ω, if_neg (by show ¬ q < q + iω; omega)]; rw [hy1ω h9ω, if_pos (by show q < q + iω; omega)], by rw [hendω]; exact hm1ω, hf1ω⟩
        · have hltω : q + iω < ty := by rw [nI_leI (by omega) (by omega)] at cz24ω; omega
          refine z_aload_n okω dX4_readNumber_27 rfl ?_
          refine z_getf okω dX4_readNumber_28 zin_X4 rfl 0 (by decide) zw_298 hm1ω.S rfl ?_
          refine z_aload_n okω dX4_readNumber_31 rfl ?_
          refine z_getf okω dX4_readNumber_32 zin_X4 rfl 4 (by decide) zw_305 hm1ω.S rfl ?_
          refine h_ldc (j := (q + iω)) okω dX4_readNumber_35 hm1ω.C rfl (by omega) (by decide) ?_
          refine z_bipush (v := 48) okω dX4_readNumber_36 (by decide) ?_
          refine z_bipush (v := 57) okω dX4_readNumber_38 (by decide) ?_
          refine z_callSNi okω dX4_readNumber_40 zm_X6_isWithin (fun _ hω => hω.2.2.2.2.2.2.2) zw_343 (ct_X6_isWithin) rfl rfl (by decide) (by decide) (by decide) (Nat.le_of_ble_eq_true rfl) (fun xz1ω Mz2ω qz3ω => ?_)
          obtain ⟨rfl, hMeω⟩ := qz3ω
          obtain rfl := hMeω.symm
          refine z_if_ne (tgt := 49) okω dX4_readNumber_43 (by decide) (fun cz43ω => ?_) (fun cz43ω => ?_)
          · have hdgω : zAt tx ty (q + iω) 48 57 := ⟨hltω, Decidable.not_not.mp (mt b2_0.mpr cz43ω)⟩
            have hp10ω : (10 ^ iω : Nat) ≤ 100 := by rcases (by omega : iω = 0 ∨ iω = 1 ∨ iω = 2) with h9ω | h9ω | h9ω <;> rw [h9ω] <;> decide
            have hd9ω := z_dig hv0ω hv1ω hp10ω hdgω.2
            have hmxω : (if yω < 0 then (0 : Int32) else yω) = valω := by rcases Nat.eq_zero_or_pos iω with h9ω | h9ω; rw [hy0ω h9ω, hv9ω h9ω]; rfl; rw [hy1ω h9ω]; exact z_max0 hv0ω
            refine z_iload_n okω dX4_readNumber_49 rfl ?_
            refine z_iconst (v := 0) okω dX4_readNumber_50 (by decide) ?_
            refine z_mmax okω dX4_readNumber_51 zw_744 zw_418 zw_47 zw_419 (by decide) (Nat.le_of_ble_eq_true rfl) (Nat.zero_le _) (Nat.zero_le _) ?_
            refine z_bipush (v := 10) okω dX4_readNumber_54 (by decide) ?_
            refine z_imul okω dX4_readNumber_56 ?_
            refine z_aload_n okω dX4_readNumber_57 rfl ?_
            refine z_getf okω dX4_readNumber_58 zin_X4 rfl 0 (by decide) zw_298 hm1ω.S rfl ?_
            refine z_aload_n okω dX4_readNumber_61 rfl ?_
            refine z_getf okω dX4_readNumber_62 zin_X4 rfl 4 (by decide) zw_305 hm1ω.S rfl ?_
            refine h_ldc (j := (q + iω)) okω dX4_readNumber_65 hm1ω.C rfl (by omega) (by decide) ?_
            refine z_bipush (v := 48) okω dX4_readNumber_66 (by decide) ?_
            refine z_isub okω dX4_readNumber_68 ?_
            refine z_iadd okω dX4_readNumber_69 ?_
            refine z_istore_n okω dX4_readNumber_70 (by decide) rfl ?_
            refine z_aload_n okω dX4_readNumber_71 rfl ?_
            refine z_dup okω dX4_readNumber_72 rfl ?_
            refine z_getf okω dX4_readNumber_73 zin_X4 rfl 4 (by decide) zw_305 hm1ω.S rfl ?_
            refine z_iconst (v := 1) okω dX4_readNumber_76 (by decide) ?_
            refine z_iadd okω dX4_readNumber_77 ?_
            rw [nI_1, Nat.add_assoc]
            refine z_putf (T := TX4) (N := 5) (ty := .int) okω dX4_readNumber_78 zin_X4 tyX4 tyX4_ok nmX4 rfl 4 (by decide) zw_305 rfl hm1ω.S (by decide +kernel) rfl rfl (Nat.le_of_ble_eq_true rfl) ?_
            refine zV_up (fun Mp78ω he78ω hu78ω => ?_)
            have hm4ω := hm1ω.typed he78ω (hm1ω.C.kept (hu78ω _ (by omega))) (hm1ω.U.kept (hu78ω _ (by omega))) hm1ω.B.2.2.2.2 (fun q9ω h9ω => hu78ω q9ω (by omega))
            have fz78ω : zFr _ Mp78ω (c + 248) 3 := fun q9ω h9ω => hu78ω q9ω (by omega)
            refine z_iinc okω dX4_readNumber_81 rfl (zinc _) (by decide) rfl ?_
            refine z_goto (tgt := 4) okω dX4_readNumber_84 (by decide) ?_
            exact ihω (iω + 1) _ _ (10 * valω + tx (q + iω) - 48) (by omega) (by omega) (by rw [show 3 - iω = (3 - (iω + 1)) + 1 from by omega, zNm_t hdgω] at hz9ω; exact hz9ω) hd9ω.1 (by rw [Nat.pow_succ, Nat.mul_comm]; omega) (fun z9ω => absurd z9ω (by omega)) (fun _ => by rw [hmxω]; exact hd9ω.2.2) (fun z9ω => absurd z9ω (by omega)) hm4ω (by repeat (first | assumption | exact zFr.rf | refine zFr.tr (by assumption) ?_))
          · have hendω : (zNm tx ty 3 q 0) = (valω, q + iω) := by rw [← hz9ω]; exact zNm_f (fun z9ω => b2_0.mp cz43ω z9ω.2)
            refine z_goto (tgt := 87) okω dX4_readNumber_46 (by decide) ?_
            refine z_iload_n okω dX4_readNumber_87 rfl ?_
            exact z_iret okω dX4_readNumber_88 rfl rfl rfl (Nat.zero_le _) ⟨by rw [hendω]; rcases Nat.eq_zero_or_pos iω with h9ω | h9ω; rw [hy0ω h9ω, if_neg (by show ¬ q < q + iω; omega)]; rw [hy1ω h9ω, if_pos (by show q < q + iω; omega)], by rw [hendω]; exact hm1ω, hf1ω⟩
  exact loop4ω 4 0 _ _ 0 (by omega) (by omega) rfl (by decide) (by decide) (fun _ => rfl) (fun z9ω => absurd z9ω (by omega)) (fun _ => rfl) hm zFr.rf

