theorem zNm_nn {tx : Nat → Int32} {ty : Nat} : ∀ f i v, f ≤ 3 → 0 ≤ Int32.toInt v → Int32.toInt v < ((10 ^ (3 - f) : Nat) : Int) → 0 ≤ (zNm tx ty f i v).1.toInt
  | 0, _, _, _, hω, _ => hω
  | f + 1, iω, vω, hfω, h0ω, h1ω => by
    by_cases hd : zAt tx ty iω 48 57
    · rw [zNm_t hd]
      have hpω : (10 ^ (3 - (f + 1)) : Nat) ≤ 100 := by rcases (by omega : f = 0 ∨ f = 1 ∨ f = 2) with h9ω | h9ω | h9ω <;> rw [h9ω] <;> decide
      have hd9ω := z_dig h0ω h1ω hpω hd.2
      refine zNm_nn f (iω + 1) _ (by omega) hd9ω.1 ?_
      rw [show 3 - f = (3 - (f + 1)) + 1 from by omega, Nat.pow_succ, Nat.mul_comm]
      have := hd9ω.2.1
      omega
    · rw [zNm_f hd]
      exact h0ω
theorem zArgs_y {tx : Nat → Int32} {ty f k i : Nat} {t : Nat → Int32} (h : zAt tx ty i 32 32 ∧ i + 1 < (zNm tx ty 3 (i + 1) 0).2) : zArgs tx ty (f + 1) k i t = zArgs tx ty f (k + 1) (zNm tx ty 3 (i + 1) 0).2 (upd t k (zNm tx ty 3 (i + 1) 0).1) := if_pos h
theorem zArgs_x {tx : Nat → Int32} {ty f k i : Nat} {t : Nat → Int32} (h : ¬ (zAt tx ty i 32 32 ∧ i + 1 < (zNm tx ty 3 (i + 1) 0).2)) : zArgs tx ty (f + 1) k i t = none := if_neg h
theorem zRd2_n {tx : Nat → Int32} {ty i w : Nat} (h : zArgs tx ty (zCnt w) 0 (i + zLen.getD w 0) (fun _ => 0) = none) : zRd2 tx ty i w = none := by
  unfold zRd2
  rw [h]
theorem zRd2_q {tx : Nat → Int32} {ty i w : Nat} {q : Nat × (Nat → Int32)} (h : zArgs tx ty (zCnt w) 0 (i + zLen.getD w 0) (fun _ => 0) = some q) : zRd2 tx ty i w = if zAt tx ty q.1 59 59 then some (w, q.1 + 1, q.2) else none := by
  unfold zRd2
  rw [h]
/-- a command was read, or not -/
def cRC (M' : mM) (c : Nat) (s : Nat → Int32) (n nv no : Nat) (rows : Nat → Nat → Int32) (kk p o : Nat) (fp fr : Int32) (ty : Nat) (tx : Nat → Int32) (st : Nat) (x : Int32) (r : Option (Nat × Nat × (Nat → Int32))) : Prop := match r with
  | none => x = 0 ∧ ∃ vb nxz nums, cR M' c s n nv no rows kk p o fp fr ty tx vb nxz nums
  | some q => x = 1 ∧ q.1 < 7 ∧ st < q.2.1 ∧ q.2.1 ≤ ty ∧ ∃ nums, cR M' c s n nv no rows kk p o fp fr ty tx (nI q.1) (nI q.2.1) nums ∧ ∀ j, j < zCnt q.1 → nums j = q.2.2 j
theorem cRC_n {M' : mM} {c : Nat} {s : Nat → Int32} {n nv no : Nat} {rows : Nat → Nat → Int32} {kk p o : Nat} {fp fr : Int32} {ty : Nat} {tx : Nat → Int32} {st : Nat} {r : Option (Nat × Nat × (Nat → Int32))} {vb nxz : Int32} {nums : Nat → Int32} (h : r = none) (hm : cR M' c s n nv no rows kk p o fp fr ty tx vb nxz nums) : cRC M' c s n nv no rows kk p o fp fr ty tx st 0 r := by
  rw [h]
  exact ⟨rfl, vb, nxz, nums, hm⟩
set_option maxRecDepth 20000 in
set_option maxHeartbeats 4000000 in
theorem ct_X4_readCommand {K : zK} {M : mM} {nx : Nat} {c : Nat} {s : Nat → Int32} {n nv no : Nat} {rows : Nat → Nat → Int32} {kk p o : Nat} {fp fr : Int32} {ty : Nat} {tx : Nat → Int32} {vb nxz : Int32} {nums : Nat → Int32} (hm : cR M c s n nv no rows kk p o fp fr ty tx vb nxz nums) {st : Nat} (hst : st ≤ ty) : zCt K yX4_readCommand cX4_readCommand 4 zr_X4_readCommand 6 [.ref (c + 248), .int (nI st)] M nx 0 0 (zI (fun x M' => cRC M' c s n nv no rows kk p o fp fr ty tx st x (zRd tx ty st) ∧ zFr M M' (c + 248) 3)) := by
  refine z_enter [some (.ref (c + 248)), some (.int (nI st)), none, none] (by decide +kernel) (Nat.le_of_ble_eq_true rfl) rfl (fun Bω okω hzω => ?_)
  have hb5ω := hm.B
  refine z_aload_n okω dX4_readCommand_0 rfl ?_
  refine z_aload_n okω dX4_readCommand_1 rfl ?_
  refine z_iload_n okω dX4_readCommand_2 rfl ?_
  refine z_callVi okω dX4_readCommand_3 zm_X4_verbAt zw_665 zi_X4_verbAt hm.S rfl (ct_X4_verbAt hm (by omega)) rfl rfl (by decide) (by decide) (by decide) (Nat.le_of_ble_eq_true rfl) (fun xz1ω Mz2ω qz3ω => ?_)
  obtain ⟨hvqω, hMeω⟩ := qz3ω
  obtain rfl := hMeω.symm
  generalize xz1ω = vz9ω at *
  obtain ⟨wzω, hvwω, hPfω⟩ : ∃ wzω, ((wzω < 7 ∧ vz9ω = nI wzω) ∨ (wzω = 7 ∧ vz9ω = -1)) ∧ ((wzω < 7 ∧ zPfx tx ty st wzω) ∨ (wzω = 7 ∧ ∀ wω, wω < 7 → ¬ zPfx tx ty st wω)) := by
    rcases hvqω with ⟨w9ω, h9ω, h8ω, h7ω⟩ | ⟨h9ω, h8ω⟩
    · exact ⟨w9ω, Or.inl ⟨h9ω, h8ω⟩, Or.inl ⟨h9ω, h7ω⟩⟩
    · exact ⟨7, Or.inr ⟨rfl, h9ω⟩, Or.inr ⟨rfl, h8ω⟩⟩
  have hw8ω : wzω < 8 := by rcases hPfω with ⟨h9ω, _⟩ | ⟨h9ω, _⟩ <;> omega
  have hl5ω := zLen_5 wzω hw8ω
  have hleω : st + zLen.getD wzω 0 ≤ ty := by rcases hPfω with ⟨_, h9ω⟩ | ⟨h9ω, _⟩; exact h9ω.1; rw [h9ω]; exact hst
  have hDeω : wzω < 7 → (if wzω = 7 then 0 else zCnt wzω) = zCnt wzω := fun h9ω => if_neg (by omega)
  have hD5ω : (if wzω = 7 then 0 else zCnt wzω) ≤ 5 := by split; omega; exact zCnt_le wzω
  refine z_putf (T := TX4) (N := 5) (ty := .int) okω dX4_readCommand_6 zin_X4 tyX4 tyX4_ok nmX4 rfl 3 (by decide) zw_303 rfl hm.S (by decide +kernel) rfl rfl (Nat.le_of_ble_eq_true rfl) ?_
  refine zV_up (fun Mp6ω he6ω hu6ω => ?_)
  have hm4ω := hm.typed he6ω (hm.C.kept (hu6ω _ (by omega))) (hm.U.kept (hu6ω _ (by omega))) hm.B.2.2.2.2 (fun q9ω h9ω => hu6ω q9ω (by omega))
  have fz6ω : zFr _ Mp6ω (c + 248) 3 := fun q9ω h9ω => hu6ω q9ω (by omega)
  refine z_aload_n okω dX4_readCommand_9 rfl ?_
  refine z_iload_n okω dX4_readCommand_10 rfl ?_
  refine z_aload_n okω dX4_readCommand_11 rfl ?_
  refine z_getf okω dX4_readCommand_12 zin_X4 rfl 3 (by decide) zw_303 hm4ω.S rfl ?_
  refine z_callSa okω dX4_readCommand_15 zm_X4_wordOf zw_669 zw_670 (ct_X4_wordOf hvwω) rfl rfl (by decide) (by decide) (by decide) (Nat.le_of_ble_eq_true rfl) (fun xz7ω Mz8ω qz9ω => ?_)
  obtain ⟨hMeω, hvvω⟩ := qz9ω
  obtain rfl := hMeω.symm
  rw [hvvω]
  refine z_callVS okω dX4_readCommand_18 zm_J0_length_8abf5 zw_684 zi_J0_length_8abf5 (i := wzω) (by omega) rfl (ct_J0_length_8abf5 hw8ω) rfl rfl (by decide) (by decide) (by decide) (Nat.le_of_ble_eq_true rfl) (fun xz10ω _ qz11ω => ?_)
  obtain ⟨rfl, hMeω⟩ := qz11ω
  obtain rfl := hMeω.symm
  refine z_iadd okω dX4_readCommand_21 ?_
  rw [nI_add]
  refine z_putf (T := TX4) (N := 5) (ty := .int) okω dX4_readCommand_22 zin_X4 tyX4 tyX4_ok nmX4 rfl 4 (by decide) zw_305 rfl hm4ω.S (by decide +kernel) rfl rfl (Nat.le_of_ble_eq_true rfl) ?_
  refine zV_up (fun Mp22ω he22ω hu22ω => ?_)
  have hm12ω := hm4ω.typed he22ω (hm4ω.C.kept (hu22ω _ (by omega))) (hm4ω.U.kept (hu22ω _ (by omega))) hm4ω.B.2.2.2.2 (fun q9ω h9ω => hu22ω q9ω (by omega))
  have fz22ω : zFr _ Mp22ω (c + 248) 3 := fun q9ω h9ω => hu22ω q9ω (by omega)
  refine z_aload_n okω dX4_readCommand_25 rfl ?_
  refine z_getf okω dX4_readCommand_26 zin_X4 rfl 3 (by decide) zw_303 hm12ω.S rfl ?_
  refine z_callSi okω dX4_readCommand_29 zm_X4_numbersOf zw_732 zw_733 (ct_X4_numbersOf hvwω) rfl rfl (by decide) (by decide) (by decide) (Nat.le_of_ble_eq_true rfl) (fun xz15ω Mz16ω qz17ω => ?_)
  obtain ⟨hnqω, hMeω⟩ := qz17ω
  obtain rfl := hMeω.symm
  rw [hnqω]
  refine z_istore_n okω dX4_readCommand_32 (by decide) rfl ?_
  refine z_iconst (v := 0) okω dX4_readCommand_33 (by decide) ?_
  refine z_istore_n okω dX4_readCommand_34 (by decide) rfl ?_
  have loop35ω : ∀ (tω iω : Nat) (M1ω : mM) (qzω : Nat) (tzω nu1ω : Nat → Int32), (if wzω = 7 then 0 else zCnt wzω) < iω + tω → iω ≤ (if wzω = 7 then 0 else zCnt wzω) → zArgs tx ty ((if wzω = 7 then 0 else zCnt wzω) - iω) iω qzω tzω = zArgs tx ty (if wzω = 7 then 0 else zCnt wzω) 0 (st + zLen.getD wzω 0) (fun _ => 0) → st + zLen.getD wzω 0 ≤ qzω → qzω ≤ ty → (∀ jzω, jzω < iω → nu1ω jzω = tzω jzω) → cR M1ω c s n nv no rows kk p o fp fr ty tx vz9ω (nI qzω) nu1ω → zFr M M1ω (c + 248) 3 → zV 4 Bω (zE Bω (zI (fun xω M'ω => cRC M'ω c s n nv no rows kk p o fp fr ty tx st xω (zRd tx ty st) ∧ zFr M M'ω (c + 248) 3)) 0 0) 35 [some (.ref (c + 248)), some (.int (nI st)), some (.int (nI (if wzω = 7 then 0 else zCnt wzω))), some (.int (nI iω))] [] M1ω 0 0 := by
    intro tω
    induction tω with
    | zero => intro iω M1ω qzω tzω nu1ω h1ω h2ω; exact absurd h1ω (by omega)
    | succ tω ihω =>
      intro iω M1ω qzω tzω nu1ω h1ω h2ω hzaω hqsω hqtω hnuω hm1ω hf1ω
      refine z_iload_n okω dX4_readCommand_35 rfl ?_
      refine z_iload_n okω dX4_readCommand_36 rfl ?_
      refine z_icmp_ge (tgt := 83) okω dX4_readCommand_37 (by decide) (fun cz37ω => ?_) (fun cz37ω => ?_)
      · have hinω : iω = (if wzω = 7 then 0 else zCnt wzω) := by rw [nI_leI (by omega) (by omega)] at cz37ω; omega
        have hzsω : zArgs tx ty (if wzω = 7 then 0 else zCnt wzω) 0 (st + zLen.getD wzω 0) (fun _ => 0) = some (qzω, tzω) := by rw [← hzaω, hinω, Nat.sub_self]; rfl
        refine z_aload_n okω dX4_readCommand_83 rfl ?_
        refine z_getf okω dX4_readCommand_84 zin_X4 rfl 3 (by decide) zw_303 hm1ω.S rfl ?_
        refine z_iconst (v := -1) okω dX4_readCommand_87 (by decide) ?_
        refine z_icmp_eq (tgt := 104) okω dX4_readCommand_88 (by decide) (fun cz88ω => ?_) (fun cz88ω => ?_)
        · have hw7ω : wzω = 7 := by rcases hvwω with ⟨h9ω, h8ω⟩ | ⟨h9ω, _⟩; exact absurd (congrArg Int32.toInt (h8ω.symm.trans cz88ω)) (by rw [nI_toInt (by omega)]; show ¬ ((wzω : Nat) : Int) = -1; omega); exact h9ω
          have hrnω : zRd tx ty st = none := by rcases hPfω with ⟨h9ω, _⟩ | ⟨_, h9ω⟩; exact absurd hw7ω (by omega); exact zRd_D h9ω
          refine z_iconst (v := 0) okω dX4_readCommand_104 (by decide) ?_
          exact z_iret okω dX4_readCommand_105 rfl rfl rfl (Nat.zero_le _) (by first | exact ⟨cRC_n hrnω hm1ω, hf1ω⟩ | exact ⟨cRC_n (by rw [hrdω, if_neg hsp94ω]) hm1ω, hf1ω⟩ | (rw [hrdω, if_pos hsp94ω]; refine ⟨⟨rfl, hw7ω, (by show st < qzω + 1; omega), (by have h9ω := hsp94ω.1; show qzω + 1 ≤ ty; omega), _, (by rw [← hvzω]; exact hmS94ω), fun jzω hjzω => hnuω jzω (by rw [hinω, hDeω hw7ω]; exact hjzω)⟩, (by repeat (first | assumption | exact zFr.rf | refine zFr.tr (by assumption) ?_))⟩))
        · have hw7ω : wzω < 7 := by rcases hvwω with ⟨h9ω, _⟩ | ⟨_, h9ω⟩; exact h9ω; exact absurd h9ω cz88ω
          have hpxω : zPfx tx ty st wzω := by rcases hPfω with ⟨_, h9ω⟩ | ⟨h9ω, _⟩; exact h9ω; exact absurd h9ω (by omega)
          have hrdω : zRd tx ty st = if zAt tx ty qzω 59 59 then some (wzω, qzω + 1, tzω) else none := by rw [zRd_C hw7ω hpxω]; exact zRd2_q (hDeω hw7ω ▸ hzsω)
          have hvzω : vz9ω = nI wzω := by rcases hvwω with ⟨_, h9ω⟩ | ⟨h9ω, _⟩; exact h9ω; exact absurd h9ω (by omega)
          refine z_aload_n okω dX4_readCommand_91 rfl ?_
          refine z_bipush (v := 59) okω dX4_readCommand_92 (by decide) ?_
          refine z_callVi okω dX4_readCommand_94 zm_X4_readSign zw_735 zi_X4_readSign hm1ω.S rfl (ct_X4_readSign (q := qzω) (by omega) hm1ω) rfl rfl (by decide) (by decide) (by decide) (Nat.le_of_ble_eq_true rfl) (fun xz18ω Mz19ω qz20ω => ?_)
          rcases qz20ω with ⟨hsp94ω, hx94ω, hmS94ω, hfS94ω⟩ | ⟨hsp94ω, hx94ω, hMe94ω⟩
          · rw [hx94ω]
            refine z_if_eq (tgt := 104) okω dX4_readCommand_97 (by decide) (fun q9ω => absurd q9ω (by decide)) (fun _ => ?_)
            refine z_iconst (v := 1) okω dX4_readCommand_100 (by decide) ?_
            refine z_goto (tgt := 105) okω dX4_readCommand_101 (by decide) ?_
            exact z_iret okω dX4_readCommand_105 rfl rfl rfl (Nat.zero_le _) (by first | exact ⟨cRC_n hrnω hm1ω, hf1ω⟩ | exact ⟨cRC_n (by rw [hrdω, if_neg hsp94ω]) hm1ω, hf1ω⟩ | (rw [hrdω, if_pos hsp94ω]; refine ⟨⟨rfl, hw7ω, (by show st < qzω + 1; omega), (by have h9ω := hsp94ω.1; show qzω + 1 ≤ ty; omega), _, (by rw [← hvzω]; exact hmS94ω), fun jzω hjzω => hnuω jzω (by rw [hinω, hDeω hw7ω]; exact hjzω)⟩, (by repeat (first | assumption | exact zFr.rf | refine zFr.tr (by assumption) ?_))⟩))
          · obtain rfl := hMe94ω.symm
            rw [hx94ω]
            refine z_if_eq (tgt := 104) okω dX4_readCommand_97 (by decide) (fun _ => ?_) (fun q9ω => absurd (by decide) q9ω)
            refine z_iconst (v := 0) okω dX4_readCommand_104 (by decide) ?_
            exact z_iret okω dX4_readCommand_105 rfl rfl rfl (Nat.zero_le _) (by first | exact ⟨cRC_n hrnω hm1ω, hf1ω⟩ | exact ⟨cRC_n (by rw [hrdω, if_neg hsp94ω]) hm1ω, hf1ω⟩ | (rw [hrdω, if_pos hsp94ω]; refine ⟨⟨rfl, hw7ω, (by show st < qzω + 1; omega), (by have h9ω := hsp94ω.1; show qzω + 1 ≤ ty; omega), _, (by rw [← hvzω]; exact hmS94ω), fun jzω hjzω => hnuω jzω (by rw [hinω, hDeω hw7ω]; exact hjzω)⟩, (by repeat (first | assumption | exact zFr.rf | refine zFr.tr (by assumption) ?_))⟩))
      · have hinω : iω < (if wzω = 7 then 0 else zCnt wzω) := by rw [nI_leI (by omega) (by omega)] at cz37ω; omega
        refine z_iload_n okω dX4_readCommand_40 rfl ?_
        refine z_iconst (v := 5) okω dX4_readCommand_41 (by decide) ?_
        refine z_icmp_ge (tgt := 83) okω dX4_readCommand_42 (by decide) (fun cz42ω => ?_) (fun cz42ω => ?_)
        · exact absurd ((nI_leI (a := 5) (by omega) (by omega)).mp cz42ω) (by omega)
        · refine z_aload_n okω dX4_readCommand_45 rfl ?_
          refine z_bipush (v := 32) okω dX4_readCommand_46 (by decide) ?_
          refine z_callVi okω dX4_readCommand_48 zm_X4_readSign zw_735 zi_X4_readSign hm1ω.S rfl (ct_X4_readSign (q := qzω) (by omega) hm1ω) rfl rfl (by decide) (by decide) (by decide) (Nat.le_of_ble_eq_true rfl) (fun xz21ω Mz22ω qz23ω => ?_)
          rcases qz23ω with ⟨hsp48ω, hx48ω, hmS48ω, hfS48ω⟩ | ⟨hsp48ω, hx48ω, hMe48ω⟩
          · rw [hx48ω]
            refine z_if_ne (tgt := 56) okω dX4_readCommand_51 (by decide) (fun _ => ?_) (fun q9ω => absurd q9ω (by decide))
            refine z_aload_n okω dX4_readCommand_56 rfl ?_
            refine z_getf okω dX4_readCommand_57 zin_X4 rfl 1 (by decide) zw_299 hmS48ω.S rfl ?_
            refine z_iload_n okω dX4_readCommand_60 rfl ?_
            refine z_aload_n okω dX4_readCommand_61 rfl ?_
            refine z_callVi okω dX4_readCommand_62 zm_X4_readNumber zw_739 zi_X4_readNumber hmS48ω.S rfl (ct_X4_readNumber (q := qzω + 1) (by have := hsp48ω.1; omega) hmS48ω) rfl rfl (by decide) (by decide) (by decide) (Nat.le_of_ble_eq_true rfl) (fun xz24ω Mz25ω qz26ω => ?_)
            obtain ⟨hxnω, hmNω, hfNω⟩ := qz26ω
            rw [hxnω]
            refine z_ast okω dX4_readCommand_65 hmNω.U rfl (by omega) (by decide) (fun M65ω hz65ω hu65ω => ?_)
            have hm65ω := hmNω.typed ((hu65ω _ (by omega)).trans hmNω.S) (hmNω.C.kept (hu65ω _ (by omega))) hz65ω hmNω.B.2.2.2.2 (fun q9ω h9ω => hu65ω q9ω (by omega))
            have fz65ω : zFr _ M65ω (c + 248) 3 := fun q9ω h9ω => hu65ω q9ω (by omega)
            have hv9ω : (if qzω + 1 < (zNm tx ty 3 (qzω + 1) 0).2 then (zNm tx ty 3 (qzω + 1) 0).1 else (-1 : Int32)) = if qzω + 1 < (zNm tx ty 3 (qzω + 1) 0).2 then (zNm tx ty 3 (qzω + 1) 0).1 else (-1 : Int32) := rfl
            refine z_aload_n okω dX4_readCommand_66 rfl ?_
            refine z_getf okω dX4_readCommand_67 zin_X4 rfl 1 (by decide) zw_299 hm65ω.S rfl ?_
            refine z_iload_n okω dX4_readCommand_70 rfl ?_
            refine z_ald (j := iω) okω dX4_readCommand_71 hm65ω.U rfl (by omega) (by decide) ?_
            rw [upd_s]
            refine z_if_ge (tgt := 77) okω dX4_readCommand_72 (by decide) (fun cz72ω => ?_) (fun cz72ω => ?_)
            · have hlt9ω : qzω + 1 < (zNm tx ty 3 (qzω + 1) 0).2 := Decidable.byContradiction (fun z9ω => by rw [if_neg z9ω] at cz72ω; exact absurd cz72ω (by decide))
              refine z_iinc okω dX4_readCommand_77 rfl (zinc _) (by decide) rfl ?_
              refine z_goto (tgt := 35) okω dX4_readCommand_80 (by decide) ?_
              exact ihω (iω + 1) _ _ (upd tzω iω (zNm tx ty 3 (qzω + 1) 0).1) _ (by omega) (by omega) (by rw [← hzaω, show (if wzω = 7 then 0 else zCnt wzω) - iω = ((if wzω = 7 then 0 else zCnt wzω) - (iω + 1)) + 1 from by omega, zArgs_y ⟨hsp48ω, hlt9ω⟩]) (by omega) ((zNm_le tx ty 3 (qzω + 1) 0).2 (by omega)) (fun jzω hjzω => by rw [hv9ω, if_pos hlt9ω]; exact upd_cong hnuω jzω hjzω) hm65ω (by repeat (first | assumption | exact zFr.rf | refine zFr.tr (by assumption) ?_))
            · have hge9ω : ¬ qzω + 1 < (zNm tx ty 3 (qzω + 1) 0).2 := fun z9ω => by rw [if_pos z9ω] at cz72ω; exact cz72ω (i0_le.mpr (zNm_nn 3 _ _ (by decide) (by decide) (by decide)))
              have hznω : zArgs tx ty (if wzω = 7 then 0 else zCnt wzω) 0 (st + zLen.getD wzω 0) (fun _ => 0) = none := by rw [← hzaω, show (if wzω = 7 then 0 else zCnt wzω) - iω = ((if wzω = 7 then 0 else zCnt wzω) - (iω + 1)) + 1 from by omega]; exact zArgs_x (fun z9ω => hge9ω z9ω.2)
              refine z_iconst (v := 0) okω dX4_readCommand_75 (by decide) ?_
              exact z_iret okω dX4_readCommand_76 rfl rfl rfl (Nat.zero_le _) ⟨cRC_n (by rcases hPfω with ⟨hw7ω, hpxω⟩ | ⟨hw7ω, hpxω⟩; rw [zRd_C hw7ω hpxω]; exact zRd2_n (hDeω hw7ω ▸ hznω); exact zRd_D hpxω) hm65ω, (by repeat (first | assumption | exact zFr.rf | refine zFr.tr (by assumption) ?_))⟩
          · obtain rfl := hMe48ω.symm
            rw [hx48ω]
            refine z_if_ne (tgt := 56) okω dX4_readCommand_51 (by decide) (fun q9ω => absurd rfl q9ω) (fun _ => ?_)
            have hznω : zArgs tx ty (if wzω = 7 then 0 else zCnt wzω) 0 (st + zLen.getD wzω 0) (fun _ => 0) = none := by rw [← hzaω, show (if wzω = 7 then 0 else zCnt wzω) - iω = ((if wzω = 7 then 0 else zCnt wzω) - (iω + 1)) + 1 from by omega]; exact zArgs_x (fun z9ω => hsp48ω z9ω.1)
            refine z_iconst (v := 0) okω dX4_readCommand_54 (by decide) ?_
            exact z_iret okω dX4_readCommand_55 rfl rfl rfl (Nat.zero_le _) ⟨cRC_n (by rcases hPfω with ⟨hw7ω, hpxω⟩ | ⟨hw7ω, hpxω⟩; rw [zRd_C hw7ω hpxω]; exact zRd2_n (hDeω hw7ω ▸ hznω); exact zRd_D hpxω) hm1ω, hf1ω⟩
  exact loop35ω ((if wzω = 7 then 0 else zCnt wzω) + 1) 0 _ _ _ _ (by omega) (by omega) rfl (Nat.le_refl _) hleω (fun jzω hjzω => absurd hjzω (Nat.not_lt_zero _)) hm12ω (by repeat (first | assumption | exact zFr.rf | refine zFr.tr (by assumption) ?_))

