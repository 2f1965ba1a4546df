set_option maxRecDepth 20000 in
set_option maxHeartbeats 4000000 in
theorem ct_X4_init {K : zK} {M : mM} {q : Nat} (hself : M q = some (.inr (4, [.null, .null, .int 0, .int 0, .int 0]))) : zCt K yX4_init cX4_init 1 zr_X4_init 1 [.ref q] M (q + 1) 2 85 (zU (fun M' => M' q = some (.inr (4, [.ref (q + 1), .ref (q + 2), .int 0, .int 0, .int 0])) ∧ zArc M' (q + 1) 80 (fun _ => 0) ∧ zArr M' (q + 2) 5 (fun _ => 0) ∧ zFr M M' q 3)) := by
  refine z_enter [some (.ref q)] (by decide +kernel) (Nat.le_of_ble_eq_true rfl) rfl (fun Bω okω hzω => ?_)
  refine z_aload_n okω dX4_init_0 rfl ?_
  refine z_objInit okω dX4_init_1 zw_258 zw_20 zw_21 (by decide) (Nat.le_of_ble_eq_true rfl) ?_
  refine z_aload_n okω dX4_init_4 rfl ?_
  refine z_bipush (v := 80) okω dX4_init_5 (by decide) ?_
  refine z_newC (a := q + 1) (N := 80) okω dX4_init_7 zw_273 (by decide) rfl (by decide) (by omega) (by omega) (by omega) ?_
  refine zV_up (fun Mz1ω he1ω hu1ω => ?_)
  have hs1ω := (hu1ω _ (by omega)).trans hself
  refine z_putF (T := TX4) (N := 5) (ty := tyX4 0) okω dX4_init_9 zin_X4 tyX4 tyX4_ok nmX4 rfl 0 (by decide) zw_259 rfl rfl rfl hs1ω (by decide +kernel) rfl rfl (Nat.le_of_ble_eq_true rfl) ?_
  refine zV_up (fun Mz2ω he2ω hu2ω => ?_)
  have ht2ω : Mz2ω q = some (.inr (4, [.ref (q + 1), .null, .int 0, .int 0, .int 0])) := he2ω
  refine z_aload_n okω dX4_init_12 rfl ?_
  refine z_iconst (v := 5) okω dX4_init_13 (by decide) ?_
  refine z_newI (a := q + 2) (N := 5) okω dX4_init_14 zw_104 (by decide) rfl (by decide) (by omega) (by omega) (by omega) ?_
  refine zV_up (fun Mz3ω he3ω hu3ω => ?_)
  have hs3ω := (hu3ω _ (by omega)).trans ht2ω
  refine z_putF (T := TX4) (N := 5) (ty := tyX4 1) okω dX4_init_16 zin_X4 tyX4 tyX4_ok nmX4 rfl 1 (by decide) zw_260 rfl rfl rfl hs3ω (by decide +kernel) rfl rfl (Nat.le_of_ble_eq_true rfl) ?_
  refine zV_up (fun Mz4ω he4ω hu4ω => ?_)
  exact z_vret okω dX4_init_19 rfl (by omega) (by omega) ⟨he4ω, ⟨_, (hu4ω _ (by omega)).trans ((hu3ω _ (by omega)).trans ((hu2ω _ (by omega)).trans he1ω)), fun _ _ => rfl⟩, ⟨_, (hu4ω _ (by omega)).trans he3ω, fun _ _ => rfl⟩, fun rω hrω => (hu4ω rω (by omega)).trans ((hu3ω rω (by omega)).trans ((hu2ω rω (by omega)).trans (hu1ω rω (by omega))))⟩

def hH (M : mM) (y i : Nat) : Prop := M y = some (.inr (2, [.ref (y + 1), .int 0, .int 0])) ∧ zRP M (y + 1) 6 5 i (fun j => y + 2 + 35 * j) ∧ ∀ j, j < i → hPicP M (y + 2 + 35 * j) κ0 (fun i => i)
set_option maxRecDepth 20000 in
set_option maxHeartbeats 4000000 in
theorem ct_X2_init {K : zK} {M : mM} {y : Nat} (hself : M y = some (.inr (2, [.null, .int 0, .int 0]))) : zCt K yX2_init cX2_init 2 zr_X2_init 3 [.ref y] M (y + 1) 176 1700 (zU (fun M' => hH M' y 5 ∧ zFr M M' y 177)) := by
  refine z_enter [some (.ref y), none] (by decide +kernel) (Nat.le_of_ble_eq_true rfl) rfl (fun Bω okω hzω => ?_)
  have loop14ω : ∀ (tω iω : Nat) (M1ω : mM), 5 < iω + tω → iω ≤ 5 → hH M1ω y iω → zFr M M1ω y 177 → zV 2 Bω (zE Bω (zU (fun M'ω => hH M'ω y 5 ∧ zFr M M'ω y 177)) 176 1700) 14 [some (.ref y), some (.int (nI iω))] [] M1ω (1 + 35 * iω) (5 + 339 * iω) := by
    intro tω
    induction tω with
    | zero => intro iω M1ω h1ω h2ω; exact absurd h1ω (by omega)
    | succ tω ihω =>
      intro iω M1ω h1ω h2ω hH1ω hf1ω
      refine z_iload_n okω dX2_init_14 rfl ?_
      refine z_iconst (v := 4) okω dX2_init_15 (by decide) ?_
      refine z_icmp_gt (tgt := 38) okω dX2_init_16 (by decide) (fun czω => ?_) (fun czω => ?_)
      · have hinω : iω = 5 := by have h9ω := Int32.lt_iff_toInt_lt.mp czω; rw [nI_toInt (by omega)] at h9ω; have e4ω : (4 : Int32).toInt = 4 := rfl; omega
        rw [hinω] at hH1ω ⊢
        exact z_vret okω dX2_init_38 rfl (by omega) (by omega) ⟨hH1ω, hf1ω⟩
      · have hinω : iω < 5 := by have h9ω := mt Int32.lt_iff_toInt_lt.mpr czω; rw [nI_toInt (by omega)] at h9ω; have e4ω : (4 : Int32).toInt = 4 := rfl; omega
        obtain ⟨fzω, hfzω, hfz2ω⟩ := hH1ω.2.1
        refine z_aload_n okω dX2_init_19 rfl ?_
        refine z_getf okω dX2_init_20 zin_X2 rfl 0 (by decide) zw_242 hH1ω.1 rfl ?_
        refine z_iload_n okω dX2_init_23 rfl ?_
        refine z_new (T := TX1) (N := 12) (ci := 1) (fs := [.null, .null, .null, .null, .int 0, .int 0, .int 0, .int 0, .int 0, .int 0, .int 0, .int 0]) (a := y + 2 + 35 * iω) okω dX2_init_24 zin_X1 tyX1 tyX1_ok rfl zw_239 zw_23 zw_5 (fun jω hjω => match jω, hjω with | 0, _ => rfl | 1, _ => rfl | 2, _ => rfl | 3, _ => rfl | 4, _ => rfl | 5, _ => rfl | 6, _ => rfl | 7, _ => rfl | 8, _ => rfl | 9, _ => rfl | 10, _ => rfl | 11, _ => rfl) (by omega) (by omega) (by omega) ?_
        refine zV_up (fun Mnω henω hunω => ?_)
        refine z_dup okω dX2_init_27 rfl ?_
        refine z_callIv okω dX2_init_28 zm_X1_init zw_241 zw_25 rfl rfl (by rw [show zSz Bω + (1 + 35 * iω + 1) = (y + 2 + 35 * iω) + 1 from by omega]; exact ct_X1_init henω) rfl rfl (by decide) (by omega) (by omega) (Nat.le_of_ble_eq_true rfl) (fun Mcω q9ω => ?_)
        obtain ⟨hpcω, hfcω⟩ := q9ω
        have hacω := (hfcω (y + 1) (by omega)).trans ((hunω (y + 1) (by omega)).trans hfzω)
        refine z_aastore (r := (RX1, TX1, 12)) okω dX2_init_31 hacω rfl hpcω.1 rfl (vp_in_nI hinω (by decide)) ?_
        rw [nI_clamp (by omega)]
        refine zV_up (fun Msω hesω husω => ?_)
        refine z_iinc okω dX2_init_32 rfl (zinc _) (by decide) rfl ?_
        refine z_goto (tgt := 14) okω dX2_init_35 (by decide) ?_
        have hqsω : ∀ qω, (qω < y + 2 + 35 * iω ∨ y + 2 + 35 * iω + 35 ≤ qω) → qω ≠ y + 1 → Msω qω = M1ω qω := fun qω h9ω h8ω => (husω qω h8ω).trans ((hfcω qω h9ω).trans (hunω qω (by omega)))
        have hHnω : hH Msω y (iω + 1) := ⟨(hqsω _ (by omega) (by omega)).trans hH1ω.1, zRP.up hfz2ω rfl hesω, fun jω hjω => by
          by_cases hji : jω = iω
          · rw [hji]
            exact hpcω.kept (fun qω h9ω h8ω => husω qω (by omega))
          · exact (hH1ω.2.2 jω (by omega)).kept (fun qω h9ω h8ω => hqsω qω (by omega) (by omega))⟩
        exact zV_kn (ihω (iω + 1) Msω (by omega) (by omega) hHnω (fun qω h9ω => (hqsω qω (by omega) (by omega)).trans (hf1ω qω h9ω))) (by omega) (by omega)
  refine z_aload_n okω dX2_init_0 rfl ?_
  refine z_objInit okω dX2_init_1 zw_238 zw_20 zw_21 (by decide) (Nat.le_of_ble_eq_true rfl) ?_
  refine z_aload_n okω dX2_init_4 rfl ?_
  refine z_iconst (v := 5) okω dX2_init_5 (by decide) ?_
  refine z_newR (a := y + 1) (N := 5) (C := RX1) okω dX2_init_6 zw_239 (fun _ h9ω => h9ω.2.2.2.1) (j := 6) rfl (by decide) rfl (by decide) (by omega) (by omega) (by omega) ?_
  refine zV_up (fun Mz1ω he1ω hu1ω => ?_)
  have hs1ω := (hu1ω _ (by omega)).trans hself
  refine z_putF (T := TX2) (N := 3) (ty := tyX2 0) okω dX2_init_9 zin_X2 tyX2 tyX2_ok nmX2 rfl 0 (by decide) zw_242 rfl rfl rfl hs1ω (by decide +kernel) rfl rfl (Nat.le_of_ble_eq_true rfl) ?_
  refine zV_up (fun Mz2ω he2ω hu2ω => ?_)
  have hH0ω : hH Mz2ω y 0 := ⟨he2ω, ⟨_, (hu2ω _ (by omega)).trans he1ω, fun jω hjω => absurd hjω (Nat.not_lt_zero _)⟩, fun jω hjω => absurd hjω (Nat.not_lt_zero _)⟩
  refine z_iconst (v := 0) okω dX2_init_12 (by decide) ?_
  refine z_istore_n okω dX2_init_13 (by decide) rfl ?_
  exact zV_kn (loop14ω 6 0 _ (by omega) (by omega) hH0ω (fun qω h9ω => (hu2ω qω (by omega)).trans (hu1ω qω (by omega)))) (by omega) (by omega)

theorem hRel_0 : hRel κ0 (zM0.1 1) 0 0 0 := ⟨⟨rfl, by decide, rfl, by decide, rfl, by decide⟩, ⟨rfl, rfl, rfl, rfl, rfl, rfl, rfl, rfl⟩, fun jω hjω => by rcases (by omega : jω = 0 ∨ jω = 1 ∨ jω = 2) with h9ω | h9ω | h9ω <;> rw [h9ω] <;> rfl, fun iω hiω => absurd hiω (Nat.not_lt_zero _), fun iω hiω => absurd hiω (Nat.not_lt_zero _), fun iω hiω => absurd hiω (Nat.not_lt_zero _)⟩
set_option maxRecDepth 20000 in
set_option maxHeartbeats 4000000 in
theorem ct_X6_init {K : zK} {M : mM} {c : Nat} (hself : M c = some (.inr (6, [.null, .null, .null, .null, .int 0, .int 0]))) : zCt K yX6_init cX6_init 1 zr_X6_init 4 [.ref c] M (c + 1) 250 2471 (zU (fun M' => cPic M' c (zM0.1 1) (fun _ => 0) 0 0 (fun _ => 0) ∧ zFr M M' c 251)) := by
  refine z_enter [some (.ref c)] (by decide +kernel) (Nat.le_of_ble_eq_true rfl) rfl (fun Bω okω hzω => ?_)
  refine z_aload_n okω dX6_init_0 rfl ?_
  refine z_objInit okω dX6_init_1 zw_19 zw_20 zw_21 (by decide) (Nat.le_of_ble_eq_true rfl) ?_
  refine z_aload_n okω dX6_init_4 rfl ?_
  refine z_new (T := TX1) (N := 12) (ci := 1) (fs := [.null, .null, .null, .null, .int 0, .int 0, .int 0, .int 0, .int 0, .int 0, .int 0, .int 0]) (a := c + 1) okω dX6_init_5 zin_X1 tyX1 tyX1_ok rfl zw_22 zw_23 zw_5 (fun jω hjω => match jω, hjω with | 0, _ => rfl | 1, _ => rfl | 2, _ => rfl | 3, _ => rfl | 4, _ => rfl | 5, _ => rfl | 6, _ => rfl | 7, _ => rfl | 8, _ => rfl | 9, _ => rfl | 10, _ => rfl | 11, _ => rfl) (by omega) (by omega) (by omega) ?_
  refine zV_up (fun Mn0ω hen0ω hun0ω => ?_)
  refine z_dup okω dX6_init_8 rfl ?_
  refine z_callIv okω dX6_init_9 zm_X1_init zw_24 zw_25 rfl rfl (by rw [show zSz Bω + (0 + 1) = (c + 1) + 1 from by omega]; exact ct_X1_init hen0ω) rfl rfl (by decide) (by omega) (by omega) (Nat.le_of_ble_eq_true rfl) (fun Mc0ω q9ω => ?_)
  obtain ⟨hp0ω, hfr0ω⟩ := q9ω
  have hs0ω := (hfr0ω _ (by omega)).trans ((hun0ω _ (by omega)).trans hself)
  refine z_putF (T := TX6) (N := 6) (ty := tyX6 0) okω dX6_init_12 zin_X6 tyX6 tyX6_ok nmX6 rfl 0 (by decide) zw_274 rfl rfl rfl hs0ω (by decide +kernel) rfl rfl (Nat.le_of_ble_eq_true rfl) ?_
  refine zV_up (fun Mp0ω hep0ω hup0ω => ?_)
  have ht0ω : Mp0ω c = some (.inr (6, [.ref (c + 1), .null, .null, .null, .int 0, .int 0])) := hep0ω
  refine z_aload_n okω dX6_init_15 rfl ?_
  refine z_new (T := TX1) (N := 12) (ci := 1) (fs := [.null, .null, .null, .null, .int 0, .int 0, .int 0, .int 0, .int 0, .int 0, .int 0, .int 0]) (a := c + 36) okω dX6_init_16 zin_X1 tyX1 tyX1_ok rfl zw_22 zw_23 zw_5 (fun jω hjω => match jω, hjω with | 0, _ => rfl | 1, _ => rfl | 2, _ => rfl | 3, _ => rfl | 4, _ => rfl | 5, _ => rfl | 6, _ => rfl | 7, _ => rfl | 8, _ => rfl | 9, _ => rfl | 10, _ => rfl | 11, _ => rfl) (by omega) (by omega) (by omega) ?_
  refine zV_up (fun Mn1ω hen1ω hun1ω => ?_)
  refine z_dup okω dX6_init_19 rfl ?_
  refine z_callIv okω dX6_init_20 zm_X1_init zw_24 zw_25 rfl rfl (by rw [show zSz Bω + (0 + 1 + 34 + 1) = (c + 36) + 1 from by omega]; exact ct_X1_init hen1ω) rfl rfl (by decide) (by omega) (by omega) (Nat.le_of_ble_eq_true rfl) (fun Mc1ω q9ω => ?_)
  obtain ⟨hp1ω, hfr1ω⟩ := q9ω
  have hs1ω := (hfr1ω _ (by omega)).trans ((hun1ω _ (by omega)).trans ht0ω)
  refine z_putF (T := TX6) (N := 6) (ty := tyX6 1) okω dX6_init_23 zin_X6 tyX6 tyX6_ok nmX6 rfl 1 (by decide) zw_275 rfl rfl rfl hs1ω (by decide +kernel) rfl rfl (Nat.le_of_ble_eq_true rfl) ?_
  refine zV_up (fun Mp1ω hep1ω hup1ω => ?_)
  have ht1ω : Mp1ω c = some (.inr (6, [.ref (c + 1), .ref (c + 36), .null, .null, .int 0, .int 0])) := hep1ω
  refine z_aload_n okω dX6_init_26 rfl ?_
  refine z_new (T := TX2) (N := 3) (ci := 2) (fs := [.null, .int 0, .int 0]) (a := c + 71) okω dX6_init_27 zin_X2 tyX2 tyX2_ok rfl zw_233 zw_234 zw_9 (fun jω hjω => match jω, hjω with | 0, _ => rfl | 1, _ => rfl | 2, _ => rfl) (by omega) (by omega) (by omega) ?_
  refine zV_up (fun Mn2ω hen2ω hun2ω => ?_)
  refine z_dup okω dX6_init_30 rfl ?_
  refine z_callIv okω dX6_init_31 zm_X2_init zw_235 zw_236 rfl rfl (by rw [show zSz Bω + (0 + 1 + 34 + 1 + 34 + 1) = (c + 71) + 1 from by omega]; exact ct_X2_init hen2ω) rfl rfl (by decide) (by omega) (by omega) (Nat.le_of_ble_eq_true rfl) (fun Mc2ω q9ω => ?_)
  obtain ⟨hp2ω, hfr2ω⟩ := q9ω
  have hs2ω := (hfr2ω _ (by omega)).trans ((hun2ω _ (by omega)).trans ht1ω)
  refine z_putF (T := TX6) (N := 6) (ty := tyX6 2) okω dX6_init_34 zin_X6 tyX6 tyX6_ok nmX6 rfl 2 (by decide) zw_276 rfl rfl rfl hs2ω (by decide +kernel) rfl rfl (Nat.le_of_ble_eq_true rfl) ?_
  refine zV_up (fun Mp2ω hep2ω hup2ω => ?_)
  have ht2ω : Mp2ω c = some (.inr (6, [.ref (c + 1), .ref (c + 36), .ref (c + 71), .null, .int 0, .int 0])) := hep2ω
  refine z_aload_n okω dX6_init_37 rfl ?_
  refine z_new (T := TX4) (N := 5) (ci := 4) (fs := [.null, .null, .int 0, .int 0, .int 0]) (a := c + 248) okω dX6_init_38 zin_X4 tyX4 tyX4_ok rfl zw_253 zw_254 zw_10 (fun jω hjω => match jω, hjω with | 0, _ => rfl | 1, _ => rfl | 2, _ => rfl | 3, _ => rfl | 4, _ => rfl) (by omega) (by omega) (by omega) ?_
  refine zV_up (fun Mn3ω hen3ω hun3ω => ?_)
  refine z_dup okω dX6_init_41 rfl ?_
  refine z_callINv okω dX6_init_42 zm_X4_init (fun _ h9ω => h9ω.2.2.2.2.2.1) zw_256 rfl rfl (by rw [show zSz Bω + (0 + 1 + 34 + 1 + 34 + 1 + 176 + 1) = (c + 248) + 1 from by omega]; exact ct_X4_init hen3ω) rfl rfl (by decide) (by omega) (by omega) (Nat.le_of_ble_eq_true rfl) (fun Mc3ω q9ω => ?_)
  obtain ⟨hp3ω, hp3cω, hp3uω, hfr3ω⟩ := q9ω
  have hs3ω := (hfr3ω _ (by omega)).trans ((hun3ω _ (by omega)).trans ht2ω)
  refine z_putF (T := TX6) (N := 6) (ty := tyX6 3) okω dX6_init_45 zin_X6 tyX6 tyX6_ok nmX6 rfl 3 (by decide) zw_277 rfl rfl rfl hs3ω (by decide +kernel) rfl rfl (Nat.le_of_ble_eq_true rfl) ?_
  refine zV_up (fun Mp3ω hep3ω hup3ω => ?_)
  have ht3ω : Mp3ω c = some (.inr (6, [.ref (c + 1), .ref (c + 36), .ref (c + 71), .ref (c + 248), .int 0, .int 0])) := hep3ω
  have k0ω : ∀ qω, c + 1 ≤ qω → qω < c + 36 → Mp3ω qω = Mc0ω qω := fun qω h1ω h2ω => ((hup3ω qω (by omega)).trans ((hfr3ω qω (by omega)).trans ((hun3ω qω (by omega)).trans ((hup2ω qω (by omega)).trans ((hfr2ω qω (by omega)).trans ((hun2ω qω (by omega)).trans ((hup1ω qω (by omega)).trans ((hfr1ω qω (by omega)).trans ((hun1ω qω (by omega)).trans (hup0ω qω (by omega)))))))))))
  have k1ω : ∀ qω, c + 36 ≤ qω → qω < c + 71 → Mp3ω qω = Mc1ω qω := fun qω h1ω h2ω => ((hup3ω qω (by omega)).trans ((hfr3ω qω (by omega)).trans ((hun3ω qω (by omega)).trans ((hup2ω qω (by omega)).trans ((hfr2ω qω (by omega)).trans ((hun2ω qω (by omega)).trans (hup1ω qω (by omega))))))))
  have k2ω : ∀ qω, c + 71 ≤ qω → qω < c + 248 → Mp3ω qω = Mc2ω qω := fun qω h1ω h2ω => ((hup3ω qω (by omega)).trans ((hfr3ω qω (by omega)).trans ((hun3ω qω (by omega)).trans (hup2ω qω (by omega)))))
  have k3ω : ∀ qω, c + 248 ≤ qω → Mp3ω qω = Mc3ω qω := fun qω h1ω => (hup3ω qω (by omega))
  have hall0ω : cHall Mp3ω (c + 1) (zM0.1 1) 0 0 0 := ⟨κ0, _, hp0ω.kept (fun qω h1ω h2ω => k0ω qω h1ω (by omega)), hRel_0, zWF_0⟩
  have hH2ω := hp2ω.2.1
  have hcrω : cR Mp3ω c (zM0.1 1) 0 0 0 (fun jω qω => (fun _ => 0 : Nat → Int32) (287 * jω + qω)) 0 0 0 0 0 0 (fun _ => 0) 0 0 (fun _ => 0) := cR.mk ht3ω ((k2ω _ (by omega) (by omega)).trans hp2ω.1) (by obtain ⟨f9ω, h9ω, h8ω⟩ := hH2ω; exact ⟨f9ω, (k2ω _ (by omega) (by omega)).trans h9ω, h8ω⟩) ((k3ω _ (by omega)).trans hp3ω) (hp3cω.kept (k3ω _ (by omega))) (hp3uω.kept (k3ω _ (by omega))) ⟨by decide, by decide, by decide, by decide, by decide⟩ hall0ω ⟨κ0, _, hp1ω.kept (fun qω h1ω h2ω => k1ω qω h1ω (by omega))⟩ (fun iω hiω => ⟨κ0, _, (hp2ω.2.2 iω hiω).kept (fun qω h1ω h2ω => k2ω qω (by omega) (by omega))⟩) (fun jω hjω => absurd hjω (Nat.not_lt_zero _))
  exact z_vret okω dX6_init_48 rfl (by omega) (by omega) ⟨⟨_, _, _, _, _, _, _, _, _, hcrω⟩, fun qω hqω => ((hup3ω qω (by omega)).trans ((hfr3ω qω (by omega)).trans ((hun3ω qω (by omega)).trans ((hup2ω qω (by omega)).trans ((hfr2ω qω (by omega)).trans ((hun2ω qω (by omega)).trans ((hup1ω qω (by omega)).trans ((hfr1ω qω (by omega)).trans ((hun1ω qω (by omega)).trans ((hup0ω qω (by omega)).trans ((hfr0ω qω (by omega)).trans ((hun0ω qω (by omega)).trans rfl))))))))))))⟩


