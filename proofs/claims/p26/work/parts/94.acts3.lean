set_option maxRecDepth 20000 in
set_option maxHeartbeats 4000000 in
theorem la_463 {K : zK} {M : mM} {B : zB} {c : Nat} {s : Nat → Int32} {n nv no : Nat} (hS : lS M c s n nv no) {τ : Nat} (hτ : s 5 = nI τ) (hτ2 : τ ≤ 5000) {z : Int32} (ok : zOk K yL_acts cL_acts 16 zr_L_acts 7 0 0 B) {Y w : Nat} (hY : Y < 10000000) {u : Nat} (hu : u < nv) : zV 16 B (zE B (zI (fun x M' => x = 1 ∧ ∃ (s' : Nat → Int32) (n' nv' no' τ' : Nat), lS M' c s' n' nv' no' ∧ s' 5 = nI τ' ∧ τ' ≤ τ + 30 ∧ zFr M M' c 257)) 0 0) 463 [some (.ref c), some (.ref (c + 251)), some (.ref (c + 251 + 1)), some (.ref (c + 251 + 2)), some (.ref (c + 251 + 3)), some (.ref (c + 251 + 4)), some (.ref (c + 251 + 5)), some (.int z), some (.int (nI Y)), some (.int (nI w)), some (.int (nI u)), none, none, none, none, none] [] M 0 0 := by
  have hmω := hS.2.1
  have hoω := hS.1
  have hwω := hS.2.2.1
  have hxω := hS.2.2.2
  have hNω := hwω.N
  have hn16ω := hNω.2.1
  have hnv4ω := hNω.2.2.2.1
  have hno10ω := hNω.2.2.2.2.2
  have hu4ω : u < 4 := by omega
  refine z_iconst (v := 1) ok dL_acts_463 (by decide) ?_
  refine z_iload ok dL_acts_464 rfl ?_
  refine z_iconst (v := 4) ok dL_acts_466 (by decide) ?_
  refine z_idiv ok dL_acts_467 (by decide) ?_
  refine zV_eqi (ydiv (d := 4) rfl (by omega) (by omega) (by omega)) ?_
  refine z_iconst (v := 4) ok dL_acts_468 (by decide) ?_
  refine z_irem ok dL_acts_469 (by decide) ?_
  refine zV_eqi (yrem (d := 4) rfl (by omega) (by omega) (by omega)) ?_
  refine z_iadd ok dL_acts_470 ?_
  refine zV_eqi (yadd (a := 1) rfl) ?_
  refine z_istore ok dL_acts_471 (by decide) rfl ?_
  refine z_iload ok dL_acts_473 rfl ?_
  refine z_bipush (v := 16) ok dL_acts_475 (by decide) ?_
  refine z_idiv ok dL_acts_477 (by decide) ?_
  refine zV_eqi (ydiv (d := 16) rfl (by omega) (by omega) (by omega)) ?_
  refine z_iconst (v := 3) ok dL_acts_478 (by decide) ?_
  refine z_irem ok dL_acts_479 (by decide) ?_
  refine zV_eqi (yrem (d := 3) rfl (by omega) (by omega) (by omega)) ?_
  refine z_istore ok dL_acts_480 (by decide) rfl ?_
  refine z_aload ok dL_acts_482 rfl ?_
  refine z_bipush (v := 8) ok dL_acts_484 (by decide) ?_
  refine z_iload ok dL_acts_486 rfl ?_
  refine z_imul ok dL_acts_488 ?_
  refine z_iconst (v := 2) ok dL_acts_489 (by decide) ?_
  refine z_iadd ok dL_acts_490 ?_
  refine l_ldV (u := u) (t := 2) ok dL_acts_491 hmω (lx8_2 u) hu (by decide) ?_
  refine z_if_le (tgt := 516) ok dL_acts_492 (by decide) (fun cz492ω => ?_) (fun cz492ω => ?_)
  · refine z_iconst (v := 0) ok dL_acts_516 (by decide) ?_
    refine z_istore ok dL_acts_517 (by decide) rfl ?_
    refine z_aload_n ok dL_acts_519 rfl ?_
    refine z_aload_n ok dL_acts_520 rfl ?_
    refine z_aload_n ok dL_acts_521 rfl ?_
    refine z_aload ok dL_acts_522 rfl ?_
    refine z_iload ok dL_acts_524 rfl ?_
    refine z_iload ok dL_acts_526 rfl ?_
    refine z_iload ok dL_acts_528 rfl ?_
    refine z_callSi ok dL_acts_530 zm_L_fill zw_507 zw_508 (ct_L_fill hmω hwω hu) rfl rfl (by decide) (by decide) (by decide) (Nat.le_of_ble_eq_true rfl) (fun xz1ω Mz2ω qz3ω => ?_)
    obtain ⟨rfl, hm4ω, hf9ω⟩ := qz3ω
    obtain ⟨m0ω, hm0ω, hmeω⟩ := fill_m (p := nI (1 + Y / 4 % 4)) (r := nI (Y / 16 % 3)) hwω hu
    refine zV_eqi hmeω ?_
    refine z_istore ok dL_acts_533 (by decide) rfl ?_
    have loop535ω : ∀ (t5ω i5ω : Nat) (qω : Nat), pcN m0ω 16 < i5ω + t5ω → i5ω ≤ pcN m0ω 16 → qω < 65536 → pcN qω 16 + i5ω = pcN m0ω 16 → zV 16 B (zE B (zI (fun x M' => x = 1 ∧ ∃ (s' : Nat → Int32) (n'ω nv'ω no'ω τ' : Nat), lS M' c s' n'ω nv'ω no'ω ∧ s' 5 = nI τ' ∧ τ' ≤ τ + 30 ∧ zFr M M' c 257)) 0 0) 535 [some (.ref c), some (.ref (c + 251)), some (.ref (c + 251 + 1)), some (.ref (c + 251 + 2)), some (.ref (c + 251 + 3)), some (.ref (c + 251 + 4)), some (.ref (c + 251 + 5)), some (.int z), some (.int (nI Y)), some (.int (nI w)), some (.int (nI u)), some (.int (nI (1 + Y / 4 % 4))), some (.int (nI (Y / 16 % 3))), some (.int (nI i5ω)), some (.int (nI qω)), none] [] Mz2ω 0 0 := by
      intro t5ω
      induction t5ω with
      | zero => intro i5ω qω h15ω h25ω; exact absurd h15ω (by omega)
      | succ t5ω ih5ω =>
        intro i5ω qω h15ω h25ω hqω hqiω
        refine z_iload ok dL_acts_535 rfl ?_
        refine z_if_le (tgt := 555) ok dL_acts_537 (by decide) (fun cz537ω => ?_) (fun cz537ω => ?_)
        · have hq0ω : qω = 0 := (nI_le0 (by omega)).mp cz537ω
          rw [hq0ω, show pcN 0 16 = 0 from by decide, Nat.zero_add] at hqiω
          rw [hqiω]
          refine z_aload_n ok dL_acts_555 rfl ?_
          refine z_iload ok dL_acts_556 rfl ?_
          refine z_iload ok dL_acts_558 rfl ?_
          refine z_iload ok dL_acts_560 rfl ?_
          have ho562ω := hoω.fr (show zFr M _ (c + 251) 6 from hf9ω)
          obtain ⟨fs562ω, hs562ω⟩ := ho562ω.self
          refine z_callVi ok dL_acts_562 zm_X6_fill zw_485 zi_X6_fill hs562ω rfl (ho562ω.to_fill hNω) rfl rfl (by decide) (by decide) (by decide) (Nat.le_of_ble_eq_true rfl) (fun xz5ω Mz6ω qz7ω => ?_)
          obtain ⟨hfqω, hxeω, hoqω⟩ := (qz7ω).inr (spF_ok hNω hu (p := 1 + Y / 4 % 4) (r := Y / 16 % 3) (by omega) (by omega) cz492ω)
          have hfzω := ((show zFr M _ (c + 251) 6 from hf9ω).w (c := c) (by omega) (by omega)).tr (hfqω.w (c := c) (by omega) (by omega))
          have hm8ω := ((hm4ω).eqs (rfl)).fr hfqω
          have hxe2ω := hxeω.trans ((congrArg (fun x9ω => zBits x9ω 16) hmeω).trans (zBits_nI hm0ω 16 (by omega)))
          have hwf9ω := (zFill_WF (p := nI (1 + Y / 4 % 4)) (r := nI (Y / 16 % 3)) hu n s 0 0 hwω (fun iω _ => b_0 iω)).1
          refine z_iload ok dL_acts_565 rfl ?_
          refine z_icmp_ne (tgt := 574) ok dL_acts_567 (by decide) (fun q9ω => absurd hxe2ω q9ω) (fun _ => ?_)
          refine z_iconst (v := 1) ok dL_acts_570 (by decide) ?_
          refine z_goto (tgt := 575) ok dL_acts_571 (by decide) ?_
          exact z_iret ok dL_acts_575 rfl rfl rfl (Nat.zero_le _) ⟨rfl, _, n, nv, no, τ, ⟨hoqω, hm8ω, hwf9ω, hxω.fill hwω hu _ _ _⟩, (zFill_5 n s 0 0).trans hτ, by omega, hfzω⟩
        · have hq0ω : 0 < qω := Nat.pos_of_ne_zero (fun z9ω => cz537ω ((nI_le0 (by omega)).mpr z9ω))
          refine z_iinc ok dL_acts_540 rfl (zinc2 _) (by decide) rfl ?_
          refine z_iload ok dL_acts_543 rfl ?_
          refine z_iload ok dL_acts_545 rfl ?_
          refine z_iconst (v := 1) ok dL_acts_547 (by decide) ?_
          refine z_isub ok dL_acts_548 ?_
          refine zV_eqi (nI_sub1 hq0ω) ?_
          refine z_iand ok dL_acts_549 ?_
          refine zV_eqi (nI_and _ _) ?_
          refine z_istore ok dL_acts_550 (by decide) rfl ?_
          refine z_goto (tgt := 535) ok dL_acts_552 (by decide) ?_
          exact ih5ω (i5ω + 1) (qω &&& (qω - 1)) (by have := pq_eq hqω hq0ω; omega) (by have := pq_eq hqω hq0ω; omega) (Nat.lt_of_le_of_lt Nat.and_le_left hqω) (by have := pq_eq hqω hq0ω; omega)
    exact loop535ω (pcN m0ω 16 + 1) 0 m0ω (by omega) (by omega) hm0ω (by omega)
  · refine z_aload_n ok dL_acts_495 rfl ?_
    refine z_iload ok dL_acts_496 rfl ?_
    refine z_iload ok dL_acts_498 rfl ?_
    refine z_iload ok dL_acts_500 rfl ?_
    have ho502ω := hoω.fr (show zFr M _ (c + 251) 6 from zFr.rf)
    obtain ⟨fs502ω, hs502ω⟩ := ho502ω.self
    refine z_callVi ok dL_acts_502 zm_X6_fill zw_485 zi_X6_fill hs502ω rfl (ho502ω.to_fill hNω) rfl rfl (by decide) (by decide) (by decide) (Nat.le_of_ble_eq_true rfl) (fun xz9ω Mz10ω qz11ω => ?_)
    obtain ⟨hfqω, hxeω, hoqω⟩ := (qz11ω).inl (spF_np hNω hu (p := (1 + ((Y / 4) % 4))) (r := ((Y / 16) % 3)) (by omega) (by omega) cz492ω)
    have hfzω := ((show zFr M _ (c + 251) 6 from zFr.rf).w (c := c) (by omega) (by omega)).tr (hfqω.w (c := c) (by omega) (by omega))
    have hm12ω := ((hmω).eqs (rfl)).fr hfqω
    refine z_ldc ok dL_acts_505 zw_410 ?_
    refine z_icmp_ne (tgt := 514) ok dL_acts_507 (by decide) (fun q9ω => absurd hxeω q9ω) (fun _ => ?_)
    refine z_iconst (v := 1) ok dL_acts_510 (by decide) ?_
    refine z_goto (tgt := 515) ok dL_acts_511 (by decide) ?_
    exact z_iret ok dL_acts_515 rfl rfl rfl (Nat.zero_le _) ⟨rfl, s, n, nv, no, τ, ⟨hoqω, hm12ω, hwω, hxω⟩, hτ, by omega, hfzω⟩
