theorem lP.eqs {M : mM} {m : Nat} {s s' : Nat → Int32} {n nv no : Nat} (h : lP M m s n nv no) (e : s = s') : lP M m s' n nv no := by
  rw [← e]
  exact h
theorem zv012 {x : Int32} (h : 0 ≤ x ∧ x ≤ 2) : x = 0 ∨ x = 1 ∨ x = 2 := by
  have h1ω := Int32.le_iff_toInt_le.mp h.1
  have h2ω := Int32.le_iff_toInt_le.mp h.2
  rw [show (0 : Int32).toInt = 0 from rfl] at h1ω
  rw [show (2 : Int32).toInt = 2 from rfl] at h2ω
  rcases (by omega : x.toInt = 0 ∨ x.toInt = 1 ∨ x.toInt = 2) with h3ω | h3ω | h3ω
  · exact Or.inl (Int32.toInt_inj.mp h3ω)
  · exact Or.inr (Or.inl (Int32.toInt_inj.mp h3ω))
  · exact Or.inr (Or.inr (Int32.toInt_inj.mp h3ω))
theorem zV_eqi {nL : Nat} {B : zB} {Q : State → Prop} {pc : Nat} {L : List (Option Value)} {rest : List Value} {M : mM} {k n : Nat} {x y : Int32} (e : x = y) (h : zV nL B Q pc L (.int y :: rest) M k n) : zV nL B Q pc L (.int x :: rest) M k n := by
  rw [e]
  exact h
theorem del_l {s : Nat → Int32} {c : Nat} {x5 y8 z9 w : Int32} (hl : gd s c 4 < s 5) (h1 : x5 = s 5) (h2 : y8 = s 8 + 1) (h3 : z9 = s 9 + 0) (h4 : w = s 12 + (if s 5 < gd s c 3 then gd s c 3 - s 5 else 0) * s 2) : upd (upd (upd (pg (pg s c 6 4) c 8 x5) 8 y8) 9 z9) 12 w = zDel1 s c := by
  unfold zDel1
  simp only [if_pos hl]
  rw [h1, h2, h3, h4]
  simp [upd, pg_lo]
theorem del_n {s : Nat → Int32} {c : Nat} {x5 y8 z9 w : Int32} (hl : ¬ gd s c 4 < s 5) (h1 : x5 = s 5) (h2 : y8 = s 7 + 1) (h3 : z9 = s 9 + gd s c 5) (h4 : w = s 12 + (if s 5 < gd s c 3 then gd s c 3 - s 5 else 0) * s 2) : upd (upd (upd (pg (pg s c 6 3) c 8 x5) 7 y8) 9 z9) 12 w = zDel1 s c := by
  unfold zDel1
  simp only [if_neg hl]
  rw [h1, h2, h3, h4]
  simp [upd, pg_lo, gd_lo, gd_pgn]
theorem zHour_l {s s1 s2 : Nat → Int32} {n nv : Nat} {y : Int32} (hW : zHv n (zTick s) nv = (s1, y)) (h2 : s2 = zOld (cO s1) s1) : zHour s n nv = (zFee s2 n, y) := by
  unfold zHour
  rw [hW, h2]
theorem zHv_no' {n v : Nat} {S s1 : Nat → Int32} {y : Int32} (hs : zHv n S v = (s1, y)) (h : ¬ (0 < vd s1 v 2 ∧ vd s1 v 4 = s1 5)) : zHv n S (v + 1) = (s1, y) := by
  rw [zHv_no (by rw [hs]; exact h), hs]
theorem zHv_ret' {n v : Nat} {S s1 : Nat → Int32} {y : Int32} (hs : zHv n S v = (s1, y)) (h2 : vd s1 v 2 = 2) (h4 : vd s1 v 4 = s1 5) : zHv n S (v + 1) = (zRet s1 v, y) := by
  have eω := zHv_ret (n := n) (v := v) (s := S) (by rw [hs]; exact ⟨by show 0 < vd s1 v 2; rw [h2]; decide, h4⟩) (by rw [hs]; show ¬ vd s1 v 2 = 1; rw [h2]; decide)
  rw [hs] at eω
  exact eω
theorem zHv_arr' {n v : Nat} {S s1 : Nat → Int32} {y : Int32} (hs : zHv n S v = (s1, y)) (h2 : vd s1 v 2 = 1) (h4 : vd s1 v 4 = s1 5) : zHv n S (v + 1) = ((zArr1 s1 n v).1, y + (zArr1 s1 n v).2) := by
  have eω := zHv_arr (n := n) (v := v) (s := S) (by rw [hs]; exact ⟨by show 0 < vd s1 v 2; rw [h2]; decide, h4⟩) (by rw [hs]; exact h2)
  rw [hs] at eω
  exact eω
theorem zHv_wf' {n nv no no1 v : Nat} {S s1 : Nat → Int32} {y : Int32} (hs : zHv n S v = (s1, y)) (h : zWF S n nv no) (hv : v ≤ nv) (hN : zN s1 n nv no1) : zWF s1 n nv no1 := by
  have := zHv_WF2 (n := n) (no' := no1) h hv (by rw [hs]; exact hN)
  rw [hs] at this
  exact this
theorem zDel_t' {v c : Nat} {s s2 : Nat → Int32} {y : Int32} (hs : zDel v s c = (s2, y)) (h : zInV s2 c (nI v)) : zDel v s (c + 1) = (zDel1 s2 c, y + 1) := by
  rw [zDel_t (by rw [hs]; exact h), hs]
theorem zDel_f' {v c : Nat} {s s2 : Nat → Int32} {y : Int32} (hs : zDel v s c = (s2, y)) (h : ¬ zInV s2 c (nI v)) : zDel v s (c + 1) = (s2, y) := by
  rw [zDel_f (by rw [hs]; exact h), hs]
theorem zDel_wf' {n nv no v c : Nat} {s s2 : Nat → Int32} {y : Int32} (hs : zDel v s c = (s2, y)) (h : zWF s n nv no) (hv : v < nv) (h2 : ¬ vd s v 2 = 0) (hc : c ≤ n) : zWF s2 n nv no := by
  have := zDel_WF h (h.in2 hv h2) c hc
  rw [hs] at this
  exact this
theorem zDel_vd' {v c k : Nat} {s s2 : Nat → Int32} {y : Int32} (hs : zDel v s c = (s2, y)) (hc : c ≤ 16) : vd s2 v k = vd s v k := by
  have := zDel_o (v := v) (s := s) (q := 205 + 8 * v + k) c (by omega)
  rw [hs] at this
  exact this
theorem zArr1_l {v n : Nat} {s s2 : Nat → Int32} {y : Int32} (hs : zDel v s n = (s2, y)) {no : Nat} (h6 : s2 6 = nI no) (hno : no ≤ 10) : zArr1 s n v = (pv (pv (pv (zTake (vd s2 v 3) (s2 5) no s2 (vd s2 v 0) (vd s2 v 1) 0).1 v 6 (zTake (vd s2 v 3) (s2 5) no s2 (vd s2 v 0) (vd s2 v 1) 0).2) v 2 2) v 4 ((pv (pv (zTake (vd s2 v 3) (s2 5) no s2 (vd s2 v 0) (vd s2 v 1) 0).1 v 6 (zTake (vd s2 v 3) (s2 5) no s2 (vd s2 v 0) (vd s2 v 1) 0).2) v 2 2) 5 + vd (pv (pv (zTake (vd s2 v 3) (s2 5) no s2 (vd s2 v 0) (vd s2 v 1) 0).1 v 6 (zTake (vd s2 v 3) (s2 5) no s2 (vd s2 v 0) (vd s2 v 1) 0).2) v 2 2) v 5), y) := by
  have hcω : cO s2 = no := by
    unfold cO
    rw [h6, nI_clamp (by omega)]
  unfold zArr1
  rw [hs]
  simp only
  rw [hcω]
/-- how dropping what is old stands, those below j still to be looked at -/
def zOi (R : Nat → Int32) (j no1 : Nat) (s1 : Nat → Int32) : Prop := zOld (min j no1) s1 = R
theorem zOi_hi {R : Nat → Int32} {k no1 : Nat} {s1 : Nat → Int32} (h : zOi R (k + 1) no1 s1) (hk : ¬ k < no1) : zOi R k no1 s1 := by
  unfold zOi at *
  rw [show min k no1 = min (k + 1) no1 from by omega]
  exact h
theorem zOi_no {R : Nat → Int32} {k no1 : Nat} {s1 : Nat → Int32} (h : zOi R (k + 1) no1 s1) (hk : k < no1) (hn : ¬ od s1 k 4 < s1 5) : zOi R k no1 s1 := by
  unfold zOi at *
  rw [show min (k + 1) no1 = k + 1 from by omega, zOld, if_neg hn] at h
  rw [show min k no1 = k from by omega]
  exact h
theorem zOi_yes {R : Nat → Int32} {k no1 : Nat} {s1 : Nat → Int32} (h : zOi R (k + 1) no1 s1) (hk : k < no1) (h6 : s1 6 = nI no1) (h10 : no1 ≤ 10) (hn : od s1 k 4 < s1 5) : zOi R k (no1 - 1) (zDrop s1 no1 k) := by
  have hcω : cO s1 = no1 := by
    unfold cO
    rw [h6, nI_clamp (by omega)]
  unfold zOi at *
  rw [show min (k + 1) no1 = k + 1 from by omega, zOld, if_pos hn, hcω] at h
  rw [show min k (no1 - 1) = k from by omega]
  exact h
set_option maxRecDepth 20000 in
set_option maxHeartbeats 4000000 in
theorem ct_L_hour {K : zK} {M : mM} {nx : Nat} {m : Nat} {s : Nat → Int32} {n nv no : Nat} (hm : lP M m s n nv no) (hw : zWF s n nv no) (ht : s 5 < 9000) : zCt K yL_hour cL_hour 11 zr_L_hour 2 [.ref m, .ref (m + 1), .ref (m + 2), .ref (m + 3), .ref (m + 4), .ref (m + 5)] M nx 0 0 (zI (fun x M' => x = (zHour s n nv).2 ∧ ∃ no', lP M' m (zHour s n nv).1 n nv no' ∧ zWF (zHour s n nv).1 n nv no' ∧ zFr M M' m 6)) := by
  refine z_enter [some (.ref m), some (.ref (m + 1)), some (.ref (m + 2)), some (.ref (m + 3)), some (.ref (m + 4)), some (.ref (m + 5)), none, none, none, none, none] (by decide +kernel) (Nat.le_of_ble_eq_true rfl) rfl (fun Bω okω hzω => ?_)
  have hNω := hw.N
  have hn16ω := hNω.2.1
  have hnv4ω := hNω.2.2.2.1
  have hno10ω := hNω.2.2.2.2.2
  have hwtω := hw.tick ht
  refine z_iconst (v := 0) okω dL_hour_0 (by decide) ?_
  refine z_istore okω dL_hour_1 (by decide) rfl ?_
  refine z_aload_n okω dL_hour_3 rfl ?_
  refine z_iconst (v := 5) okω dL_hour_4 (by decide) ?_
  refine z_dup2 okω dL_hour_5 rfl rfl ?_
  refine l_ldG (t := 5) okω dL_hour_6 hm rfl (by decide) ?_
  refine z_iconst (v := 1) okω dL_hour_7 (by decide) ?_
  refine z_iadd okω dL_hour_8 ?_
  refine l_stG (t := 5) okω dL_hour_9 hm rfl (by decide) (fun Mz2ω hm1ω frz3ω => ?_)
  have hm0ω := hm1ω
  have hff0ω : zFr M _ m 6 := frz3ω
  refine z_iconst (v := 0) okω dL_hour_10 (by decide) ?_
  refine z_istore okω dL_hour_11 (by decide) rfl ?_
  have loop13ω : ∀ (t3ω i3ω : Nat) (s1ω : Nat → Int32) (yω : Int32) (no1ω : Nat) (M1ω : mM) (vzq1ω vzq2ω vzq3ω : Option Value), nv < i3ω + t3ω → i3ω ≤ nv → zHv n (zTick s) i3ω = (s1ω, yω) → zWF s1ω n nv no1ω → lP M1ω m s1ω n nv no1ω → zFr M M1ω m 6 → zV 11 Bω (zE Bω (zI (fun xω M'ω => xω = (zHour s n nv).2 ∧ ∃ no'ω, lP M'ω m (zHour s n nv).1 n nv no'ω ∧ zWF (zHour s n nv).1 n nv no'ω ∧ zFr M M'ω m 6)) 0 0) 13 [some (.ref m), some (.ref (m + 1)), some (.ref (m + 2)), some (.ref (m + 3)), some (.ref (m + 4)), some (.ref (m + 5)), some (.int yω), some (.int (nI i3ω)), vzq1ω, vzq2ω, vzq3ω] [] M1ω 0 0 := by
    intro t3ω
    induction t3ω with
    | zero => intro i3ω s1ω yω no1ω M1ω vzq1ω vzq2ω vzq3ω h13ω h23ω; exact absurd h13ω (by omega)
    | succ t3ω ih3ω =>
      intro i3ω s1ω yω no1ω M1ω vzq1ω vzq2ω vzq3ω h13ω h23ω hs1ω hw1ω hm1ω hf1ω
      have hN1ω := hw1ω.N
      have ho1ω := hN1ω.2.2.2.2.2
      refine z_iload okω dL_hour_13 rfl ?_
      refine z_aload_n okω dL_hour_15 rfl ?_
      refine z_iconst (v := 4) okω dL_hour_16 (by decide) ?_
      refine l_ldG (t := 4) okω dL_hour_17 hm1ω rfl (by decide) ?_
      refine z_icmp_ge (tgt := 355) okω dL_hour_18 (by decide) (fun cz18ω => ?_) (fun cz18ω => ?_)
      · have hinω : i3ω = nv := by rw [hN1ω.2.2.1, nI_leI (by omega) (by omega)] at cz18ω; omega
        rw [hinω] at hs1ω
        refine z_bipush (v := 9) okω dL_hour_355 (by decide) ?_
        refine z_istore okω dL_hour_357 (by decide) rfl ?_
        have loop359ω : ∀ (t7ω i7ω : Nat) (s2ω : Nat → Int32) (no2ω : Nat) (M2ω : mM), 10 < i7ω + t7ω → i7ω ≤ 10 → zOi (zOld (cO s1ω) s1ω) (10 - i7ω) no2ω s2ω → zWF s2ω n nv no2ω → lP M2ω m s2ω n nv no2ω → zFr M M2ω m 6 → zV 11 Bω (zE Bω (zI (fun xω M'ω => xω = (zHour s n nv).2 ∧ ∃ no'ω, lP M'ω m (zHour s n nv).1 n nv no'ω ∧ zWF (zHour s n nv).1 n nv no'ω ∧ zFr M M'ω m 6)) 0 0) 359 [some (.ref m), some (.ref (m + 1)), some (.ref (m + 2)), some (.ref (m + 3)), some (.ref (m + 4)), some (.ref (m + 5)), some (.int yω), some (.int (dI (10 - i7ω))), vzq1ω, vzq2ω, vzq3ω] [] M2ω 0 0 := by
          intro t7ω
          induction t7ω with
          | zero => intro i7ω s2ω no2ω M2ω h17ω h27ω; exact absurd h17ω (by omega)
          | succ t7ω ih7ω =>
            intro i7ω s2ω no2ω M2ω h17ω h27ω hoiω hw2ω hm2ω hf2ω
            have hN2ω := hw2ω.N
            have ho2ω := hN2ω.2.2.2.2.2
            refine z_iload okω dL_hour_359 rfl ?_
            refine z_if_lt (tgt := 402) okω dL_hour_361 (by decide) (fun cz361ω => ?_) (fun cz361ω => ?_)
            · have hz7ω := (dI_neg (by omega)).mp cz361ω
              rw [hz7ω] at hoiω
              have hRω : s2ω = zOld (cO s1ω) s1ω := by have h9ω := hoiω; unfold zOi at h9ω; rw [show min 0 no2ω = 0 from by omega] at h9ω; exact h9ω
              refine z_iconst (v := 0) okω dL_hour_402 (by decide) ?_
              refine z_istore okω dL_hour_403 (by decide) rfl ?_
              have loop405ω : ∀ (t8ω i8ω : Nat) (M3ω : mM), n < i8ω + t8ω → i8ω ≤ n → lP M3ω m (zFee s2ω i8ω) n nv no2ω → zFr M M3ω m 6 → zV 11 Bω (zE Bω (zI (fun xω M'ω => xω = (zHour s n nv).2 ∧ ∃ no'ω, lP M'ω m (zHour s n nv).1 n nv no'ω ∧ zWF (zHour s n nv).1 n nv no'ω ∧ zFr M M'ω m 6)) 0 0) 405 [some (.ref m), some (.ref (m + 1)), some (.ref (m + 2)), some (.ref (m + 3)), some (.ref (m + 4)), some (.ref (m + 5)), some (.int yω), some (.int (nI i8ω)), vzq1ω, vzq2ω, vzq3ω] [] M3ω 0 0 := by
                intro t8ω
                induction t8ω with
                | zero => intro i8ω M3ω h18ω h28ω; exact absurd h18ω (by omega)
                | succ t8ω ih8ω =>
                  intro i8ω M3ω h18ω h28ω hm3ω hf3ω
                  have hw3ω := hw2ω.fee i8ω
                  have hN3ω := hw3ω.N
                  refine z_iload okω dL_hour_405 rfl ?_
                  refine z_aload_n okω dL_hour_407 rfl ?_
                  refine z_iconst (v := 3) okω dL_hour_408 (by decide) ?_
                  refine l_ldG (t := 3) okω dL_hour_409 hm3ω rfl (by decide) ?_
                  refine z_icmp_ge (tgt := 474) okω dL_hour_410 (by decide) (fun cz410ω => ?_) (fun cz410ω => ?_)
                  · have hinω : i8ω = n := by rw [hN3ω.1, nI_leI (by omega) (by omega)] at cz410ω; omega
                    rw [hinω] at hm3ω hw3ω
                    refine z_iload okω dL_hour_474 rfl ?_
                    exact z_iret okω dL_hour_476 rfl rfl rfl (Nat.zero_le _) ⟨by rw [zHour_l hs1ω hRω], no2ω, by rw [zHour_l hs1ω hRω]; exact hm3ω, by rw [zHour_l hs1ω hRω]; exact hw3ω, hf3ω⟩
                  · have hinω : i8ω < n := by rw [hN3ω.1, nI_leI (by omega) (by omega)] at cz410ω; omega
                    have hin8ω : i8ω < n := hinω
                    refine z_aload_n okω dL_hour_413 rfl ?_
                    refine z_bipush (v := 11) okω dL_hour_414 (by decide) ?_
                    refine z_dup2 okω dL_hour_416 rfl rfl ?_
                    refine l_ldG (t := 11) okω dL_hour_417 hm3ω rfl (by decide) ?_
                    refine z_aload_n okω dL_hour_418 rfl ?_
                    refine z_iconst (v := 4) okω dL_hour_419 (by decide) ?_
                    refine z_iload okω dL_hour_420 rfl ?_
                    refine z_imul okω dL_hour_422 ?_
                    refine z_iconst (v := 2) okω dL_hour_423 (by decide) ?_
                    refine z_iadd okω dL_hour_424 ?_
                    refine l_ld6 i8ω okω dL_hour_425 hm3ω (lx4_2 i8ω) hin8ω ?_
                    refine z_iconst (v := 2) okω dL_hour_426 (by decide) ?_
                    refine z_icmp_ge (tgt := 465) okω dL_hour_427 (by decide) (fun cz427ω => ?_) (fun cz427ω => ?_)
                    · refine z_iconst (v := 0) okω dL_hour_465 (by decide) ?_
                      refine z_iadd okω dL_hour_466 ?_
                      refine l_stG (t := 11) okω dL_hour_467 hm3ω rfl (by decide) (fun Mz5ω hm4ω frz6ω => ?_)
                      refine z_iinc okω dL_hour_468 rfl (zinc2 _) (by decide) rfl ?_
                      refine z_goto (tgt := 405) okω dL_hour_471 (by decide) ?_
                      exact ih8ω (i8ω + 1) _ (by omega) (by omega) ((hm4ω).eqs (by first | exact (zFee_t ⟨⟨fun zω => by rw [zω] at cz427ω; exact cz427ω (by decide), Int32.not_le.mp cz427ω⟩, Int32.not_le.mp cz445ω⟩).symm | exact (zFee_f (fun zω => absurd zω.1.2 (Int32.not_lt.mpr cz427ω))).symm | exact (zFee_f (fun zω => absurd zω.2 (Int32.not_lt.mpr cz445ω))).symm)) (hf3ω.tr frz6ω)
                    · refine z_aload_n okω dL_hour_430 rfl ?_
                      refine z_iconst (v := 5) okω dL_hour_431 (by decide) ?_
                      refine l_ldG (t := 5) okω dL_hour_432 hm3ω rfl (by decide) ?_
                      refine z_aload_n okω dL_hour_433 rfl ?_
                      refine z_iconst (v := 4) okω dL_hour_434 (by decide) ?_
                      refine z_iload okω dL_hour_435 rfl ?_
                      refine z_imul okω dL_hour_437 ?_
                      refine z_iconst (v := 2) okω dL_hour_438 (by decide) ?_
                      refine z_iadd okω dL_hour_439 ?_
                      refine l_ld10 i8ω okω dL_hour_440 hm3ω (lx4_2 i8ω) hin8ω ?_
                      refine z_isub okω dL_hour_441 ?_
                      refine z_aload_n okω dL_hour_442 rfl ?_
                      refine z_iconst (v := 1) okω dL_hour_443 (by decide) ?_
                      refine l_ldG (t := 1) okω dL_hour_444 hm3ω rfl (by decide) ?_
                      refine z_icmp_le (tgt := 465) okω dL_hour_445 (by decide) (fun cz445ω => ?_) (fun cz445ω => ?_)
                      · refine z_iconst (v := 0) okω dL_hour_465 (by decide) ?_
                        refine z_iadd okω dL_hour_466 ?_
                        refine l_stG (t := 11) okω dL_hour_467 hm3ω rfl (by decide) (fun Mz8ω hm7ω frz9ω => ?_)
                        refine z_iinc okω dL_hour_468 rfl (zinc2 _) (by decide) rfl ?_
                        refine z_goto (tgt := 405) okω dL_hour_471 (by decide) ?_
                        exact ih8ω (i8ω + 1) _ (by omega) (by omega) ((hm7ω).eqs (by first | exact (zFee_t ⟨⟨fun zω => by rw [zω] at cz427ω; exact cz427ω (by decide), Int32.not_le.mp cz427ω⟩, Int32.not_le.mp cz445ω⟩).symm | exact (zFee_f (fun zω => absurd zω.1.2 (Int32.not_lt.mpr cz427ω))).symm | exact (zFee_f (fun zω => absurd zω.2 (Int32.not_lt.mpr cz445ω))).symm)) (hf3ω.tr frz9ω)
                      · refine z_aload_n okω dL_hour_448 rfl ?_
                        refine z_iconst (v := 4) okω dL_hour_449 (by decide) ?_
                        refine z_iload okω dL_hour_450 rfl ?_
                        refine z_imul okω dL_hour_452 ?_
                        refine z_iconst (v := 1) okω dL_hour_453 (by decide) ?_
                        refine z_iadd okω dL_hour_454 ?_
                        refine l_ld1 i8ω okω dL_hour_455 hm3ω (lx4_1 i8ω) hin8ω ?_
                        refine z_bipush (v := 9) okω dL_hour_456 (by decide) ?_
                        refine z_iadd okω dL_hour_458 ?_
                        refine z_bipush (v := 10) okω dL_hour_459 (by decide) ?_
                        refine z_idiv okω dL_hour_461 (by decide) ?_
                        refine z_goto (tgt := 466) okω dL_hour_462 (by decide) ?_
                        refine z_iadd okω dL_hour_466 ?_
                        refine l_stG (t := 11) okω dL_hour_467 hm3ω rfl (by decide) (fun Mz11ω hm10ω frz12ω => ?_)
                        refine z_iinc okω dL_hour_468 rfl (zinc2 _) (by decide) rfl ?_
                        refine z_goto (tgt := 405) okω dL_hour_471 (by decide) ?_
                        exact ih8ω (i8ω + 1) _ (by omega) (by omega) ((hm10ω).eqs (by first | exact (zFee_t ⟨⟨fun zω => by rw [zω] at cz427ω; exact cz427ω (by decide), Int32.not_le.mp cz427ω⟩, Int32.not_le.mp cz445ω⟩).symm | exact (zFee_f (fun zω => absurd zω.1.2 (Int32.not_lt.mpr cz427ω))).symm | exact (zFee_f (fun zω => absurd zω.2 (Int32.not_lt.mpr cz445ω))).symm)) (hf3ω.tr frz12ω)
              exact loop405ω (n + 1) 0 M2ω (by omega) (by omega) hm2ω hf2ω
            · obtain ⟨jω, hjω⟩ := dI_ex cz361ω
              have hj2ω : 10 - (i7ω + 1) = jω := by omega
              rw [hjω] at hoiω
              rw [hjω]
              show zV _ Bω _ 364 [_, _, _, _, _, _, _, some (.int (nI jω)), _, _, _] _ M2ω 0 0
              refine z_iload okω dL_hour_364 rfl ?_
              refine z_aload_n okω dL_hour_366 rfl ?_
              refine z_bipush (v := 6) okω dL_hour_367 (by decide) ?_
              refine l_ldG (t := 6) okω dL_hour_369 hm2ω rfl (by decide) ?_
              refine z_icmp_ge (tgt := 396) okω dL_hour_370 (by decide) (fun cz370ω => ?_) (fun cz370ω => ?_)
              · have hjnω : ¬ jω < no2ω := by rw [hN2ω.2.2.2.2.1, nI_leI (by omega) (by omega)] at cz370ω; omega
                refine z_iinc okω dL_hour_396 rfl (show nI jω + Int32.ofInt (-1) = dI (10 - (i7ω + 1)) from by rw [hj2ω]; exact dI_dec jω) (by decide) rfl ?_
                refine z_goto (tgt := 359) okω dL_hour_399 (by decide) ?_
                first | exact ih7ω (i7ω + 1) _ _ _ (by omega) (by omega) (by rw [hj2ω]; exact zOi_hi hoiω hjnω) hw2ω hm2ω hf2ω | exact ih7ω (i7ω + 1) _ _ _ (by omega) (by omega) (by rw [hj2ω]; exact zOi_no hoiω hjnω (Int32.not_lt.mpr cz385ω)) hw2ω hm2ω hf2ω | exact ih7ω (i7ω + 1) _ _ _ (by omega) (by omega) (by rw [hj2ω]; exact zOi_yes hoiω hjnω hN2ω.2.2.2.2.1 ho2ω (Int32.not_le.mp cz385ω)) (hw2ω.drop hjnω) hm2ω (hf2ω.tr hf9ω)
              · have hjnω : jω < no2ω := by rw [hN2ω.2.2.2.2.1, nI_leI (by omega) (by omega)] at cz370ω; omega
                refine z_aload okω dL_hour_373 rfl ?_
                refine z_iconst (v := 5) okω dL_hour_375 (by decide) ?_
                refine z_iload okω dL_hour_376 rfl ?_
                refine z_imul okω dL_hour_378 ?_
                refine z_iconst (v := 4) okω dL_hour_379 (by decide) ?_
                refine z_iadd okω dL_hour_380 ?_
                refine l_ldF (u := jω) (t := 4) okω dL_hour_381 hm2ω (lx5_4 jω) hjnω (by decide) ?_
                refine z_aload_n okω dL_hour_382 rfl ?_
                refine z_iconst (v := 5) okω dL_hour_383 (by decide) ?_
                refine l_ldG (t := 5) okω dL_hour_384 hm2ω rfl (by decide) ?_
                refine z_icmp_ge (tgt := 396) okω dL_hour_385 (by decide) (fun cz385ω => ?_) (fun cz385ω => ?_)
                · refine z_iinc okω dL_hour_396 rfl (show nI jω + Int32.ofInt (-1) = dI (10 - (i7ω + 1)) from by rw [hj2ω]; exact dI_dec jω) (by decide) rfl ?_
                  refine z_goto (tgt := 359) okω dL_hour_399 (by decide) ?_
                  first | exact ih7ω (i7ω + 1) _ _ _ (by omega) (by omega) (by rw [hj2ω]; exact zOi_hi hoiω hjnω) hw2ω hm2ω hf2ω | exact ih7ω (i7ω + 1) _ _ _ (by omega) (by omega) (by rw [hj2ω]; exact zOi_no hoiω hjnω (Int32.not_lt.mpr cz385ω)) hw2ω hm2ω hf2ω | exact ih7ω (i7ω + 1) _ _ _ (by omega) (by omega) (by rw [hj2ω]; exact zOi_yes hoiω hjnω hN2ω.2.2.2.2.1 ho2ω (Int32.not_le.mp cz385ω)) (hw2ω.drop hjnω) hm2ω (hf2ω.tr hf9ω)
                · refine z_aload_n okω dL_hour_388 rfl ?_
                  refine z_aload okω dL_hour_389 rfl ?_
                  refine z_iload okω dL_hour_391 rfl ?_
                  refine z_callSv okω dL_hour_393 zm_L_away zw_532 zw_533 (ct_L_away hm2ω hN2ω (k := jω) hjnω) rfl rfl (by decide) (by decide) (by decide) (Nat.le_of_ble_eq_true rfl) (fun Mz14ω qz15ω => ?_)
                  obtain ⟨hm16ω, hf9ω⟩ := qz15ω
                  refine z_iinc okω dL_hour_396 rfl (show nI jω + Int32.ofInt (-1) = dI (10 - (i7ω + 1)) from by rw [hj2ω]; exact dI_dec jω) (by decide) rfl ?_
                  refine z_goto (tgt := 359) okω dL_hour_399 (by decide) ?_
                  first | exact ih7ω (i7ω + 1) _ _ _ (by omega) (by omega) (by rw [hj2ω]; exact zOi_hi hoiω hjnω) hw2ω hm2ω hf2ω | exact ih7ω (i7ω + 1) _ _ _ (by omega) (by omega) (by rw [hj2ω]; exact zOi_no hoiω hjnω (Int32.not_lt.mpr cz385ω)) hw2ω hm2ω hf2ω | exact ih7ω (i7ω + 1) _ _ _ (by omega) (by omega) (by rw [hj2ω]; exact zOi_yes hoiω hjnω hN2ω.2.2.2.2.1 ho2ω (Int32.not_le.mp cz385ω)) (hw2ω.drop hjnω) hm16ω (hf2ω.tr hf9ω)
        exact loop359ω 11 0 s1ω no1ω M1ω (by omega) (by omega) (by unfold zOi cO; rw [hN1ω.2.2.2.2.1, nI_clamp (by omega), show min (10 - 0) no1ω = no1ω from by omega]) hw1ω hm1ω hf1ω
      · have hinω : i3ω < nv := by rw [hN1ω.2.2.1, nI_leI (by omega) (by omega)] at cz18ω; omega
        have hi3ω : i3ω < nv := hinω
        refine z_bipush (v := 8) okω dL_hour_21 (by decide) ?_
        refine z_iload okω dL_hour_23 rfl ?_
        refine z_imul okω dL_hour_25 ?_
        refine z_istore okω dL_hour_26 (by decide) rfl ?_
        have J99ω : ∀ (_ : Unit), ¬ (vd s1ω i3ω 2 = 2 ∧ vd s1ω i3ω 4 = s1ω 5) → zV 11 Bω (zE Bω (zI (fun xω M'ω => xω = (zHour s n nv).2 ∧ ∃ no'ω, lP M'ω m (zHour s n nv).1 n nv no'ω ∧ zWF (zHour s n nv).1 n nv no'ω ∧ zFr M M'ω m 6)) 0 0) 99 [some (.ref m), some (.ref (m + 1)), some (.ref (m + 2)), some (.ref (m + 3)), some (.ref (m + 4)), some (.ref (m + 5)), some (.int yω), some (.int (nI i3ω)), some (.int (8 * nI i3ω)), vzq2ω, vzq3ω] [] M1ω 0 0 := by
          intro _ hnrω
          refine z_aload okω dL_hour_99 rfl ?_
          refine z_iload okω dL_hour_101 rfl ?_
          refine z_iconst (v := 2) okω dL_hour_103 (by decide) ?_
          refine z_iadd okω dL_hour_104 ?_
          refine l_ldV (u := i3ω) (t := 2) okω dL_hour_105 hm1ω (lx8_2 i3ω) hi3ω (by decide) ?_
          refine z_iconst (v := 1) okω dL_hour_106 (by decide) ?_
          refine z_icmp_ne (tgt := 349) okω dL_hour_107 (by decide) (fun cz107ω => ?_) (fun cz107ω => ?_)
          · have hnnω : ¬ (0 < vd s1ω i3ω 2 ∧ vd s1ω i3ω 4 = s1ω 5) := fun zω => by have h9ω := (hw1ω.v i3ω hi3ω).2.2.1; exact (zv012 h9ω).elim (fun h8ω => by rw [h8ω] at zω; exact absurd zω.1 (by decide)) (fun h8ω => h8ω.elim cz107ω (fun h7ω => hnrω ⟨h7ω, zω.2⟩))
            refine z_iinc okω dL_hour_349 rfl (zinc2 _) (by decide) rfl ?_
            refine z_goto (tgt := 13) okω dL_hour_352 (by decide) ?_
            first | exact ih3ω (i3ω + 1) _ _ _ _ _ _ _ (by omega) (by omega) (zHv_no' hs1ω hnnω) hw1ω hm1ω hf1ω | exact ih3ω (i3ω + 1) (zRet s1ω i3ω) yω no1ω _ _ _ _ (by omega) (by omega) (zHv_ret' hs1ω cz36ω cz49ω) (hw1ω.ret hi3ω) hmrω hfrω | exact ih3ω (i3ω + 1) _ _ no2ω _ _ _ _ (by omega) (by omega) hs3ω hw3ω hm3ω hf3ω
          · refine z_aload okω dL_hour_110 rfl ?_
            refine z_iload okω dL_hour_112 rfl ?_
            refine z_iconst (v := 4) okω dL_hour_114 (by decide) ?_
            refine z_iadd okω dL_hour_115 ?_
            refine l_ldV (u := i3ω) (t := 4) okω dL_hour_116 hm1ω (lx8_4 i3ω) hi3ω (by decide) ?_
            refine z_aload_n okω dL_hour_117 rfl ?_
            refine z_iconst (v := 5) okω dL_hour_118 (by decide) ?_
            refine l_ldG (t := 5) okω dL_hour_119 hm1ω rfl (by decide) ?_
            refine z_icmp_ne (tgt := 349) okω dL_hour_120 (by decide) (fun cz120ω => ?_) (fun cz120ω => ?_)
            · have hnnω : ¬ (0 < vd s1ω i3ω 2 ∧ vd s1ω i3ω 4 = s1ω 5) := fun zω => cz120ω zω.2
              refine z_iinc okω dL_hour_349 rfl (zinc2 _) (by decide) rfl ?_
              refine z_goto (tgt := 13) okω dL_hour_352 (by decide) ?_
              first | exact ih3ω (i3ω + 1) _ _ _ _ _ _ _ (by omega) (by omega) (zHv_no' hs1ω hnnω) hw1ω hm1ω hf1ω | exact ih3ω (i3ω + 1) (zRet s1ω i3ω) yω no1ω _ _ _ _ (by omega) (by omega) (zHv_ret' hs1ω cz36ω cz49ω) (hw1ω.ret hi3ω) hmrω hfrω | exact ih3ω (i3ω + 1) _ _ no2ω _ _ _ _ (by omega) (by omega) hs3ω hw3ω hm3ω hf3ω
            · have hv0ω : ¬ vd s1ω i3ω 2 = 0 := by rw [cz107ω]; decide
              have hy0ω : yω + 0 = yω := Int32.add_zero yω
              refine z_iconst (v := 0) okω dL_hour_123 (by decide) ?_
              refine z_istore okω dL_hour_124 (by decide) rfl ?_
              have loop126ω : ∀ (t6ω i6ω : Nat) (s2ω : Nat → Int32) (y2ω : Int32) (M2ω : mM) (vzq4ω : Option Value), n < i6ω + t6ω → i6ω ≤ n → zDel i3ω s1ω i6ω = (s2ω, y2ω) → zWF s2ω n nv no1ω → lP M2ω m s2ω n nv no1ω → zFr M M2ω m 6 → zV 11 Bω (zE Bω (zI (fun xω M'ω => xω = (zHour s n nv).2 ∧ ∃ no'ω, lP M'ω m (zHour s n nv).1 n nv no'ω ∧ zWF (zHour s n nv).1 n nv no'ω ∧ zFr M M'ω m 6)) 0 0) 126 [some (.ref m), some (.ref (m + 1)), some (.ref (m + 2)), some (.ref (m + 3)), some (.ref (m + 4)), some (.ref (m + 5)), some (.int (yω + y2ω)), some (.int (nI i3ω)), some (.int (8 * nI i3ω)), some (.int (nI i6ω)), vzq4ω] [] M2ω 0 0 := by
                intro t6ω
                induction t6ω with
                | zero => intro i6ω s2ω y2ω M2ω vzq4ω h16ω h26ω; exact absurd h16ω (by omega)
                | succ t6ω ih6ω =>
                  intro i6ω s2ω y2ω M2ω vzq4ω h16ω h26ω hs2ω hw2ω hm2ω hf2ω
                  have hN2ω := hw2ω.N
                  have h5zω := hw2ω.tm.1
                  refine z_iload okω dL_hour_126 rfl ?_
                  refine z_aload_n okω dL_hour_128 rfl ?_
                  refine z_iconst (v := 3) okω dL_hour_129 (by decide) ?_
                  refine l_ldG (t := 3) okω dL_hour_130 hm2ω rfl (by decide) ?_
                  refine z_icmp_ge (tgt := 295) okω dL_hour_131 (by decide) (fun cz131ω => ?_) (fun cz131ω => ?_)
                  · have hinω : i6ω = n := by rw [hN2ω.1, nI_leI (by omega) (by omega)] at cz131ω; omega
                    rw [hinω] at hs2ω
                    refine z_aload okω dL_hour_295 rfl ?_
                    refine z_iload okω dL_hour_297 rfl ?_
                    refine z_bipush (v := 6) okω dL_hour_299 (by decide) ?_
                    refine z_iadd okω dL_hour_301 ?_
                    refine z_aload_n okω dL_hour_302 rfl ?_
                    refine z_aload okω dL_hour_303 rfl ?_
                    refine z_aload okω dL_hour_305 rfl ?_
                    refine z_iload okω dL_hour_307 rfl ?_
                    refine z_aload okω dL_hour_309 rfl ?_
                    refine z_iload okω dL_hour_311 rfl ?_
                    refine z_iconst (v := 3) okω dL_hour_313 (by decide) ?_
                    refine z_iadd okω dL_hour_314 ?_
                    refine l_ldV (u := i3ω) (t := 3) okω dL_hour_315 hm2ω (lx8_3 i3ω) hi3ω (by decide) ?_
                    refine z_aload_n okω dL_hour_316 rfl ?_
                    refine z_iconst (v := 5) okω dL_hour_317 (by decide) ?_
                    refine l_ldG (t := 5) okω dL_hour_318 hm2ω rfl (by decide) ?_
                    refine z_callSi okω dL_hour_319 zm_L_offers zw_529 zw_530 (ct_L_offers hm2ω hN2ω (v := i3ω) hi3ω) rfl rfl (by decide) (by decide) (by decide) (Nat.le_of_ble_eq_true rfl) (fun xz17ω Mz18ω qz19ω => ?_)
                    obtain ⟨rfl, no2ω, hle2ω, hm20ω, hN3ω, hf9ω⟩ := qz19ω
                    refine l_stV (u := i3ω) (t := 6) okω dL_hour_322 hm20ω (lx8_6 i3ω) hi3ω (by decide) (fun Mz22ω hm21ω frz23ω => ?_)
                    refine z_aload okω dL_hour_323 rfl ?_
                    refine z_iload okω dL_hour_325 rfl ?_
                    refine z_iconst (v := 2) okω dL_hour_327 (by decide) ?_
                    refine z_iadd okω dL_hour_328 ?_
                    refine z_iconst (v := 2) okω dL_hour_329 (by decide) ?_
                    refine l_stV (u := i3ω) (t := 2) okω dL_hour_330 hm21ω (lx8_2 i3ω) hi3ω (by decide) (fun Mz25ω hm24ω frz26ω => ?_)
                    refine z_aload okω dL_hour_331 rfl ?_
                    refine z_iload okω dL_hour_333 rfl ?_
                    refine z_iconst (v := 4) okω dL_hour_335 (by decide) ?_
                    refine z_iadd okω dL_hour_336 ?_
                    refine z_aload_n okω dL_hour_337 rfl ?_
                    refine z_iconst (v := 5) okω dL_hour_338 (by decide) ?_
                    refine l_ldG (t := 5) okω dL_hour_339 hm24ω rfl (by decide) ?_
                    refine z_aload okω dL_hour_340 rfl ?_
                    refine z_iload okω dL_hour_342 rfl ?_
                    refine z_iconst (v := 5) okω dL_hour_344 (by decide) ?_
                    refine z_iadd okω dL_hour_345 ?_
                    refine l_ldV (u := i3ω) (t := 5) okω dL_hour_346 hm24ω (lx8_5 i3ω) hi3ω (by decide) ?_
                    refine z_iadd okω dL_hour_347 ?_
                    refine l_stV (u := i3ω) (t := 4) okω dL_hour_348 hm24ω (lx8_4 i3ω) hi3ω (by decide) (fun Mz28ω hm27ω frz29ω => ?_)
                    have hs3ω := zHv_arr' hs1ω cz107ω cz120ω
                    rw [zArr1_l hs2ω hN2ω.2.2.2.2.1 (by omega)] at hs3ω
                    have hm3ω := hm27ω
                    have hf3ω := hf2ω.tr (zFr.tr hf9ω (zFr.tr frz23ω (zFr.tr frz26ω frz29ω)))
                    have hw3ω := zHv_wf' hs3ω hwtω (by omega) (zN_pv (zN_pv (zN_pv hN3ω)))
                    refine z_iinc okω dL_hour_349 rfl (zinc2 _) (by decide) rfl ?_
                    refine z_goto (tgt := 13) okω dL_hour_352 (by decide) ?_
                    first | exact ih3ω (i3ω + 1) _ _ _ _ _ _ _ (by omega) (by omega) (zHv_no' hs1ω hnnω) hw1ω hm1ω hf1ω | exact ih3ω (i3ω + 1) (zRet s1ω i3ω) yω no1ω _ _ _ _ (by omega) (by omega) (zHv_ret' hs1ω cz36ω cz49ω) (hw1ω.ret hi3ω) hmrω hfrω | exact ih3ω (i3ω + 1) _ _ no2ω _ _ _ _ (by omega) (by omega) hs3ω hw3ω hm3ω hf3ω
                  · have hinω : i6ω < n := by rw [hN2ω.1, nI_leI (by omega) (by omega)] at cz131ω; omega
                    have hin6ω : i6ω < n := hinω
                    refine z_aload_n okω dL_hour_134 rfl ?_
                    refine z_iconst (v := 4) okω dL_hour_135 (by decide) ?_
                    refine z_iload okω dL_hour_136 rfl ?_
                    refine z_imul okω dL_hour_138 ?_
                    refine z_iconst (v := 2) okω dL_hour_139 (by decide) ?_
                    refine z_iadd okω dL_hour_140 ?_
                    refine l_ld6 i6ω okω dL_hour_141 hm2ω (lx4_2 i6ω) hin6ω ?_
                    refine z_iconst (v := 2) okω dL_hour_142 (by decide) ?_
                    refine z_icmp_ne (tgt := 289) okω dL_hour_143 (by decide) (fun cz143ω => ?_) (fun cz143ω => ?_)
                    · have hninω : ¬ zInV s2ω i6ω (nI i3ω) := fun zω => cz143ω (hw2ω.in2 hi3ω (by rw [zDel_vd' hs2ω (by omega)]; exact hv0ω) i6ω hin6ω zω)
                      refine z_iinc okω dL_hour_289 rfl (zinc2 _) (by decide) rfl ?_
                      refine z_goto (tgt := 126) okω dL_hour_292 (by decide) ?_
                      first | exact ih6ω (i6ω + 1) _ _ _ _ (by omega) (by omega) (zDel_f' hs2ω hninω) hw2ω hm2ω hf2ω | exact ih6ω (i6ω + 1) _ _ _ _ (by omega) (by omega) (zDel_t' hs2ω hyinω) (hw2ω.del1 hin6ω hst2ω) hmzω hfzω
                    · refine z_aload_n okω dL_hour_146 rfl ?_
                      refine z_iconst (v := 4) okω dL_hour_147 (by decide) ?_
                      refine z_iload okω dL_hour_148 rfl ?_
                      refine z_imul okω dL_hour_150 ?_
                      refine z_iconst (v := 3) okω dL_hour_151 (by decide) ?_
                      refine z_iadd okω dL_hour_152 ?_
                      refine l_ld7 i6ω okω dL_hour_153 hm2ω (lx4_3 i6ω) hin6ω ?_
                      refine z_iload okω dL_hour_154 rfl ?_
                      refine z_icmp_ne (tgt := 289) okω dL_hour_156 (by decide) (fun cz156ω => ?_) (fun cz156ω => ?_)
                      · have hninω : ¬ zInV s2ω i6ω (nI i3ω) := fun zω => cz156ω (((zInV_l hw2ω hin6ω (by omega)).mp zω).2)
                        refine z_iinc okω dL_hour_289 rfl (zinc2 _) (by decide) rfl ?_
                        refine z_goto (tgt := 126) okω dL_hour_292 (by decide) ?_
                        first | exact ih6ω (i6ω + 1) _ _ _ _ (by omega) (by omega) (zDel_f' hs2ω hninω) hw2ω hm2ω hf2ω | exact ih6ω (i6ω + 1) _ _ _ _ (by omega) (by omega) (zDel_t' hs2ω hyinω) (hw2ω.del1 hin6ω hst2ω) hmzω hfzω
                      · have hyinω : zInV s2ω i6ω (nI i3ω) := (zInV_l hw2ω hin6ω (by omega)).mpr ⟨Or.inr cz143ω, cz156ω⟩
                        have hst2ω := cz143ω
                        refine z_aload_n okω dL_hour_159 rfl ?_
                        refine z_iconst (v := 4) okω dL_hour_160 (by decide) ?_
                        refine z_iload okω dL_hour_161 rfl ?_
                        refine z_imul okω dL_hour_163 ?_
                        refine z_iconst (v := 1) okω dL_hour_164 (by decide) ?_
                        refine z_iadd okω dL_hour_165 ?_
                        refine l_ld4 i6ω okω dL_hour_166 hm2ω (lx4_1 i6ω) hin6ω ?_
                        refine z_aload_n okω dL_hour_167 rfl ?_
                        refine z_iconst (v := 5) okω dL_hour_168 (by decide) ?_
                        refine l_ldG (t := 5) okω dL_hour_169 hm2ω rfl (by decide) ?_
                        refine z_icmp_ge (tgt := 177) okω dL_hour_170 (by decide) (fun cz170ω => ?_) (fun cz170ω => ?_)
                        · have hltω : ¬ gd s2ω i6ω 4 < s2ω 5 := Int32.not_lt.mpr cz170ω
                          refine z_iconst (v := 0) okω dL_hour_177 (by decide) ?_
                          refine z_istore okω dL_hour_178 (by decide) rfl ?_
                          refine z_aload_n okω dL_hour_180 rfl ?_
                          refine z_iconst (v := 4) okω dL_hour_181 (by decide) ?_
                          refine z_iload okω dL_hour_182 rfl ?_
                          refine z_imul okω dL_hour_184 ?_
                          refine z_iconst (v := 2) okω dL_hour_185 (by decide) ?_
                          refine z_iadd okω dL_hour_186 ?_
                          refine z_iload okω dL_hour_187 rfl ?_
                          refine z_if_eq (tgt := 196) okω dL_hour_189 (by decide) (fun _ => ?_) (fun q9ω => absurd (by decide) q9ω)
                          refine z_iconst (v := 3) okω dL_hour_196 (by decide) ?_
                          refine l_st6 i6ω okω dL_hour_197 hm2ω (lx4_2 i6ω) hin6ω (fun Mz31ω hm30ω frz32ω => ?_)
                          refine z_aload_n okω dL_hour_198 rfl ?_
                          refine z_iconst (v := 4) okω dL_hour_199 (by decide) ?_
                          refine z_iload okω dL_hour_200 rfl ?_
                          refine z_imul okω dL_hour_202 ?_
                          refine z_aload_n okω dL_hour_203 rfl ?_
                          refine z_iconst (v := 5) okω dL_hour_204 (by decide) ?_
                          refine l_ldG (t := 5) okω dL_hour_205 hm30ω rfl (by decide) ?_
                          refine l_st8 i6ω (s2ω 5) okω dL_hour_206 hm30ω (lx4_0 i6ω) hin6ω ((pg_lo (by omega)).trans (zEn_p h5zω).symm) (fun Mz34ω hm33ω frz35ω => ?_)
                          refine z_aload_n okω dL_hour_207 rfl ?_
                          refine z_iload okω dL_hour_208 rfl ?_
                          refine z_if_eq (tgt := 218) okω dL_hour_210 (by decide) (fun _ => ?_) (fun q9ω => absurd (by decide) q9ω)
                          refine z_bipush (v := 7) okω dL_hour_218 (by decide) ?_
                          refine z_dup2 okω dL_hour_220 rfl rfl ?_
                          refine l_ldG (t := 7) okω dL_hour_221 hm33ω rfl (by decide) ?_
                          refine z_iconst (v := 1) okω dL_hour_222 (by decide) ?_
                          refine z_iadd okω dL_hour_223 ?_
                          refine l_stG (t := 7) okω dL_hour_224 hm33ω rfl (by decide) (fun Mz37ω hm36ω frz38ω => ?_)
                          refine z_aload_n okω dL_hour_225 rfl ?_
                          refine z_bipush (v := 9) okω dL_hour_226 (by decide) ?_
                          refine z_dup2 okω dL_hour_228 rfl rfl ?_
                          refine l_ldG (t := 9) okω dL_hour_229 hm36ω rfl (by decide) ?_
                          refine z_iload okω dL_hour_230 rfl ?_
                          refine z_if_eq (tgt := 239) okω dL_hour_232 (by decide) (fun _ => ?_) (fun q9ω => absurd (by decide) q9ω)
                          refine z_aload_n okω dL_hour_239 rfl ?_
                          refine z_iconst (v := 4) okω dL_hour_240 (by decide) ?_
                          refine z_iload okω dL_hour_241 rfl ?_
                          refine z_imul okω dL_hour_243 ?_
                          refine z_iconst (v := 3) okω dL_hour_244 (by decide) ?_
                          refine z_iadd okω dL_hour_245 ?_
                          refine l_ld5 i6ω okω dL_hour_246 hm36ω (lx4_3 i6ω) hin6ω ?_
                          refine z_iadd okω dL_hour_247 ?_
                          refine l_stG (t := 9) okω dL_hour_248 hm36ω rfl (by decide) (fun Mz40ω hm39ω frz41ω => ?_)
                          refine z_aload_n okω dL_hour_249 rfl ?_
                          refine z_bipush (v := 12) okω dL_hour_250 (by decide) ?_
                          refine z_dup2 okω dL_hour_252 rfl rfl ?_
                          refine l_ldG (t := 12) okω dL_hour_253 hm39ω rfl (by decide) ?_
                          refine z_aload_n okω dL_hour_254 rfl ?_
                          refine z_iconst (v := 4) okω dL_hour_255 (by decide) ?_
                          refine z_iload okω dL_hour_256 rfl ?_
                          refine z_imul okω dL_hour_258 ?_
                          refine l_ld3 i6ω okω dL_hour_259 hm39ω (lx4_0 i6ω) hin6ω ?_
                          refine z_aload_n okω dL_hour_260 rfl ?_
                          refine z_iconst (v := 5) okω dL_hour_261 (by decide) ?_
                          refine l_ldG (t := 5) okω dL_hour_262 hm39ω rfl (by decide) ?_
                          refine z_icmp_le (tgt := 283) okω dL_hour_263 (by decide) (fun cz263ω => ?_) (fun cz263ω => ?_)
                          · have hgeω : ¬ s2ω 5 < gd s2ω i6ω 3 := by have h9ω := cz263ω; simp [upd, pg_lo, gd_lo, gd_pgn] at h9ω; exact Int32.not_lt.mpr h9ω
                            refine z_iconst (v := 0) okω dL_hour_283 (by decide) ?_
                            refine z_iadd okω dL_hour_284 ?_
                            refine zV_eqi (y := s2ω 12 + (if s2ω 5 < gd s2ω i6ω 3 then gd s2ω i6ω 3 - s2ω 5 else 0) * s2ω 2) (by first | (rw [if_pos hgeω, Int32.mul_comm]; simp [upd, pg_lo, gd_lo, gd_pgn]) | (rw [if_neg hgeω]; simp [upd, pg_lo, gd_lo, gd_pgn])) ?_
                            refine l_stG (t := 12) okω dL_hour_285 hm39ω rfl (by decide) (fun Mz43ω hm42ω frz44ω => ?_)
                            have hfzω : zFr M _ m 6 := hf2ω.tr (zFr.tr frz32ω (zFr.tr frz35ω (zFr.tr frz38ω (zFr.tr frz41ω frz44ω))))
                            have hmzω := (hm42ω).eqs (show _ = zDel1 s2ω i6ω from (by first | exact del_l hltω (by simp [upd, pg_lo, gd_lo, gd_pgn]) (by simp [upd, pg_lo, gd_lo, gd_pgn]) (by simp [upd, pg_lo, gd_lo, gd_pgn]) rfl | exact del_n hltω (by simp [upd, pg_lo, gd_lo, gd_pgn]) (by simp [upd, pg_lo, gd_lo, gd_pgn]) (by simp [upd, pg_lo, gd_lo, gd_pgn]) rfl))
                            refine z_iinc okω dL_hour_286 rfl (show yω + y2ω + Int32.ofInt 1 = yω + (y2ω + 1) from Int32.add_assoc _ _ _) (by decide) rfl ?_
                            refine z_iinc okω dL_hour_289 rfl (zinc2 _) (by decide) rfl ?_
                            refine z_goto (tgt := 126) okω dL_hour_292 (by decide) ?_
                            first | exact ih6ω (i6ω + 1) _ _ _ _ (by omega) (by omega) (zDel_f' hs2ω hninω) hw2ω hm2ω hf2ω | exact ih6ω (i6ω + 1) _ _ _ _ (by omega) (by omega) (zDel_t' hs2ω hyinω) (hw2ω.del1 hin6ω hst2ω) hmzω hfzω
                          · have hgeω : s2ω 5 < gd s2ω i6ω 3 := by have h9ω := cz263ω; simp [upd, pg_lo, gd_lo, gd_pgn] at h9ω; exact h9ω
                            refine z_aload_n okω dL_hour_266 rfl ?_
                            refine z_iconst (v := 2) okω dL_hour_267 (by decide) ?_
                            refine l_ldG (t := 2) okω dL_hour_268 hm39ω rfl (by decide) ?_
                            refine z_aload_n okω dL_hour_269 rfl ?_
                            refine z_iconst (v := 4) okω dL_hour_270 (by decide) ?_
                            refine z_iload okω dL_hour_271 rfl ?_
                            refine z_imul okω dL_hour_273 ?_
                            refine l_ld3 i6ω okω dL_hour_274 hm39ω (lx4_0 i6ω) hin6ω ?_
                            refine z_aload_n okω dL_hour_275 rfl ?_
                            refine z_iconst (v := 5) okω dL_hour_276 (by decide) ?_
                            refine l_ldG (t := 5) okω dL_hour_277 hm39ω rfl (by decide) ?_
                            refine z_isub okω dL_hour_278 ?_
                            refine z_imul okω dL_hour_279 ?_
                            refine z_goto (tgt := 284) okω dL_hour_280 (by decide) ?_
                            refine z_iadd okω dL_hour_284 ?_
                            refine zV_eqi (y := s2ω 12 + (if s2ω 5 < gd s2ω i6ω 3 then gd s2ω i6ω 3 - s2ω 5 else 0) * s2ω 2) (by first | (rw [if_pos hgeω, Int32.mul_comm]; simp [upd, pg_lo, gd_lo, gd_pgn]) | (rw [if_neg hgeω]; simp [upd, pg_lo, gd_lo, gd_pgn])) ?_
                            refine l_stG (t := 12) okω dL_hour_285 hm39ω rfl (by decide) (fun Mz46ω hm45ω frz47ω => ?_)
                            have hfzω : zFr M _ m 6 := hf2ω.tr (zFr.tr frz32ω (zFr.tr frz35ω (zFr.tr frz38ω (zFr.tr frz41ω frz47ω))))
                            have hmzω := (hm45ω).eqs (show _ = zDel1 s2ω i6ω from (by first | exact del_l hltω (by simp [upd, pg_lo, gd_lo, gd_pgn]) (by simp [upd, pg_lo, gd_lo, gd_pgn]) (by simp [upd, pg_lo, gd_lo, gd_pgn]) rfl | exact del_n hltω (by simp [upd, pg_lo, gd_lo, gd_pgn]) (by simp [upd, pg_lo, gd_lo, gd_pgn]) (by simp [upd, pg_lo, gd_lo, gd_pgn]) rfl))
                            refine z_iinc okω dL_hour_286 rfl (show yω + y2ω + Int32.ofInt 1 = yω + (y2ω + 1) from Int32.add_assoc _ _ _) (by decide) rfl ?_
                            refine z_iinc okω dL_hour_289 rfl (zinc2 _) (by decide) rfl ?_
                            refine z_goto (tgt := 126) okω dL_hour_292 (by decide) ?_
                            first | exact ih6ω (i6ω + 1) _ _ _ _ (by omega) (by omega) (zDel_f' hs2ω hninω) hw2ω hm2ω hf2ω | exact ih6ω (i6ω + 1) _ _ _ _ (by omega) (by omega) (zDel_t' hs2ω hyinω) (hw2ω.del1 hin6ω hst2ω) hmzω hfzω
                        · have hltω : gd s2ω i6ω 4 < s2ω 5 := Int32.not_le.mp cz170ω
                          refine z_iconst (v := 1) okω dL_hour_173 (by decide) ?_
                          refine z_goto (tgt := 178) okω dL_hour_174 (by decide) ?_
                          refine z_istore okω dL_hour_178 (by decide) rfl ?_
                          refine z_aload_n okω dL_hour_180 rfl ?_
                          refine z_iconst (v := 4) okω dL_hour_181 (by decide) ?_
                          refine z_iload okω dL_hour_182 rfl ?_
                          refine z_imul okω dL_hour_184 ?_
                          refine z_iconst (v := 2) okω dL_hour_185 (by decide) ?_
                          refine z_iadd okω dL_hour_186 ?_
                          refine z_iload okω dL_hour_187 rfl ?_
                          refine z_if_eq (tgt := 196) okω dL_hour_189 (by decide) (fun q9ω => absurd q9ω (by decide)) (fun _ => ?_)
                          refine z_iconst (v := 4) okω dL_hour_192 (by decide) ?_
                          refine z_goto (tgt := 197) okω dL_hour_193 (by decide) ?_
                          refine l_st6 i6ω okω dL_hour_197 hm2ω (lx4_2 i6ω) hin6ω (fun Mz49ω hm48ω frz50ω => ?_)
                          refine z_aload_n okω dL_hour_198 rfl ?_
                          refine z_iconst (v := 4) okω dL_hour_199 (by decide) ?_
                          refine z_iload okω dL_hour_200 rfl ?_
                          refine z_imul okω dL_hour_202 ?_
                          refine z_aload_n okω dL_hour_203 rfl ?_
                          refine z_iconst (v := 5) okω dL_hour_204 (by decide) ?_
                          refine l_ldG (t := 5) okω dL_hour_205 hm48ω rfl (by decide) ?_
                          refine l_st8 i6ω (s2ω 5) okω dL_hour_206 hm48ω (lx4_0 i6ω) hin6ω ((pg_lo (by omega)).trans (zEn_p h5zω).symm) (fun Mz52ω hm51ω frz53ω => ?_)
                          refine z_aload_n okω dL_hour_207 rfl ?_
                          refine z_iload okω dL_hour_208 rfl ?_
                          refine z_if_eq (tgt := 218) okω dL_hour_210 (by decide) (fun q9ω => absurd q9ω (by decide)) (fun _ => ?_)
                          refine z_bipush (v := 8) okω dL_hour_213 (by decide) ?_
                          refine z_goto (tgt := 220) okω dL_hour_215 (by decide) ?_
                          refine z_dup2 okω dL_hour_220 rfl rfl ?_
                          refine l_ldG (t := 8) okω dL_hour_221 hm51ω rfl (by decide) ?_
                          refine z_iconst (v := 1) okω dL_hour_222 (by decide) ?_
                          refine z_iadd okω dL_hour_223 ?_
                          refine l_stG (t := 8) okω dL_hour_224 hm51ω rfl (by decide) (fun Mz55ω hm54ω frz56ω => ?_)
                          refine z_aload_n okω dL_hour_225 rfl ?_
                          refine z_bipush (v := 9) okω dL_hour_226 (by decide) ?_
                          refine z_dup2 okω dL_hour_228 rfl rfl ?_
                          refine l_ldG (t := 9) okω dL_hour_229 hm54ω rfl (by decide) ?_
                          refine z_iload okω dL_hour_230 rfl ?_
                          refine z_if_eq (tgt := 239) okω dL_hour_232 (by decide) (fun q9ω => absurd q9ω (by decide)) (fun _ => ?_)
                          refine z_iconst (v := 0) okω dL_hour_235 (by decide) ?_
                          refine z_goto (tgt := 247) okω dL_hour_236 (by decide) ?_
                          refine z_iadd okω dL_hour_247 ?_
                          refine l_stG (t := 9) okω dL_hour_248 hm54ω rfl (by decide) (fun Mz58ω hm57ω frz59ω => ?_)
                          refine z_aload_n okω dL_hour_249 rfl ?_
                          refine z_bipush (v := 12) okω dL_hour_250 (by decide) ?_
                          refine z_dup2 okω dL_hour_252 rfl rfl ?_
                          refine l_ldG (t := 12) okω dL_hour_253 hm57ω rfl (by decide) ?_
                          refine z_aload_n okω dL_hour_254 rfl ?_
                          refine z_iconst (v := 4) okω dL_hour_255 (by decide) ?_
                          refine z_iload okω dL_hour_256 rfl ?_
                          refine z_imul okω dL_hour_258 ?_
                          refine l_ld3 i6ω okω dL_hour_259 hm57ω (lx4_0 i6ω) hin6ω ?_
                          refine z_aload_n okω dL_hour_260 rfl ?_
                          refine z_iconst (v := 5) okω dL_hour_261 (by decide) ?_
                          refine l_ldG (t := 5) okω dL_hour_262 hm57ω rfl (by decide) ?_
                          refine z_icmp_le (tgt := 283) okω dL_hour_263 (by decide) (fun cz263ω => ?_) (fun cz263ω => ?_)
                          · have hgeω : ¬ s2ω 5 < gd s2ω i6ω 3 := by have h9ω := cz263ω; simp [upd, pg_lo, gd_lo, gd_pgn] at h9ω; exact Int32.not_lt.mpr h9ω
                            refine z_iconst (v := 0) okω dL_hour_283 (by decide) ?_
                            refine z_iadd okω dL_hour_284 ?_
                            refine zV_eqi (y := s2ω 12 + (if s2ω 5 < gd s2ω i6ω 3 then gd s2ω i6ω 3 - s2ω 5 else 0) * s2ω 2) (by first | (rw [if_pos hgeω, Int32.mul_comm]; simp [upd, pg_lo, gd_lo, gd_pgn]) | (rw [if_neg hgeω]; simp [upd, pg_lo, gd_lo, gd_pgn])) ?_
                            refine l_stG (t := 12) okω dL_hour_285 hm57ω rfl (by decide) (fun Mz61ω hm60ω frz62ω => ?_)
                            have hfzω : zFr M _ m 6 := hf2ω.tr (zFr.tr frz50ω (zFr.tr frz53ω (zFr.tr frz56ω (zFr.tr frz59ω frz62ω))))
                            have hmzω := (hm60ω).eqs (show _ = zDel1 s2ω i6ω from (by first | exact del_l hltω (by simp [upd, pg_lo, gd_lo, gd_pgn]) (by simp [upd, pg_lo, gd_lo, gd_pgn]) (by simp [upd, pg_lo, gd_lo, gd_pgn]) rfl | exact del_n hltω (by simp [upd, pg_lo, gd_lo, gd_pgn]) (by simp [upd, pg_lo, gd_lo, gd_pgn]) (by simp [upd, pg_lo, gd_lo, gd_pgn]) rfl))
                            refine z_iinc okω dL_hour_286 rfl (show yω + y2ω + Int32.ofInt 1 = yω + (y2ω + 1) from Int32.add_assoc _ _ _) (by decide) rfl ?_
                            refine z_iinc okω dL_hour_289 rfl (zinc2 _) (by decide) rfl ?_
                            refine z_goto (tgt := 126) okω dL_hour_292 (by decide) ?_
                            first | exact ih6ω (i6ω + 1) _ _ _ _ (by omega) (by omega) (zDel_f' hs2ω hninω) hw2ω hm2ω hf2ω | exact ih6ω (i6ω + 1) _ _ _ _ (by omega) (by omega) (zDel_t' hs2ω hyinω) (hw2ω.del1 hin6ω hst2ω) hmzω hfzω
                          · have hgeω : s2ω 5 < gd s2ω i6ω 3 := by have h9ω := cz263ω; simp [upd, pg_lo, gd_lo, gd_pgn] at h9ω; exact h9ω
                            refine z_aload_n okω dL_hour_266 rfl ?_
                            refine z_iconst (v := 2) okω dL_hour_267 (by decide) ?_
                            refine l_ldG (t := 2) okω dL_hour_268 hm57ω rfl (by decide) ?_
                            refine z_aload_n okω dL_hour_269 rfl ?_
                            refine z_iconst (v := 4) okω dL_hour_270 (by decide) ?_
                            refine z_iload okω dL_hour_271 rfl ?_
                            refine z_imul okω dL_hour_273 ?_
                            refine l_ld3 i6ω okω dL_hour_274 hm57ω (lx4_0 i6ω) hin6ω ?_
                            refine z_aload_n okω dL_hour_275 rfl ?_
                            refine z_iconst (v := 5) okω dL_hour_276 (by decide) ?_
                            refine l_ldG (t := 5) okω dL_hour_277 hm57ω rfl (by decide) ?_
                            refine z_isub okω dL_hour_278 ?_
                            refine z_imul okω dL_hour_279 ?_
                            refine z_goto (tgt := 284) okω dL_hour_280 (by decide) ?_
                            refine z_iadd okω dL_hour_284 ?_
                            refine zV_eqi (y := s2ω 12 + (if s2ω 5 < gd s2ω i6ω 3 then gd s2ω i6ω 3 - s2ω 5 else 0) * s2ω 2) (by first | (rw [if_pos hgeω, Int32.mul_comm]; simp [upd, pg_lo, gd_lo, gd_pgn]) | (rw [if_neg hgeω]; simp [upd, pg_lo, gd_lo, gd_pgn])) ?_
                            refine l_stG (t := 12) okω dL_hour_285 hm57ω rfl (by decide) (fun Mz64ω hm63ω frz65ω => ?_)
                            have hfzω : zFr M _ m 6 := hf2ω.tr (zFr.tr frz50ω (zFr.tr frz53ω (zFr.tr frz56ω (zFr.tr frz59ω frz65ω))))
                            have hmzω := (hm63ω).eqs (show _ = zDel1 s2ω i6ω from (by first | exact del_l hltω (by simp [upd, pg_lo, gd_lo, gd_pgn]) (by simp [upd, pg_lo, gd_lo, gd_pgn]) (by simp [upd, pg_lo, gd_lo, gd_pgn]) rfl | exact del_n hltω (by simp [upd, pg_lo, gd_lo, gd_pgn]) (by simp [upd, pg_lo, gd_lo, gd_pgn]) (by simp [upd, pg_lo, gd_lo, gd_pgn]) rfl))
                            refine z_iinc okω dL_hour_286 rfl (show yω + y2ω + Int32.ofInt 1 = yω + (y2ω + 1) from Int32.add_assoc _ _ _) (by decide) rfl ?_
                            refine z_iinc okω dL_hour_289 rfl (zinc2 _) (by decide) rfl ?_
                            refine z_goto (tgt := 126) okω dL_hour_292 (by decide) ?_
                            first | exact ih6ω (i6ω + 1) _ _ _ _ (by omega) (by omega) (zDel_f' hs2ω hninω) hw2ω hm2ω hf2ω | exact ih6ω (i6ω + 1) _ _ _ _ (by omega) (by omega) (zDel_t' hs2ω hyinω) (hw2ω.del1 hin6ω hst2ω) hmzω hfzω
              have lzω := loop126ω (n + 1) 0 s1ω 0 M1ω vzq3ω (by omega) (by omega) rfl hw1ω hm1ω hf1ω
              rw [hy0ω] at lzω
              exact lzω
        refine z_aload okω dL_hour_28 rfl ?_
        refine z_iload okω dL_hour_30 rfl ?_
        refine z_iconst (v := 2) okω dL_hour_32 (by decide) ?_
        refine z_iadd okω dL_hour_33 ?_
        refine l_ldV (u := i3ω) (t := 2) okω dL_hour_34 hm1ω (lx8_2 i3ω) hi3ω (by decide) ?_
        refine z_iconst (v := 2) okω dL_hour_35 (by decide) ?_
        refine z_icmp_ne (tgt := 99) okω dL_hour_36 (by decide) (fun cz36ω => ?_) (fun cz36ω => ?_)
        · first | exact J99ω () (fun zω => cz36ω zω.1) | exact J99ω () (fun zω => cz49ω zω.2)
        · refine z_aload okω dL_hour_39 rfl ?_
          refine z_iload okω dL_hour_41 rfl ?_
          refine z_iconst (v := 4) okω dL_hour_43 (by decide) ?_
          refine z_iadd okω dL_hour_44 ?_
          refine l_ldV (u := i3ω) (t := 4) okω dL_hour_45 hm1ω (lx8_4 i3ω) hi3ω (by decide) ?_
          refine z_aload_n okω dL_hour_46 rfl ?_
          refine z_iconst (v := 5) okω dL_hour_47 (by decide) ?_
          refine l_ldG (t := 5) okω dL_hour_48 hm1ω rfl (by decide) ?_
          refine z_icmp_ne (tgt := 99) okω dL_hour_49 (by decide) (fun cz49ω => ?_) (fun cz49ω => ?_)
          · first | exact J99ω () (fun zω => cz36ω zω.1) | exact J99ω () (fun zω => cz49ω zω.2)
          · refine z_aload okω dL_hour_52 rfl ?_
            refine z_iload okω dL_hour_54 rfl ?_
            refine z_iconst (v := 2) okω dL_hour_56 (by decide) ?_
            refine z_iadd okω dL_hour_57 ?_
            refine z_iconst (v := 0) okω dL_hour_58 (by decide) ?_
            refine l_stV (u := i3ω) (t := 2) okω dL_hour_59 hm1ω (lx8_2 i3ω) hi3ω (by decide) (fun Mz67ω hm66ω frz68ω => ?_)
            refine z_aload okω dL_hour_60 rfl ?_
            refine z_iload okω dL_hour_62 rfl ?_
            refine z_bipush (v := 7) okω dL_hour_64 (by decide) ?_
            refine z_iadd okω dL_hour_66 ?_
            refine z_dup2 okω dL_hour_67 rfl rfl ?_
            refine l_ldV (u := i3ω) (t := 7) okω dL_hour_68 hm66ω (lx8_7 i3ω) hi3ω (by decide) ?_
            refine z_iconst (v := 1) okω dL_hour_69 (by decide) ?_
            refine z_iadd okω dL_hour_70 ?_
            refine l_stV (u := i3ω) (t := 7) okω dL_hour_71 hm66ω (lx8_7 i3ω) hi3ω (by decide) (fun Mz70ω hm69ω frz71ω => ?_)
            refine z_aload_n okω dL_hour_72 rfl ?_
            refine z_bipush (v := 10) okω dL_hour_73 (by decide) ?_
            refine z_dup2 okω dL_hour_75 rfl rfl ?_
            refine l_ldG (t := 10) okω dL_hour_76 hm69ω rfl (by decide) ?_
            refine z_aload okω dL_hour_77 rfl ?_
            refine z_iload okω dL_hour_79 rfl ?_
            refine z_bipush (v := 6) okω dL_hour_81 (by decide) ?_
            refine z_iadd okω dL_hour_83 ?_
            refine l_ldV (u := i3ω) (t := 6) okω dL_hour_84 hm69ω (lx8_6 i3ω) hi3ω (by decide) ?_
            refine z_iadd okω dL_hour_85 ?_
            refine l_stG (t := 10) okω dL_hour_86 hm69ω rfl (by decide) (fun Mz73ω hm72ω frz74ω => ?_)
            refine z_aload okω dL_hour_87 rfl ?_
            refine z_iload okω dL_hour_89 rfl ?_
            refine z_bipush (v := 6) okω dL_hour_91 (by decide) ?_
            refine z_iadd okω dL_hour_93 ?_
            refine z_iconst (v := 0) okω dL_hour_94 (by decide) ?_
            refine l_stV (u := i3ω) (t := 6) okω dL_hour_95 hm72ω (lx8_6 i3ω) hi3ω (by decide) (fun Mz76ω hm75ω frz77ω => ?_)
            have hfrω : zFr M _ m 6 := hf1ω.tr (zFr.tr frz68ω (zFr.tr frz71ω (zFr.tr frz74ω frz77ω)))
            have hmrω := (hm75ω).eqs (show _ = zRet s1ω i3ω from (by funext q; unfold zRet; simp only [pg, pv, gd, vd, upd]; grind))
            refine z_goto (tgt := 349) okω dL_hour_96 (by decide) ?_
            refine z_iinc okω dL_hour_349 rfl (zinc2 _) (by decide) rfl ?_
            refine z_goto (tgt := 13) okω dL_hour_352 (by decide) ?_
            first | exact ih3ω (i3ω + 1) _ _ _ _ _ _ _ (by omega) (by omega) (zHv_no' hs1ω hnnω) hw1ω hm1ω hf1ω | exact ih3ω (i3ω + 1) (zRet s1ω i3ω) yω no1ω _ _ _ _ (by omega) (by omega) (zHv_ret' hs1ω cz36ω cz49ω) (hw1ω.ret hi3ω) hmrω hfrω | exact ih3ω (i3ω + 1) _ _ no2ω _ _ _ _ (by omega) (by omega) hs3ω hw3ω hm3ω hf3ω
  exact loop13ω (nv + 1) 0 (zTick s) 0 no _ _ _ _ (by omega) (by omega) rfl hwtω hm0ω hff0ω

