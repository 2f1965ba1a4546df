set_option maxRecDepth 20000 in
set_option maxHeartbeats 4000000 in
theorem la_583 {K : zK} {M : mM} {B : zB} {c : Nat} {s : Nat → Int32} {n nv no : Nat} (hS : lS M c s n nv no) {τ : Nat} (hτ : s 5 = nI τ) (hτ2 : τ ≤ 5000) {z : Int32} (ok : zOk K yL_acts cL_acts 16 zr_L_acts 7 0 0 B) {Y w : Nat} (hY : Y < 10000000) {u : Nat} (hu : u < nv) : zV 16 B (zE B (zI (fun x M' => x = 1 ∧ ∃ (s' : Nat → Int32) (n' nv' no' τ' : Nat), lS M' c s' n' nv' no' ∧ s' 5 = nI τ' ∧ τ' ≤ τ + 30 ∧ zFr M M' c 257)) 0 0) 583 [some (.ref c), some (.ref (c + 251)), some (.ref (c + 251 + 1)), some (.ref (c + 251 + 2)), some (.ref (c + 251 + 3)), some (.ref (c + 251 + 4)), some (.ref (c + 251 + 5)), some (.int z), some (.int (nI Y)), some (.int (nI w)), some (.int (nI u)), none, none, none, none, none] [] M 0 0 := by
  have hmω := hS.2.1
  have hoω := hS.1
  have hwω := hS.2.2.1
  have hxω := hS.2.2.2
  have hNω := hwω.N
  have hn16ω := hNω.2.1
  have hnv4ω := hNω.2.2.2.1
  have hno10ω := hNω.2.2.2.2.2
  have hu4ω : u < 4 := by omega
  refine z_bipush (v := 8) ok dL_acts_583 (by decide) ?_
  refine z_iload ok dL_acts_585 rfl ?_
  refine z_imul ok dL_acts_587 ?_
  refine z_istore ok dL_acts_588 (by decide) rfl ?_
  refine z_aload ok dL_acts_590 rfl ?_
  refine z_iload ok dL_acts_592 rfl ?_
  refine z_iconst (v := 2) ok dL_acts_594 (by decide) ?_
  refine z_iadd ok dL_acts_595 ?_
  refine l_ldV (u := u) (t := 2) ok dL_acts_596 hmω (lx8_2 u) hu (by decide) ?_
  refine z_if_gt (tgt := 612) ok dL_acts_597 (by decide) (fun cz597ω => ?_) (fun cz597ω => ?_)
  · have hnoω : 0 < vd s u 2 ∨ zLs s n (nI u) = 0 := Or.inl cz597ω
    refine z_aload_n ok dL_acts_612 rfl ?_
    refine z_iload ok dL_acts_613 rfl ?_
    have ho615ω := hoω.fr (show zFr M _ (c + 251) 6 from zFr.rf)
    obtain ⟨fs615ω, hs615ω⟩ := ho615ω.self
    refine z_callVi ok dL_acts_615 zm_X6_depart zw_510 zi_X6_depart hs615ω rfl (ho615ω.to_depart hNω) rfl rfl (by decide) (by decide) (by decide) (Nat.le_of_ble_eq_true rfl) (fun xz1ω Mz2ω qz3ω => ?_)
    obtain ⟨hfqω, hxeω, hoqω⟩ := (qz3ω).inl (spD_no hNω hu hnoω)
    have hfzω := ((show zFr M _ (c + 251) 6 from zFr.rf).w (c := c) (by omega) (by omega)).tr (hfqω.w (c := c) (by omega) (by omega))
    have hm4ω := ((hmω).eqs (rfl)).fr hfqω
    refine z_ldc ok dL_acts_618 zw_410 ?_
    refine z_icmp_ne (tgt := 627) ok dL_acts_620 (by decide) (fun q9ω => absurd hxeω q9ω) (fun _ => ?_)
    refine z_iconst (v := 1) ok dL_acts_623 (by decide) ?_
    refine z_goto (tgt := 628) ok dL_acts_624 (by decide) ?_
    exact z_iret ok dL_acts_628 rfl rfl rfl (Nat.zero_le _) ⟨rfl, s, n, nv, no, τ, ⟨hoqω, hm4ω, hwω, hxω⟩, hτ, by omega, hfzω⟩
  · refine z_aload_n ok dL_acts_600 rfl ?_
    refine z_aload_n ok dL_acts_601 rfl ?_
    refine z_aload_n ok dL_acts_602 rfl ?_
    refine z_iload ok dL_acts_603 rfl ?_
    refine z_iconst (v := 0) ok dL_acts_605 (by decide) ?_
    refine z_callSi ok dL_acts_606 zm_L_load zw_471 zw_472 (ct_L_load0 hmω hwω (v := u) hu4ω) rfl rfl (by decide) (by decide) (by decide) (Nat.le_of_ble_eq_true rfl) (fun xz5ω Mz6ω qz7ω => ?_)
    obtain ⟨rfl, hMeω⟩ := qz7ω
    obtain rfl := hMeω.symm
    refine z_if_ne (tgt := 629) ok dL_acts_609 (by decide) (fun cz609ω => ?_) (fun cz609ω => ?_)
    · have h20ω : vd s u 2 = 0 := Int32.le_antisymm (Int32.not_lt.mp cz597ω) (hwω.v u hu).2.2.1.1
      have hyesω : ¬ (0 < vd s u 2 ∨ zLs s n (nI u) = 0) := fun z9ω => z9ω.elim cz597ω cz609ω
      refine z_aload ok dL_acts_629 rfl ?_
      refine z_iload ok dL_acts_631 rfl ?_
      refine z_iconst (v := 3) ok dL_acts_633 (by decide) ?_
      refine z_iadd ok dL_acts_634 ?_
      refine z_aload_n ok dL_acts_635 rfl ?_
      refine z_aload_n ok dL_acts_636 rfl ?_
      refine z_aload_n ok dL_acts_637 rfl ?_
      refine z_aload ok dL_acts_638 rfl ?_
      refine z_iload ok dL_acts_640 rfl ?_
      refine z_callSi ok dL_acts_642 zm_L_goal zw_468 zw_469 (ct_L_goal hmω hwω hu) rfl rfl (by decide) (by decide) (by decide) (Nat.le_of_ble_eq_true rfl) (fun xz8ω Mz9ω qz10ω => ?_)
      obtain ⟨rfl, hMeω⟩ := qz10ω
      obtain rfl := hMeω.symm
      refine zV_eqi (goal_e hwω hu cz609ω) ?_
      refine l_stV (u := u) (t := 3) ok dL_acts_645 hmω (lx8_3 u) hu (by decide) (fun Mz12ω hm11ω frz13ω => ?_)
      refine z_aload ok dL_acts_646 rfl ?_
      refine z_iload ok dL_acts_648 rfl ?_
      refine z_iconst (v := 2) ok dL_acts_650 (by decide) ?_
      refine z_iadd ok dL_acts_651 ?_
      refine z_iconst (v := 1) ok dL_acts_652 (by decide) ?_
      refine l_stV (u := u) (t := 2) ok dL_acts_653 hm11ω (lx8_2 u) hu (by decide) (fun Mz15ω hm14ω frz16ω => ?_)
      refine z_aload ok dL_acts_654 rfl ?_
      refine z_iload ok dL_acts_656 rfl ?_
      refine z_iconst (v := 5) ok dL_acts_658 (by decide) ?_
      refine z_iadd ok dL_acts_659 ?_
      refine z_aload ok dL_acts_660 rfl ?_
      refine z_iload ok dL_acts_662 rfl ?_
      refine z_iconst (v := 3) ok dL_acts_664 (by decide) ?_
      refine z_iadd ok dL_acts_665 ?_
      refine l_ldV (u := u) (t := 3) ok dL_acts_666 hm14ω (lx8_3 u) hu (by decide) ?_
      refine z_aload_n ok dL_acts_667 rfl ?_
      refine z_iconst (v := 0) ok dL_acts_668 (by decide) ?_
      refine l_ldG (t := 0) ok dL_acts_669 hm14ω rfl (by decide) ?_
      refine z_imul ok dL_acts_670 ?_
      refine l_stV (u := u) (t := 5) ok dL_acts_671 hm14ω (lx8_5 u) hu (by decide) (fun Mz18ω hm17ω frz19ω => ?_)
      refine z_aload ok dL_acts_672 rfl ?_
      refine z_iload ok dL_acts_674 rfl ?_
      refine z_iconst (v := 4) ok dL_acts_676 (by decide) ?_
      refine z_iadd ok dL_acts_677 ?_
      refine z_aload_n ok dL_acts_678 rfl ?_
      refine z_iconst (v := 5) ok dL_acts_679 (by decide) ?_
      refine l_ldG (t := 5) ok dL_acts_680 hm17ω rfl (by decide) ?_
      refine z_aload ok dL_acts_681 rfl ?_
      refine z_iload ok dL_acts_683 rfl ?_
      refine z_iconst (v := 5) ok dL_acts_685 (by decide) ?_
      refine z_iadd ok dL_acts_686 ?_
      refine l_ldV (u := u) (t := 5) ok dL_acts_687 hm17ω (lx8_5 u) hu (by decide) ?_
      refine z_iadd ok dL_acts_688 ?_
      refine l_stV (u := u) (t := 4) ok dL_acts_689 hm17ω (lx8_4 u) hu (by decide) (fun Mz21ω hm20ω frz22ω => ?_)
      have hd0ω := (hm20ω).eqs (dep_l (s := s) (n := n) (v := u) (by simp [upd, pv_lo, vd_pv, vd_pvn]) (by simp [upd, pv_lo, vd_pv, vd_pvn]))
      have hfdω : zFr M _ (c + 251) 6 := (zFr.tr frz13ω (zFr.tr frz16ω (zFr.tr frz19ω frz22ω)))
      refine z_iconst (v := 0) ok dL_acts_690 (by decide) ?_
      refine z_istore ok dL_acts_691 (by decide) rfl ?_
      have loop693ω : ∀ (t7ω i7ω : Nat) (M3ω : mM), n < i7ω + t7ω → i7ω ≤ n → lP M3ω (c + 251) (zDe s n u i7ω) n nv no → zFr M M3ω (c + 251) 6 → zV 16 B (zE B (zI (fun x M' => x = 1 ∧ ∃ (s' : Nat → Int32) (n'ω nv'ω no'ω τ' : Nat), lS M' c s' n'ω nv'ω no'ω ∧ s' 5 = nI τ' ∧ τ' ≤ τ + 30 ∧ zFr M M' c 257)) 0 0) 693 [some (.ref c), some (.ref (c + 251)), some (.ref (c + 251 + 1)), some (.ref (c + 251 + 2)), some (.ref (c + 251 + 3)), some (.ref (c + 251 + 4)), some (.ref (c + 251 + 5)), some (.int z), some (.int (nI Y)), some (.int (nI w)), some (.int (nI u)), some (.int (8 * nI u)), some (.int (nI i7ω)), none, none, none] [] M3ω 0 0 := by
        intro t7ω
        induction t7ω with
        | zero => intro i7ω M3ω h17ω h27ω; exact absurd h17ω (by omega)
        | succ t7ω ih7ω =>
          intro i7ω M3ω h17ω h27ω hm3ω hf3ω
          have hN3ω := zDe_NN (v := u) (k := i7ω) hNω (by omega)
          refine z_iload ok dL_acts_693 rfl ?_
          refine z_aload_n ok dL_acts_695 rfl ?_
          refine z_iconst (v := 3) ok dL_acts_696 (by decide) ?_
          refine l_ldG (t := 3) ok dL_acts_697 hm3ω rfl (by decide) ?_
          refine z_icmp_ge (tgt := 753) ok dL_acts_698 (by decide) (fun cz698ω => ?_) (fun cz698ω => ?_)
          · have hinω : i7ω = n := by rw [hN3ω.1, nI_leI (by omega) (by omega)] at cz698ω; omega
            rw [hinω] at hm3ω
            refine z_aload_n ok dL_acts_753 rfl ?_
            refine z_iload ok dL_acts_754 rfl ?_
            have ho756ω := hoω.fr hf3ω
            obtain ⟨fs756ω, hs756ω⟩ := ho756ω.self
            refine z_callVi ok dL_acts_756 zm_X6_depart zw_510 zi_X6_depart hs756ω rfl (ho756ω.to_depart hNω) rfl rfl (by decide) (by decide) (by decide) (Nat.le_of_ble_eq_true rfl) (fun xz23ω Mz24ω qz25ω => ?_)
            obtain ⟨hfqω, hxeω, hoqω⟩ := (qz25ω).inr (spD_ok hNω hu hyesω)
            have hfzω := (hf3ω.w (c := c) (by omega) (by omega)).tr (hfqω.w (c := c) (by omega) (by omega))
            have hm26ω := (hm3ω).fr hfqω
            refine z_aload ok dL_acts_759 rfl ?_
            refine z_iload ok dL_acts_761 rfl ?_
            refine z_iconst (v := 4) ok dL_acts_763 (by decide) ?_
            refine z_iadd ok dL_acts_764 ?_
            refine l_ldV (u := u) (t := 4) ok dL_acts_765 hm26ω (lx8_4 u) hu (by decide) ?_
            refine z_icmp_ne (tgt := 773) ok dL_acts_766 (by decide) (fun q9ω => absurd hxeω q9ω) (fun _ => ?_)
            refine z_iconst (v := 1) ok dL_acts_769 (by decide) ?_
            refine z_goto (tgt := 774) ok dL_acts_770 (by decide) ?_
            exact z_iret ok dL_acts_774 rfl rfl rfl (Nat.zero_le _) ⟨rfl, _, n, nv, no, τ, ⟨hoqω, hm26ω, hoqω.wf (zDe_NN hNω (by omega)), hxω.dep hwω hu h20ω⟩, (zDe_lo (q := 5) (by omega) (by decide)).trans hτ, by omega, hfzω⟩
          · have hin7ω : i7ω < n := by rw [hN3ω.1, nI_leI (by omega) (by omega)] at cz698ω; omega
            refine z_aload_n ok dL_acts_701 rfl ?_
            refine z_iconst (v := 4) ok dL_acts_702 (by decide) ?_
            refine z_iload ok dL_acts_703 rfl ?_
            refine z_imul ok dL_acts_705 ?_
            refine z_iconst (v := 2) ok dL_acts_706 (by decide) ?_
            refine z_iadd ok dL_acts_707 ?_
            refine l_ld6 i7ω ok dL_acts_708 hm3ω (lx4_2 i7ω) hin7ω ?_
            refine z_iconst (v := 1) ok dL_acts_709 (by decide) ?_
            refine z_icmp_ne (tgt := 747) ok dL_acts_710 (by decide) (fun cz710ω => ?_) (fun cz710ω => ?_)
            · have hninω : ¬ zInV (zDe s n u i7ω) i7ω (nI u) := fun z9ω => cz710ω ((dep_in hwω hxω hu h20ω hin7ω).mp z9ω).1
              refine z_iinc ok dL_acts_747 rfl (zinc2 _) (by decide) rfl ?_
              refine z_goto (tgt := 693) ok dL_acts_750 (by decide) ?_
              first | exact ih7ω (i7ω + 1) _ (by omega) (by omega) (by rw [zDe_f hninω]; exact hm3ω) hf3ω | exact ih7ω (i7ω + 1) _ (by omega) (by omega) (by rw [zDe_t hyinω]; exact hm3ω) (hf3ω.tr hf8ω)
            · refine z_aload_n ok dL_acts_713 rfl ?_
              refine z_iconst (v := 4) ok dL_acts_714 (by decide) ?_
              refine z_iload ok dL_acts_715 rfl ?_
              refine z_imul ok dL_acts_717 ?_
              refine z_iconst (v := 3) ok dL_acts_718 (by decide) ?_
              refine z_iadd ok dL_acts_719 ?_
              refine l_ld7 i7ω ok dL_acts_720 hm3ω (lx4_3 i7ω) hin7ω ?_
              refine z_iload ok dL_acts_721 rfl ?_
              refine z_icmp_ne (tgt := 747) ok dL_acts_723 (by decide) (fun cz723ω => ?_) (fun cz723ω => ?_)
              · have hninω : ¬ zInV (zDe s n u i7ω) i7ω (nI u) := fun z9ω => cz723ω ((dep_in hwω hxω hu h20ω hin7ω).mp z9ω).2
                refine z_iinc ok dL_acts_747 rfl (zinc2 _) (by decide) rfl ?_
                refine z_goto (tgt := 693) ok dL_acts_750 (by decide) ?_
                first | exact ih7ω (i7ω + 1) _ (by omega) (by omega) (by rw [zDe_f hninω]; exact hm3ω) hf3ω | exact ih7ω (i7ω + 1) _ (by omega) (by omega) (by rw [zDe_t hyinω]; exact hm3ω) (hf3ω.tr hf8ω)
              · have hyinω : zInV (zDe s n u i7ω) i7ω (nI u) := (dep_in hwω hxω hu h20ω hin7ω).mpr ⟨cz710ω, cz723ω⟩
                refine z_aload_n ok dL_acts_726 rfl ?_
                refine z_iconst (v := 4) ok dL_acts_727 (by decide) ?_
                refine z_iload ok dL_acts_728 rfl ?_
                refine z_imul ok dL_acts_730 ?_
                refine z_iconst (v := 2) ok dL_acts_731 (by decide) ?_
                refine z_iadd ok dL_acts_732 ?_
                refine z_iconst (v := 2) ok dL_acts_733 (by decide) ?_
                refine l_st6 i7ω ok dL_acts_734 hm3ω (lx4_2 i7ω) hin7ω (fun Mz28ω hm27ω frz29ω => ?_)
                refine z_aload ok dL_acts_735 rfl ?_
                refine z_iconst (v := 4) ok dL_acts_737 (by decide) ?_
                refine z_iload ok dL_acts_738 rfl ?_
                refine z_imul ok dL_acts_740 ?_
                refine z_iconst (v := 3) ok dL_acts_741 (by decide) ?_
                refine z_iadd ok dL_acts_742 ?_
                refine z_aload_n ok dL_acts_743 rfl ?_
                refine z_iconst (v := 5) ok dL_acts_744 (by decide) ?_
                refine l_ldG (t := 5) ok dL_acts_745 hm27ω rfl (by decide) ?_
                refine l_st11 i7ω ok dL_acts_746 hm27ω (lx4_3 i7ω) hin7ω (fun Mz31ω hm30ω frz32ω => ?_)
                have hf8ω : zFr M3ω _ (c + 251) 6 := (zFr.tr frz29ω frz32ω)
                refine z_iinc ok dL_acts_747 rfl (zinc2 _) (by decide) rfl ?_
                refine z_goto (tgt := 693) ok dL_acts_750 (by decide) ?_
                first | exact ih7ω (i7ω + 1) _ (by omega) (by omega) (by rw [zDe_f hninω]; exact hm3ω) hf3ω | exact ih7ω (i7ω + 1) _ (by omega) (by omega) (by rw [zDe_t hyinω]; exact hm30ω) (hf3ω.tr hf8ω)
      exact loop693ω (n + 1) 0 _ (by omega) (by omega) hd0ω hfdω
    · have hnoω : 0 < vd s u 2 ∨ zLs s n (nI u) = 0 := Or.inr cz609ω
      refine z_aload_n ok dL_acts_612 rfl ?_
      refine z_iload ok dL_acts_613 rfl ?_
      have ho615ω := hoω.fr (show zFr M _ (c + 251) 6 from zFr.rf)
      obtain ⟨fs615ω, hs615ω⟩ := ho615ω.self
      refine z_callVi ok dL_acts_615 zm_X6_depart zw_510 zi_X6_depart hs615ω rfl (ho615ω.to_depart hNω) rfl rfl (by decide) (by decide) (by decide) (Nat.le_of_ble_eq_true rfl) (fun xz33ω Mz34ω qz35ω => ?_)
      obtain ⟨hfqω, hxeω, hoqω⟩ := (qz35ω).inl (spD_no hNω hu hnoω)
      have hfzω := ((show zFr M _ (c + 251) 6 from zFr.rf).w (c := c) (by omega) (by omega)).tr (hfqω.w (c := c) (by omega) (by omega))
      have hm36ω := ((hmω).eqs (rfl)).fr hfqω
      refine z_ldc ok dL_acts_618 zw_410 ?_
      refine z_icmp_ne (tgt := 627) ok dL_acts_620 (by decide) (fun q9ω => absurd hxeω q9ω) (fun _ => ?_)
      refine z_iconst (v := 1) ok dL_acts_623 (by decide) ?_
      refine z_goto (tgt := 628) ok dL_acts_624 (by decide) ?_
      exact z_iret ok dL_acts_628 rfl rfl rfl (Nat.zero_le _) ⟨rfl, s, n, nv, no, τ, ⟨hoqω, hm36ω, hwω, hxω⟩, hτ, by omega, hfzω⟩
