set_option maxRecDepth 20000 in
set_option maxHeartbeats 4000000 in
theorem lw_c12 {B : zB} {Q : State → Prop} {K : zK} {nm : String} {b lx c j : Nat} {xs : Nat → Int32} (ok : zOk K (⟨"FreightSplitsLaw", nm, "([I)Z"⟩ : MethodName) cL_law 4 ret 11 600000 7302250 B) (hX : lX B b lx xs) (hL : lx ≤ 3584) (hj : j + 7 ≤ lx) {M : mM} (hI : lI c M) (next : ∀ M2, lI c M2 → zV 4 B Q 851 [some (.ref b), some (.ref c), some (.ref (c + 251)), some (.int (nI j))] [] M2 260 4599) : zV 4 B Q 598 [some (.ref b), some (.ref c), some (.ref (c + 251)), some (.int (nI j))] [] M 260 4599 := by
  obtain ⟨μ, p, ty, hm, hE, hc⟩ := id hI
  obtain ⟨n, nv, no, o, fp, fr, vb, nxz, nums, hr⟩ := hc
  have hN := lS_N hr
  refine z_aload_n ok dL_law_598 rfl ?_
  refine z_aload_n ok dL_law_599 rfl ?_
  refine z_iload_n ok dL_law_600 rfl ?_
  refine z_iconst (v := 1) ok dL_law_601 (by decide) ?_
  refine z_iadd ok dL_law_602 ?_
  refine z_sld (j + 1) ok dL_law_603 hX (lw_a1 j) (by omega) hL ?_
  refine z_aload_n ok dL_law_604 rfl ?_
  refine z_iload_n ok dL_law_605 rfl ?_
  refine z_iconst (v := 2) ok dL_law_606 (by decide) ?_
  refine z_iadd ok dL_law_607 ?_
  refine z_sld (j + 2) ok dL_law_608 hX (lw_a2 j) (by omega) hL ?_
  refine z_callVi ok dL_law_609 zm_X6_vehicleOf zw_575 zi_X6_vehicleOf hr.F rfl (ct_X6_vehicleOf hr) rfl rfl (by decide) (by decide) (by decide) (Nat.le_of_ble_eq_true rfl) (fun x1 M1 q1 => ?_)
  have hm1 := lS_me hm q1.2
  refine z_aload_n ok dL_law_612 rfl ?_
  refine z_aload_n ok dL_law_613 rfl ?_
  refine z_iload_n ok dL_law_614 rfl ?_
  refine z_iconst (v := 1) ok dL_law_615 (by decide) ?_
  refine z_iadd ok dL_law_616 ?_
  refine z_sld (j + 1) ok dL_law_617 hX (lw_a1 j) (by omega) hL ?_
  refine z_aload_n ok dL_law_618 rfl ?_
  refine z_iload_n ok dL_law_619 rfl ?_
  refine z_iconst (v := 2) ok dL_law_620 (by decide) ?_
  refine z_iadd ok dL_law_621 ?_
  refine z_sld (j + 2) ok dL_law_622 hX (lw_a2 j) (by omega) hL ?_
  refine z_callVi ok dL_law_623 zm_X7_vehicleOf zw_969 zi_X7_vehicleOf hm1.1 rfl (ct_X7_vehicleOf hm1 hN) rfl rfl (by decide) (by decide) (by decide) (Nat.le_of_ble_eq_true rfl) (fun x2 M2 q2 => ?_)
  obtain ⟨heq, hI2⟩ := lS_q hI q1 q2 rfl
  refine z_icmp_eq (tgt := 851) ok dL_law_626 (by decide) (fun _ => ?_) (fun q9 => absurd heq q9)
  exact next _ hI2

set_option maxRecDepth 20000 in
set_option maxHeartbeats 4000000 in
theorem lw_c13 {B : zB} {Q : State → Prop} {K : zK} {nm : String} {b lx c j : Nat} {xs : Nat → Int32} (ok : zOk K (⟨"FreightSplitsLaw", nm, "([I)Z"⟩ : MethodName) cL_law 4 ret 11 600000 7302250 B) (hX : lX B b lx xs) (hL : lx ≤ 3584) (hj : j + 7 ≤ lx) {M : mM} (hI : lI c M) (next : ∀ M2, lI c M2 → zV 4 B Q 851 [some (.ref b), some (.ref c), some (.ref (c + 251)), some (.int (nI j))] [] M2 260 4599) : zV 4 B Q 631 [some (.ref b), some (.ref c), some (.ref (c + 251)), some (.int (nI j))] [] M 260 4599 := by
  obtain ⟨μ, p, ty, hm, hE, hc⟩ := id hI
  obtain ⟨n, nv, no, o, fp, fr, vb, nxz, nums, hr⟩ := hc
  have hN := lS_N hr
  refine z_aload_n ok dL_law_631 rfl ?_
  refine z_aload_n ok dL_law_632 rfl ?_
  refine z_iload_n ok dL_law_633 rfl ?_
  refine z_iconst (v := 1) ok dL_law_634 (by decide) ?_
  refine z_iadd ok dL_law_635 ?_
  refine z_sld (j + 1) ok dL_law_636 hX (lw_a1 j) (by omega) hL ?_
  refine z_aload_n ok dL_law_637 rfl ?_
  refine z_iload_n ok dL_law_638 rfl ?_
  refine z_iconst (v := 2) ok dL_law_639 (by decide) ?_
  refine z_iadd ok dL_law_640 ?_
  refine z_sld (j + 2) ok dL_law_641 hX (lw_a2 j) (by omega) hL ?_
  refine z_callVi ok dL_law_642 zm_X6_offerOf zw_591 zi_X6_offerOf hr.F rfl (ct_X6_offerOf hr) rfl rfl (by decide) (by decide) (by decide) (Nat.le_of_ble_eq_true rfl) (fun x1 M1 q1 => ?_)
  have hm1 := lS_me hm q1.2
  refine z_aload_n ok dL_law_645 rfl ?_
  refine z_aload_n ok dL_law_646 rfl ?_
  refine z_iload_n ok dL_law_647 rfl ?_
  refine z_iconst (v := 1) ok dL_law_648 (by decide) ?_
  refine z_iadd ok dL_law_649 ?_
  refine z_sld (j + 1) ok dL_law_650 hX (lw_a1 j) (by omega) hL ?_
  refine z_aload_n ok dL_law_651 rfl ?_
  refine z_iload_n ok dL_law_652 rfl ?_
  refine z_iconst (v := 2) ok dL_law_653 (by decide) ?_
  refine z_iadd ok dL_law_654 ?_
  refine z_sld (j + 2) ok dL_law_655 hX (lw_a2 j) (by omega) hL ?_
  refine z_callVi ok dL_law_656 zm_X7_offerOf zw_973 zi_X7_offerOf hm1.1 rfl (ct_X7_offerOf hm1 hN) rfl rfl (by decide) (by decide) (by decide) (Nat.le_of_ble_eq_true rfl) (fun x2 M2 q2 => ?_)
  obtain ⟨heq, hI2⟩ := lS_q hI q1 q2 rfl
  refine z_icmp_eq (tgt := 851) ok dL_law_659 (by decide) (fun _ => ?_) (fun q9 => absurd heq q9)
  exact next _ hI2

set_option maxRecDepth 20000 in
set_option maxHeartbeats 4000000 in
theorem lw_c14 {B : zB} {Q : State → Prop} {K : zK} {nm : String} {b lx c j : Nat} {xs : Nat → Int32} (ok : zOk K (⟨"FreightSplitsLaw", nm, "([I)Z"⟩ : MethodName) cL_law 4 ret 11 600000 7302250 B) (hX : lX B b lx xs) (hL : lx ≤ 3584) (hj : j + 7 ≤ lx) {M : mM} (hI : lI c M) (next : ∀ M2, lI c M2 → zV 4 B Q 851 [some (.ref b), some (.ref c), some (.ref (c + 251)), some (.int (nI j))] [] M2 260 4599) : zV 4 B Q 664 [some (.ref b), some (.ref c), some (.ref (c + 251)), some (.int (nI j))] [] M 260 4599 := by
  obtain ⟨μ, p, ty, hm, hE, hc⟩ := id hI
  obtain ⟨n, nv, no, o, fp, fr, vb, nxz, nums, hr⟩ := hc
  have hN := lS_N hr
  refine z_aload_n ok dL_law_664 rfl ?_
  refine z_aload_n ok dL_law_665 rfl ?_
  refine z_iload_n ok dL_law_666 rfl ?_
  refine z_iconst (v := 1) ok dL_law_667 (by decide) ?_
  refine z_iadd ok dL_law_668 ?_
  refine z_sld (j + 1) ok dL_law_669 hX (lw_a1 j) (by omega) hL ?_
  refine z_callVi ok dL_law_670 zm_X6_count zw_595 zi_X6_count hr.F rfl (ct_X6_count hr) rfl rfl (by decide) (by decide) (by decide) (Nat.le_of_ble_eq_true rfl) (fun x1 M1 q1 => ?_)
  have hm1 := lS_me hm q1.2
  refine z_aload_n ok dL_law_673 rfl ?_
  refine z_aload_n ok dL_law_674 rfl ?_
  refine z_iload_n ok dL_law_675 rfl ?_
  refine z_iconst (v := 1) ok dL_law_676 (by decide) ?_
  refine z_iadd ok dL_law_677 ?_
  refine z_sld (j + 1) ok dL_law_678 hX (lw_a1 j) (by omega) hL ?_
  refine z_callVi ok dL_law_679 zm_X7_count zw_977 zi_X7_count hm1.1 rfl (ct_X7_count hm1 hN) rfl rfl (by decide) (by decide) (by decide) (Nat.le_of_ble_eq_true rfl) (fun x2 M2 q2 => ?_)
  obtain ⟨heq, hI2⟩ := lS_q hI q1 q2 (by rw [hE.2.1, hE.2.2])
  refine z_icmp_eq (tgt := 851) ok dL_law_682 (by decide) (fun _ => ?_) (fun q9 => absurd heq q9)
  exact next _ hI2

set_option maxRecDepth 20000 in
set_option maxHeartbeats 4000000 in
theorem lw_c15 {B : zB} {Q : State → Prop} {K : zK} {nm : String} {b lx c j : Nat} {xs : Nat → Int32} (ok : zOk K (⟨"FreightSplitsLaw", nm, "([I)Z"⟩ : MethodName) cL_law 4 ret 11 600000 7302250 B) (hX : lX B b lx xs) (hL : lx ≤ 3584) (hj : j + 7 ≤ lx) {M : mM} (hI : lI c M) (next : ∀ M2, lI c M2 → zV 4 B Q 851 [some (.ref b), some (.ref c), some (.ref (c + 251)), some (.int (nI j))] [] M2 260 4599) : zV 4 B Q 687 [some (.ref b), some (.ref c), some (.ref (c + 251)), some (.int (nI j))] [] M 260 4599 := by
  obtain ⟨μ, p, ty, hm, hE, hc⟩ := id hI
  obtain ⟨n, nv, no, o, fp, fr, vb, nxz, nums, hr⟩ := hc
  have hN := lS_N hr
  refine z_aload_n ok dL_law_687 rfl ?_
  refine z_aload_n ok dL_law_688 rfl ?_
  refine z_iload_n ok dL_law_689 rfl ?_
  refine z_iconst (v := 1) ok dL_law_690 (by decide) ?_
  refine z_iadd ok dL_law_691 ?_
  refine z_sld (j + 1) ok dL_law_692 hX (lw_a1 j) (by omega) hL ?_
  refine z_aload_n ok dL_law_693 rfl ?_
  refine z_iload_n ok dL_law_694 rfl ?_
  refine z_iconst (v := 2) ok dL_law_695 (by decide) ?_
  refine z_iadd ok dL_law_696 ?_
  refine z_sld (j + 2) ok dL_law_697 hX (lw_a2 j) (by omega) hL ?_
  refine z_aload_n ok dL_law_698 rfl ?_
  refine z_iload_n ok dL_law_699 rfl ?_
  refine z_iconst (v := 3) ok dL_law_700 (by decide) ?_
  refine z_iadd ok dL_law_701 ?_
  refine z_sld (j + 3) ok dL_law_702 hX (lw_a3 j) (by omega) hL ?_
  refine z_callVi ok dL_law_703 zm_X6_wouldFill zw_611 zi_X6_wouldFill hr.F rfl (ct_X6_wouldFill hr) rfl rfl (by decide) (by decide) (by decide) (Nat.le_of_ble_eq_true rfl) (fun x1 M1 q1 => ?_)
  have hm1 := lS_m hm q1.2.2
  refine z_aload_n ok dL_law_706 rfl ?_
  refine z_aload_n ok dL_law_707 rfl ?_
  refine z_iload_n ok dL_law_708 rfl ?_
  refine z_iconst (v := 1) ok dL_law_709 (by decide) ?_
  refine z_iadd ok dL_law_710 ?_
  refine z_sld (j + 1) ok dL_law_711 hX (lw_a1 j) (by omega) hL ?_
  refine z_aload_n ok dL_law_712 rfl ?_
  refine z_iload_n ok dL_law_713 rfl ?_
  refine z_iconst (v := 2) ok dL_law_714 (by decide) ?_
  refine z_iadd ok dL_law_715 ?_
  refine z_sld (j + 2) ok dL_law_716 hX (lw_a2 j) (by omega) hL ?_
  refine z_aload_n ok dL_law_717 rfl ?_
  refine z_iload_n ok dL_law_718 rfl ?_
  refine z_iconst (v := 3) ok dL_law_719 (by decide) ?_
  refine z_iadd ok dL_law_720 ?_
  refine z_sld (j + 3) ok dL_law_721 hX (lw_a3 j) (by omega) hL ?_
  refine z_callVi ok dL_law_722 zm_X7_wouldFill zw_985 zi_X7_wouldFill hm1.1 rfl (ct_X7_wouldFill hm1 hN) rfl rfl (by decide) (by decide) (by decide) (Nat.le_of_ble_eq_true rfl) (fun x2 M2 q2 => ?_)
  obtain ⟨heq, hI2⟩ := lS_tell hE q1 q2
  refine z_icmp_eq (tgt := 851) ok dL_law_725 (by decide) (fun _ => ?_) (fun q9 => absurd heq q9)
  exact next _ hI2

set_option maxRecDepth 20000 in
set_option maxHeartbeats 4000000 in
theorem lw_c16 {B : zB} {Q : State → Prop} {K : zK} {nm : String} {b lx c j : Nat} {xs : Nat → Int32} (ok : zOk K (⟨"FreightSplitsLaw", nm, "([I)Z"⟩ : MethodName) cL_law 4 ret 11 600000 7302250 B) (hX : lX B b lx xs) (hL : lx ≤ 3584) (hj : j + 7 ≤ lx) {M : mM} (hI : lI c M) (next : ∀ M2, lI c M2 → zV 4 B Q 851 [some (.ref b), some (.ref c), some (.ref (c + 251)), some (.int (nI j))] [] M2 260 4599) : zV 4 B Q 730 [some (.ref b), some (.ref c), some (.ref (c + 251)), some (.int (nI j))] [] M 260 4599 := by
  obtain ⟨μ, p, ty, hm, hE, hc⟩ := id hI
  obtain ⟨n, nv, no, o, fp, fr, vb, nxz, nums, hr⟩ := hc
  have hN := lS_N hr
  refine z_aload_n ok dL_law_730 rfl ?_
  refine z_aload_n ok dL_law_731 rfl ?_
  refine z_iload_n ok dL_law_732 rfl ?_
  refine z_iconst (v := 1) ok dL_law_733 (by decide) ?_
  refine z_iadd ok dL_law_734 ?_
  refine z_sld (j + 1) ok dL_law_735 hX (lw_a1 j) (by omega) hL ?_
  refine z_callVi ok dL_law_736 zm_X6_wouldEarn zw_616 zi_X6_wouldEarn hr.F rfl (ct_X6_wouldEarn hr) rfl rfl (by decide) (by decide) (by decide) (Nat.le_of_ble_eq_true rfl) (fun x1 M1 q1 => ?_)
  have hm1 := lS_m hm q1.2.2
  refine z_aload_n ok dL_law_739 rfl ?_
  refine z_aload_n ok dL_law_740 rfl ?_
  refine z_iload_n ok dL_law_741 rfl ?_
  refine z_iconst (v := 1) ok dL_law_742 (by decide) ?_
  refine z_iadd ok dL_law_743 ?_
  refine z_sld (j + 1) ok dL_law_744 hX (lw_a1 j) (by omega) hL ?_
  refine z_callVi ok dL_law_745 zm_X7_wouldEarn zw_992 zi_X7_wouldEarn hm1.1 rfl (ct_X7_wouldEarn hm1 hN) rfl rfl (by decide) (by decide) (by decide) (Nat.le_of_ble_eq_true rfl) (fun x2 M2 q2 => ?_)
  obtain ⟨heq, hI2⟩ := lS_tell hE q1 q2
  refine z_icmp_eq (tgt := 851) ok dL_law_748 (by decide) (fun _ => ?_) (fun q9 => absurd heq q9)
  exact next _ hI2

set_option maxRecDepth 20000 in
set_option maxHeartbeats 4000000 in
theorem lw_c17 {B : zB} {Q : State → Prop} {K : zK} {nm : String} {b lx c j : Nat} {xs : Nat → Int32} (ok : zOk K (⟨"FreightSplitsLaw", nm, "([I)Z"⟩ : MethodName) cL_law 4 ret 11 600000 7302250 B) (hX : lX B b lx xs) (hL : lx ≤ 3584) (hj : j + 7 ≤ lx) {M : mM} (hI : lI c M) (next : ∀ M2, lI c M2 → zV 4 B Q 851 [some (.ref b), some (.ref c), some (.ref (c + 251)), some (.int (nI j))] [] M2 260 4599) : zV 4 B Q 753 [some (.ref b), some (.ref c), some (.ref (c + 251)), some (.int (nI j))] [] M 260 4599 := by
  obtain ⟨μ, p, ty, hm, hE, hc⟩ := id hI
  obtain ⟨n, nv, no, o, fp, fr, vb, nxz, nums, hr⟩ := hc
  have hN := lS_N hr
  refine z_aload_n ok dL_law_753 rfl ?_
  refine z_callVi ok dL_law_754 zm_X6_hopeless zw_623 zi_X6_hopeless hr.F rfl (ct_X6_hopeless hr) rfl rfl (by decide) (by decide) (by decide) (Nat.le_of_ble_eq_true rfl) (fun x1 M1 q1 => ?_)
  have hm1 := lS_me hm q1.2
  refine z_aload_n ok dL_law_757 rfl ?_
  refine z_callVi ok dL_law_758 zm_X7_hopeless zw_997 zi_X7_hopeless hm1.1 rfl (ct_X7_hopeless hm1 hN) rfl rfl (by decide) (by decide) (by decide) (Nat.le_of_ble_eq_true rfl) (fun x2 M2 q2 => ?_)
  obtain ⟨heq, hI2⟩ := lS_q hI q1 q2 rfl
  refine z_icmp_eq (tgt := 851) ok dL_law_761 (by decide) (fun _ => ?_) (fun q9 => absurd heq q9)
  exact next _ hI2

set_option maxRecDepth 20000 in
set_option maxHeartbeats 4000000 in
theorem lw_c18 {B : zB} {Q : State → Prop} {K : zK} {nm : String} {b lx c j : Nat} {xs : Nat → Int32} (ok : zOk K (⟨"FreightSplitsLaw", nm, "([I)Z"⟩ : MethodName) cL_law 4 ret 11 600000 7302250 B) (hX : lX B b lx xs) (hL : lx ≤ 3584) (hj : j + 7 ≤ lx) {M : mM} (hI : lI c M) (next : ∀ M2, lI c M2 → zV 4 B Q 851 [some (.ref b), some (.ref c), some (.ref (c + 251)), some (.int (nI j))] [] M2 260 4599) : zV 4 B Q 766 [some (.ref b), some (.ref c), some (.ref (c + 251)), some (.int (nI j))] [] M 260 4599 := by
  obtain ⟨μ, p, ty, hm, hE, hc⟩ := id hI
  obtain ⟨n, nv, no, o, fp, fr, vb, nxz, nums, hr⟩ := hc
  have hN := lS_N hr
  refine z_aload_n ok dL_law_766 rfl ?_
  refine z_callVi ok dL_law_767 zm_X6_undo zw_631 zi_X6_undo hr.F rfl (ct_X6_undo hr) rfl rfl (by decide) (by decide) (by decide) (Nat.le_of_ble_eq_true rfl) (fun x1 M1 q1 => ?_)
  have hm1 := lS_mu hm q1
  refine z_aload_n ok dL_law_770 rfl ?_
  refine z_callVi ok dL_law_771 zm_X7_undo zw_1001 zi_X7_undo hm1.1 rfl (ct_X7_undo hm1 hE.2.1 hr.B.1) rfl rfl (by decide) (by decide) (by decide) (Nat.le_of_ble_eq_true rfl) (fun x2 M2 q2 => ?_)
  obtain ⟨heq, hI2⟩ := lS_undo hm1 hE hI q1 q2
  refine z_icmp_eq (tgt := 851) ok dL_law_774 (by decide) (fun _ => ?_) (fun q9 => absurd heq q9)
  exact next _ hI2

set_option maxRecDepth 20000 in
set_option maxHeartbeats 4000000 in
theorem lw_c19 {B : zB} {Q : State → Prop} {K : zK} {nm : String} {b lx c j : Nat} {xs : Nat → Int32} (ok : zOk K (⟨"FreightSplitsLaw", nm, "([I)Z"⟩ : MethodName) cL_law 4 ret 11 600000 7302250 B) (hX : lX B b lx xs) (hL : lx ≤ 3584) (hj : j + 7 ≤ lx) {M : mM} (hI : lI c M) (next : ∀ M2, lI c M2 → zV 4 B Q 851 [some (.ref b), some (.ref c), some (.ref (c + 251)), some (.int (nI j))] [] M2 260 4599) : zV 4 B Q 779 [some (.ref b), some (.ref c), some (.ref (c + 251)), some (.int (nI j))] [] M 260 4599 := by
  obtain ⟨μ, p, ty, hm, hE, hc⟩ := id hI
  obtain ⟨n, nv, no, o, fp, fr, vb, nxz, nums, hr⟩ := hc
  have hN := lS_N hr
  refine z_aload_n ok dL_law_779 rfl ?_
  refine z_aload_n ok dL_law_780 rfl ?_
  refine z_iload_n ok dL_law_781 rfl ?_
  refine z_iconst (v := 1) ok dL_law_782 (by decide) ?_
  refine z_iadd ok dL_law_783 ?_
  refine z_sld (j + 1) ok dL_law_784 hX (lw_a1 j) (by omega) hL ?_
  refine z_callVi ok dL_law_785 zm_X6_type zw_640 zi_X6_type hr.F rfl (ct_X6_type hr) rfl rfl (by decide) (by decide) (by decide) (Nat.le_of_ble_eq_true rfl) (fun x1 M1 q1 => ?_)
  have hm1 := lS_mt hm q1
  refine z_aload_n ok dL_law_788 rfl ?_
  refine z_aload_n ok dL_law_789 rfl ?_
  refine z_iload_n ok dL_law_790 rfl ?_
  refine z_iconst (v := 1) ok dL_law_791 (by decide) ?_
  refine z_iadd ok dL_law_792 ?_
  refine z_sld (j + 1) ok dL_law_793 hX (lw_a1 j) (by omega) hL ?_
  refine z_callVi ok dL_law_794 zm_X7_type zw_1005 zi_X7_type hm1.1 rfl (ct_X7_type hm1 hE.2.2 hr.B.2.2.2.2) rfl rfl (by decide) (by decide) (by decide) (Nat.le_of_ble_eq_true rfl) (fun x2 M2 q2 => ?_)
  obtain ⟨heq, hI2⟩ := lS_type hE hI q1 q2
  refine z_icmp_eq (tgt := 851) ok dL_law_797 (by decide) (fun _ => ?_) (fun q9 => absurd heq q9)
  exact next _ hI2

set_option maxRecDepth 20000 in
set_option maxHeartbeats 4000000 in
theorem lw_c20 {B : zB} {Q : State → Prop} {K : zK} {nm : String} {b lx c j : Nat} {xs : Nat → Int32} (ok : zOk K (⟨"FreightSplitsLaw", nm, "([I)Z"⟩ : MethodName) cL_law 4 ret 11 600000 7302250 B) (hX : lX B b lx xs) (hL : lx ≤ 3584) (hj : j + 7 ≤ lx) {M : mM} (hI : lI c M) (next : ∀ M2, lI c M2 → zV 4 B Q 851 [some (.ref b), some (.ref c), some (.ref (c + 251)), some (.int (nI j))] [] M2 260 4599) : zV 4 B Q 802 [some (.ref b), some (.ref c), some (.ref (c + 251)), some (.int (nI j))] [] M 260 4599 := by
  obtain ⟨μ, p, ty, hm, hE, hc⟩ := id hI
  obtain ⟨n, nv, no, o, fp, fr, vb, nxz, nums, hr⟩ := hc
  have hN := lS_N hr
  refine z_aload_n ok dL_law_802 rfl ?_
  refine z_callVi ok dL_law_803 zm_X6_clearText zw_649 zi_X6_clearText hr.F rfl (ct_X6_clearText hr) rfl rfl (by decide) (by decide) (by decide) (Nat.le_of_ble_eq_true rfl) (fun x1 M1 q1 => ?_)
  have hm1 := lS_m hm q1.2.2
  refine z_aload_n ok dL_law_806 rfl ?_
  refine z_callVi ok dL_law_807 zm_X7_clearText zw_1009 zi_X7_clearText hm1.1 rfl (ct_X7_clearText hm1) rfl rfl (by decide) (by decide) (by decide) (Nat.le_of_ble_eq_true rfl) (fun x2 M2 q2 => ?_)
  obtain ⟨heq, hI2⟩ := lS_clear hE q1 q2
  refine z_icmp_eq (tgt := 851) ok dL_law_810 (by decide) (fun _ => ?_) (fun q9 => absurd heq q9)
  exact next _ hI2

set_option maxRecDepth 20000 in
set_option maxHeartbeats 4000000 in
theorem lw_c21 {B : zB} {Q : State → Prop} {K : zK} {nm : String} {b lx c j : Nat} {xs : Nat → Int32} (ok : zOk K (⟨"FreightSplitsLaw", nm, "([I)Z"⟩ : MethodName) cL_law 4 ret 11 600000 7302250 B) (hX : lX B b lx xs) (hL : lx ≤ 3584) (hj : j + 7 ≤ lx) {M : mM} (hI : lI c M) (next : ∀ M2, lI c M2 → zV 4 B Q 851 [some (.ref b), some (.ref c), some (.ref (c + 251)), some (.int (nI j))] [] M2 260 4599) : zV 4 B Q 815 [some (.ref b), some (.ref c), some (.ref (c + 251)), some (.int (nI j))] [] M 260 4599 := by
  obtain ⟨μ, p, ty, hm, hE, hc⟩ := id hI
  obtain ⟨n, nv, no, o, fp, fr, vb, nxz, nums, hr⟩ := hc
  have hN := lS_N hr
  refine z_aload_n ok dL_law_815 rfl ?_
  refine z_aload_n ok dL_law_816 rfl ?_
  refine z_iload_n ok dL_law_817 rfl ?_
  refine z_iconst (v := 1) ok dL_law_818 (by decide) ?_
  refine z_iadd ok dL_law_819 ?_
  refine z_sld (j + 1) ok dL_law_820 hX (lw_a1 j) (by omega) hL ?_
  refine z_callVi ok dL_law_821 zm_X6_fault zw_653 zi_X6_fault hr.F rfl (ct_X6_fault hr) rfl rfl (by decide) (by decide) (by decide) (Nat.le_of_ble_eq_true rfl) (fun x1 M1 q1 => ?_)
  have hm1 := lS_m hm q1.2.2
  refine z_aload_n ok dL_law_824 rfl ?_
  refine z_aload_n ok dL_law_825 rfl ?_
  refine z_iload_n ok dL_law_826 rfl ?_
  refine z_iconst (v := 1) ok dL_law_827 (by decide) ?_
  refine z_iadd ok dL_law_828 ?_
  refine z_sld (j + 1) ok dL_law_829 hX (lw_a1 j) (by omega) hL ?_
  refine z_callVi ok dL_law_830 zm_X7_fault zw_1013 zi_X7_fault hm1.1 rfl (ct_X7_fault hm1 hE.2.2 hr.B.2.2.2.2 ⟨n, nv, no, hN⟩ hE.1) rfl rfl (by decide) (by decide) (by decide) (Nat.le_of_ble_eq_true rfl) (fun x2 M2 q2 => ?_)
  obtain ⟨heq, hI2⟩ := lS_tell hE q1 q2
  refine z_icmp_eq (tgt := 851) ok dL_law_833 (by decide) (fun _ => ?_) (fun q9 => absurd heq q9)
  exact next _ hI2

set_option maxRecDepth 20000 in
set_option maxHeartbeats 4000000 in
theorem lw_c22 {B : zB} {Q : State → Prop} {K : zK} {nm : String} {b lx c j : Nat} {xs : Nat → Int32} (ok : zOk K (⟨"FreightSplitsLaw", nm, "([I)Z"⟩ : MethodName) cL_law 4 ret 11 600000 7302250 B) (hX : lX B b lx xs) (hL : lx ≤ 3584) (hj : j + 7 ≤ lx) {M : mM} (hI : lI c M) (next : ∀ M2, lI c M2 → zV 4 B Q 851 [some (.ref b), some (.ref c), some (.ref (c + 251)), some (.int (nI j))] [] M2 260 4599) : zV 4 B Q 838 [some (.ref b), some (.ref c), some (.ref (c + 251)), some (.int (nI j))] [] M 260 4599 := by
  obtain ⟨μ, p, ty, hm, hE, hc⟩ := id hI
  obtain ⟨n, nv, no, o, fp, fr, vb, nxz, nums, hr⟩ := hc
  have hN := lS_N hr
  refine z_aload_n ok dL_law_838 rfl ?_
  refine z_callVi ok dL_law_839 zm_X6_play zw_753 zi_X6_play hr.F rfl (ct_X6_play hr) rfl rfl (by decide) (by decide) (by decide) (Nat.le_of_ble_eq_true rfl) (fun x1 M1 q1 => ?_)
  have hm1 := lS_m hm q1.1
  refine z_aload_n ok dL_law_842 rfl ?_
  refine z_callVi ok dL_law_843 zm_X7_play zw_1053 zi_X7_play hm1.1 rfl (ct_X7_play hm1 hE.2.2 hr.B.2.2.2.2 ⟨n, nv, no, hN⟩ hE.1 hE.2.1 hr.B.1) rfl rfl (by decide) (by decide) (by decide) (Nat.le_of_ble_eq_true rfl) (fun x2 M2 q2 => ?_)
  obtain ⟨heq, hI2⟩ := lS_postE hE q1 q2
  refine z_icmp_eq (tgt := 851) ok dL_law_846 (by decide) (fun _ => ?_) (fun q9 => absurd heq q9)
  exact next _ hI2

