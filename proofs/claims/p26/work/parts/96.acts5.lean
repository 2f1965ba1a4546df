set_option maxRecDepth 20000 in
set_option maxHeartbeats 4000000 in
theorem la_782 {K : zK} {M : mM} {B : zB} {c : Nat} {s : Nat → Int32} {n nv no : Nat} (hS : lS M c s n nv no) {τ : Nat} (hτ : s 5 = nI τ) (hτ2 : τ ≤ 5000) {z : Int32} (ok : zOk K yL_acts cL_acts 16 zr_L_acts 7 0 0 B) {Y w : Nat} (hY : Y < 10000000) {u : Nat} (hu : u < nv) : zV 16 B (zE B (zI (fun x M' => x = 1 ∧ ∃ (s' : Nat → Int32) (n' nv' no' τ' : Nat), lS M' c s' n' nv' no' ∧ s' 5 = nI τ' ∧ τ' ≤ τ + 30 ∧ zFr M M' c 257)) 0 0) 782 [some (.ref c), some (.ref (c + 251)), some (.ref (c + 251 + 1)), some (.ref (c + 251 + 2)), some (.ref (c + 251 + 3)), some (.ref (c + 251 + 4)), some (.ref (c + 251 + 5)), some (.int z), some (.int (nI Y)), some (.int (nI w)), some (.int (nI u)), none, none, none, none, none] [] M 0 0 := by
  have hmω := hS.2.1
  have hoω := hS.1
  have hwω := hS.2.2.1
  have hxω := hS.2.2.2
  have hNω := hwω.N
  have hn16ω := hNω.2.1
  have hnv4ω := hNω.2.2.2.1
  have hno10ω := hNω.2.2.2.2.2
  have hu4ω : u < 4 := by omega
  refine z_iload ok dL_acts_782 rfl ?_
  refine z_iconst (v := 5) ok dL_acts_784 (by decide) ?_
  refine z_idiv ok dL_acts_785 (by decide) ?_
  refine zV_eqi (ydiv (d := 5) rfl (by omega) (by omega) (by omega)) ?_
  refine z_iload ok dL_acts_786 rfl ?_
  refine z_iconst (v := 2) ok dL_acts_788 (by decide) ?_
  refine z_irem ok dL_acts_789 (by decide) ?_
  refine zV_eqi (yrem (d := 2) rfl (by omega) (by omega) (by omega)) ?_
  refine z_if_ne (tgt := 799) ok dL_acts_790 (by decide) (fun cz790ω => ?_) (fun cz790ω => ?_)
  · refine z_iconst (v := 3) ok dL_acts_799 (by decide) ?_
    refine z_irem ok dL_acts_800 (by decide) ?_
    refine zV_eqi (yrem (d := 3) rfl (by omega) (by omega) (by omega)) ?_
    refine z_istore ok dL_acts_801 (by decide) rfl ?_
    refine z_iload ok dL_acts_803 rfl ?_
    refine z_bipush (v := 9) ok dL_acts_805 (by decide) ?_
    refine z_idiv ok dL_acts_807 (by decide) ?_
    refine zV_eqi (ydiv (d := 9) rfl (by omega) (by omega) (by omega)) ?_
    refine z_iload ok dL_acts_808 rfl ?_
    refine z_iconst (v := 4) ok dL_acts_810 (by decide) ?_
    refine z_irem ok dL_acts_811 (by decide) ?_
    refine zV_eqi (yrem (d := 4) rfl (by omega) (by omega) (by omega)) ?_
    refine z_if_ne (tgt := 820) ok dL_acts_812 (by decide) (fun cz812ω => ?_) (fun cz812ω => ?_)
    · refine z_bipush (v := 15) ok dL_acts_820 (by decide) ?_
      refine z_irem ok dL_acts_822 (by decide) ?_
      refine zV_eqi (yrem (d := 15) rfl (by omega) (by omega) (by omega)) ?_
      refine z_istore ok dL_acts_823 (by decide) rfl ?_
      refine z_iconst (v := 1) ok dL_acts_825 (by decide) ?_
      refine z_iload ok dL_acts_826 rfl ?_
      refine z_bipush (v := 11) ok dL_acts_828 (by decide) ?_
      refine z_idiv ok dL_acts_830 (by decide) ?_
      refine zV_eqi (ydiv (d := 11) rfl (by omega) (by omega) (by omega)) ?_
      refine z_bipush (v := 30) ok dL_acts_831 (by decide) ?_
      refine z_irem ok dL_acts_833 (by decide) ?_
      refine zV_eqi (yrem (d := 30) rfl (by omega) (by omega) (by omega)) ?_
      refine z_iadd ok dL_acts_834 ?_
      refine zV_eqi (yadd (a := 1) rfl) ?_
      refine z_istore ok dL_acts_835 (by decide) rfl ?_
      refine z_iconst (v := 1) ok dL_acts_837 (by decide) ?_
      refine z_iload ok dL_acts_838 rfl ?_
      refine z_bipush (v := 13) ok dL_acts_840 (by decide) ?_
      refine z_idiv ok dL_acts_842 (by decide) ?_
      refine zV_eqi (ydiv (d := 13) rfl (by omega) (by omega) (by omega)) ?_
      refine z_bipush (v := 30) ok dL_acts_843 (by decide) ?_
      refine z_irem ok dL_acts_845 (by decide) ?_
      refine zV_eqi (yrem (d := 30) rfl (by omega) (by omega) (by omega)) ?_
      refine z_iadd ok dL_acts_846 ?_
      refine zV_eqi (yadd (a := 1) rfl) ?_
      refine z_istore ok dL_acts_847 (by decide) rfl ?_
      refine z_aload_n ok dL_acts_849 rfl ?_
      refine z_bipush (v := 6) ok dL_acts_850 (by decide) ?_
      refine l_ldG (t := 6) ok dL_acts_852 hmω rfl (by decide) ?_
      refine z_bipush (v := 10) ok dL_acts_853 (by decide) ?_
      refine z_icmp_ne (tgt := 887) ok dL_acts_855 (by decide) (fun cz855ω => ?_) (fun cz855ω => ?_)
      · have ho9ω : no < 10 := Nat.lt_of_le_of_ne hno10ω (fun z9ω => cz855ω (by rw [hNω.2.2.2.2.1, z9ω]; rfl))
        obtain ⟨f0ω, f1ω, f2ω, f3ω, f4ω, f5ω, hr0ω, hrω⟩ := (hmω).raw
        refine z_iconst (v := 5) ok dL_acts_887 (by decide) ?_
        refine z_aload_n ok dL_acts_888 rfl ?_
        refine z_bipush (v := 6) ok dL_acts_889 (by decide) ?_
        refine r_ald0 6 ok dL_acts_891 hr0ω rfl (by omega) ?_
        refine zV_eqi ((hrω.1 6 (by omega)).trans hNω.2.2.2.2.1) ?_
        refine z_imul ok dL_acts_892 ?_
        refine z_istore ok dL_acts_893 (by decide) rfl ?_
        refine z_aload ok dL_acts_895 rfl ?_
        refine z_iload ok dL_acts_897 rfl ?_
        refine z_iconst (v := 1) ok dL_acts_899 (by decide) ?_
        refine z_iload ok dL_acts_900 rfl ?_
        refine z_iconst (v := 4) ok dL_acts_902 (by decide) ?_
        refine z_irem ok dL_acts_903 (by decide) ?_
        refine zV_eqi (yrem (d := 4) rfl (by omega) (by omega) (by omega)) ?_
        refine z_iadd ok dL_acts_904 ?_
        refine zV_eqi (yadd (a := 1) rfl) ?_
        refine r_ast5 (5 * no + 0) ok dL_acts_905 hr0ω (lx5_0 no) (by omega) (fun Mz2ω hm1ω frz3ω => ?_)
        refine z_aload ok dL_acts_906 rfl ?_
        refine z_iload ok dL_acts_908 rfl ?_
        refine z_iconst (v := 1) ok dL_acts_910 (by decide) ?_
        refine z_iadd ok dL_acts_911 ?_
        refine z_iload ok dL_acts_912 rfl ?_
        refine r_ast5 (5 * no + 1) ok dL_acts_914 hm1ω (lx5_1 no) (by omega) (fun Mz5ω hm4ω frz6ω => ?_)
        refine z_aload ok dL_acts_915 rfl ?_
        refine z_iload ok dL_acts_917 rfl ?_
        refine z_iconst (v := 2) ok dL_acts_919 (by decide) ?_
        refine z_iadd ok dL_acts_920 ?_
        refine z_iload ok dL_acts_921 rfl ?_
        refine r_ast5 (5 * no + 2) ok dL_acts_923 hm4ω (lx5_2 no) (by omega) (fun Mz8ω hm7ω frz9ω => ?_)
        refine z_aload ok dL_acts_924 rfl ?_
        refine z_iload ok dL_acts_926 rfl ?_
        refine z_iconst (v := 3) ok dL_acts_928 (by decide) ?_
        refine z_iadd ok dL_acts_929 ?_
        refine z_iload ok dL_acts_930 rfl ?_
        refine r_ast5 (5 * no + 3) ok dL_acts_932 hm7ω (lx5_3 no) (by omega) (fun Mz11ω hm10ω frz12ω => ?_)
        refine z_aload ok dL_acts_933 rfl ?_
        refine z_iload ok dL_acts_935 rfl ?_
        refine z_iconst (v := 4) ok dL_acts_937 (by decide) ?_
        refine z_iadd ok dL_acts_938 ?_
        refine z_aload_n ok dL_acts_939 rfl ?_
        refine z_iconst (v := 5) ok dL_acts_940 (by decide) ?_
        refine r_ald0 5 ok dL_acts_941 hm10ω rfl (by omega) ?_
        refine z_iload ok dL_acts_942 rfl ?_
        refine z_iadd ok dL_acts_944 ?_
        refine r_ast5 (5 * no + 4) ok dL_acts_945 hm10ω (lx5_4 no) (by omega) (fun Mz14ω hm13ω frz15ω => ?_)
        refine z_aload_n ok dL_acts_946 rfl ?_
        refine z_bipush (v := 6) ok dL_acts_947 (by decide) ?_
        refine z_dup2 ok dL_acts_949 rfl rfl ?_
        refine r_ald0 6 ok dL_acts_950 hm13ω rfl (by omega) ?_
        refine z_iconst (v := 1) ok dL_acts_951 (by decide) ?_
        refine z_iadd ok dL_acts_952 ?_
        refine r_ast0 6 ok dL_acts_953 hm13ω rfl (by omega) (fun Mz17ω hm16ω frz18ω => ?_)
        refine z_aload_n ok dL_acts_954 rfl ?_
        refine z_aload ok dL_acts_955 rfl ?_
        refine z_iload ok dL_acts_957 rfl ?_
        refine r_ald5 (5 * no + 0) ok dL_acts_959 hm16ω (lx5_0 no) (by omega) ?_
        refine zV_eqi (show _ = nI (1 + Y % 4) from by simp [upd]) ?_
        refine z_iload ok dL_acts_960 rfl ?_
        refine z_iload ok dL_acts_962 rfl ?_
        refine z_iload ok dL_acts_964 rfl ?_
        refine z_iload ok dL_acts_966 rfl ?_
        have ho968ω := hoω.fr (show zFr M _ (c + 251) 6 from (zFr.tr zFr.rf (zFr.tr frz3ω (zFr.tr frz6ω (zFr.tr frz9ω (zFr.tr frz12ω (zFr.tr frz15ω frz18ω)))))))
        obtain ⟨fs968ω, hs968ω⟩ := ho968ω.self
        refine z_callVi ok dL_acts_968 zm_X6_offer zw_518 zi_X6_offer hs968ω rfl (ho968ω.to_offer hNω) rfl rfl (by decide) (by decide) (by decide) (Nat.le_of_ble_eq_true rfl) (fun xz19ω Mz20ω qz21ω => ?_)
        have hocω := spO_c (p := 1 + Y % 4) (b := (1 + ((Y / 11) % 30))) (w := (1 + ((Y / 13) % 30))) (r := ((Y / 5) % 3)) (h := ((Y / 9) % 15)) (by omega) (by omega) (by omega) (by omega) (by omega)
        obtain ⟨hfqω, hxeω, hoqω⟩ := (qz21ω).inr ((if_pos hocω).trans (if_neg (by omega)))
        have hfzω := ((show zFr M _ (c + 251) 6 from (zFr.tr zFr.rf (zFr.tr frz3ω (zFr.tr frz6ω (zFr.tr frz9ω (zFr.tr frz12ω (zFr.tr frz15ω frz18ω))))))).w (c := c) (by omega) (by omega)).tr (hfqω.w (c := c) (by omega) (by omega))
        have hm22ω := (of_fin hrω hNω ho9ω hm16ω).fr hfqω
        refine z_aload_n ok dL_acts_971 rfl ?_
        refine z_bipush (v := 6) ok dL_acts_972 (by decide) ?_
        refine l_ldG (t := 6) ok dL_acts_974 hm22ω rfl (by decide) ?_
        refine z_icmp_ne (tgt := 982) ok dL_acts_975 (by decide) (fun q9ω => absurd hxeω q9ω) (fun _ => ?_)
        refine z_iconst (v := 1) ok dL_acts_978 (by decide) ?_
        refine z_goto (tgt := 983) ok dL_acts_979 (by decide) ?_
        exact z_iret ok dL_acts_983 rfl rfl rfl (Nat.zero_le _) ⟨rfl, _, n, nv, no + 1, τ, ⟨hoqω, hm22ω, hoqω.wf (zN_of hNω ho9ω), hxω.off hwω ho9ω⟩, (zOf_o (q := 5) (by omega) (by omega)).trans hτ, by omega, hfzω⟩
      · have ho9ω : no = 10 := (nI_eq (by omega) (by omega)).mp (hNω.2.2.2.2.1.symm.trans cz855ω)
        refine z_aload_n ok dL_acts_858 rfl ?_
        refine z_iconst (v := 1) ok dL_acts_859 (by decide) ?_
        refine z_iload ok dL_acts_860 rfl ?_
        refine z_iconst (v := 4) ok dL_acts_862 (by decide) ?_
        refine z_irem ok dL_acts_863 (by decide) ?_
        refine zV_eqi (yrem (d := 4) rfl (by omega) (by omega) (by omega)) ?_
        refine z_iadd ok dL_acts_864 ?_
        refine zV_eqi (yadd (a := 1) rfl) ?_
        refine z_iload ok dL_acts_865 rfl ?_
        refine z_iload ok dL_acts_867 rfl ?_
        refine z_iload ok dL_acts_869 rfl ?_
        refine z_iload ok dL_acts_871 rfl ?_
        have ho873ω := hoω.fr (show zFr M _ (c + 251) 6 from zFr.rf)
        obtain ⟨fs873ω, hs873ω⟩ := ho873ω.self
        refine z_callVi ok dL_acts_873 zm_X6_offer zw_518 zi_X6_offer hs873ω rfl (ho873ω.to_offer hNω) rfl rfl (by decide) (by decide) (by decide) (Nat.le_of_ble_eq_true rfl) (fun xz23ω Mz24ω qz25ω => ?_)
        have hocω := spO_c (p := 1 + Y % 4) (b := (1 + ((Y / 11) % 30))) (w := (1 + ((Y / 13) % 30))) (r := ((Y / 5) % 3)) (h := ((Y / 9) % 15)) (by omega) (by omega) (by omega) (by omega) (by omega)
        obtain ⟨hfqω, hxeω, hoqω⟩ := (qz25ω).inl ((if_pos hocω).trans (if_pos ho9ω))
        have hfzω := ((show zFr M _ (c + 251) 6 from zFr.rf).w (c := c) (by omega) (by omega)).tr (hfqω.w (c := c) (by omega) (by omega))
        have hm26ω := ((hmω).eqs (rfl)).fr hfqω
        refine z_ldc ok dL_acts_876 zw_383 ?_
        refine z_icmp_ne (tgt := 885) ok dL_acts_878 (by decide) (fun q9ω => absurd hxeω q9ω) (fun _ => ?_)
        refine z_iconst (v := 1) ok dL_acts_881 (by decide) ?_
        refine z_goto (tgt := 886) ok dL_acts_882 (by decide) ?_
        exact z_iret ok dL_acts_886 rfl rfl rfl (Nat.zero_le _) ⟨rfl, s, n, nv, no, τ, ⟨hoqω, hm26ω, hwω, hxω⟩, hτ, by omega, hfzω⟩
    · refine z_bipush (v := 100) ok dL_acts_815 (by decide) ?_
      refine z_goto (tgt := 822) ok dL_acts_817 (by decide) ?_
      refine z_irem ok dL_acts_822 (by decide) ?_
      refine zV_eqi (yrem (d := 100) rfl (by omega) (by omega) (by omega)) ?_
      refine z_istore ok dL_acts_823 (by decide) rfl ?_
      refine z_iconst (v := 1) ok dL_acts_825 (by decide) ?_
      refine z_iload ok dL_acts_826 rfl ?_
      refine z_bipush (v := 11) ok dL_acts_828 (by decide) ?_
      refine z_idiv ok dL_acts_830 (by decide) ?_
      refine zV_eqi (ydiv (d := 11) rfl (by omega) (by omega) (by omega)) ?_
      refine z_bipush (v := 30) ok dL_acts_831 (by decide) ?_
      refine z_irem ok dL_acts_833 (by decide) ?_
      refine zV_eqi (yrem (d := 30) rfl (by omega) (by omega) (by omega)) ?_
      refine z_iadd ok dL_acts_834 ?_
      refine zV_eqi (yadd (a := 1) rfl) ?_
      refine z_istore ok dL_acts_835 (by decide) rfl ?_
      refine z_iconst (v := 1) ok dL_acts_837 (by decide) ?_
      refine z_iload ok dL_acts_838 rfl ?_
      refine z_bipush (v := 13) ok dL_acts_840 (by decide) ?_
      refine z_idiv ok dL_acts_842 (by decide) ?_
      refine zV_eqi (ydiv (d := 13) rfl (by omega) (by omega) (by omega)) ?_
      refine z_bipush (v := 30) ok dL_acts_843 (by decide) ?_
      refine z_irem ok dL_acts_845 (by decide) ?_
      refine zV_eqi (yrem (d := 30) rfl (by omega) (by omega) (by omega)) ?_
      refine z_iadd ok dL_acts_846 ?_
      refine zV_eqi (yadd (a := 1) rfl) ?_
      refine z_istore ok dL_acts_847 (by decide) rfl ?_
      refine z_aload_n ok dL_acts_849 rfl ?_
      refine z_bipush (v := 6) ok dL_acts_850 (by decide) ?_
      refine l_ldG (t := 6) ok dL_acts_852 hmω rfl (by decide) ?_
      refine z_bipush (v := 10) ok dL_acts_853 (by decide) ?_
      refine z_icmp_ne (tgt := 887) ok dL_acts_855 (by decide) (fun cz855ω => ?_) (fun cz855ω => ?_)
      · have ho9ω : no < 10 := Nat.lt_of_le_of_ne hno10ω (fun z9ω => cz855ω (by rw [hNω.2.2.2.2.1, z9ω]; rfl))
        obtain ⟨f0ω, f1ω, f2ω, f3ω, f4ω, f5ω, hr0ω, hrω⟩ := (hmω).raw
        refine z_iconst (v := 5) ok dL_acts_887 (by decide) ?_
        refine z_aload_n ok dL_acts_888 rfl ?_
        refine z_bipush (v := 6) ok dL_acts_889 (by decide) ?_
        refine r_ald0 6 ok dL_acts_891 hr0ω rfl (by omega) ?_
        refine zV_eqi ((hrω.1 6 (by omega)).trans hNω.2.2.2.2.1) ?_
        refine z_imul ok dL_acts_892 ?_
        refine z_istore ok dL_acts_893 (by decide) rfl ?_
        refine z_aload ok dL_acts_895 rfl ?_
        refine z_iload ok dL_acts_897 rfl ?_
        refine z_iconst (v := 1) ok dL_acts_899 (by decide) ?_
        refine z_iload ok dL_acts_900 rfl ?_
        refine z_iconst (v := 4) ok dL_acts_902 (by decide) ?_
        refine z_irem ok dL_acts_903 (by decide) ?_
        refine zV_eqi (yrem (d := 4) rfl (by omega) (by omega) (by omega)) ?_
        refine z_iadd ok dL_acts_904 ?_
        refine zV_eqi (yadd (a := 1) rfl) ?_
        refine r_ast5 (5 * no + 0) ok dL_acts_905 hr0ω (lx5_0 no) (by omega) (fun Mz28ω hm27ω frz29ω => ?_)
        refine z_aload ok dL_acts_906 rfl ?_
        refine z_iload ok dL_acts_908 rfl ?_
        refine z_iconst (v := 1) ok dL_acts_910 (by decide) ?_
        refine z_iadd ok dL_acts_911 ?_
        refine z_iload ok dL_acts_912 rfl ?_
        refine r_ast5 (5 * no + 1) ok dL_acts_914 hm27ω (lx5_1 no) (by omega) (fun Mz31ω hm30ω frz32ω => ?_)
        refine z_aload ok dL_acts_915 rfl ?_
        refine z_iload ok dL_acts_917 rfl ?_
        refine z_iconst (v := 2) ok dL_acts_919 (by decide) ?_
        refine z_iadd ok dL_acts_920 ?_
        refine z_iload ok dL_acts_921 rfl ?_
        refine r_ast5 (5 * no + 2) ok dL_acts_923 hm30ω (lx5_2 no) (by omega) (fun Mz34ω hm33ω frz35ω => ?_)
        refine z_aload ok dL_acts_924 rfl ?_
        refine z_iload ok dL_acts_926 rfl ?_
        refine z_iconst (v := 3) ok dL_acts_928 (by decide) ?_
        refine z_iadd ok dL_acts_929 ?_
        refine z_iload ok dL_acts_930 rfl ?_
        refine r_ast5 (5 * no + 3) ok dL_acts_932 hm33ω (lx5_3 no) (by omega) (fun Mz37ω hm36ω frz38ω => ?_)
        refine z_aload ok dL_acts_933 rfl ?_
        refine z_iload ok dL_acts_935 rfl ?_
        refine z_iconst (v := 4) ok dL_acts_937 (by decide) ?_
        refine z_iadd ok dL_acts_938 ?_
        refine z_aload_n ok dL_acts_939 rfl ?_
        refine z_iconst (v := 5) ok dL_acts_940 (by decide) ?_
        refine r_ald0 5 ok dL_acts_941 hm36ω rfl (by omega) ?_
        refine z_iload ok dL_acts_942 rfl ?_
        refine z_iadd ok dL_acts_944 ?_
        refine r_ast5 (5 * no + 4) ok dL_acts_945 hm36ω (lx5_4 no) (by omega) (fun Mz40ω hm39ω frz41ω => ?_)
        refine z_aload_n ok dL_acts_946 rfl ?_
        refine z_bipush (v := 6) ok dL_acts_947 (by decide) ?_
        refine z_dup2 ok dL_acts_949 rfl rfl ?_
        refine r_ald0 6 ok dL_acts_950 hm39ω rfl (by omega) ?_
        refine z_iconst (v := 1) ok dL_acts_951 (by decide) ?_
        refine z_iadd ok dL_acts_952 ?_
        refine r_ast0 6 ok dL_acts_953 hm39ω rfl (by omega) (fun Mz43ω hm42ω frz44ω => ?_)
        refine z_aload_n ok dL_acts_954 rfl ?_
        refine z_aload ok dL_acts_955 rfl ?_
        refine z_iload ok dL_acts_957 rfl ?_
        refine r_ald5 (5 * no + 0) ok dL_acts_959 hm42ω (lx5_0 no) (by omega) ?_
        refine zV_eqi (show _ = nI (1 + Y % 4) from by simp [upd]) ?_
        refine z_iload ok dL_acts_960 rfl ?_
        refine z_iload ok dL_acts_962 rfl ?_
        refine z_iload ok dL_acts_964 rfl ?_
        refine z_iload ok dL_acts_966 rfl ?_
        have ho968ω := hoω.fr (show zFr M _ (c + 251) 6 from (zFr.tr zFr.rf (zFr.tr frz29ω (zFr.tr frz32ω (zFr.tr frz35ω (zFr.tr frz38ω (zFr.tr frz41ω frz44ω)))))))
        obtain ⟨fs968ω, hs968ω⟩ := ho968ω.self
        refine z_callVi ok dL_acts_968 zm_X6_offer zw_518 zi_X6_offer hs968ω rfl (ho968ω.to_offer hNω) rfl rfl (by decide) (by decide) (by decide) (Nat.le_of_ble_eq_true rfl) (fun xz45ω Mz46ω qz47ω => ?_)
        have hocω := spO_c (p := 1 + Y % 4) (b := (1 + ((Y / 11) % 30))) (w := (1 + ((Y / 13) % 30))) (r := ((Y / 5) % 3)) (h := ((Y / 9) % 100)) (by omega) (by omega) (by omega) (by omega) (by omega)
        obtain ⟨hfqω, hxeω, hoqω⟩ := (qz47ω).inr ((if_pos hocω).trans (if_neg (by omega)))
        have hfzω := ((show zFr M _ (c + 251) 6 from (zFr.tr zFr.rf (zFr.tr frz29ω (zFr.tr frz32ω (zFr.tr frz35ω (zFr.tr frz38ω (zFr.tr frz41ω frz44ω))))))).w (c := c) (by omega) (by omega)).tr (hfqω.w (c := c) (by omega) (by omega))
        have hm48ω := (of_fin hrω hNω ho9ω hm42ω).fr hfqω
        refine z_aload_n ok dL_acts_971 rfl ?_
        refine z_bipush (v := 6) ok dL_acts_972 (by decide) ?_
        refine l_ldG (t := 6) ok dL_acts_974 hm48ω rfl (by decide) ?_
        refine z_icmp_ne (tgt := 982) ok dL_acts_975 (by decide) (fun q9ω => absurd hxeω q9ω) (fun _ => ?_)
        refine z_iconst (v := 1) ok dL_acts_978 (by decide) ?_
        refine z_goto (tgt := 983) ok dL_acts_979 (by decide) ?_
        exact z_iret ok dL_acts_983 rfl rfl rfl (Nat.zero_le _) ⟨rfl, _, n, nv, no + 1, τ, ⟨hoqω, hm48ω, hoqω.wf (zN_of hNω ho9ω), hxω.off hwω ho9ω⟩, (zOf_o (q := 5) (by omega) (by omega)).trans hτ, by omega, hfzω⟩
      · have ho9ω : no = 10 := (nI_eq (by omega) (by omega)).mp (hNω.2.2.2.2.1.symm.trans cz855ω)
        refine z_aload_n ok dL_acts_858 rfl ?_
        refine z_iconst (v := 1) ok dL_acts_859 (by decide) ?_
        refine z_iload ok dL_acts_860 rfl ?_
        refine z_iconst (v := 4) ok dL_acts_862 (by decide) ?_
        refine z_irem ok dL_acts_863 (by decide) ?_
        refine zV_eqi (yrem (d := 4) rfl (by omega) (by omega) (by omega)) ?_
        refine z_iadd ok dL_acts_864 ?_
        refine zV_eqi (yadd (a := 1) rfl) ?_
        refine z_iload ok dL_acts_865 rfl ?_
        refine z_iload ok dL_acts_867 rfl ?_
        refine z_iload ok dL_acts_869 rfl ?_
        refine z_iload ok dL_acts_871 rfl ?_
        have ho873ω := hoω.fr (show zFr M _ (c + 251) 6 from zFr.rf)
        obtain ⟨fs873ω, hs873ω⟩ := ho873ω.self
        refine z_callVi ok dL_acts_873 zm_X6_offer zw_518 zi_X6_offer hs873ω rfl (ho873ω.to_offer hNω) rfl rfl (by decide) (by decide) (by decide) (Nat.le_of_ble_eq_true rfl) (fun xz49ω Mz50ω qz51ω => ?_)
        have hocω := spO_c (p := 1 + Y % 4) (b := (1 + ((Y / 11) % 30))) (w := (1 + ((Y / 13) % 30))) (r := ((Y / 5) % 3)) (h := ((Y / 9) % 100)) (by omega) (by omega) (by omega) (by omega) (by omega)
        obtain ⟨hfqω, hxeω, hoqω⟩ := (qz51ω).inl ((if_pos hocω).trans (if_pos ho9ω))
        have hfzω := ((show zFr M _ (c + 251) 6 from zFr.rf).w (c := c) (by omega) (by omega)).tr (hfqω.w (c := c) (by omega) (by omega))
        have hm52ω := ((hmω).eqs (rfl)).fr hfqω
        refine z_ldc ok dL_acts_876 zw_383 ?_
        refine z_icmp_ne (tgt := 885) ok dL_acts_878 (by decide) (fun q9ω => absurd hxeω q9ω) (fun _ => ?_)
        refine z_iconst (v := 1) ok dL_acts_881 (by decide) ?_
        refine z_goto (tgt := 886) ok dL_acts_882 (by decide) ?_
        exact z_iret ok dL_acts_886 rfl rfl rfl (Nat.zero_le _) ⟨rfl, s, n, nv, no, τ, ⟨hoqω, hm52ω, hwω, hxω⟩, hτ, by omega, hfzω⟩
  · refine z_sipush (v := 1000) ok dL_acts_793 (by decide) ?_
    refine z_goto (tgt := 800) ok dL_acts_796 (by decide) ?_
    refine z_irem ok dL_acts_800 (by decide) ?_
    refine zV_eqi (yrem (d := 1000) rfl (by omega) (by omega) (by omega)) ?_
    refine z_istore ok dL_acts_801 (by decide) rfl ?_
    refine z_iload ok dL_acts_803 rfl ?_
    refine z_bipush (v := 9) ok dL_acts_805 (by decide) ?_
    refine z_idiv ok dL_acts_807 (by decide) ?_
    refine zV_eqi (ydiv (d := 9) rfl (by omega) (by omega) (by omega)) ?_
    refine z_iload ok dL_acts_808 rfl ?_
    refine z_iconst (v := 4) ok dL_acts_810 (by decide) ?_
    refine z_irem ok dL_acts_811 (by decide) ?_
    refine zV_eqi (yrem (d := 4) rfl (by omega) (by omega) (by omega)) ?_
    refine z_if_ne (tgt := 820) ok dL_acts_812 (by decide) (fun cz812ω => ?_) (fun cz812ω => ?_)
    · refine z_bipush (v := 15) ok dL_acts_820 (by decide) ?_
      refine z_irem ok dL_acts_822 (by decide) ?_
      refine zV_eqi (yrem (d := 15) rfl (by omega) (by omega) (by omega)) ?_
      refine z_istore ok dL_acts_823 (by decide) rfl ?_
      refine z_iconst (v := 1) ok dL_acts_825 (by decide) ?_
      refine z_iload ok dL_acts_826 rfl ?_
      refine z_bipush (v := 11) ok dL_acts_828 (by decide) ?_
      refine z_idiv ok dL_acts_830 (by decide) ?_
      refine zV_eqi (ydiv (d := 11) rfl (by omega) (by omega) (by omega)) ?_
      refine z_bipush (v := 30) ok dL_acts_831 (by decide) ?_
      refine z_irem ok dL_acts_833 (by decide) ?_
      refine zV_eqi (yrem (d := 30) rfl (by omega) (by omega) (by omega)) ?_
      refine z_iadd ok dL_acts_834 ?_
      refine zV_eqi (yadd (a := 1) rfl) ?_
      refine z_istore ok dL_acts_835 (by decide) rfl ?_
      refine z_iconst (v := 1) ok dL_acts_837 (by decide) ?_
      refine z_iload ok dL_acts_838 rfl ?_
      refine z_bipush (v := 13) ok dL_acts_840 (by decide) ?_
      refine z_idiv ok dL_acts_842 (by decide) ?_
      refine zV_eqi (ydiv (d := 13) rfl (by omega) (by omega) (by omega)) ?_
      refine z_bipush (v := 30) ok dL_acts_843 (by decide) ?_
      refine z_irem ok dL_acts_845 (by decide) ?_
      refine zV_eqi (yrem (d := 30) rfl (by omega) (by omega) (by omega)) ?_
      refine z_iadd ok dL_acts_846 ?_
      refine zV_eqi (yadd (a := 1) rfl) ?_
      refine z_istore ok dL_acts_847 (by decide) rfl ?_
      refine z_aload_n ok dL_acts_849 rfl ?_
      refine z_bipush (v := 6) ok dL_acts_850 (by decide) ?_
      refine l_ldG (t := 6) ok dL_acts_852 hmω rfl (by decide) ?_
      refine z_bipush (v := 10) ok dL_acts_853 (by decide) ?_
      refine z_icmp_ne (tgt := 887) ok dL_acts_855 (by decide) (fun cz855ω => ?_) (fun cz855ω => ?_)
      · have ho9ω : no < 10 := Nat.lt_of_le_of_ne hno10ω (fun z9ω => cz855ω (by rw [hNω.2.2.2.2.1, z9ω]; rfl))
        obtain ⟨f0ω, f1ω, f2ω, f3ω, f4ω, f5ω, hr0ω, hrω⟩ := (hmω).raw
        refine z_iconst (v := 5) ok dL_acts_887 (by decide) ?_
        refine z_aload_n ok dL_acts_888 rfl ?_
        refine z_bipush (v := 6) ok dL_acts_889 (by decide) ?_
        refine r_ald0 6 ok dL_acts_891 hr0ω rfl (by omega) ?_
        refine zV_eqi ((hrω.1 6 (by omega)).trans hNω.2.2.2.2.1) ?_
        refine z_imul ok dL_acts_892 ?_
        refine z_istore ok dL_acts_893 (by decide) rfl ?_
        refine z_aload ok dL_acts_895 rfl ?_
        refine z_iload ok dL_acts_897 rfl ?_
        refine z_iconst (v := 1) ok dL_acts_899 (by decide) ?_
        refine z_iload ok dL_acts_900 rfl ?_
        refine z_iconst (v := 4) ok dL_acts_902 (by decide) ?_
        refine z_irem ok dL_acts_903 (by decide) ?_
        refine zV_eqi (yrem (d := 4) rfl (by omega) (by omega) (by omega)) ?_
        refine z_iadd ok dL_acts_904 ?_
        refine zV_eqi (yadd (a := 1) rfl) ?_
        refine r_ast5 (5 * no + 0) ok dL_acts_905 hr0ω (lx5_0 no) (by omega) (fun Mz54ω hm53ω frz55ω => ?_)
        refine z_aload ok dL_acts_906 rfl ?_
        refine z_iload ok dL_acts_908 rfl ?_
        refine z_iconst (v := 1) ok dL_acts_910 (by decide) ?_
        refine z_iadd ok dL_acts_911 ?_
        refine z_iload ok dL_acts_912 rfl ?_
        refine r_ast5 (5 * no + 1) ok dL_acts_914 hm53ω (lx5_1 no) (by omega) (fun Mz57ω hm56ω frz58ω => ?_)
        refine z_aload ok dL_acts_915 rfl ?_
        refine z_iload ok dL_acts_917 rfl ?_
        refine z_iconst (v := 2) ok dL_acts_919 (by decide) ?_
        refine z_iadd ok dL_acts_920 ?_
        refine z_iload ok dL_acts_921 rfl ?_
        refine r_ast5 (5 * no + 2) ok dL_acts_923 hm56ω (lx5_2 no) (by omega) (fun Mz60ω hm59ω frz61ω => ?_)
        refine z_aload ok dL_acts_924 rfl ?_
        refine z_iload ok dL_acts_926 rfl ?_
        refine z_iconst (v := 3) ok dL_acts_928 (by decide) ?_
        refine z_iadd ok dL_acts_929 ?_
        refine z_iload ok dL_acts_930 rfl ?_
        refine r_ast5 (5 * no + 3) ok dL_acts_932 hm59ω (lx5_3 no) (by omega) (fun Mz63ω hm62ω frz64ω => ?_)
        refine z_aload ok dL_acts_933 rfl ?_
        refine z_iload ok dL_acts_935 rfl ?_
        refine z_iconst (v := 4) ok dL_acts_937 (by decide) ?_
        refine z_iadd ok dL_acts_938 ?_
        refine z_aload_n ok dL_acts_939 rfl ?_
        refine z_iconst (v := 5) ok dL_acts_940 (by decide) ?_
        refine r_ald0 5 ok dL_acts_941 hm62ω rfl (by omega) ?_
        refine z_iload ok dL_acts_942 rfl ?_
        refine z_iadd ok dL_acts_944 ?_
        refine r_ast5 (5 * no + 4) ok dL_acts_945 hm62ω (lx5_4 no) (by omega) (fun Mz66ω hm65ω frz67ω => ?_)
        refine z_aload_n ok dL_acts_946 rfl ?_
        refine z_bipush (v := 6) ok dL_acts_947 (by decide) ?_
        refine z_dup2 ok dL_acts_949 rfl rfl ?_
        refine r_ald0 6 ok dL_acts_950 hm65ω rfl (by omega) ?_
        refine z_iconst (v := 1) ok dL_acts_951 (by decide) ?_
        refine z_iadd ok dL_acts_952 ?_
        refine r_ast0 6 ok dL_acts_953 hm65ω rfl (by omega) (fun Mz69ω hm68ω frz70ω => ?_)
        refine z_aload_n ok dL_acts_954 rfl ?_
        refine z_aload ok dL_acts_955 rfl ?_
        refine z_iload ok dL_acts_957 rfl ?_
        refine r_ald5 (5 * no + 0) ok dL_acts_959 hm68ω (lx5_0 no) (by omega) ?_
        refine zV_eqi (show _ = nI (1 + Y % 4) from by simp [upd]) ?_
        refine z_iload ok dL_acts_960 rfl ?_
        refine z_iload ok dL_acts_962 rfl ?_
        refine z_iload ok dL_acts_964 rfl ?_
        refine z_iload ok dL_acts_966 rfl ?_
        have ho968ω := hoω.fr (show zFr M _ (c + 251) 6 from (zFr.tr zFr.rf (zFr.tr frz55ω (zFr.tr frz58ω (zFr.tr frz61ω (zFr.tr frz64ω (zFr.tr frz67ω frz70ω)))))))
        obtain ⟨fs968ω, hs968ω⟩ := ho968ω.self
        refine z_callVi ok dL_acts_968 zm_X6_offer zw_518 zi_X6_offer hs968ω rfl (ho968ω.to_offer hNω) rfl rfl (by decide) (by decide) (by decide) (Nat.le_of_ble_eq_true rfl) (fun xz71ω Mz72ω qz73ω => ?_)
        have hocω := spO_c (p := 1 + Y % 4) (b := (1 + ((Y / 11) % 30))) (w := (1 + ((Y / 13) % 30))) (r := ((Y / 5) % 1000)) (h := ((Y / 9) % 15)) (by omega) (by omega) (by omega) (by omega) (by omega)
        obtain ⟨hfqω, hxeω, hoqω⟩ := (qz73ω).inr ((if_pos hocω).trans (if_neg (by omega)))
        have hfzω := ((show zFr M _ (c + 251) 6 from (zFr.tr zFr.rf (zFr.tr frz55ω (zFr.tr frz58ω (zFr.tr frz61ω (zFr.tr frz64ω (zFr.tr frz67ω frz70ω))))))).w (c := c) (by omega) (by omega)).tr (hfqω.w (c := c) (by omega) (by omega))
        have hm74ω := (of_fin hrω hNω ho9ω hm68ω).fr hfqω
        refine z_aload_n ok dL_acts_971 rfl ?_
        refine z_bipush (v := 6) ok dL_acts_972 (by decide) ?_
        refine l_ldG (t := 6) ok dL_acts_974 hm74ω rfl (by decide) ?_
        refine z_icmp_ne (tgt := 982) ok dL_acts_975 (by decide) (fun q9ω => absurd hxeω q9ω) (fun _ => ?_)
        refine z_iconst (v := 1) ok dL_acts_978 (by decide) ?_
        refine z_goto (tgt := 983) ok dL_acts_979 (by decide) ?_
        exact z_iret ok dL_acts_983 rfl rfl rfl (Nat.zero_le _) ⟨rfl, _, n, nv, no + 1, τ, ⟨hoqω, hm74ω, hoqω.wf (zN_of hNω ho9ω), hxω.off hwω ho9ω⟩, (zOf_o (q := 5) (by omega) (by omega)).trans hτ, by omega, hfzω⟩
      · have ho9ω : no = 10 := (nI_eq (by omega) (by omega)).mp (hNω.2.2.2.2.1.symm.trans cz855ω)
        refine z_aload_n ok dL_acts_858 rfl ?_
        refine z_iconst (v := 1) ok dL_acts_859 (by decide) ?_
        refine z_iload ok dL_acts_860 rfl ?_
        refine z_iconst (v := 4) ok dL_acts_862 (by decide) ?_
        refine z_irem ok dL_acts_863 (by decide) ?_
        refine zV_eqi (yrem (d := 4) rfl (by omega) (by omega) (by omega)) ?_
        refine z_iadd ok dL_acts_864 ?_
        refine zV_eqi (yadd (a := 1) rfl) ?_
        refine z_iload ok dL_acts_865 rfl ?_
        refine z_iload ok dL_acts_867 rfl ?_
        refine z_iload ok dL_acts_869 rfl ?_
        refine z_iload ok dL_acts_871 rfl ?_
        have ho873ω := hoω.fr (show zFr M _ (c + 251) 6 from zFr.rf)
        obtain ⟨fs873ω, hs873ω⟩ := ho873ω.self
        refine z_callVi ok dL_acts_873 zm_X6_offer zw_518 zi_X6_offer hs873ω rfl (ho873ω.to_offer hNω) rfl rfl (by decide) (by decide) (by decide) (Nat.le_of_ble_eq_true rfl) (fun xz75ω Mz76ω qz77ω => ?_)
        have hocω := spO_c (p := 1 + Y % 4) (b := (1 + ((Y / 11) % 30))) (w := (1 + ((Y / 13) % 30))) (r := ((Y / 5) % 1000)) (h := ((Y / 9) % 15)) (by omega) (by omega) (by omega) (by omega) (by omega)
        obtain ⟨hfqω, hxeω, hoqω⟩ := (qz77ω).inl ((if_pos hocω).trans (if_pos ho9ω))
        have hfzω := ((show zFr M _ (c + 251) 6 from zFr.rf).w (c := c) (by omega) (by omega)).tr (hfqω.w (c := c) (by omega) (by omega))
        have hm78ω := ((hmω).eqs (rfl)).fr hfqω
        refine z_ldc ok dL_acts_876 zw_383 ?_
        refine z_icmp_ne (tgt := 885) ok dL_acts_878 (by decide) (fun q9ω => absurd hxeω q9ω) (fun _ => ?_)
        refine z_iconst (v := 1) ok dL_acts_881 (by decide) ?_
        refine z_goto (tgt := 886) ok dL_acts_882 (by decide) ?_
        exact z_iret ok dL_acts_886 rfl rfl rfl (Nat.zero_le _) ⟨rfl, s, n, nv, no, τ, ⟨hoqω, hm78ω, hwω, hxω⟩, hτ, by omega, hfzω⟩
    · refine z_bipush (v := 100) ok dL_acts_815 (by decide) ?_
      refine z_goto (tgt := 822) ok dL_acts_817 (by decide) ?_
      refine z_irem ok dL_acts_822 (by decide) ?_
      refine zV_eqi (yrem (d := 100) rfl (by omega) (by omega) (by omega)) ?_
      refine z_istore ok dL_acts_823 (by decide) rfl ?_
      refine z_iconst (v := 1) ok dL_acts_825 (by decide) ?_
      refine z_iload ok dL_acts_826 rfl ?_
      refine z_bipush (v := 11) ok dL_acts_828 (by decide) ?_
      refine z_idiv ok dL_acts_830 (by decide) ?_
      refine zV_eqi (ydiv (d := 11) rfl (by omega) (by omega) (by omega)) ?_
      refine z_bipush (v := 30) ok dL_acts_831 (by decide) ?_
      refine z_irem ok dL_acts_833 (by decide) ?_
      refine zV_eqi (yrem (d := 30) rfl (by omega) (by omega) (by omega)) ?_
      refine z_iadd ok dL_acts_834 ?_
      refine zV_eqi (yadd (a := 1) rfl) ?_
      refine z_istore ok dL_acts_835 (by decide) rfl ?_
      refine z_iconst (v := 1) ok dL_acts_837 (by decide) ?_
      refine z_iload ok dL_acts_838 rfl ?_
      refine z_bipush (v := 13) ok dL_acts_840 (by decide) ?_
      refine z_idiv ok dL_acts_842 (by decide) ?_
      refine zV_eqi (ydiv (d := 13) rfl (by omega) (by omega) (by omega)) ?_
      refine z_bipush (v := 30) ok dL_acts_843 (by decide) ?_
      refine z_irem ok dL_acts_845 (by decide) ?_
      refine zV_eqi (yrem (d := 30) rfl (by omega) (by omega) (by omega)) ?_
      refine z_iadd ok dL_acts_846 ?_
      refine zV_eqi (yadd (a := 1) rfl) ?_
      refine z_istore ok dL_acts_847 (by decide) rfl ?_
      refine z_aload_n ok dL_acts_849 rfl ?_
      refine z_bipush (v := 6) ok dL_acts_850 (by decide) ?_
      refine l_ldG (t := 6) ok dL_acts_852 hmω rfl (by decide) ?_
      refine z_bipush (v := 10) ok dL_acts_853 (by decide) ?_
      refine z_icmp_ne (tgt := 887) ok dL_acts_855 (by decide) (fun cz855ω => ?_) (fun cz855ω => ?_)
      · have ho9ω : no < 10 := Nat.lt_of_le_of_ne hno10ω (fun z9ω => cz855ω (by rw [hNω.2.2.2.2.1, z9ω]; rfl))
        obtain ⟨f0ω, f1ω, f2ω, f3ω, f4ω, f5ω, hr0ω, hrω⟩ := (hmω).raw
        refine z_iconst (v := 5) ok dL_acts_887 (by decide) ?_
        refine z_aload_n ok dL_acts_888 rfl ?_
        refine z_bipush (v := 6) ok dL_acts_889 (by decide) ?_
        refine r_ald0 6 ok dL_acts_891 hr0ω rfl (by omega) ?_
        refine zV_eqi ((hrω.1 6 (by omega)).trans hNω.2.2.2.2.1) ?_
        refine z_imul ok dL_acts_892 ?_
        refine z_istore ok dL_acts_893 (by decide) rfl ?_
        refine z_aload ok dL_acts_895 rfl ?_
        refine z_iload ok dL_acts_897 rfl ?_
        refine z_iconst (v := 1) ok dL_acts_899 (by decide) ?_
        refine z_iload ok dL_acts_900 rfl ?_
        refine z_iconst (v := 4) ok dL_acts_902 (by decide) ?_
        refine z_irem ok dL_acts_903 (by decide) ?_
        refine zV_eqi (yrem (d := 4) rfl (by omega) (by omega) (by omega)) ?_
        refine z_iadd ok dL_acts_904 ?_
        refine zV_eqi (yadd (a := 1) rfl) ?_
        refine r_ast5 (5 * no + 0) ok dL_acts_905 hr0ω (lx5_0 no) (by omega) (fun Mz80ω hm79ω frz81ω => ?_)
        refine z_aload ok dL_acts_906 rfl ?_
        refine z_iload ok dL_acts_908 rfl ?_
        refine z_iconst (v := 1) ok dL_acts_910 (by decide) ?_
        refine z_iadd ok dL_acts_911 ?_
        refine z_iload ok dL_acts_912 rfl ?_
        refine r_ast5 (5 * no + 1) ok dL_acts_914 hm79ω (lx5_1 no) (by omega) (fun Mz83ω hm82ω frz84ω => ?_)
        refine z_aload ok dL_acts_915 rfl ?_
        refine z_iload ok dL_acts_917 rfl ?_
        refine z_iconst (v := 2) ok dL_acts_919 (by decide) ?_
        refine z_iadd ok dL_acts_920 ?_
        refine z_iload ok dL_acts_921 rfl ?_
        refine r_ast5 (5 * no + 2) ok dL_acts_923 hm82ω (lx5_2 no) (by omega) (fun Mz86ω hm85ω frz87ω => ?_)
        refine z_aload ok dL_acts_924 rfl ?_
        refine z_iload ok dL_acts_926 rfl ?_
        refine z_iconst (v := 3) ok dL_acts_928 (by decide) ?_
        refine z_iadd ok dL_acts_929 ?_
        refine z_iload ok dL_acts_930 rfl ?_
        refine r_ast5 (5 * no + 3) ok dL_acts_932 hm85ω (lx5_3 no) (by omega) (fun Mz89ω hm88ω frz90ω => ?_)
        refine z_aload ok dL_acts_933 rfl ?_
        refine z_iload ok dL_acts_935 rfl ?_
        refine z_iconst (v := 4) ok dL_acts_937 (by decide) ?_
        refine z_iadd ok dL_acts_938 ?_
        refine z_aload_n ok dL_acts_939 rfl ?_
        refine z_iconst (v := 5) ok dL_acts_940 (by decide) ?_
        refine r_ald0 5 ok dL_acts_941 hm88ω rfl (by omega) ?_
        refine z_iload ok dL_acts_942 rfl ?_
        refine z_iadd ok dL_acts_944 ?_
        refine r_ast5 (5 * no + 4) ok dL_acts_945 hm88ω (lx5_4 no) (by omega) (fun Mz92ω hm91ω frz93ω => ?_)
        refine z_aload_n ok dL_acts_946 rfl ?_
        refine z_bipush (v := 6) ok dL_acts_947 (by decide) ?_
        refine z_dup2 ok dL_acts_949 rfl rfl ?_
        refine r_ald0 6 ok dL_acts_950 hm91ω rfl (by omega) ?_
        refine z_iconst (v := 1) ok dL_acts_951 (by decide) ?_
        refine z_iadd ok dL_acts_952 ?_
        refine r_ast0 6 ok dL_acts_953 hm91ω rfl (by omega) (fun Mz95ω hm94ω frz96ω => ?_)
        refine z_aload_n ok dL_acts_954 rfl ?_
        refine z_aload ok dL_acts_955 rfl ?_
        refine z_iload ok dL_acts_957 rfl ?_
        refine r_ald5 (5 * no + 0) ok dL_acts_959 hm94ω (lx5_0 no) (by omega) ?_
        refine zV_eqi (show _ = nI (1 + Y % 4) from by simp [upd]) ?_
        refine z_iload ok dL_acts_960 rfl ?_
        refine z_iload ok dL_acts_962 rfl ?_
        refine z_iload ok dL_acts_964 rfl ?_
        refine z_iload ok dL_acts_966 rfl ?_
        have ho968ω := hoω.fr (show zFr M _ (c + 251) 6 from (zFr.tr zFr.rf (zFr.tr frz81ω (zFr.tr frz84ω (zFr.tr frz87ω (zFr.tr frz90ω (zFr.tr frz93ω frz96ω)))))))
        obtain ⟨fs968ω, hs968ω⟩ := ho968ω.self
        refine z_callVi ok dL_acts_968 zm_X6_offer zw_518 zi_X6_offer hs968ω rfl (ho968ω.to_offer hNω) rfl rfl (by decide) (by decide) (by decide) (Nat.le_of_ble_eq_true rfl) (fun xz97ω Mz98ω qz99ω => ?_)
        have hocω := spO_c (p := 1 + Y % 4) (b := (1 + ((Y / 11) % 30))) (w := (1 + ((Y / 13) % 30))) (r := ((Y / 5) % 1000)) (h := ((Y / 9) % 100)) (by omega) (by omega) (by omega) (by omega) (by omega)
        obtain ⟨hfqω, hxeω, hoqω⟩ := (qz99ω).inr ((if_pos hocω).trans (if_neg (by omega)))
        have hfzω := ((show zFr M _ (c + 251) 6 from (zFr.tr zFr.rf (zFr.tr frz81ω (zFr.tr frz84ω (zFr.tr frz87ω (zFr.tr frz90ω (zFr.tr frz93ω frz96ω))))))).w (c := c) (by omega) (by omega)).tr (hfqω.w (c := c) (by omega) (by omega))
        have hm100ω := (of_fin hrω hNω ho9ω hm94ω).fr hfqω
        refine z_aload_n ok dL_acts_971 rfl ?_
        refine z_bipush (v := 6) ok dL_acts_972 (by decide) ?_
        refine l_ldG (t := 6) ok dL_acts_974 hm100ω rfl (by decide) ?_
        refine z_icmp_ne (tgt := 982) ok dL_acts_975 (by decide) (fun q9ω => absurd hxeω q9ω) (fun _ => ?_)
        refine z_iconst (v := 1) ok dL_acts_978 (by decide) ?_
        refine z_goto (tgt := 983) ok dL_acts_979 (by decide) ?_
        exact z_iret ok dL_acts_983 rfl rfl rfl (Nat.zero_le _) ⟨rfl, _, n, nv, no + 1, τ, ⟨hoqω, hm100ω, hoqω.wf (zN_of hNω ho9ω), hxω.off hwω ho9ω⟩, (zOf_o (q := 5) (by omega) (by omega)).trans hτ, by omega, hfzω⟩
      · have ho9ω : no = 10 := (nI_eq (by omega) (by omega)).mp (hNω.2.2.2.2.1.symm.trans cz855ω)
        refine z_aload_n ok dL_acts_858 rfl ?_
        refine z_iconst (v := 1) ok dL_acts_859 (by decide) ?_
        refine z_iload ok dL_acts_860 rfl ?_
        refine z_iconst (v := 4) ok dL_acts_862 (by decide) ?_
        refine z_irem ok dL_acts_863 (by decide) ?_
        refine zV_eqi (yrem (d := 4) rfl (by omega) (by omega) (by omega)) ?_
        refine z_iadd ok dL_acts_864 ?_
        refine zV_eqi (yadd (a := 1) rfl) ?_
        refine z_iload ok dL_acts_865 rfl ?_
        refine z_iload ok dL_acts_867 rfl ?_
        refine z_iload ok dL_acts_869 rfl ?_
        refine z_iload ok dL_acts_871 rfl ?_
        have ho873ω := hoω.fr (show zFr M _ (c + 251) 6 from zFr.rf)
        obtain ⟨fs873ω, hs873ω⟩ := ho873ω.self
        refine z_callVi ok dL_acts_873 zm_X6_offer zw_518 zi_X6_offer hs873ω rfl (ho873ω.to_offer hNω) rfl rfl (by decide) (by decide) (by decide) (Nat.le_of_ble_eq_true rfl) (fun xz101ω Mz102ω qz103ω => ?_)
        have hocω := spO_c (p := 1 + Y % 4) (b := (1 + ((Y / 11) % 30))) (w := (1 + ((Y / 13) % 30))) (r := ((Y / 5) % 1000)) (h := ((Y / 9) % 100)) (by omega) (by omega) (by omega) (by omega) (by omega)
        obtain ⟨hfqω, hxeω, hoqω⟩ := (qz103ω).inl ((if_pos hocω).trans (if_pos ho9ω))
        have hfzω := ((show zFr M _ (c + 251) 6 from zFr.rf).w (c := c) (by omega) (by omega)).tr (hfqω.w (c := c) (by omega) (by omega))
        have hm104ω := ((hmω).eqs (rfl)).fr hfqω
        refine z_ldc ok dL_acts_876 zw_383 ?_
        refine z_icmp_ne (tgt := 885) ok dL_acts_878 (by decide) (fun q9ω => absurd hxeω q9ω) (fun _ => ?_)
        refine z_iconst (v := 1) ok dL_acts_881 (by decide) ?_
        refine z_goto (tgt := 886) ok dL_acts_882 (by decide) ?_
        exact z_iret ok dL_acts_886 rfl rfl rfl (Nat.zero_le _) ⟨rfl, s, n, nv, no, τ, ⟨hoqω, hm104ω, hwω, hxω⟩, hτ, by omega, hfzω⟩
