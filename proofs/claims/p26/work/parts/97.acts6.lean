set_option maxRecDepth 20000 in
set_option maxHeartbeats 4000000 in
theorem la_991 {K : zK} {M : mM} {B : zB} {c : Nat} {s : Nat → Int32} {n nv no : Nat} (hS : lS M c s n nv no) {τ : Nat} (hτ : s 5 = nI τ) (hτ2 : τ ≤ 5000) {z : Int32} (ok : zOk K yL_acts cL_acts 16 zr_L_acts 7 0 0 B) {Y w : Nat} (hY : Y < 10000000) {u : Nat} (hu : u < nv) : zV 16 B (zE B (zI (fun x M' => x = 1 ∧ ∃ (s' : Nat → Int32) (n' nv' no' τ' : Nat), lS M' c s' n' nv' no' ∧ s' 5 = nI τ' ∧ τ' ≤ τ + 30 ∧ zFr M M' c 257)) 0 0) 991 [some (.ref c), some (.ref (c + 251)), some (.ref (c + 251 + 1)), some (.ref (c + 251 + 2)), some (.ref (c + 251 + 3)), some (.ref (c + 251 + 4)), some (.ref (c + 251 + 5)), some (.int z), some (.int (nI Y)), some (.int (nI w)), some (.int (nI u)), none, none, none, none, none] [] M 0 0 := by
  have hmω := hS.2.1
  have hoω := hS.1
  have hwω := hS.2.2.1
  have hxω := hS.2.2.2
  have hNω := hwω.N
  have hn16ω := hNω.2.1
  have hnv4ω := hNω.2.2.2.1
  have hno10ω := hNω.2.2.2.2.2
  have hu4ω : u < 4 := by omega
  refine z_iconst (v := 1) ok dL_acts_991 (by decide) ?_
  refine z_iload ok dL_acts_992 rfl ?_
  refine z_iload ok dL_acts_994 rfl ?_
  refine z_iconst (v := 5) ok dL_acts_996 (by decide) ?_
  refine z_irem ok dL_acts_997 (by decide) ?_
  refine zV_eqi (yrem (d := 5) rfl (by omega) (by omega) (by omega)) ?_
  refine z_if_ne (tgt := 1006) ok dL_acts_998 (by decide) (fun cz998ω => ?_) (fun cz998ω => ?_)
  · refine z_iconst (v := 5) ok dL_acts_1006 (by decide) ?_
    refine z_irem ok dL_acts_1007 (by decide) ?_
    refine zV_eqi (yrem (d := 5) rfl (by omega) (by omega) (by omega)) ?_
    refine z_iadd ok dL_acts_1008 ?_
    refine zV_eqi (yadd (a := 1) rfl) ?_
    refine z_istore ok dL_acts_1009 (by decide) rfl ?_
    obtain ⟨h0ω, hh0ω⟩ : ∃ h0ω, h0ω = (1 + (Y % 5)) := ⟨_, rfl⟩
    rw [← hh0ω]
    have hh30ω : 1 ≤ h0ω ∧ h0ω ≤ 30 := by omega
    refine z_iconst (v := 0) ok dL_acts_1011 (by decide) ?_
    refine z_istore ok dL_acts_1012 (by decide) rfl ?_
    refine z_iconst (v := 0) ok dL_acts_1014 (by decide) ?_
    refine z_istore ok dL_acts_1015 (by decide) rfl ?_
    have loop1017ω : ∀ (t3ω i3ω : Nat) (s1ω : Nat → Int32) (yω : Int32) (no1ω : Nat) (M3ω : mM), h0ω < i3ω + t3ω → i3ω ≤ h0ω → zPass n nv s i3ω = (s1ω, yω) → zWF s1ω n nv no1ω → zX s1ω n nv → s1ω 5 = nI (τ + i3ω) → lP M3ω (c + 251) s1ω n nv no1ω → zFr M M3ω (c + 251) 6 → zV 16 B (zE B (zI (fun x M' => x = 1 ∧ ∃ (s' : Nat → Int32) (n'ω nv'ω no'ω τ' : Nat), lS M' c s' n'ω nv'ω no'ω ∧ s' 5 = nI τ' ∧ τ' ≤ τ + 30 ∧ zFr M M' c 257)) 0 0) 1017 [some (.ref c), some (.ref (c + 251)), some (.ref (c + 251 + 1)), some (.ref (c + 251 + 2)), some (.ref (c + 251 + 3)), some (.ref (c + 251 + 4)), some (.ref (c + 251 + 5)), some (.int z), some (.int (nI Y)), some (.int (nI w)), some (.int (nI u)), some (.int (nI h0ω)), some (.int yω), some (.int (nI i3ω)), none, none] [] M3ω 0 0 := by
      intro t3ω
      induction t3ω with
      | zero => intro i3ω s1ω yω no1ω M3ω h13ω h23ω; exact absurd h13ω (by omega)
      | succ t3ω ih3ω =>
        intro i3ω s1ω yω no1ω M3ω h13ω h23ω hp3ω hw3ω hx3ω ht3ω hm3ω hf3ω
        refine z_iload ok dL_acts_1017 rfl ?_
        refine z_iload ok dL_acts_1019 rfl ?_
        refine z_icmp_ge (tgt := 1047) ok dL_acts_1021 (by decide) (fun cz1021ω => ?_) (fun cz1021ω => ?_)
        · have hinω : i3ω = h0ω := by have := (nI_leI (by omega) (by omega)).mp cz1021ω; omega
          rw [hinω] at hp3ω ht3ω
          refine z_aload_n ok dL_acts_1047 rfl ?_
          refine z_iload ok dL_acts_1048 rfl ?_
          have ho1050ω := hoω.fr hf3ω
          obtain ⟨fs1050ω, hs1050ω⟩ := ho1050ω.self
          refine z_callVi ok dL_acts_1050 zm_X6_pass zw_535 zi_X6_pass hs1050ω rfl (ho1050ω.to_pass hNω) rfl rfl (by decide) (by decide) (by decide) (Nat.le_of_ble_eq_true rfl) (fun xz1ω Mz2ω qz3ω => ?_)
          obtain ⟨hfqω, hxeω, hoqω⟩ := (qz3ω).inr (spP_ok (h := h0ω) (τ := τ) (by omega) hτ (by omega))
          rw [hp3ω] at hxeω hoqω
          have hfzω := (hf3ω.w (c := c) (by omega) (by omega)).tr (hfqω.w (c := c) (by omega) (by omega))
          have hm4ω := (hm3ω).fr hfqω
          refine z_iload ok dL_acts_1053 rfl ?_
          refine z_icmp_ne (tgt := 1062) ok dL_acts_1055 (by decide) (fun q9ω => absurd hxeω q9ω) (fun _ => ?_)
          refine z_iconst (v := 1) ok dL_acts_1058 (by decide) ?_
          refine z_goto (tgt := 1063) ok dL_acts_1059 (by decide) ?_
          exact z_iret ok dL_acts_1063 rfl rfl rfl (Nat.zero_le _) ⟨rfl, s1ω, n, nv, no1ω, τ + h0ω, ⟨hoqω, hm4ω, hw3ω, hx3ω⟩, ht3ω, by omega, hfzω⟩
        · have ht9ω : s1ω 5 < 9000 := by rw [ht3ω]; exact (nI_ltI (b := 9000) (by omega) (by omega)).mpr (by omega)
          have hi3hω : i3ω < h0ω := by have := mt (nI_leI (a := h0ω) (b := i3ω) (by omega) (by omega)).mpr cz1021ω; omega
          refine z_iload ok dL_acts_1024 rfl ?_
          refine z_aload_n ok dL_acts_1026 rfl ?_
          refine z_aload_n ok dL_acts_1027 rfl ?_
          refine z_aload_n ok dL_acts_1028 rfl ?_
          refine z_aload ok dL_acts_1029 rfl ?_
          refine z_aload ok dL_acts_1031 rfl ?_
          refine z_aload ok dL_acts_1033 rfl ?_
          refine z_callSi ok dL_acts_1035 zm_L_hour zw_526 zw_527 (ct_L_hour hm3ω hw3ω ht9ω) rfl rfl (by decide) (by decide) (by decide) (Nat.le_of_ble_eq_true rfl) (fun xz5ω Mz6ω qz7ω => ?_)
          obtain ⟨rfl, no9ω, hm8ω, hw9ω, hf9ω⟩ := qz7ω
          refine z_iadd ok dL_acts_1038 ?_
          refine z_istore ok dL_acts_1039 (by decide) rfl ?_
          refine z_iinc ok dL_acts_1041 rfl (zinc2 _) (by decide) rfl ?_
          refine z_goto (tgt := 1017) ok dL_acts_1044 (by decide) ?_
          exact ih3ω (i3ω + 1) _ _ no9ω _ (by omega) (by omega) (pass_s hp3ω) hw9ω (hx3ω.hour hw3ω ht9ω) (by rw [zHour_5, ht3ω, nI_1]; rfl) hm8ω (hf3ω.tr hf9ω)
    exact loop1017ω (h0ω + 1) 0 s 0 no M (by omega) (by omega) rfl hwω hxω hτ hmω zFr.rf
  · refine z_bipush (v := 30) ok dL_acts_1001 (by decide) ?_
    refine z_goto (tgt := 1007) ok dL_acts_1003 (by decide) ?_
    refine z_irem ok dL_acts_1007 (by decide) ?_
    refine zV_eqi (yrem (d := 30) rfl (by omega) (by omega) (by omega)) ?_
    refine z_iadd ok dL_acts_1008 ?_
    refine zV_eqi (yadd (a := 1) rfl) ?_
    refine z_istore ok dL_acts_1009 (by decide) rfl ?_
    obtain ⟨h0ω, hh0ω⟩ : ∃ h0ω, h0ω = (1 + (Y % 30)) := ⟨_, rfl⟩
    rw [← hh0ω]
    have hh30ω : 1 ≤ h0ω ∧ h0ω ≤ 30 := by omega
    refine z_iconst (v := 0) ok dL_acts_1011 (by decide) ?_
    refine z_istore ok dL_acts_1012 (by decide) rfl ?_
    refine z_iconst (v := 0) ok dL_acts_1014 (by decide) ?_
    refine z_istore ok dL_acts_1015 (by decide) rfl ?_
    have loop1017ω : ∀ (t3ω i3ω : Nat) (s1ω : Nat → Int32) (yω : Int32) (no1ω : Nat) (M3ω : mM), h0ω < i3ω + t3ω → i3ω ≤ h0ω → zPass n nv s i3ω = (s1ω, yω) → zWF s1ω n nv no1ω → zX s1ω n nv → s1ω 5 = nI (τ + i3ω) → lP M3ω (c + 251) s1ω n nv no1ω → zFr M M3ω (c + 251) 6 → zV 16 B (zE B (zI (fun x M' => x = 1 ∧ ∃ (s' : Nat → Int32) (n'ω nv'ω no'ω τ' : Nat), lS M' c s' n'ω nv'ω no'ω ∧ s' 5 = nI τ' ∧ τ' ≤ τ + 30 ∧ zFr M M' c 257)) 0 0) 1017 [some (.ref c), some (.ref (c + 251)), some (.ref (c + 251 + 1)), some (.ref (c + 251 + 2)), some (.ref (c + 251 + 3)), some (.ref (c + 251 + 4)), some (.ref (c + 251 + 5)), some (.int z), some (.int (nI Y)), some (.int (nI w)), some (.int (nI u)), some (.int (nI h0ω)), some (.int yω), some (.int (nI i3ω)), none, none] [] M3ω 0 0 := by
      intro t3ω
      induction t3ω with
      | zero => intro i3ω s1ω yω no1ω M3ω h13ω h23ω; exact absurd h13ω (by omega)
      | succ t3ω ih3ω =>
        intro i3ω s1ω yω no1ω M3ω h13ω h23ω hp3ω hw3ω hx3ω ht3ω hm3ω hf3ω
        refine z_iload ok dL_acts_1017 rfl ?_
        refine z_iload ok dL_acts_1019 rfl ?_
        refine z_icmp_ge (tgt := 1047) ok dL_acts_1021 (by decide) (fun cz1021ω => ?_) (fun cz1021ω => ?_)
        · have hinω : i3ω = h0ω := by have := (nI_leI (by omega) (by omega)).mp cz1021ω; omega
          rw [hinω] at hp3ω ht3ω
          refine z_aload_n ok dL_acts_1047 rfl ?_
          refine z_iload ok dL_acts_1048 rfl ?_
          have ho1050ω := hoω.fr hf3ω
          obtain ⟨fs1050ω, hs1050ω⟩ := ho1050ω.self
          refine z_callVi ok dL_acts_1050 zm_X6_pass zw_535 zi_X6_pass hs1050ω rfl (ho1050ω.to_pass hNω) rfl rfl (by decide) (by decide) (by decide) (Nat.le_of_ble_eq_true rfl) (fun xz9ω Mz10ω qz11ω => ?_)
          obtain ⟨hfqω, hxeω, hoqω⟩ := (qz11ω).inr (spP_ok (h := h0ω) (τ := τ) (by omega) hτ (by omega))
          rw [hp3ω] at hxeω hoqω
          have hfzω := (hf3ω.w (c := c) (by omega) (by omega)).tr (hfqω.w (c := c) (by omega) (by omega))
          have hm12ω := (hm3ω).fr hfqω
          refine z_iload ok dL_acts_1053 rfl ?_
          refine z_icmp_ne (tgt := 1062) ok dL_acts_1055 (by decide) (fun q9ω => absurd hxeω q9ω) (fun _ => ?_)
          refine z_iconst (v := 1) ok dL_acts_1058 (by decide) ?_
          refine z_goto (tgt := 1063) ok dL_acts_1059 (by decide) ?_
          exact z_iret ok dL_acts_1063 rfl rfl rfl (Nat.zero_le _) ⟨rfl, s1ω, n, nv, no1ω, τ + h0ω, ⟨hoqω, hm12ω, hw3ω, hx3ω⟩, ht3ω, by omega, hfzω⟩
        · have ht9ω : s1ω 5 < 9000 := by rw [ht3ω]; exact (nI_ltI (b := 9000) (by omega) (by omega)).mpr (by omega)
          have hi3hω : i3ω < h0ω := by have := mt (nI_leI (a := h0ω) (b := i3ω) (by omega) (by omega)).mpr cz1021ω; omega
          refine z_iload ok dL_acts_1024 rfl ?_
          refine z_aload_n ok dL_acts_1026 rfl ?_
          refine z_aload_n ok dL_acts_1027 rfl ?_
          refine z_aload_n ok dL_acts_1028 rfl ?_
          refine z_aload ok dL_acts_1029 rfl ?_
          refine z_aload ok dL_acts_1031 rfl ?_
          refine z_aload ok dL_acts_1033 rfl ?_
          refine z_callSi ok dL_acts_1035 zm_L_hour zw_526 zw_527 (ct_L_hour hm3ω hw3ω ht9ω) rfl rfl (by decide) (by decide) (by decide) (Nat.le_of_ble_eq_true rfl) (fun xz13ω Mz14ω qz15ω => ?_)
          obtain ⟨rfl, no9ω, hm16ω, hw9ω, hf9ω⟩ := qz15ω
          refine z_iadd ok dL_acts_1038 ?_
          refine z_istore ok dL_acts_1039 (by decide) rfl ?_
          refine z_iinc ok dL_acts_1041 rfl (zinc2 _) (by decide) rfl ?_
          refine z_goto (tgt := 1017) ok dL_acts_1044 (by decide) ?_
          exact ih3ω (i3ω + 1) _ _ no9ω _ (by omega) (by omega) (pass_s hp3ω) hw9ω (hx3ω.hour hw3ω ht9ω) (by rw [zHour_5, ht3ω, nI_1]; rfl) hm16ω (hf3ω.tr hf9ω)
    exact loop1017ω (h0ω + 1) 0 s 0 no M (by omega) (by omega) rfl hwω hxω hτ hmω zFr.rf
set_option maxRecDepth 20000 in
set_option maxHeartbeats 4000000 in
theorem la_1064 {K : zK} {M : mM} {B : zB} {c : Nat} {s : Nat → Int32} {n nv no : Nat} (hS : lS M c s n nv no) {τ : Nat} (hτ : s 5 = nI τ) (hτ2 : τ ≤ 5000) {z : Int32} (ok : zOk K yL_acts cL_acts 16 zr_L_acts 7 0 0 B) {Y w : Nat} (hY : Y < 10000000) {u : Nat} (hu : u < nv) : zV 16 B (zE B (zI (fun x M' => x = 1 ∧ ∃ (s' : Nat → Int32) (n' nv' no' τ' : Nat), lS M' c s' n' nv' no' ∧ s' 5 = nI τ' ∧ τ' ≤ τ + 30 ∧ zFr M M' c 257)) 0 0) 1064 [some (.ref c), some (.ref (c + 251)), some (.ref (c + 251 + 1)), some (.ref (c + 251 + 2)), some (.ref (c + 251 + 3)), some (.ref (c + 251 + 4)), some (.ref (c + 251 + 5)), some (.int z), some (.int (nI Y)), some (.int (nI w)), some (.int (nI u)), none, none, none, none, none] [] M 0 0 := by
  have hmω := hS.2.1
  have hoω := hS.1
  have hwω := hS.2.2.1
  have hxω := hS.2.2.2
  have hNω := hwω.N
  have hn16ω := hNω.2.1
  have hnv4ω := hNω.2.2.2.1
  have hno10ω := hNω.2.2.2.2.2
  have hu4ω : u < 4 := by omega
  refine z_iload ok dL_acts_1064 rfl ?_
  refine z_iconst (v := 3) ok dL_acts_1066 (by decide) ?_
  refine z_irem ok dL_acts_1067 (by decide) ?_
  refine zV_eqi (yrem (d := 3) rfl (by omega) (by omega) (by omega)) ?_
  rcases (by omega : Y % 3 = 0 ∨ Y % 3 = 1 ∨ Y % 3 = 2) with hk3ω | hk3ω | hk3ω <;> rw [hk3ω]
  · skip
    refine z_istore ok dL_acts_1068 (by decide) rfl ?_
    refine z_aload_n ok dL_acts_1070 rfl ?_
    refine z_iload ok dL_acts_1071 rfl ?_
    refine l_ldG (t := 0) ok dL_acts_1073 hmω rfl (by decide) ?_
    refine z_istore ok dL_acts_1074 (by decide) rfl ?_
    refine z_aload_n ok dL_acts_1076 rfl ?_
    refine z_iload ok dL_acts_1077 rfl ?_
    refine z_iload ok dL_acts_1079 rfl ?_
    refine z_if_ne (tgt := 1096) ok dL_acts_1081 (by decide) (fun q9ω => absurd rfl q9ω) (fun _ => ?_)
    refine z_iconst (v := 1) ok dL_acts_1084 (by decide) ?_
    refine z_iload ok dL_acts_1085 rfl ?_
    refine z_iconst (v := 3) ok dL_acts_1087 (by decide) ?_
    refine z_idiv ok dL_acts_1088 (by decide) ?_
    refine zV_eqi (ydiv (d := 3) rfl (by omega) (by omega) (by omega)) ?_
    refine z_bipush (v := 6) ok dL_acts_1089 (by decide) ?_
    refine z_irem ok dL_acts_1091 (by decide) ?_
    refine zV_eqi (yrem (d := 6) rfl (by omega) (by omega) (by omega)) ?_
    refine z_iadd ok dL_acts_1092 ?_
    refine zV_eqi (yadd (a := 1) rfl) ?_
    refine z_goto (tgt := 1119) ok dL_acts_1093 (by decide) ?_
    refine l_stG (t := 0) ok dL_acts_1119 hmω rfl (by decide) (fun Mz2ω hm1ω frz3ω => ?_)
    refine z_aload_n ok dL_acts_1120 rfl ?_
    refine z_iload ok dL_acts_1121 rfl ?_
    refine z_aload_n ok dL_acts_1123 rfl ?_
    refine z_iload ok dL_acts_1124 rfl ?_
    refine l_ldG (t := 0) ok dL_acts_1126 hm1ω rfl (by decide) ?_
    refine zV_eqi (upd_s _ _ _) ?_
    have ho1127ω := hoω.fr (show zFr M _ (c + 251) 6 from frz3ω)
    obtain ⟨fs1127ω, hs1127ω⟩ := ho1127ω.self
    refine z_callVi ok dL_acts_1127 zm_X6_set zw_575 zi_X6_set hs1127ω rfl (ho1127ω.to_set hNω) rfl rfl (by decide) (by decide) (by decide) (Nat.le_of_ble_eq_true rfl) (fun xz4ω Mz5ω qz6ω => ?_)
    obtain ⟨hfqω, hxeω, hoqω⟩ := (qz6ω).inr (spSet_ok (k := 0) (by omega) (zWq (A := 1) (Z := 24) (by decide) (by decide) (by omega) (by omega)))
    have hfzω := ((show zFr M _ (c + 251) 6 from frz3ω).w (c := c) (by omega) (by omega)).tr (hfqω.w (c := c) (by omega) (by omega))
    have hm7ω := (hm1ω).fr hfqω
    have h5qω : upd s 0 (nI (1 + ((Y / 3) % 6))) 5 = s 5 := upd_n s _ (by decide)
    refine z_iload ok dL_acts_1130 rfl ?_
    refine z_icmp_ne (tgt := 1139) ok dL_acts_1132 (by decide) (fun q9ω => absurd hxeω q9ω) (fun _ => ?_)
    refine z_iconst (v := 1) ok dL_acts_1135 (by decide) ?_
    refine z_goto (tgt := 1140) ok dL_acts_1136 (by decide) ?_
    exact z_iret ok dL_acts_1140 rfl rfl rfl (Nat.zero_le _) ⟨rfl, _, n, nv, no, τ, ⟨hoqω, hm7ω, hoqω.wf (zN_upd hNω (by decide) (by decide) (by decide)), hxω.set hwω (by decide)⟩, h5qω.trans hτ, by omega, hfzω⟩
  · skip
    refine z_istore ok dL_acts_1068 (by decide) rfl ?_
    refine z_aload_n ok dL_acts_1070 rfl ?_
    refine z_iload ok dL_acts_1071 rfl ?_
    refine l_ldG (t := 1) ok dL_acts_1073 hmω rfl (by decide) ?_
    refine z_istore ok dL_acts_1074 (by decide) rfl ?_
    refine z_aload_n ok dL_acts_1076 rfl ?_
    refine z_iload ok dL_acts_1077 rfl ?_
    refine z_iload ok dL_acts_1079 rfl ?_
    refine z_if_ne (tgt := 1096) ok dL_acts_1081 (by decide) (fun _ => ?_) (fun q9ω => absurd q9ω (by decide))
    refine z_iload ok dL_acts_1096 rfl ?_
    refine z_iconst (v := 1) ok dL_acts_1098 (by decide) ?_
    refine z_icmp_ne (tgt := 1112) ok dL_acts_1099 (by decide) (fun q9ω => absurd rfl q9ω) (fun _ => ?_)
    refine z_iload ok dL_acts_1102 rfl ?_
    refine z_iconst (v := 3) ok dL_acts_1104 (by decide) ?_
    refine z_idiv ok dL_acts_1105 (by decide) ?_
    refine zV_eqi (ydiv (d := 3) rfl (by omega) (by omega) (by omega)) ?_
    refine z_bipush (v := 20) ok dL_acts_1106 (by decide) ?_
    refine z_irem ok dL_acts_1108 (by decide) ?_
    refine zV_eqi (yrem (d := 20) rfl (by omega) (by omega) (by omega)) ?_
    refine z_goto (tgt := 1119) ok dL_acts_1109 (by decide) ?_
    refine l_stG (t := 1) ok dL_acts_1119 hmω rfl (by decide) (fun Mz9ω hm8ω frz10ω => ?_)
    refine z_aload_n ok dL_acts_1120 rfl ?_
    refine z_iload ok dL_acts_1121 rfl ?_
    refine z_aload_n ok dL_acts_1123 rfl ?_
    refine z_iload ok dL_acts_1124 rfl ?_
    refine l_ldG (t := 1) ok dL_acts_1126 hm8ω rfl (by decide) ?_
    refine zV_eqi (upd_s _ _ _) ?_
    have ho1127ω := hoω.fr (show zFr M _ (c + 251) 6 from frz10ω)
    obtain ⟨fs1127ω, hs1127ω⟩ := ho1127ω.self
    refine z_callVi ok dL_acts_1127 zm_X6_set zw_575 zi_X6_set hs1127ω rfl (ho1127ω.to_set hNω) rfl rfl (by decide) (by decide) (by decide) (Nat.le_of_ble_eq_true rfl) (fun xz11ω Mz12ω qz13ω => ?_)
    obtain ⟨hfqω, hxeω, hoqω⟩ := (qz13ω).inr (spSet_ok (k := 1) (by omega) (zWq (A := 0) (Z := 99) (by decide) (by decide) (by omega) (by omega)))
    have hfzω := ((show zFr M _ (c + 251) 6 from frz10ω).w (c := c) (by omega) (by omega)).tr (hfqω.w (c := c) (by omega) (by omega))
    have hm14ω := (hm8ω).fr hfqω
    have h5qω : upd s 1 (nI ((Y / 3) % 20)) 5 = s 5 := upd_n s _ (by decide)
    refine z_iload ok dL_acts_1130 rfl ?_
    refine z_icmp_ne (tgt := 1139) ok dL_acts_1132 (by decide) (fun q9ω => absurd hxeω q9ω) (fun _ => ?_)
    refine z_iconst (v := 1) ok dL_acts_1135 (by decide) ?_
    refine z_goto (tgt := 1140) ok dL_acts_1136 (by decide) ?_
    exact z_iret ok dL_acts_1140 rfl rfl rfl (Nat.zero_le _) ⟨rfl, _, n, nv, no, τ, ⟨hoqω, hm14ω, hoqω.wf (zN_upd hNω (by decide) (by decide) (by decide)), hxω.set hwω (by decide)⟩, h5qω.trans hτ, by omega, hfzω⟩
  · skip
    refine z_istore ok dL_acts_1068 (by decide) rfl ?_
    refine z_aload_n ok dL_acts_1070 rfl ?_
    refine z_iload ok dL_acts_1071 rfl ?_
    refine l_ldG (t := 2) ok dL_acts_1073 hmω rfl (by decide) ?_
    refine z_istore ok dL_acts_1074 (by decide) rfl ?_
    refine z_aload_n ok dL_acts_1076 rfl ?_
    refine z_iload ok dL_acts_1077 rfl ?_
    refine z_iload ok dL_acts_1079 rfl ?_
    refine z_if_ne (tgt := 1096) ok dL_acts_1081 (by decide) (fun _ => ?_) (fun q9ω => absurd q9ω (by decide))
    refine z_iload ok dL_acts_1096 rfl ?_
    refine z_iconst (v := 1) ok dL_acts_1098 (by decide) ?_
    refine z_icmp_ne (tgt := 1112) ok dL_acts_1099 (by decide) (fun _ => ?_) (fun q9ω => absurd q9ω (by decide))
    refine z_iload ok dL_acts_1112 rfl ?_
    refine z_iconst (v := 3) ok dL_acts_1114 (by decide) ?_
    refine z_idiv ok dL_acts_1115 (by decide) ?_
    refine zV_eqi (ydiv (d := 3) rfl (by omega) (by omega) (by omega)) ?_
    refine z_bipush (v := 21) ok dL_acts_1116 (by decide) ?_
    refine z_irem ok dL_acts_1118 (by decide) ?_
    refine zV_eqi (yrem (d := 21) rfl (by omega) (by omega) (by omega)) ?_
    refine l_stG (t := 2) ok dL_acts_1119 hmω rfl (by decide) (fun Mz16ω hm15ω frz17ω => ?_)
    refine z_aload_n ok dL_acts_1120 rfl ?_
    refine z_iload ok dL_acts_1121 rfl ?_
    refine z_aload_n ok dL_acts_1123 rfl ?_
    refine z_iload ok dL_acts_1124 rfl ?_
    refine l_ldG (t := 2) ok dL_acts_1126 hm15ω rfl (by decide) ?_
    refine zV_eqi (upd_s _ _ _) ?_
    have ho1127ω := hoω.fr (show zFr M _ (c + 251) 6 from frz17ω)
    obtain ⟨fs1127ω, hs1127ω⟩ := ho1127ω.self
    refine z_callVi ok dL_acts_1127 zm_X6_set zw_575 zi_X6_set hs1127ω rfl (ho1127ω.to_set hNω) rfl rfl (by decide) (by decide) (by decide) (Nat.le_of_ble_eq_true rfl) (fun xz18ω Mz19ω qz20ω => ?_)
    obtain ⟨hfqω, hxeω, hoqω⟩ := (qz20ω).inr (spSet_ok (k := 2) (by omega) (zWq (A := 0) (Z := 20) (by decide) (by decide) (by omega) (by omega)))
    have hfzω := ((show zFr M _ (c + 251) 6 from frz17ω).w (c := c) (by omega) (by omega)).tr (hfqω.w (c := c) (by omega) (by omega))
    have hm21ω := (hm15ω).fr hfqω
    have h5qω : upd s 2 (nI ((Y / 3) % 21)) 5 = s 5 := upd_n s _ (by decide)
    refine z_iload ok dL_acts_1130 rfl ?_
    refine z_icmp_ne (tgt := 1139) ok dL_acts_1132 (by decide) (fun q9ω => absurd hxeω q9ω) (fun _ => ?_)
    refine z_iconst (v := 1) ok dL_acts_1135 (by decide) ?_
    refine z_goto (tgt := 1140) ok dL_acts_1136 (by decide) ?_
    exact z_iret ok dL_acts_1140 rfl rfl rfl (Nat.zero_le _) ⟨rfl, _, n, nv, no, τ, ⟨hoqω, hm21ω, hoqω.wf (zN_upd hNω (by decide) (by decide) (by decide)), hxω.set hwω (by decide)⟩, h5qω.trans hτ, by omega, hfzω⟩
set_option maxRecDepth 20000 in
set_option maxHeartbeats 1000000 in
theorem ct_L_acts {K : zK} {M : mM} {nx : Nat} {c : Nat} {s : Nat → Int32} {n nv no : Nat} (hS : lS M c s n nv no) {τ : Nat} (hτ : s 5 = nI τ) (hτ2 : τ ≤ 5000) {z : Int32} : zCt K yL_acts cL_acts 16 zr_L_acts 7 [.ref c, .ref (c + 251), .ref (c + 251 + 1), .ref (c + 251 + 2), .ref (c + 251 + 3), .ref (c + 251 + 4), .ref (c + 251 + 5), .int z] M nx 0 0 (zI (fun x M' => x = 1 ∧ ∃ (s' : Nat → Int32) (n' nv' no' τ' : Nat), lS M' c s' n' nv' no' ∧ s' 5 = nI τ' ∧ τ' ≤ τ + 30 ∧ zFr M M' c 257)) := by
  refine z_enter [some (.ref c), some (.ref (c + 251)), some (.ref (c + 251 + 1)), some (.ref (c + 251 + 2)), some (.ref (c + 251 + 3)), some (.ref (c + 251 + 4)), some (.ref (c + 251 + 5)), some (.int z), none, none, none, none, none, none, none, none] (by decide +kernel) (Nat.le_of_ble_eq_true rfl) rfl (fun Bω okω hzω => ?_)
  have hmω := hS.2.1
  have hoω := hS.1
  have hwω := hS.2.2.1
  have hxω := hS.2.2.2
  have hNω := hwω.N
  have hn16ω := hNω.2.1
  have hnv4ω := hNω.2.2.2.1
  have hno10ω := hNω.2.2.2.2.2
  refine z_iload okω dL_acts_0 rfl ?_
  refine z_iconst (v := 5) okω dL_acts_2 (by decide) ?_
  refine z_ishr okω dL_acts_3 ?_
  refine z_ldc okω dL_acts_4 zw_331 ?_
  refine z_callSi okω dL_acts_6 zm_L_low zw_324 zw_325 (ct_L_low (W := 10000000) (by omega) (by omega)) rfl rfl (by decide) (by decide) (by decide) (Nat.le_of_ble_eq_true rfl) (fun xz1ω Mz2ω qz3ω => ?_)
  obtain ⟨⟨Yω, hYω, rfl⟩, hMeω⟩ := qz3ω
  obtain rfl := hMeω.symm
  refine z_istore okω dL_acts_9 (by decide) rfl ?_
  refine z_iload okω dL_acts_11 rfl ?_
  refine z_bipush (v := 26) okω dL_acts_13 (by decide) ?_
  refine z_callSi okω dL_acts_15 zm_L_low zw_324 zw_325 (ct_L_low (W := 26) (by omega) (by omega)) rfl rfl (by decide) (by decide) (by decide) (Nat.le_of_ble_eq_true rfl) (fun xz4ω Mz5ω qz6ω => ?_)
  obtain ⟨⟨wω, hw26ω, rfl⟩, hMeω⟩ := qz6ω
  obtain rfl := hMeω.symm
  refine z_istore okω dL_acts_18 (by decide) rfl ?_
  refine z_iload okω dL_acts_20 rfl ?_
  refine z_bipush (v := 6) okω dL_acts_22 (by decide) ?_
  refine z_icmp_ge (tgt := 53) okω dL_acts_24 (by decide) (fun cz24ω => ?_) (fun cz24ω => ?_)
  · refine z_iload okω dL_acts_53 rfl ?_
    refine z_bipush (v := 6) okω dL_acts_55 (by decide) ?_
    refine z_icmp_eq (tgt := 66) okω dL_acts_57 (by decide) (fun cz57ω => ?_) (fun cz57ω => ?_)
    · exact la_66 hS hτ hτ2 okω hYω
    · refine z_aload_n okω dL_acts_60 rfl ?_
      refine z_iconst (v := 4) okω dL_acts_61 (by decide) ?_
      refine l_ldG (t := 4) okω dL_acts_62 hmω rfl (by decide) ?_
      refine z_if_ne (tgt := 218) okω dL_acts_63 (by decide) (fun cz63ω => ?_) (fun cz63ω => ?_)
      · have hvpω : 0 < nv := Nat.pos_of_ne_zero (fun z9ω => cz63ω (by rw [hNω.2.2.1, z9ω]; rfl))
        refine z_iload okω dL_acts_218 rfl ?_
        refine z_aload_n okω dL_acts_220 rfl ?_
        refine z_iconst (v := 4) okω dL_acts_221 (by decide) ?_
        refine l_ldG (t := 4) okω dL_acts_222 hmω rfl (by decide) ?_
        refine zV_eqi hNω.2.2.1 ?_
        refine z_irem okω dL_acts_223 (fun z9ω => absurd (nI_eq0 (by omega) z9ω) (by omega)) ?_
        refine zV_eqi (pk_rem (by omega) hvpω (by omega)) ?_
        obtain ⟨uω, hugω⟩ : ∃ uω, uω = Yω % nv := ⟨_, rfl⟩
        rw [← hugω]
        have huω : uω < nv := by rw [hugω]; exact Nat.mod_lt _ hvpω
        have hu4ω : uω < 4 := by omega
        refine z_istore okω dL_acts_224 (by decide) rfl ?_
        refine z_iload okω dL_acts_226 rfl ?_
        refine z_bipush (v := 10) okω dL_acts_228 (by decide) ?_
        refine z_icmp_ge (tgt := 351) okω dL_acts_230 (by decide) (fun cz230ω => ?_) (fun cz230ω => ?_)
        · refine z_iload okω dL_acts_351 rfl ?_
          refine z_bipush (v := 10) okω dL_acts_353 (by decide) ?_
          refine z_icmp_ne (tgt := 456) okω dL_acts_355 (by decide) (fun cz355ω => ?_) (fun cz355ω => ?_)
          · refine z_iload okω dL_acts_456 rfl ?_
            refine z_bipush (v := 13) okω dL_acts_458 (by decide) ?_
            refine z_icmp_ge (tgt := 576) okω dL_acts_460 (by decide) (fun cz460ω => ?_) (fun cz460ω => ?_)
            · refine z_iload okω dL_acts_576 rfl ?_
              refine z_bipush (v := 17) okω dL_acts_578 (by decide) ?_
              refine z_icmp_ge (tgt := 775) okω dL_acts_580 (by decide) (fun cz580ω => ?_) (fun cz580ω => ?_)
              · refine z_iload okω dL_acts_775 rfl ?_
                refine z_bipush (v := 20) okω dL_acts_777 (by decide) ?_
                refine z_icmp_ge (tgt := 984) okω dL_acts_779 (by decide) (fun cz779ω => ?_) (fun cz779ω => ?_)
                · refine z_iload okω dL_acts_984 rfl ?_
                  refine z_bipush (v := 25) okω dL_acts_986 (by decide) ?_
                  refine z_icmp_ge (tgt := 1064) okω dL_acts_988 (by decide) (fun cz988ω => ?_) (fun cz988ω => ?_)
                  · exact la_1064 hS hτ hτ2 okω hYω huω
                  · exact la_991 hS hτ hτ2 okω hYω huω
                · exact la_782 hS hτ hτ2 okω hYω huω
              · exact la_583 hS hτ hτ2 okω hYω huω
            · exact la_463 hS hτ hτ2 okω hYω huω
          · exact la_358 hS hτ hτ2 okω hYω huω
        · exact la_233 hS hτ hτ2 okω hYω huω
      · exact la_66 hS hτ hτ2 okω hYω
  · have hw6ω : wω < 6 := by have := mt (nI_leI (a := 6) (b := wω) (by omega) (by omega)).mpr cz24ω; omega
    refine z_aload_n okω dL_acts_27 rfl ?_
    refine z_aload_n okω dL_acts_28 rfl ?_
    refine z_aload_n okω dL_acts_29 rfl ?_
    refine z_aload_n okω dL_acts_30 rfl ?_
    refine z_aload okω dL_acts_31 rfl ?_
    refine z_iload okω dL_acts_33 rfl ?_
    refine z_iconst (v := 3) okω dL_acts_35 (by decide) ?_
    refine z_icmp_ge (tgt := 43) okω dL_acts_36 (by decide) (fun cz36ω => ?_) (fun cz36ω => ?_)
    · have hw3ω : 3 ≤ wω := (nI_leI (a := 3) (b := wω) (by omega) (by omega)).mp cz36ω
      rcases (by omega : wω = 3 ∨ wω = 4 ∨ wω = 5) with hw9ω | hw9ω | hw9ω
      · subst hw9ω
        refine z_iload okω dL_acts_43 rfl ?_
        refine z_iconst (v := 2) okω dL_acts_45 (by decide) ?_
        refine z_isub okω dL_acts_46 ?_
        refine zV_eqi (show nI 3 - 2 = 1 from by decide) ?_
        refine z_iload okω dL_acts_47 rfl ?_
        refine z_callSi okω dL_acts_49 zm_L_goods zw_332 zw_333 (ct_L_goods1 hS hYω hτ hτ2) rfl rfl (by decide) (by decide) (by decide) (Nat.le_of_ble_eq_true rfl) (fun xz7ω Mz8ω qz9ω => ?_)
        obtain ⟨rfl, s9ω, n9ω, hS9ω, h59ω, hfzω⟩ := qz9ω
        exact z_iret okω dL_acts_52 rfl rfl rfl (Nat.zero_le _) ⟨rfl, s9ω, n9ω, nv, no, τ, hS9ω, h59ω.trans hτ, by omega, hfzω⟩
      · subst hw9ω
        refine z_iload okω dL_acts_43 rfl ?_
        refine z_iconst (v := 2) okω dL_acts_45 (by decide) ?_
        refine z_isub okω dL_acts_46 ?_
        refine zV_eqi (show nI 4 - 2 = 2 from by decide) ?_
        refine z_iload okω dL_acts_47 rfl ?_
        refine z_callSi okω dL_acts_49 zm_L_goods zw_332 zw_333 (ct_L_goods2 hS hYω hτ hτ2) rfl rfl (by decide) (by decide) (by decide) (Nat.le_of_ble_eq_true rfl) (fun xz10ω Mz11ω qz12ω => ?_)
        obtain ⟨rfl, s9ω, n9ω, hS9ω, h59ω, hfzω⟩ := qz12ω
        exact z_iret okω dL_acts_52 rfl rfl rfl (Nat.zero_le _) ⟨rfl, s9ω, n9ω, nv, no, τ, hS9ω, h59ω.trans hτ, by omega, hfzω⟩
      · subst hw9ω
        refine z_iload okω dL_acts_43 rfl ?_
        refine z_iconst (v := 2) okω dL_acts_45 (by decide) ?_
        refine z_isub okω dL_acts_46 ?_
        refine zV_eqi (show nI 5 - 2 = 3 from by decide) ?_
        refine z_iload okω dL_acts_47 rfl ?_
        refine z_callSi okω dL_acts_49 zm_L_goods zw_332 zw_333 (ct_L_goods3 hS hYω hτ hτ2) rfl rfl (by decide) (by decide) (by decide) (Nat.le_of_ble_eq_true rfl) (fun xz13ω Mz14ω qz15ω => ?_)
        obtain ⟨rfl, s9ω, n9ω, hS9ω, h59ω, hfzω⟩ := qz15ω
        exact z_iret okω dL_acts_52 rfl rfl rfl (Nat.zero_le _) ⟨rfl, s9ω, n9ω, nv, no, τ, hS9ω, h59ω.trans hτ, by omega, hfzω⟩
    · refine z_iconst (v := 0) okω dL_acts_39 (by decide) ?_
      refine z_goto (tgt := 47) okω dL_acts_40 (by decide) ?_
      refine z_iload okω dL_acts_47 rfl ?_
      refine z_callSi okω dL_acts_49 zm_L_goods zw_332 zw_333 (ct_L_goods0 hS hYω hτ hτ2) rfl rfl (by decide) (by decide) (by decide) (Nat.le_of_ble_eq_true rfl) (fun xz16ω Mz17ω qz18ω => ?_)
      obtain ⟨rfl, s9ω, n9ω, hS9ω, h59ω, hfzω⟩ := qz18ω
      exact z_iret okω dL_acts_52 rfl rfl rfl (Nat.zero_le _) ⟨rfl, s9ω, n9ω, nv, no, τ, hS9ω, h59ω.trans hτ, by omega, hfzω⟩

