theorem zV_kn {nL : Nat} {B : zB} {Q : State → Prop} {pc : Nat} {L : List (Option Value)} {stk : List Value} {M : mM} {k n k' n' : Nat} (h : zV nL B Q pc L stk M k n) (hk : k = k') (hn : n = n') : zV nL B Q pc L stk M k' n' := by
  rw [← hk, ← hn]
  exact h
def zRP (M : mM) (a j N i : Nat) (g : Nat → Nat) : Prop := ∃ f : Nat → Option Nat, M a = some (.inl (j, N, .inr (.inr (.inr (.inr f))))) ∧ ∀ q, q < i → f q = some (g q)
theorem zRP.kept {M M' : mM} {a j N i : Nat} {g : Nat → Nat} (h : zRP M a j N i g) (hq : M' a = M a) : zRP M' a j N i g := by
  obtain ⟨fω, h1ω, h2ω⟩ := h
  exact ⟨fω, hq.trans h1ω, h2ω⟩
theorem zRP.up {M' : mM} {a j N i v : Nat} {f : Nat → Option Nat} {g : Nat → Nat} (h2 : ∀ q, q < i → f q = some (g q)) (hv : v = g i) (hq : M' a = some (.inl (j, N, .inr (.inr (.inr (.inr (va_up f i (some v)))))))) : zRP M' a j N (i + 1) g := by
  refine ⟨_, hq, fun qω hq9ω => ?_⟩
  unfold va_up
  by_cases h : qω = i
  · rw [if_pos h, h, hv]
  · rw [if_neg h]
    exact h2 qω (by omega)
def s30 : Nat → Int32 := upd (upd (upd (fun _ => 0) 0 3) 1 8) 2 1
def g0N (x : Int32) : Nat → Int32 := upd (fun _ => 0) 0 x
def hI (M : mM) (b i v o : Nat) : Prop := M b = some (.inr (1, hFs b (fun _ => 0))) ∧ zArr M (b + 4) 3 s30 ∧ zRP M (b + 1) 3 16 i (fun j => b + 5 + j) ∧ zRP M (b + 2) 4 4 v (fun j => b + 21 + j) ∧ zRP M (b + 3) 5 10 o (fun j => b + 25 + j) ∧ (∀ j, j < i → M (b + 5 + j) = some (.inr (0, cFs (g0N (nI j))))) ∧ (∀ j, j < v → M (b + 21 + j) = some (.inr (5, vFs (g0N (nI j))))) ∧ ∀ j, j < o → M (b + 25 + j) = some (.inr (3, oFs (fun _ => 0)))
def κ0 : hK := fun a i => if a = 0 then g0N (nI i) else if a = 1 then g0N (nI i) else if a = 3 then s30 else fun _ => 0
theorem hI.pic {M : mM} {b : Nat} (h : hI M b 16 4 10) : hPicP M b κ0 (fun i => i) := by
  obtain ⟨h1ω, h2ω, h3ω, h4ω, h5ω, h6ω, h7ω, h8ω⟩ := h
  exact ⟨h1ω, h3ω, h4ω, h2ω, fun iω hiω => ⟨h6ω iω hiω, rfl⟩, fun iω hiω => ⟨h7ω iω hiω, rfl⟩, ⟨fun iω hiω => hiω, fun iω hiω jω hjω heω => heω⟩, h5ω, fun iω hiω => h8ω iω hiω⟩
theorem hI.c {M M' : mM} {b i : Nat} {f : Nat → Option Nat} (h : hI M b i 0 0) (h2 : ∀ q, q < i → f q = some (b + 5 + q)) (ho : M' (b + 5 + i) = some (.inr (0, cFs (g0N (nI i))))) (ha : M' (b + 1) = some (.inl (3, 16, .inr (.inr (.inr (.inr (va_up f i (some (b + 5 + i))))))))) (hq : ∀ q, q ≠ b + 5 + i → q ≠ b + 1 → M' q = M q) : hI M' b (i + 1) 0 0 := by
  obtain ⟨a1ω, a2ω, a3ω, a4ω, a5ω, a6ω, a7ω, a8ω⟩ := h
  refine ⟨(hq _ (by omega) (by omega)).trans a1ω, a2ω.kept (hq _ (by omega) (by omega)), zRP.up h2 rfl ha, a4ω.kept (hq _ (by omega) (by omega)), a5ω.kept (hq _ (by omega) (by omega)), fun jω hjω => ?_, fun jω hjω => absurd hjω (Nat.not_lt_zero _), fun jω hjω => absurd hjω (Nat.not_lt_zero _)⟩
  by_cases hji : jω = i
  · rw [hji]; exact ho
  · exact (hq _ (by omega) (by omega)).trans (a6ω jω (by omega))
theorem hI.v {M M' : mM} {b i : Nat} {f : Nat → Option Nat} (h : hI M b 16 i 0) (h2 : ∀ q, q < i → f q = some (b + 21 + q)) (ho : M' (b + 21 + i) = some (.inr (5, vFs (g0N (nI i))))) (ha : M' (b + 2) = some (.inl (4, 4, .inr (.inr (.inr (.inr (va_up f i (some (b + 21 + i))))))))) (hq : ∀ q, q ≠ b + 21 + i → q ≠ b + 2 → M' q = M q) : hI M' b 16 (i + 1) 0 := by
  obtain ⟨a1ω, a2ω, a3ω, a4ω, a5ω, a6ω, a7ω, a8ω⟩ := h
  refine ⟨(hq _ (by omega) (by omega)).trans a1ω, a2ω.kept (hq _ (by omega) (by omega)), a3ω.kept (hq _ (by omega) (by omega)), zRP.up h2 rfl ha, a5ω.kept (hq _ (by omega) (by omega)), fun jω hjω => (hq _ (by omega) (by omega)).trans (a6ω jω hjω), fun jω hjω => ?_, fun jω hjω => absurd hjω (Nat.not_lt_zero _)⟩
  by_cases hji : jω = i
  · rw [hji]; exact ho
  · exact (hq _ (by omega) (by omega)).trans (a7ω jω (by omega))
theorem hI.o {M M' : mM} {b i : Nat} {f : Nat → Option Nat} (h : hI M b 16 4 i) (h2 : ∀ q, q < i → f q = some (b + 25 + q)) (ho : M' (b + 25 + i) = some (.inr (3, oFs (fun _ => 0)))) (ha : M' (b + 3) = some (.inl (5, 10, .inr (.inr (.inr (.inr (va_up f i (some (b + 25 + i))))))))) (hq : ∀ q, q ≠ b + 25 + i → q ≠ b + 3 → M' q = M q) : hI M' b 16 4 (i + 1) := by
  obtain ⟨a1ω, a2ω, a3ω, a4ω, a5ω, a6ω, a7ω, a8ω⟩ := h
  refine ⟨(hq _ (by omega) (by omega)).trans a1ω, a2ω.kept (hq _ (by omega) (by omega)), a3ω.kept (hq _ (by omega) (by omega)), a4ω.kept (hq _ (by omega) (by omega)), zRP.up h2 rfl ha, fun jω hjω => (hq _ (by omega) (by omega)).trans (a6ω jω hjω), fun jω hjω => (hq _ (by omega) (by omega)).trans (a7ω jω hjω), fun jω hjω => ?_⟩
  by_cases hji : jω = i
  · rw [hji]; exact ho
  · exact (hq _ (by omega) (by omega)).trans (a8ω jω (by omega))
set_option maxRecDepth 20000 in
set_option maxHeartbeats 4000000 in
theorem ct_X0_init {K : zK} {M : mM} {nx : Nat} {a : Nat} {x : Int32} (ha : M a = some (.inr (0, cFs (fun _ => 0)))) : zCt K yX0_init cX0_init 2 zr_X0_init 1 [.ref a, .int x] M nx 0 0 (zU (fun M' => M' a = some (.inr (0, cFs (g0N x))) ∧ ∀ q, q ≠ a → M' q = M q)) := by
  refine z_enter [some (.ref a), some (.int x)] (by decide +kernel) (Nat.le_of_ble_eq_true rfl) rfl (fun Bω okω hzω => ?_)
  refine z_aload_n okω dX0_init_0 rfl ?_
  refine z_objInit okω dX0_init_1 zw_38 zw_20 zw_21 (by decide) (Nat.le_of_ble_eq_true rfl) ?_
  refine z_aload_n okω dX0_init_4 rfl ?_
  refine z_iload_n okω dX0_init_5 rfl ?_
  refine z_putF (T := TX0) (N := 13) (ty := .int) okω dX0_init_6 zin_X0 tyX0 tyX0_ok nmX0 rfl 0 (by decide) zw_39 rfl rfl rfl ha (by decide +kernel) rfl rfl (Nat.le_of_ble_eq_true rfl) ?_
  rw [cFs_set _ _ (by decide)]
  refine zV_up (fun _ heω huω => ?_)
  exact z_vret okω dX0_init_9 rfl rfl (Nat.zero_le _) ⟨heω, huω⟩

set_option maxRecDepth 20000 in
set_option maxHeartbeats 4000000 in
theorem ct_X5_init {K : zK} {M : mM} {nx : Nat} {a : Nat} {x : Int32} (ha : M a = some (.inr (5, vFs (fun _ => 0)))) : zCt K yX5_init cX5_init 2 zr_X5_init 1 [.ref a, .int x] M nx 0 0 (zU (fun M' => M' a = some (.inr (5, vFs (g0N x))) ∧ ∀ q, q ≠ a → M' q = M q)) := by
  refine z_enter [some (.ref a), some (.int x)] (by decide +kernel) (Nat.le_of_ble_eq_true rfl) rfl (fun Bω okω hzω => ?_)
  refine z_aload_n okω dX5_init_0 rfl ?_
  refine z_objInit okω dX5_init_1 zw_109 zw_20 zw_21 (by decide) (Nat.le_of_ble_eq_true rfl) ?_
  refine z_aload_n okω dX5_init_4 rfl ?_
  refine z_iload_n okω dX5_init_5 rfl ?_
  refine z_putF (T := TX5) (N := 9) (ty := .int) okω dX5_init_6 zin_X5 tyX5 tyX5_ok nmX5 rfl 0 (by decide) zw_110 rfl rfl rfl ha (by decide +kernel) rfl rfl (Nat.le_of_ble_eq_true rfl) ?_
  rw [vFs_set _ _ (by decide)]
  refine zV_up (fun _ heω huω => ?_)
  exact z_vret okω dX5_init_9 rfl rfl (Nat.zero_le _) ⟨heω, huω⟩

set_option maxRecDepth 20000 in
set_option maxHeartbeats 4000000 in
theorem ct_X3_init {K : zK} {M : mM} {nx : Nat} {a : Nat} : zCt K yX3_init cX3_init 1 zr_X3_init 1 [.ref a] M nx 0 0 (zU (fun M' => M' = M)) := by
  refine z_enter [some (.ref a)] (by decide +kernel) (Nat.le_of_ble_eq_true rfl) rfl (fun Bω okω hzω => ?_)
  refine z_aload_n okω dX3_init_0 rfl ?_
  refine z_objInit okω dX3_init_1 zw_159 zw_20 zw_21 (by decide) (Nat.le_of_ble_eq_true rfl) ?_
  exact z_vret okω dX3_init_4 rfl rfl (Nat.zero_le _) rfl

set_option maxRecDepth 20000 in
set_option maxHeartbeats 4000000 in
theorem ct_X1_init {K : zK} {M : mM} {b : Nat} (hself : M b = some (.inr (1, [.null, .null, .null, .null, .int 0, .int 0, .int 0, .int 0, .int 0, .int 0, .int 0, .int 0]))) : zCt K yX1_init cX1_init 2 zr_X1_init 2 [.ref b] M (b + 1) 34 327 (zU (fun M' => hPicP M' b κ0 (fun i => i) ∧ zFr M M' b 35)) := by
  refine z_enter [some (.ref b), none] (by decide +kernel) (Nat.le_of_ble_eq_true rfl) rfl (fun Bω okω hzω => ?_)
  have loop107ω : ∀ (tω iω : Nat) (M1ω : mM), 10 < iω + tω → iω ≤ 10 → hI M1ω b 16 4 iω → zFr M M1ω b 35 → zV 2 Bω (zE Bω (zU (fun M'ω => hPicP M'ω b κ0 (fun iω => iω) ∧ zFr M M'ω b 35)) 34 327) 107 [some (.ref b), some (.int (nI iω))] [] M1ω (24 + iω) (277 + 5 * iω) := by
    intro tω
    induction tω with
    | zero => intro iω M1ω h1ω h2ω; exact absurd h1ω (by omega)
    | succ tω ihω =>
      intro iω M1ω h1ω h2ω hI1ω hf1ω
      refine z_iload_n okω dX1_init_107 rfl ?_
      refine z_bipush (v := 10) okω dX1_init_108 (by decide) ?_
      refine z_icmp_ge (tgt := 132) okω dX1_init_110 (by decide) (fun czω => ?_) (fun czω => ?_)
      · have hinω : iω = 10 := by have h9ω := (nI_leI (a := 10) (by omega) (by omega)).mp czω; omega
        rw [hinω] at hI1ω ⊢
        exact z_vret okω dX1_init_132 rfl (by omega) (by omega) ⟨hI1ω.pic, hf1ω⟩
      · have hinω : iω < 10 := by have h9ω := mt (nI_leI (a := 10) (b := iω) (by omega) (by omega)).mpr czω; omega
        obtain ⟨fzω, hfzω, hfz2ω⟩ := hI1ω.2.2.2.2.1
        refine z_aload_n okω dX1_init_113 rfl ?_
        refine z_getf okω dX1_init_114 zin_X1 rfl 2 (by decide) zw_188 hI1ω.1 rfl ?_
        refine z_iload_n okω dX1_init_117 rfl ?_
        refine z_new (T := TX3) (N := 5) (ci := 3) (fs := oFs (fun _ => 0)) (a := b + 25 + iω) okω dX1_init_118 zin_X3 tyX3 tyX3_ok rfl zw_32 zw_155 zw_8 (fun jω hjω => match jω, hjω with | 0, _ => rfl | 1, _ => rfl | 2, _ => rfl | 3, _ => rfl | 4, _ => rfl) (by omega) (by omega) (by omega) ?_
        refine zV_up (fun Mnω henω hunω => ?_)
        refine z_dup okω dX1_init_121 rfl ?_
        refine z_callINv okω dX1_init_122 zm_X3_init (fun _ h9ω => h9ω.2.2.2.2.1) zw_157 rfl rfl (ct_X3_init (a := b + 25 + iω)) rfl rfl (by decide) (by omega) (by omega) (Nat.le_of_ble_eq_true rfl) (fun Mcω q9ω => ?_)
        obtain rfl := q9ω.symm
        have hecω := henω
        have hacω := (hunω (b + 3) (by omega)).trans hfzω
        refine z_aastore (r := (RX3, TX3, 5)) okω dX1_init_125 hacω rfl hecω rfl (vp_in_nI hinω (by decide)) ?_
        rw [nI_clamp (by omega)]
        refine zV_up (fun Msω hesω husω => ?_)
        refine z_iinc okω dX1_init_126 rfl (zinc _) (by decide) rfl ?_
        refine z_goto (tgt := 107) okω dX1_init_129 (by decide) ?_
        have hqsω : ∀ qω, qω ≠ b + 25 + iω → qω ≠ b + 3 → Msω qω = M1ω qω := fun qω h9ω h8ω => (husω qω h8ω).trans (hunω qω h9ω)
        exact zV_kn (ihω (iω + 1) Msω (by omega) (by omega) (hI1ω.o hfz2ω ((husω _ (by omega)).trans hecω) hesω hqsω) (fun qω h9ω => (hqsω qω (by omega) (by omega)).trans (hf1ω qω h9ω))) (by omega) (by omega)
  have loop80ω : ∀ (tω iω : Nat) (M1ω : mM), 4 < iω + tω → iω ≤ 4 → hI M1ω b 16 iω 0 → zFr M M1ω b 35 → zV 2 Bω (zE Bω (zU (fun M'ω => hPicP M'ω b κ0 (fun iω => iω) ∧ zFr M M'ω b 35)) 34 327) 80 [some (.ref b), some (.int (nI iω))] [] M1ω (20 + iω) (241 + 9 * iω) := by
    intro tω
    induction tω with
    | zero => intro iω M1ω h1ω h2ω; exact absurd h1ω (by omega)
    | succ tω ihω =>
      intro iω M1ω h1ω h2ω hI1ω hf1ω
      refine z_iload_n okω dX1_init_80 rfl ?_
      refine z_iconst (v := 4) okω dX1_init_81 (by decide) ?_
      refine z_icmp_ge (tgt := 105) okω dX1_init_82 (by decide) (fun czω => ?_) (fun czω => ?_)
      · have hinω : iω = 4 := by have h9ω := (nI_leI (a := 4) (by omega) (by omega)).mp czω; omega
        rw [hinω] at hI1ω ⊢
        refine z_iconst (v := 0) okω dX1_init_105 (by decide) ?_
        refine z_istore_n okω dX1_init_106 (by decide) rfl ?_
        exact zV_kn (loop107ω 11 0 _ (by omega) (by omega) hI1ω hf1ω) (by omega) (by omega)
      · have hinω : iω < 4 := by have h9ω := mt (nI_leI (a := 4) (b := iω) (by omega) (by omega)).mpr czω; omega
        obtain ⟨fzω, hfzω, hfz2ω⟩ := hI1ω.2.2.2.1
        refine z_aload_n okω dX1_init_85 rfl ?_
        refine z_getf okω dX1_init_86 zin_X1 rfl 1 (by decide) zw_187 hI1ω.1 rfl ?_
        refine z_iload_n okω dX1_init_89 rfl ?_
        refine z_new (T := TX5) (N := 9) (ci := 5) (fs := vFs (fun _ => 0)) (a := b + 21 + iω) okω dX1_init_90 zin_X5 tyX5 tyX5_ok rfl zw_30 zw_105 zw_7 (fun jω hjω => match jω, hjω with | 0, _ => rfl | 1, _ => rfl | 2, _ => rfl | 3, _ => rfl | 4, _ => rfl | 5, _ => rfl | 6, _ => rfl | 7, _ => rfl | 8, _ => rfl) (by omega) (by omega) (by omega) ?_
        refine zV_up (fun Mnω henω hunω => ?_)
        refine z_dup okω dX1_init_93 rfl ?_
        refine z_iload_n okω dX1_init_94 rfl ?_
        refine z_callIv okω dX1_init_95 zm_X5_init zw_106 zw_107 rfl rfl (ct_X5_init henω) rfl rfl (by decide) (by omega) (by omega) (Nat.le_of_ble_eq_true rfl) (fun Mcω q9ω => ?_)
        obtain ⟨hecω, hucω⟩ := q9ω
        have hacω := (hucω (b + 2) (by omega)).trans ((hunω (b + 2) (by omega)).trans hfzω)
        refine z_aastore (r := (RX5, TX5, 9)) okω dX1_init_98 hacω rfl hecω rfl (vp_in_nI hinω (by decide)) ?_
        rw [nI_clamp (by omega)]
        refine zV_up (fun Msω hesω husω => ?_)
        refine z_iinc okω dX1_init_99 rfl (zinc _) (by decide) rfl ?_
        refine z_goto (tgt := 80) okω dX1_init_102 (by decide) ?_
        have hqsω : ∀ qω, qω ≠ b + 21 + iω → qω ≠ b + 2 → Msω qω = M1ω qω := fun qω h9ω h8ω => (husω qω h8ω).trans ((hucω qω h9ω).trans (hunω qω h9ω))
        exact zV_kn (ihω (iω + 1) Msω (by omega) (by omega) (hI1ω.v hfz2ω ((husω _ (by omega)).trans hecω) hesω hqsω) (fun qω h9ω => (hqsω qω (by omega) (by omega)).trans (hf1ω qω h9ω))) (by omega) (by omega)
  have loop52ω : ∀ (tω iω : Nat) (M1ω : mM), 16 < iω + tω → iω ≤ 16 → hI M1ω b iω 0 0 → zFr M M1ω b 35 → zV 2 Bω (zE Bω (zU (fun M'ω => hPicP M'ω b κ0 (fun iω => iω) ∧ zFr M M'ω b 35)) 34 327) 52 [some (.ref b), some (.int (nI iω))] [] M1ω (4 + iω) (33 + 13 * iω) := by
    intro tω
    induction tω with
    | zero => intro iω M1ω h1ω h2ω; exact absurd h1ω (by omega)
    | succ tω ihω =>
      intro iω M1ω h1ω h2ω hI1ω hf1ω
      refine z_iload_n okω dX1_init_52 rfl ?_
      refine z_bipush (v := 16) okω dX1_init_53 (by decide) ?_
      refine z_icmp_ge (tgt := 78) okω dX1_init_55 (by decide) (fun czω => ?_) (fun czω => ?_)
      · have hinω : iω = 16 := by have h9ω := (nI_leI (a := 16) (by omega) (by omega)).mp czω; omega
        rw [hinω] at hI1ω ⊢
        refine z_iconst (v := 0) okω dX1_init_78 (by decide) ?_
        refine z_istore_n okω dX1_init_79 (by decide) rfl ?_
        exact zV_kn (loop80ω 5 0 _ (by omega) (by omega) hI1ω hf1ω) (by omega) (by omega)
      · have hinω : iω < 16 := by have h9ω := mt (nI_leI (a := 16) (b := iω) (by omega) (by omega)).mpr czω; omega
        obtain ⟨fzω, hfzω, hfz2ω⟩ := hI1ω.2.2.1
        refine z_aload_n okω dX1_init_58 rfl ?_
        refine z_getf okω dX1_init_59 zin_X1 rfl 0 (by decide) zw_186 hI1ω.1 rfl ?_
        refine z_iload_n okω dX1_init_62 rfl ?_
        refine z_new (T := TX0) (N := 13) (ci := 0) (fs := cFs (fun _ => 0)) (a := b + 5 + iω) okω dX1_init_63 zin_X0 tyX0 tyX0_ok rfl zw_28 zw_34 zw_6 (fun jω hjω => match jω, hjω with | 0, _ => rfl | 1, _ => rfl | 2, _ => rfl | 3, _ => rfl | 4, _ => rfl | 5, _ => rfl | 6, _ => rfl | 7, _ => rfl | 8, _ => rfl | 9, _ => rfl | 10, _ => rfl | 11, _ => rfl | 12, _ => rfl) (by omega) (by omega) (by omega) ?_
        refine zV_up (fun Mnω henω hunω => ?_)
        refine z_dup okω dX1_init_66 rfl ?_
        refine z_iload_n okω dX1_init_67 rfl ?_
        refine z_callIv okω dX1_init_68 zm_X0_init zw_35 zw_36 rfl rfl (ct_X0_init henω) rfl rfl (by decide) (by omega) (by omega) (Nat.le_of_ble_eq_true rfl) (fun Mcω q9ω => ?_)
        obtain ⟨hecω, hucω⟩ := q9ω
        have hacω := (hucω (b + 1) (by omega)).trans ((hunω (b + 1) (by omega)).trans hfzω)
        refine z_aastore (r := (RX0, TX0, 13)) okω dX1_init_71 hacω rfl hecω rfl (vp_in_nI hinω (by decide)) ?_
        rw [nI_clamp (by omega)]
        refine zV_up (fun Msω hesω husω => ?_)
        refine z_iinc okω dX1_init_72 rfl (zinc _) (by decide) rfl ?_
        refine z_goto (tgt := 52) okω dX1_init_75 (by decide) ?_
        have hqsω : ∀ qω, qω ≠ b + 5 + iω → qω ≠ b + 1 → Msω qω = M1ω qω := fun qω h9ω h8ω => (husω qω h8ω).trans ((hucω qω h9ω).trans (hunω qω h9ω))
        exact zV_kn (ihω (iω + 1) Msω (by omega) (by omega) (hI1ω.c hfz2ω ((husω _ (by omega)).trans hecω) hesω hqsω) (fun qω h9ω => (hqsω qω (by omega) (by omega)).trans (hf1ω qω h9ω))) (by omega) (by omega)
  refine z_aload_n okω dX1_init_0 rfl ?_
  refine z_objInit okω dX1_init_1 zw_27 zw_20 zw_21 (by decide) (Nat.le_of_ble_eq_true rfl) ?_
  refine z_aload_n okω dX1_init_4 rfl ?_
  refine z_bipush (v := 16) okω dX1_init_5 (by decide) ?_
  refine z_newR (a := b + 1) (N := 16) (C := RX0) okω dX1_init_7 zw_28 (fun _ h9ω => h9ω.1) (j := 3) rfl (by decide) rfl (by decide) (by omega) (by omega) (by omega) ?_
  refine zV_up (fun Ma0ω hea0ω hua0ω => ?_)
  have hs0ω := (hua0ω _ (by omega)).trans hself
  refine z_putF (T := TX1) (N := 12) (ty := tyX1 0) okω dX1_init_10 zin_X1 tyX1 tyX1_ok nmX1 rfl 0 (by decide) zw_186 rfl rfl rfl hs0ω (by decide +kernel) rfl rfl (Nat.le_of_ble_eq_true rfl) ?_
  refine zV_up (fun Mb0ω heb0ω hub0ω => ?_)
  have ht0ω : Mb0ω b = some (.inr (1, [.ref (b + 1), .null, .null, .null, .int 0, .int 0, .int 0, .int 0, .int 0, .int 0, .int 0, .int 0])) := heb0ω
  refine z_aload_n okω dX1_init_13 rfl ?_
  refine z_iconst (v := 4) okω dX1_init_14 (by decide) ?_
  refine z_newR (a := b + 2) (N := 4) (C := RX5) okω dX1_init_15 zw_30 (fun _ h9ω => h9ω.2.1) (j := 4) rfl (by decide) rfl (by decide) (by omega) (by omega) (by omega) ?_
  refine zV_up (fun Ma1ω hea1ω hua1ω => ?_)
  have hs1ω := (hua1ω _ (by omega)).trans ht0ω
  refine z_putF (T := TX1) (N := 12) (ty := tyX1 1) okω dX1_init_18 zin_X1 tyX1 tyX1_ok nmX1 rfl 1 (by decide) zw_187 rfl rfl rfl hs1ω (by decide +kernel) rfl rfl (Nat.le_of_ble_eq_true rfl) ?_
  refine zV_up (fun Mb1ω heb1ω hub1ω => ?_)
  have ht1ω : Mb1ω b = some (.inr (1, [.ref (b + 1), .ref (b + 2), .null, .null, .int 0, .int 0, .int 0, .int 0, .int 0, .int 0, .int 0, .int 0])) := heb1ω
  refine z_aload_n okω dX1_init_21 rfl ?_
  refine z_bipush (v := 10) okω dX1_init_22 (by decide) ?_
  refine z_newR (a := b + 3) (N := 10) (C := RX3) okω dX1_init_24 zw_32 (fun _ h9ω => h9ω.2.2.1) (j := 5) rfl (by decide) rfl (by decide) (by omega) (by omega) (by omega) ?_
  refine zV_up (fun Ma2ω hea2ω hua2ω => ?_)
  have hs2ω := (hua2ω _ (by omega)).trans ht1ω
  refine z_putF (T := TX1) (N := 12) (ty := tyX1 2) okω dX1_init_27 zin_X1 tyX1 tyX1_ok nmX1 rfl 2 (by decide) zw_188 rfl rfl rfl hs2ω (by decide +kernel) rfl rfl (Nat.le_of_ble_eq_true rfl) ?_
  refine zV_up (fun Mb2ω heb2ω hub2ω => ?_)
  have ht2ω : Mb2ω b = some (.inr (1, [.ref (b + 1), .ref (b + 2), .ref (b + 3), .null, .int 0, .int 0, .int 0, .int 0, .int 0, .int 0, .int 0, .int 0])) := heb2ω
  refine z_aload_n okω dX1_init_30 rfl ?_
  refine z_iconst (v := 3) okω dX1_init_31 (by decide) ?_
  refine z_newI (a := b + 4) (N := 3) okω dX1_init_32 zw_104 (by decide) rfl (by decide) (by omega) (by omega) (by omega) ?_
  refine zV_up (fun Mi0ω hei0ω hui0ω => ?_)
  refine z_dup okω dX1_init_34 rfl ?_
  refine z_iconst (v := 0) okω dX1_init_35 (by decide) ?_
  refine z_iconst (v := 3) okω dX1_init_36 (by decide) ?_
  refine z_iastore okω dX1_init_37 hei0ω (by unfold vp_in; decide) ?_
  refine zV_up (fun Mi1ω hei1ω hui1ω => ?_)
  refine z_dup okω dX1_init_38 rfl ?_
  refine z_iconst (v := 1) okω dX1_init_39 (by decide) ?_
  refine z_bipush (v := 8) okω dX1_init_40 (by decide) ?_
  refine z_iastore okω dX1_init_42 hei1ω (by unfold vp_in; decide) ?_
  refine zV_up (fun Mi2ω hei2ω hui2ω => ?_)
  refine z_dup okω dX1_init_43 rfl ?_
  refine z_iconst (v := 2) okω dX1_init_44 (by decide) ?_
  refine z_iconst (v := 1) okω dX1_init_45 (by decide) ?_
  refine z_iastore okω dX1_init_46 hei2ω (by unfold vp_in; decide) ?_
  refine zV_up (fun Mi3ω hei3ω hui3ω => ?_)
  have hs9ω := ((hui3ω _ (by omega)).trans ((hui2ω _ (by omega)).trans ((hui1ω _ (by omega)).trans ((hui0ω _ (by omega)).trans ht2ω))))
  refine z_putF (T := TX1) (N := 12) (ty := tyX1 3) okω dX1_init_47 zin_X1 tyX1 tyX1_ok nmX1 rfl 3 (by decide) zw_190 rfl rfl rfl hs9ω (by decide +kernel) rfl rfl (Nat.le_of_ble_eq_true rfl) ?_
  refine zV_up (fun Mfω hefω hufω => ?_)
  have hI0ω : hI Mfω b 0 0 0 := ⟨hefω, ⟨_, (hufω _ (by omega)).trans hei3ω, fun _ _ => rfl⟩, ⟨_, ((hufω _ (by omega)).trans ((hui3ω _ (by omega)).trans ((hui2ω _ (by omega)).trans ((hui1ω _ (by omega)).trans ((hui0ω _ (by omega)).trans ((hub2ω _ (by omega)).trans ((hua2ω _ (by omega)).trans ((hub1ω _ (by omega)).trans ((hua1ω _ (by omega)).trans ((hub0ω _ (by omega)).trans hea0ω)))))))))), fun jω hjω => absurd hjω (Nat.not_lt_zero _)⟩, ⟨_, ((hufω _ (by omega)).trans ((hui3ω _ (by omega)).trans ((hui2ω _ (by omega)).trans ((hui1ω _ (by omega)).trans ((hui0ω _ (by omega)).trans ((hub2ω _ (by omega)).trans ((hua2ω _ (by omega)).trans ((hub1ω _ (by omega)).trans hea1ω)))))))), fun jω hjω => absurd hjω (Nat.not_lt_zero _)⟩, ⟨_, ((hufω _ (by omega)).trans ((hui3ω _ (by omega)).trans ((hui2ω _ (by omega)).trans ((hui1ω _ (by omega)).trans ((hui0ω _ (by omega)).trans ((hub2ω _ (by omega)).trans hea2ω)))))), fun jω hjω => absurd hjω (Nat.not_lt_zero _)⟩, fun jω hjω => absurd hjω (Nat.not_lt_zero _), fun jω hjω => absurd hjω (Nat.not_lt_zero _), fun jω hjω => absurd hjω (Nat.not_lt_zero _)⟩
  have hF0ω : zFr M Mfω b 35 := fun qω hqω => ((hufω qω (by omega)).trans ((hui3ω qω (by omega)).trans ((hui2ω qω (by omega)).trans ((hui1ω qω (by omega)).trans ((hui0ω qω (by omega)).trans ((hub2ω qω (by omega)).trans ((hua2ω qω (by omega)).trans ((hub1ω qω (by omega)).trans ((hua1ω qω (by omega)).trans ((hub0ω qω (by omega)).trans ((hua0ω qω (by omega)).trans rfl)))))))))))
  refine z_iconst (v := 0) okω dX1_init_50 (by decide) ?_
  refine z_istore_n okω dX1_init_51 (by decide) rfl ?_
  exact zV_kn (loop52ω 17 0 _ (by omega) (by omega) hI0ω hF0ω) (by omega) (by omega)


