theorem hPicP.newT {M M' : mM} {b : Nat} {κ : hK} {π : Nat → Nat} (h : hPicP M b κ π) {g : Nat → Int32} (hs : zArr M' (b + 4) 3 g) (hq : ∀ q, q ≠ b + 4 → M' q = M q) : hPicP M' b (kR κ 3 0 g) π := by
  obtain ⟨h1ω, h2ω, h3ω, h4ω, h5ω, h6ω, h7ω, h8ω, h9ω⟩ := h
  exact ⟨(hq _ (by omega)).trans (by rw [kR_a (by decide)]; exact h1ω), h2ω.kept (hq _ (by omega)), h3ω.kept (hq _ (by omega)), by rw [kR_s]; exact hs, fun jω hjω => ⟨(hq _ (by omega)).trans (by rw [kR_a (by decide)]; exact (h5ω jω hjω).1), by rw [kR_a (by decide)]; exact (h5ω jω hjω).2⟩, fun jω hjω => ⟨(hq _ (by omega)).trans (by rw [kR_a (by decide)]; exact (h6ω jω hjω).1), by rw [kR_a (by decide)]; exact (h6ω jω hjω).2⟩, h7ω, h8ω.kept (hq _ (by omega)), fun jω hjω => (hq _ (by omega)).trans (by rw [kR_a (by decide)]; exact h9ω jω hjω)⟩
theorem zArr.cpy {M : mM} {a N : Nat} {f g : Nat → Int32} {h : Nat → Int32} (hm : M a = some (.inl (0, 3, .inl (va_cpy f g (0 : Int32).toNatClampNeg (0 : Int32).toNatClampNeg (3 : Int32).toNatClampNeg)))) (hf : ∀ j, j < 3 → f j = h j) : zArr M a 3 h := by
  refine ⟨_, hm, fun jω hjω => ?_⟩
  have e0ω : (0 : Int32).toNatClampNeg = 0 := rfl
  have e3ω : (3 : Int32).toNatClampNeg = 3 := rfl
  rw [e0ω, e3ω]
  unfold va_cpy
  rw [if_pos (by omega), show 0 + (jω - 0) = jω from by omega]
  exact hf jω hjω
theorem zCpC_0 {g f : Nat → Int32} : zCpC g f 0 = g 0 := rfl
theorem zCpV_0 {g f : Nat → Int32} : zCpV g f 0 = g 0 := rfl
def zCp3 (κ κ2 : hK) (i v o : Nat) : Prop := (∀ k, 4 ≤ k → k < 12 → κ 4 0 k = κ2 4 0 k) ∧ (∀ j, j < 3 → κ 3 0 j = κ2 3 0 j) ∧ (∀ j, j < i → cFs (κ 0 j) = cFs (κ2 0 j)) ∧ (∀ j, j < v → vFs (κ 1 j) = vFs (κ2 1 j)) ∧ ∀ j, j < o → oFs (κ 2 j) = oFs (κ2 2 j)
theorem vFs_c {f g : Nat → Int32} (h : vFs f = vFs g) (k : Nat) (hk : k < 9) : f k = g k := by
  have h1ω := vFs_get f hk
  rw [h, vFs_get g hk] at h1ω
  injection h1ω with h2
  injection h2 with h3
  exact h3.symm
theorem oFs_c {f g : Nat → Int32} (h : oFs f = oFs g) (k : Nat) (hk : k < 5) : f k = g k := by
  have h1ω := oFs_get f hk
  rw [h, oFs_get g hk] at h1ω
  injection h1ω with h2
  injection h2 with h3
  exact h3.symm
theorem zCp3.rel {κ κ2 : hK} {s : Nat → Int32} {n nv no : Nat} (h : zCp3 κ κ2 n nv no) (hr : hRel κ2 s n nv no) : hRel κ s n nv no := by
  obtain ⟨a1ω, a2ω, a3ω, a4ω, a5ω⟩ := h
  obtain ⟨h1ω, h2ω, h3ω, h4ω, h5ω, h6ω⟩ := hr
  refine ⟨h1ω, ?_, fun jω hjω => (a2ω jω hjω).trans (h3ω jω hjω), fun jω hjω => ?_, fun jω hjω => ?_, fun jω hjω kω hkω => (oFs_c (a5ω jω hjω) kω hkω).trans (h6ω jω hjω kω hkω)⟩
  · rw [a1ω 4 (by decide) (by decide), a1ω 5 (by decide) (by decide), a1ω 6 (by decide) (by decide), a1ω 7 (by decide) (by decide), a1ω 8 (by decide) (by decide), a1ω 9 (by decide) (by decide), a1ω 10 (by decide) (by decide), a1ω 11 (by decide) (by decide)]
    exact h2ω
  · have eω := cFs_c (a3ω jω hjω)
    have h9ω := h4ω jω hjω
    unfold kC at h9ω ⊢
    rw [eω 1 (by decide), eω 2 (by decide), eω 3 (by decide), eω 4 (by decide), eω 5 (by decide), eω 6 (by decide), eω 7 (by decide), eω 8 (by decide), eω 9 (by decide), eω 10 (by decide), eω 11 (by decide), eω 12 (by decide)]
    exact h9ω
  · have eω := vFs_c (a4ω jω hjω)
    have h9ω := h5ω jω hjω
    unfold kV at h9ω ⊢
    rw [eω 1 (by decide), eω 2 (by decide), eω 3 (by decide), eω 4 (by decide), eω 5 (by decide), eω 6 (by decide), eω 7 (by decide), eω 8 (by decide)]
    exact h9ω
theorem zCp3.c {κ κ2 : hK} {i v o : Nat} {g : Nat → Int32} (h : zCp3 κ κ2 i v o) (hg : cFs g = cFs (κ2 0 i)) : zCp3 (kR κ 0 i g) κ2 (i + 1) v o := by
  obtain ⟨a1ω, a2ω, a3ω, a4ω, a5ω⟩ := h
  refine ⟨fun kω h1ω h2ω => by rw [kR_a (by decide)]; exact a1ω kω h1ω h2ω, fun jω hjω => by rw [kR_a (by decide)]; exact a2ω jω hjω, fun jω hjω => ?_, fun jω hjω => by rw [kR_a (by decide)]; exact a4ω jω hjω, fun jω hjω => by rw [kR_a (by decide)]; exact a5ω jω hjω⟩
  by_cases hji : jω = i
  · rw [hji, kR_s]
    exact hg
  · rw [kR_n (by omega)]
    exact a3ω jω (by omega)
theorem zCp3.v {κ κ2 : hK} {i v o : Nat} {g : Nat → Int32} (h : zCp3 κ κ2 i v o) (hg : vFs g = vFs (κ2 1 v)) : zCp3 (kR κ 1 v g) κ2 i (v + 1) o := by
  obtain ⟨a1ω, a2ω, a3ω, a4ω, a5ω⟩ := h
  refine ⟨fun kω h1ω h2ω => by rw [kR_a (by decide)]; exact a1ω kω h1ω h2ω, fun jω hjω => by rw [kR_a (by decide)]; exact a2ω jω hjω, fun jω hjω => by rw [kR_a (by decide)]; exact a3ω jω hjω, fun jω hjω => ?_, fun jω hjω => by rw [kR_a (by decide)]; exact a5ω jω hjω⟩
  by_cases hji : jω = v
  · rw [hji, kR_s]
    exact hg
  · rw [kR_n (by omega)]
    exact a4ω jω (by omega)
theorem zCp3.o {κ κ2 : hK} {i v o : Nat} {g : Nat → Int32} (h : zCp3 κ κ2 i v o) (hg : oFs g = oFs (κ2 2 o)) : zCp3 (kR κ 2 o g) κ2 i v (o + 1) := by
  obtain ⟨a1ω, a2ω, a3ω, a4ω, a5ω⟩ := h
  refine ⟨fun kω h1ω h2ω => by rw [kR_a (by decide)]; exact a1ω kω h1ω h2ω, fun jω hjω => by rw [kR_a (by decide)]; exact a2ω jω hjω, fun jω hjω => by rw [kR_a (by decide)]; exact a3ω jω hjω, fun jω hjω => by rw [kR_a (by decide)]; exact a4ω jω hjω, fun jω hjω => ?_⟩
  by_cases hji : jω = o
  · rw [hji, kR_s]
    exact hg
  · rw [kR_n (by omega)]
    exact a5ω jω (by omega)
set_option maxRecDepth 20000 in
set_option maxHeartbeats 4000000 in
theorem ct_X1_copyFrom {K : zK} {M : mM} {nx : Nat} {b b2 : Nat} {κ κ2 : hK} {π π2 : Nat → Nat} (hm : hPicP M b κ π) (hx : hPicP M b2 κ2 π2) (hdis : b + 35 ≤ b2 ∨ b2 + 35 ≤ b) {s : Nat → Int32} {n nv no : Nat} (hr : hRel κ2 s n nv no) : zCt K yX1_copyFrom cX1_copyFrom 3 zr_X1_copyFrom 2 [.ref b, .ref b2] M nx 0 0 (zU (fun M' => ∃ κ', hPicP M' b κ' π ∧ hRel κ' s n nv no ∧ zFr M M' b 35)) := by
  refine z_enter [some (.ref b), some (.ref b2), none] (by decide +kernel) (Nat.le_of_ble_eq_true rfl) rfl (fun Bω okω hzω => ?_)
  have hmdω := hr.made
  have hvdω := hr.vehs
  have hofω := hr.offs
  have hn16ω := hr.1.2.1
  have hn4ω := hr.1.2.2.2.1
  have hn10ω := hr.1.2.2.2.2.2
  refine z_aload_n okω dX1_copyFrom_0 rfl ?_
  refine z_aload_n okω dX1_copyFrom_1 rfl ?_
  refine z_getf okω dX1_copyFrom_2 zin_X1 rfl 4 (by decide) zw_192 hx.1 rfl ?_
  refine h_putH4 okω dX1_copyFrom_5 zw_192 hm (fun Mz2ω hm1ω frz3ω => ?_)
  have hx4ω := hx.kept (fun q9ω h9ω h8ω => frz3ω q9ω (by omega))
  refine z_aload_n okω dX1_copyFrom_8 rfl ?_
  refine z_aload_n okω dX1_copyFrom_9 rfl ?_
  refine z_getf okω dX1_copyFrom_10 zin_X1 rfl 5 (by decide) zw_194 hx4ω.1 rfl ?_
  refine h_putH5 okω dX1_copyFrom_13 zw_194 hm1ω (fun Mz6ω hm5ω frz7ω => ?_)
  have hx8ω := hx4ω.kept (fun q9ω h9ω h8ω => frz7ω q9ω (by omega))
  refine z_aload_n okω dX1_copyFrom_16 rfl ?_
  refine z_aload_n okω dX1_copyFrom_17 rfl ?_
  refine z_getf okω dX1_copyFrom_18 zin_X1 rfl 6 (by decide) zw_196 hx8ω.1 rfl ?_
  refine h_putH6 okω dX1_copyFrom_21 zw_196 hm5ω (fun Mz10ω hm9ω frz11ω => ?_)
  have hx12ω := hx8ω.kept (fun q9ω h9ω h8ω => frz11ω q9ω (by omega))
  refine z_aload_n okω dX1_copyFrom_24 rfl ?_
  refine z_aload_n okω dX1_copyFrom_25 rfl ?_
  refine z_getf okω dX1_copyFrom_26 zin_X1 rfl 7 (by decide) zw_198 hx12ω.1 rfl ?_
  refine h_putH7 okω dX1_copyFrom_29 zw_198 hm9ω (fun Mz14ω hm13ω frz15ω => ?_)
  have hx16ω := hx12ω.kept (fun q9ω h9ω h8ω => frz15ω q9ω (by omega))
  refine z_aload_n okω dX1_copyFrom_32 rfl ?_
  refine z_aload_n okω dX1_copyFrom_33 rfl ?_
  refine z_getf okω dX1_copyFrom_34 zin_X1 rfl 8 (by decide) zw_200 hx16ω.1 rfl ?_
  refine h_putH8 okω dX1_copyFrom_37 zw_200 hm13ω (fun Mz18ω hm17ω frz19ω => ?_)
  have hx20ω := hx16ω.kept (fun q9ω h9ω h8ω => frz19ω q9ω (by omega))
  refine z_aload_n okω dX1_copyFrom_40 rfl ?_
  refine z_aload_n okω dX1_copyFrom_41 rfl ?_
  refine z_getf okω dX1_copyFrom_42 zin_X1 rfl 9 (by decide) zw_202 hx20ω.1 rfl ?_
  refine h_putH9 okω dX1_copyFrom_45 zw_202 hm17ω (fun Mz22ω hm21ω frz23ω => ?_)
  have hx24ω := hx20ω.kept (fun q9ω h9ω h8ω => frz23ω q9ω (by omega))
  refine z_aload_n okω dX1_copyFrom_48 rfl ?_
  refine z_aload_n okω dX1_copyFrom_49 rfl ?_
  refine z_getf okω dX1_copyFrom_50 zin_X1 rfl 10 (by decide) zw_204 hx24ω.1 rfl ?_
  refine h_putH10 okω dX1_copyFrom_53 zw_204 hm21ω (fun Mz26ω hm25ω frz27ω => ?_)
  have hx28ω := hx24ω.kept (fun q9ω h9ω h8ω => frz27ω q9ω (by omega))
  refine z_aload_n okω dX1_copyFrom_56 rfl ?_
  refine z_aload_n okω dX1_copyFrom_57 rfl ?_
  refine z_getf okω dX1_copyFrom_58 zin_X1 rfl 11 (by decide) zw_206 hx28ω.1 rfl ?_
  refine h_putH11 okω dX1_copyFrom_61 zw_206 hm25ω (fun Mz30ω hm29ω frz31ω => ?_)
  have hx32ω := hx28ω.kept (fun q9ω h9ω h8ω => frz31ω q9ω (by omega))
  refine z_aload_n okω dX1_copyFrom_64 rfl ?_
  refine z_getf okω dX1_copyFrom_65 zin_X1 rfl 3 (by decide) zw_190 hx32ω.1 rfl ?_
  refine z_iconst (v := 0) okω dX1_copyFrom_68 (by decide) ?_
  refine z_aload_n okω dX1_copyFrom_69 rfl ?_
  refine z_getf okω dX1_copyFrom_70 zin_X1 rfl 3 (by decide) zw_190 hm29ω.1 rfl ?_
  refine z_iconst (v := 0) okω dX1_copyFrom_73 (by decide) ?_
  refine z_iconst (v := 3) okω dX1_copyFrom_74 (by decide) ?_
  obtain ⟨faω, hafω, haeω⟩ := hx32ω.2.2.2.1
  obtain ⟨gaω, hagω, _⟩ := hm29ω.2.2.2.1
  refine z_arraycopy okω dX1_copyFrom_75 zw_347 zw_349 zw_348 zw_11 hafω hagω (by decide) (by decide) (by decide) (by decide) (by decide) (by decide) (Nat.le_of_ble_eq_true rfl) ?_
  refine zV_up (fun M75ω he75ω hu75ω => ?_)
  have hm75ω := hm29ω.newT (zArr.cpy (N := 0) he75ω haeω) hu75ω
  have fz75ω : zFr _ M75ω b 35 := fun q9ω h9ω => hu75ω q9ω (by omega)
  have hcp0ω : zCp3 (kR (kU (kU (kU (kU (kU (kU (kU (kU κ 4 0 4 (κ2 4 0 4)) 4 0 5 (κ2 4 0 5)) 4 0 6 (κ2 4 0 6)) 4 0 7 (κ2 4 0 7)) 4 0 8 (κ2 4 0 8)) 4 0 9 (κ2 4 0 9)) 4 0 10 (κ2 4 0 10)) 4 0 11 (κ2 4 0 11)) 3 0 (κ2 3 0)) κ2 0 0 0 := ⟨fun k9ω h9ω h8ω => by rcases (by omega : k9ω = 4 ∨ k9ω = 5 ∨ k9ω = 6 ∨ k9ω = 7 ∨ k9ω = 8 ∨ k9ω = 9 ∨ k9ω = 10 ∨ k9ω = 11) with h7ω | h7ω | h7ω | h7ω | h7ω | h7ω | h7ω | h7ω <;> rw [h7ω] <;> (simp [kR, kU]), fun j9ω h9ω => by rw [kR_s], fun j9ω h9ω => absurd h9ω (Nat.not_lt_zero _), fun j9ω h9ω => absurd h9ω (Nat.not_lt_zero _), fun j9ω h9ω => absurd h9ω (Nat.not_lt_zero _)⟩
  refine z_iconst (v := 0) okω dX1_copyFrom_78 (by decide) ?_
  refine z_istore_n okω dX1_copyFrom_79 (by decide) rfl ?_
  have loop80ω : ∀ (tω iω : Nat) (M1ω : mM) (κ1ω : hK), n < iω + tω → iω ≤ n → hPicP M1ω b κ1ω π → zCp3 κ1ω κ2 iω 0 0 → zFr M M1ω b 35 → zV 3 Bω (zE Bω (zU (fun M'ω => ∃ κ'ω, hPicP M'ω b κ'ω π ∧ hRel κ'ω s n nv no ∧ zFr M M'ω b 35)) 0 0) 80 [some (.ref b), some (.ref b2), some (.int (nI iω))] [] M1ω 0 0 := by
    intro tω
    induction tω with
    | zero => intro iω M1ω κ1ω h1ω h2ω; exact absurd h1ω (by omega)
    | succ tω ihω =>
      intro iω M1ω κ1ω h1ω h2ω hm1ω hcpω hf1ω
      have hx1ω := hx.kept (fun q9ω h9ω h8ω => hf1ω q9ω (by omega))
      refine z_iload_n okω dX1_copyFrom_80 rfl ?_
      refine z_aload_n okω dX1_copyFrom_81 rfl ?_
      refine z_getf okω dX1_copyFrom_82 zin_X1 rfl 4 (by decide) zw_192 hm1ω.1 rfl ?_
      refine z_icmp_ge (tgt := 109) okω dX1_copyFrom_85 (by decide) (fun cz85ω => ?_) (fun cz85ω => ?_)
      · have hinω : iω = n := by rw [hcpω.1 4 (by decide) (by decide), hmdω, nI_leI (by omega) (by omega)] at cz85ω; omega
        rw [hinω] at hcpω
        refine z_iconst (v := 0) okω dX1_copyFrom_109 (by decide) ?_
        refine z_istore_n okω dX1_copyFrom_110 (by decide) rfl ?_
        have loop111ω : ∀ (tω iω : Nat) (M1ω : mM) (κ1ω : hK), nv < iω + tω → iω ≤ nv → hPicP M1ω b κ1ω π → zCp3 κ1ω κ2 n iω 0 → zFr M M1ω b 35 → zV 3 Bω (zE Bω (zU (fun M'ω => ∃ κ'ω, hPicP M'ω b κ'ω π ∧ hRel κ'ω s n nv no ∧ zFr M M'ω b 35)) 0 0) 111 [some (.ref b), some (.ref b2), some (.int (nI iω))] [] M1ω 0 0 := by
          intro tω
          induction tω with
          | zero => intro iω M1ω κ1ω h1ω h2ω; exact absurd h1ω (by omega)
          | succ tω ihω =>
            intro iω M1ω κ1ω h1ω h2ω hm1ω hcpω hf1ω
            have hx1ω := hx.kept (fun q9ω h9ω h8ω => hf1ω q9ω (by omega))
            refine z_iload_n okω dX1_copyFrom_111 rfl ?_
            refine z_aload_n okω dX1_copyFrom_112 rfl ?_
            refine z_getf okω dX1_copyFrom_113 zin_X1 rfl 5 (by decide) zw_194 hm1ω.1 rfl ?_
            refine z_icmp_ge (tgt := 140) okω dX1_copyFrom_116 (by decide) (fun cz116ω => ?_) (fun cz116ω => ?_)
            · have hinω : iω = nv := by rw [hcpω.1 5 (by decide) (by decide), hvdω, nI_leI (by omega) (by omega)] at cz116ω; omega
              rw [hinω] at hcpω
              refine z_iconst (v := 0) okω dX1_copyFrom_140 (by decide) ?_
              refine z_istore_n okω dX1_copyFrom_141 (by decide) rfl ?_
              have loop142ω : ∀ (tω iω : Nat) (M1ω : mM) (κ1ω : hK), no < iω + tω → iω ≤ no → hPicP M1ω b κ1ω π → zCp3 κ1ω κ2 n nv iω → zFr M M1ω b 35 → zV 3 Bω (zE Bω (zU (fun M'ω => ∃ κ'ω, hPicP M'ω b κ'ω π ∧ hRel κ'ω s n nv no ∧ zFr M M'ω b 35)) 0 0) 142 [some (.ref b), some (.ref b2), some (.int (nI iω))] [] M1ω 0 0 := by
                intro tω
                induction tω with
                | zero => intro iω M1ω κ1ω h1ω h2ω; exact absurd h1ω (by omega)
                | succ tω ihω =>
                  intro iω M1ω κ1ω h1ω h2ω hm1ω hcpω hf1ω
                  have hx1ω := hx.kept (fun q9ω h9ω h8ω => hf1ω q9ω (by omega))
                  refine z_iload_n okω dX1_copyFrom_142 rfl ?_
                  refine z_aload_n okω dX1_copyFrom_143 rfl ?_
                  refine z_getf okω dX1_copyFrom_144 zin_X1 rfl 6 (by decide) zw_196 hm1ω.1 rfl ?_
                  refine z_icmp_ge (tgt := 171) okω dX1_copyFrom_147 (by decide) (fun cz147ω => ?_) (fun cz147ω => ?_)
                  · have hinω : iω = no := by rw [hcpω.1 6 (by decide) (by decide), hofω, nI_leI (by omega) (by omega)] at cz147ω; omega
                    rw [hinω] at hcpω
                    exact z_vret okω dX1_copyFrom_171 rfl rfl (Nat.zero_le _) ⟨_, hm1ω, hcpω.rel hr, hf1ω⟩
                  · have hinω : iω < no := by rw [hcpω.1 6 (by decide) (by decide), hofω, nI_leI (by omega) (by omega)] at cz147ω; omega
                    refine z_aload_n okω dX1_copyFrom_150 rfl ?_
                    refine z_getf okω dX1_copyFrom_151 zin_X1 rfl 2 (by decide) zw_188 hm1ω.1 rfl ?_
                    refine z_iload_n okω dX1_copyFrom_154 rfl ?_
                    refine h_ldO (j := iω) okω dX1_copyFrom_155 hm1ω rfl (by omega) ?_
                    refine z_aload_n okω dX1_copyFrom_156 rfl ?_
                    refine z_getf okω dX1_copyFrom_157 zin_X1 rfl 2 (by decide) zw_188 hx1ω.1 rfl ?_
                    refine z_iload_n okω dX1_copyFrom_160 rfl ?_
                    refine h_ldO (j := iω) okω dX1_copyFrom_161 hx1ω rfl (by omega) ?_
                    refine z_callVv okω dX1_copyFrom_162 zm_X3_copyFrom zw_362 zi_X3_copyFrom (hm1ω.2.2.2.2.2.2.2.2 iω (by omega)) rfl (ct_X3_copyFrom (hm1ω.2.2.2.2.2.2.2.2 iω (by omega)) (hx1ω.2.2.2.2.2.2.2.2 iω (by omega)) (by have := hm1ω.2.2.2.2.2.2.1.1 iω (by omega); have := hx1ω.2.2.2.2.2.2.1.1 iω (by omega); omega)) rfl rfl (by decide) (by decide) (by decide) (Nat.le_of_ble_eq_true rfl) (fun Mz34ω qz35ω => ?_)
                    obtain ⟨hobω, hqbω⟩ := qz35ω
                    have hpiω := hm1ω.2.2.2.2.2.2.1.1 iω (by omega)
                    have hm36ω := hPicP.newO hm1ω (by omega) hobω hqbω
                    have fz162ω : zFr _ Mz34ω b 35 := fun q9ω h9ω => hqbω q9ω (by omega)
                    refine z_iinc okω dX1_copyFrom_165 rfl (zinc _) (by decide) rfl ?_
                    refine z_goto (tgt := 142) okω dX1_copyFrom_168 (by decide) ?_
                    exact ihω (iω + 1) _ _ (by omega) (by omega) hm36ω (hcpω.o (zCpO_eq)) (by repeat (first | assumption | exact zFr.rf | refine zFr.tr (by assumption) ?_))
              exact loop142ω (no + 1) 0 _ _ (by omega) (by omega) hm1ω hcpω (by repeat (first | assumption | exact zFr.rf | refine zFr.tr (by assumption) ?_))
            · have hinω : iω < nv := by rw [hcpω.1 5 (by decide) (by decide), hvdω, nI_leI (by omega) (by omega)] at cz116ω; omega
              refine z_aload_n okω dX1_copyFrom_119 rfl ?_
              refine z_getf okω dX1_copyFrom_120 zin_X1 rfl 1 (by decide) zw_187 hm1ω.1 rfl ?_
              refine z_iload_n okω dX1_copyFrom_123 rfl ?_
              refine h_ldV (j := iω) okω dX1_copyFrom_124 hm1ω rfl (by omega) ?_
              refine z_aload_n okω dX1_copyFrom_125 rfl ?_
              refine z_getf okω dX1_copyFrom_126 zin_X1 rfl 1 (by decide) zw_187 hx1ω.1 rfl ?_
              refine z_iload_n okω dX1_copyFrom_129 rfl ?_
              refine h_ldV (j := iω) okω dX1_copyFrom_130 hx1ω rfl (by omega) ?_
              refine z_callVv okω dX1_copyFrom_131 zm_X5_copyFrom zw_358 zi_X5_copyFrom (hm1ω.2.2.2.2.2.1 iω (by omega)).1 rfl (ct_X5_copyFrom (hm1ω.2.2.2.2.2.1 iω (by omega)).1 (hx1ω.2.2.2.2.2.1 iω (by omega)).1 (by omega)) rfl rfl (by decide) (by decide) (by decide) (Nat.le_of_ble_eq_true rfl) (fun Mz38ω qz39ω => ?_)
              obtain ⟨hobω, hqbω⟩ := qz39ω
              have hpnω := (hm1ω.2.2.2.2.2.1 iω (by omega)).2
              have hxnω := (hx1ω.2.2.2.2.2.1 iω (by omega)).2
              have hm40ω := hPicP.newV hm1ω (by omega) (zCpV_0.trans (hm1ω.2.2.2.2.2.1 iω (by omega)).2) hobω hqbω
              have fz131ω : zFr _ Mz38ω b 35 := fun q9ω h9ω => hqbω q9ω (by omega)
              refine z_iinc okω dX1_copyFrom_134 rfl (zinc _) (by decide) rfl ?_
              refine z_goto (tgt := 111) okω dX1_copyFrom_137 (by decide) ?_
              exact ihω (iω + 1) _ _ (by omega) (by omega) hm40ω (hcpω.v (zCpV_eq (hpnω.trans hxnω.symm))) (by repeat (first | assumption | exact zFr.rf | refine zFr.tr (by assumption) ?_))
        exact loop111ω (nv + 1) 0 _ _ (by omega) (by omega) hm1ω hcpω (by repeat (first | assumption | exact zFr.rf | refine zFr.tr (by assumption) ?_))
      · have hinω : iω < n := by rw [hcpω.1 4 (by decide) (by decide), hmdω, nI_leI (by omega) (by omega)] at cz85ω; omega
        refine z_aload_n okω dX1_copyFrom_88 rfl ?_
        refine z_getf okω dX1_copyFrom_89 zin_X1 rfl 0 (by decide) zw_186 hm1ω.1 rfl ?_
        refine z_iload_n okω dX1_copyFrom_92 rfl ?_
        refine h_ldC (j := iω) okω dX1_copyFrom_93 hm1ω rfl (by omega) ?_
        refine z_aload_n okω dX1_copyFrom_94 rfl ?_
        refine z_getf okω dX1_copyFrom_95 zin_X1 rfl 0 (by decide) zw_186 hx1ω.1 rfl ?_
        refine z_iload_n okω dX1_copyFrom_98 rfl ?_
        refine h_ldC (j := iω) okω dX1_copyFrom_99 hx1ω rfl (by omega) ?_
        refine z_callVv okω dX1_copyFrom_100 zm_X0_copyFrom zw_350 zi_X0_copyFrom (hm1ω.2.2.2.2.1 iω (by omega)).1 rfl (ct_X0_copyFrom (hm1ω.2.2.2.2.1 iω (by omega)).1 (hx1ω.2.2.2.2.1 iω (by omega)).1 (by omega)) rfl rfl (by decide) (by decide) (by decide) (Nat.le_of_ble_eq_true rfl) (fun Mz42ω qz43ω => ?_)
        obtain ⟨hobω, hqbω⟩ := qz43ω
        have hpnω := (hm1ω.2.2.2.2.1 iω (by omega)).2
        have hxnω := (hx1ω.2.2.2.2.1 iω (by omega)).2
        have hm44ω := hPicP.newC hm1ω (by omega) (zCpC_0.trans (hm1ω.2.2.2.2.1 iω (by omega)).2) hobω hqbω
        have fz100ω : zFr _ Mz42ω b 35 := fun q9ω h9ω => hqbω q9ω (by omega)
        refine z_iinc okω dX1_copyFrom_103 rfl (zinc _) (by decide) rfl ?_
        refine z_goto (tgt := 80) okω dX1_copyFrom_106 (by decide) ?_
        exact ihω (iω + 1) _ _ (by omega) (by omega) hm44ω (hcpω.c (zCpC_eq (hpnω.trans hxnω.symm))) (by repeat (first | assumption | exact zFr.rf | refine zFr.tr (by assumption) ?_))
  exact loop80ω (n + 1) 0 _ _ (by omega) (by omega) hm75ω hcp0ω (by repeat (first | assumption | exact zFr.rf | refine zFr.tr (by assumption) ?_))


