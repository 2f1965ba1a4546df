def lX (B : zB) (b L : Nat) (xs : Nat → Int32) : Prop := match B with
  | (_, _, _, _, s, _, _, _, _, _, _, _, A) => va_X b L xs s s.heap ∧ b < s.heap.size ∧ ¬ A b
theorem z_slen {K : zK} {yn : MethodName} {cc : ByteArray} {nL : Nat} {ret : Option FieldType} {d mc ms : Nat} {B : zB} {Q : State → Prop} {pc : Nat} {L : List (Option Value)} {rest : List Value} {M : mM} {k n b lx : Nat} {xs : Nat → Int32} (ok : zOk K yn cc nL ret d mc ms B) (hd : decode cc pc = .ok (.arraylength, 1)) (hX : lX B b lx xs)
    (kk : zV nL B Q (pc + 1) L (.int (Int32.ofNat lx) :: rest) M k n) : zV nL B Q pc L (.ref b :: rest) M k n := by
  obtain ⟨pω, lω, eω, Rω, sω, mω, argsω, belowω, methω, cω, Dω, Eω, Aω⟩ := B
  obtain ⟨⟨hxω, hbω, hmlω, hrω, hownω⟩, htsω, hlocksω, hK, hAω, hnmω, hRω, hFω, hTω⟩ := ok
  intro Hω lsω locsω hlω hMω hzω hSω
  exact va_slen hxω hbω hX.1 hX.2.1 hX.2.2 hSω hd (kk Hω lsω locsω hlω hMω hzω hSω)
theorem z_sld {K : zK} {yn : MethodName} {cc : ByteArray} {nL : Nat} {ret : Option FieldType} {d mc ms : Nat} {B : zB} {Q : State → Prop} {pc : Nat} {L : List (Option Value)} {rest : List Value} {M : mM} {k n b lx : Nat} {xs : Nat → Int32} (j : Nat) {i : Int32} (ok : zOk K yn cc nL ret d mc ms B) (hd : decode cc pc = .ok (.iaload, 1)) (hX : lX B b lx xs) (hi : i = nI j) (hj : j < lx) (hL : lx ≤ 3584)
    (kk : zV nL B Q (pc + 1) L (.int (xs j) :: rest) M k n) : zV nL B Q pc L (.int i :: .ref b :: rest) M k n := by
  obtain ⟨pω, lω, eω, Rω, sω, mω, argsω, belowω, methω, cω, Dω, Eω, Aω⟩ := B
  obtain ⟨⟨hxω, hbω, hmlω, hrω, hownω⟩, htsω, hlocksω, hK, hAω, hnmω, hRω, hFω, hTω⟩ := ok
  intro Hω lsω locsω hlω hMω hzω hSω
  subst hi
  refine va_sld hxω hbω hX.1 hX.2.1 hX.2.2 hSω (vp_in_nI hj (by omega)) hd ?_
  rw [nI_clamp (by omega)]
  exact kk Hω lsω locsω hlω hMω hzω hSω
theorem lw_a1 (j : Nat) : nI j + 1 = nI (j + 1) := by rw [show (1 : Int32) = nI 1 from rfl, nI_add]
theorem lw_a2 (j : Nat) : nI j + 2 = nI (j + 2) := by rw [show (2 : Int32) = nI 2 from rfl, nI_add]
theorem lw_a3 (j : Nat) : nI j + 3 = nI (j + 3) := by rw [show (3 : Int32) = nI 3 from rfl, nI_add]
theorem lw_a4 (j : Nat) : nI j + 4 = nI (j + 4) := by rw [show (4 : Int32) = nI 4 from rfl, nI_add]
theorem lw_a5 (j : Nat) : nI j + 5 = nI (j + 5) := by rw [show (5 : Int32) = nI 5 from rfl, nI_add]
theorem lw_a6 (j : Nat) : nI j + 6 = nI (j + 6) := by rw [show (6 : Int32) = nI 6 from rfl, nI_add]
theorem cPic.kept {M M' : mM} {c : Nat} {s past : Nat → Int32} {p ty : Nat} {tx : Nat → Int32} (h : cPic M c s past p ty tx) (hf : ∀ q, c ≤ q → q < c + 251 → M' q = M q) : cPic M' c s past p ty tx := by
  obtain ⟨nω, nvω, noω, oω, fpω, frω, vbω, nxzω, numsω, h⟩ := h
  exact ⟨nω, nvω, noω, oω, fpω, frω, vbω, nxzω, numsω, cR.mk ((hf _ (by omega) (by omega)).trans h.F) ((hf _ (by omega) (by omega)).trans h.Y) (h.A.kept (hf _ (by omega) (by omega))) ((hf _ (by omega) (by omega)).trans h.S) (h.C.kept (hf _ (by omega) (by omega))) (h.U.kept (hf _ (by omega) (by omega))) h.B (h.H.kept (fun qω h1ω h2ω => hf _ (by omega) (by omega))) (h.T.kept (fun qω h1ω h2ω => hf _ (by omega) (by omega))) (fun iω hiω => (h.R iω hiω).kept (fun qω h1ω h2ω => hf _ (by omega) (by omega))) (fun jω hjω => (h.W jω hjω).kept (fun qω h1ω h2ω => by have h5ω := Nat.mod_lt (oω + jω) (show 5 > 0 by decide); exact hf _ (by omega) (by omega)))⟩
/-- the two sides agree -/
def lI (c : Nat) (M : mM) : Prop := ∃ (μ : zMS) (p ty : Nat), mPic M (c + 251) μ ∧ (μ.2 5 = 0 ∧ μ.2 4 = nI p ∧ μ.2 7 = nI ty) ∧ cPic M c (μ.1 1) (μ.1 2) p ty (μ.1 5)
theorem lS_m {M M1 : mM} {c : Nat} {μ : zMS} (hm : mPic M (c + 251) μ) (hf : zFr M M1 c 251) : mPic M1 (c + 251) μ := hm.kept (fun qω h1ω h2ω => hf qω (Or.inr h1ω))
theorem lS_me {M M1 : mM} {m : Nat} {μ : zMS} (hm : mPic M m μ) (hf : M1 = M) : mPic M1 m μ := by
  rw [hf]
  exact hm
theorem lS_c {M M1 : mM} {c : Nat} {s past : Nat → Int32} {p ty : Nat} {tx : Nat → Int32} (h : cPic M c s past p ty tx) (hf : zFr M M1 (c + 251) 9) : cPic M1 c s past p ty tx := h.kept (fun qω h1ω h2ω => hf qω (Or.inl h2ω))
theorem lS_N {M : mM} {c : Nat} {s : Nat → Int32} {n nv no : Nat} {rows : Nat → Nat → Int32} {kk p o : Nat} {fp fr : Int32} {ty : Nat} {tx : Nat → Int32} {vb nxz : Int32} {nums : Nat → Int32} (h : cR M c s n nv no rows kk p o fp fr ty tx vb nxz nums) : zN s n nv no := by
  obtain ⟨κω, πω, h1ω, h2ω, h3ω⟩ := h.H
  exact h3ω.N
theorem lS_post {M M1 M2 : mM} {c : Nat} {μ : zMS} {p ty : Nat} {r : zRes} {x1 x2 : Int32} (hm : mPic M1 (c + 251) μ) (hE : μ.2 5 = 0 ∧ μ.2 4 = nI p ∧ μ.2 7 = nI ty) (h1 : cPost M c (μ.1 1) (μ.1 2) p ty (μ.1 5) r x1 M1) (h2 : zPost M1 (c + 251) μ p r x2 M2) : x1 = x2 ∧ lI c M2 := by
  cases r with
  | inl eω =>
    have h3ω := h2.2
    refine ⟨h1.2.1.trans h2.1.symm, ?_⟩
    rw [h3ω]
    exact ⟨μ, p, ty, hm, hE, h1.2.2⟩
  | inr qω =>
    have h3ω := h2.2.1
    rw [show zCC μ p = zCh μ p from if_pos hE.1] at h3ω
    exact ⟨h1.2.1.trans h2.1.symm, _, _, ty, h3ω, ⟨hE.1, rfl, hE.2.2⟩, lS_c h1.2.2 h2.2.2⟩
theorem lS_postE {M M1 M2 : mM} {c : Nat} {μ : zMS} {p ty : Nat} {r : zRes} {x1 x2 : Int32} (hE : μ.2 5 = 0 ∧ μ.2 4 = nI p ∧ μ.2 7 = nI ty) (h1 : cPost M c (μ.1 1) (μ.1 2) p ty (μ.1 5) r x1 M1) (h2 : zPostE M1 (c + 251) μ p r x2 M2) : x1 = x2 ∧ lI c M2 := by
  cases r with
  | inl eω =>
    obtain ⟨e2ω, μ2ω, h3ω, ⟨g1ω, g2ω, g3ω, g4ω, g5ω, g6ω⟩, hfω⟩ := h2
    refine ⟨h1.2.1.trans e2ω.symm, μ2ω, p, ty, h3ω, ⟨g5ω.trans hE.1, g4ω.trans hE.2.1, g6ω.trans hE.2.2⟩, ?_⟩
    rw [g1ω, g2ω, g3ω]
    exact lS_c h1.2.2 hfω
  | inr qω =>
    obtain ⟨e2ω, μ2ω, h3ω, h4ω, hfω⟩ := h2
    rw [show zCC μ p = zCh μ p from if_pos hE.1] at h4ω
    obtain ⟨g1ω, g2ω, g3ω, g4ω, g5ω, g6ω⟩ := h4ω
    refine ⟨h1.2.1.trans e2ω.symm, μ2ω, _, ty, h3ω, ⟨g5ω.trans hE.1, g4ω, g6ω.trans hE.2.2⟩, ?_⟩
    rw [g1ω, g2ω, g3ω]
    exact lS_c h1.2.2 hfω
theorem lS_tell {M M1 M2 : mM} {c : Nat} {μ : zMS} {p ty : Nat} {r x1 x2 : Int32} (hE : μ.2 5 = 0 ∧ μ.2 4 = nI p ∧ μ.2 7 = nI ty) (h1 : cTell M c (μ.1 1) (μ.1 2) p ty (μ.1 5) r x1 M1) (h2 : zTell M1 (c + 251) μ r x2 M2) : x1 = x2 ∧ lI c M2 := by
  obtain ⟨e2ω, μ2ω, h3ω, ⟨g1ω, g2ω, g3ω, g4ω, g5ω, g6ω⟩, hfω⟩ := h2
  refine ⟨h1.1.trans e2ω.symm, μ2ω, p, ty, h3ω, ⟨g5ω.trans hE.1, g4ω.trans hE.2.1, g6ω.trans hE.2.2⟩, ?_⟩
  rw [g1ω, g2ω, g3ω]
  exact lS_c h1.2.1 hfω
theorem lS_q {M M1 M2 : mM} {c : Nat} {r r2 x1 x2 : Int32} (hI : lI c M) (h1 : x1 = r ∧ M1 = M) (h2 : x2 = r2 ∧ M2 = M1) (he : r = r2) : x1 = x2 ∧ lI c M2 := by
  refine ⟨h1.1.trans (he.trans h2.1.symm), ?_⟩
  rw [h2.2, h1.2]
  exact hI
theorem lS_undo {M M1 M2 : mM} {c : Nat} {μ : zMS} {p ty : Nat} {x1 x2 : Int32} (hm : mPic M1 (c + 251) μ) (hE : μ.2 5 = 0 ∧ μ.2 4 = nI p ∧ μ.2 7 = nI ty) (hI : lI c M) (h1 : (p = 0 ∧ x1 = -1000002 ∧ M1 = M) ∨ (¬ p = 0 ∧ x1 = nI (p - 1) ∧ cPic M1 c (fun j => μ.1 2 (287 * (p - 1) + j)) (μ.1 2) (p - 1) ty (μ.1 5) ∧ zFr M M1 c 251)) (h2 : (p = 0 ∧ x2 = -1000002 ∧ M2 = M1) ∨ (¬ p = 0 ∧ x2 = nI (p - 1) ∧ mPic M2 (c + 251) (zUndo μ p) ∧ zFr M1 M2 (c + 251) 9)) : x1 = x2 ∧ lI c M2 := by
  rcases h1 with ⟨a1ω, a2ω, a3ω⟩ | ⟨a1ω, a2ω, a3ω, a4ω⟩
  · rcases h2 with ⟨b1ω, b2ω, b3ω⟩ | ⟨b1ω, b2ω, b3ω, b4ω⟩
    · rw [b3ω, a3ω]
      exact ⟨a2ω.trans b2ω.symm, hI⟩
    · exact absurd a1ω b1ω
  · rcases h2 with ⟨b1ω, b2ω, b3ω⟩ | ⟨b1ω, b2ω, b3ω, b4ω⟩
    · exact absurd b1ω a1ω
    · exact ⟨a2ω.trans b2ω.symm, _, p - 1, ty, b3ω, ⟨hE.1, rfl, hE.2.2⟩, lS_c a3ω b4ω⟩
theorem lS_mu {M M1 : mM} {c p : Nat} {μ : zMS} {x1 : Int32} {Z : Prop} (hm : mPic M (c + 251) μ) (h1 : (p = 0 ∧ x1 = -1000002 ∧ M1 = M) ∨ (¬ p = 0 ∧ x1 = nI (p - 1) ∧ Z ∧ zFr M M1 c 251)) : mPic M1 (c + 251) μ := by
  rcases h1 with ⟨a1ω, a2ω, a3ω⟩ | ⟨a1ω, a2ω, a3ω, a4ω⟩
  · exact lS_me hm a3ω
  · exact lS_m hm a4ω
theorem lS_type {M M1 M2 : mM} {c : Nat} {μ : zMS} {p ty : Nat} {ch x1 x2 : Int32} (hE : μ.2 5 = 0 ∧ μ.2 4 = nI p ∧ μ.2 7 = nI ty) (hI : lI c M) (h1 : (¬ zW 32 126 ch ∧ x1 = -1000001 ∧ M1 = M) ∨ (zW 32 126 ch ∧ ty = 80 ∧ x1 = -1000003 ∧ M1 = M) ∨ (zW 32 126 ch ∧ ¬ ty = 80 ∧ x1 = nI (ty + 1) ∧ cPic M1 c (μ.1 1) (μ.1 2) p (ty + 1) (upd (μ.1 5) ty ch) ∧ zFr M M1 c 251)) (h2 : (¬ zW 32 126 ch ∧ x2 = -1000001 ∧ M2 = M1) ∨ (zW 32 126 ch ∧ ty = 80 ∧ x2 = -1000003 ∧ M2 = M1) ∨ (zW 32 126 ch ∧ ¬ ty = 80 ∧ x2 = nI (ty + 1) ∧ mPic M2 (c + 251) (mS (mA μ 5 (upd (μ.1 5) ty ch)) 7 (nI (ty + 1))) ∧ zFr M1 M2 (c + 251) 9)) : x1 = x2 ∧ lI c M2 := by
  rcases h1 with ⟨a1ω, a2ω, a3ω⟩ | ⟨a1ω, a0ω, a2ω, a3ω⟩ | ⟨a1ω, a0ω, a2ω, a3ω, a4ω⟩
  · rcases h2 with ⟨b1ω, b2ω, b3ω⟩ | ⟨b1ω, b0ω, b2ω, b3ω⟩ | ⟨b1ω, b0ω, b2ω, b3ω, b4ω⟩
    · rw [b3ω, a3ω]
      exact ⟨a2ω.trans b2ω.symm, hI⟩
    · exact absurd b1ω a1ω
    · exact absurd b1ω a1ω
  · rcases h2 with ⟨b1ω, b2ω, b3ω⟩ | ⟨b1ω, b0ω, b2ω, b3ω⟩ | ⟨b1ω, b0ω, b2ω, b3ω, b4ω⟩
    · exact absurd a1ω b1ω
    · rw [b3ω, a3ω]
      exact ⟨a2ω.trans b2ω.symm, hI⟩
    · exact absurd a0ω b0ω
  · rcases h2 with ⟨b1ω, b2ω, b3ω⟩ | ⟨b1ω, b0ω, b2ω, b3ω⟩ | ⟨b1ω, b0ω, b2ω, b3ω, b4ω⟩
    · exact absurd a1ω b1ω
    · exact absurd b0ω a0ω
    · exact ⟨a2ω.trans b2ω.symm, _, p, ty + 1, b3ω, ⟨hE.1, hE.2.1, rfl⟩, lS_c a3ω b4ω⟩
theorem lS_mt {M M1 : mM} {c : Nat} {μ : zMS} {X Y Z W1 W2 Z' Y' : Prop} (hm : mPic M (c + 251) μ) (h1 : (X ∧ Y ∧ M1 = M) ∨ (W1 ∧ W2 ∧ Z ∧ M1 = M) ∨ (W1 ∧ ¬ W2 ∧ Z' ∧ Y' ∧ zFr M M1 c 251)) : mPic M1 (c + 251) μ := by
  rcases h1 with ⟨a1ω, a2ω, a3ω⟩ | ⟨a1ω, a0ω, a2ω, a3ω⟩ | ⟨a1ω, a0ω, a2ω, a3ω, a4ω⟩
  · exact lS_me hm a3ω
  · exact lS_me hm a3ω
  · exact lS_m hm a4ω
theorem lS_clear {M M1 M2 : mM} {c : Nat} {μ : zMS} {p ty : Nat} {x1 x2 : Int32} (hE : μ.2 5 = 0 ∧ μ.2 4 = nI p ∧ μ.2 7 = nI ty) (h1 : x1 = nI ty ∧ cPic M1 c (μ.1 1) (μ.1 2) p 0 (μ.1 5) ∧ zFr M M1 c 251) (h2 : x2 = μ.2 7 ∧ mPic M2 (c + 251) (mS μ 7 0) ∧ zFr M1 M2 (c + 251) 9) : x1 = x2 ∧ lI c M2 := ⟨h1.1.trans (hE.2.2.symm.trans h2.1.symm), _, p, 0, h2.2.1, ⟨hE.1, hE.2.1, rfl⟩, lS_c h1.2.1 h2.2.2⟩
