theorem gd_drop {s : Nat → Int32} {no k i f : Nat} (hi : i < 16) (hf : f < 12) : gd (zDrop s no k) i f = gd s i f := zDrop_lo (by omega) (by omega)
theorem vd_drop {s : Nat → Int32} {no k u f : Nat} (hu : u < 4) (hf : f < 8) : vd (zDrop s no k) u f = vd s u f := zDrop_lo (by omega) (by omega)
def zShF (f : Nat → Int32) (a i j : Nat) : Int32 := if a ≤ j ∧ j < i then f (j + 5) else f j
theorem zShF_0 (f : Nat → Int32) (a : Nat) : zShF f a a = f := by
  funext j
  exact if_neg (by omega)
theorem zShF_s (f : Nat → Int32) {a i : Nat} (h : a ≤ i) : upd (zShF f a i) i (zShF f a i (i + 5)) = zShF f a (i + 1) := by
  funext j
  unfold upd zShF
  by_cases hj : j = i
  · rw [if_pos hj, hj, if_neg (by omega), if_pos (by omega)]
  · rw [if_neg hj]
    by_cases h1 : a ≤ j ∧ j < i
    · rw [if_pos h1, if_pos (by omega)]
    · rw [if_neg h1, if_neg (by omega)]
/-- the offer k gone, the number not yet -/
def zDr6 (s : Nat → Int32) (no k : Nat) : Nat → Int32 := upd (zDrop s no k) 6 (s 6)
theorem zDr6_o {s : Nat → Int32} {no k q : Nat} (h : q < 237) : zDr6 s no k q = s q := by
  unfold zDr6 upd
  by_cases h6 : q = 6
  · rw [if_pos h6, h6]
  · rw [if_neg h6]
    exact zDrop_lo h6 h
theorem zDr6_f {s : Nat → Int32} {no k : Nat} {x : Int32} (hx : x = nI (no - 1)) : upd (zDr6 s no k) 6 x = zDrop s no k := by
  funext q
  unfold zDr6 upd
  by_cases h6 : q = 6
  · rw [if_pos h6, h6, zDrop_6, hx]
  · rw [if_neg h6, if_neg h6]
theorem lP.dr6 {M M' : mM} {m : Nat} {s f : Nat → Int32} {n nv no k : Nat} (h : lP M m s n nv no) (hk : k < no) (hf : ∀ j, j < 5 * no → f j = lA5 s j) (h5 : zArr M' (m + 5) 50 (zShF f (5 * k) 45)) (hq : ∀ q, q ≠ m + 5 → M' q = M q) : lP M' m (zDr6 s no k) n nv (no - 1) := by
  obtain ⟨a0ω, a1ω, a2ω, a3ω, a4ω, a5ω, a6ω⟩ := h
  have hn16ω := a6ω.1
  have hn4ω := a6ω.2.1
  have hn10ω := a6ω.2.2
  have hgω : ∀ iω, iω < n → ∀ k'ω, k'ω < 12 → gd s iω k'ω = gd (zDr6 s no k) iω k'ω := fun iω hiω k'ω hk'ω => (zDr6_o (q := 13 + 12 * iω + k'ω) (by omega)).symm
  refine ⟨(a0ω.kept (hq _ (by omega))).cong (fun jω hjω => (zDr6_o (by omega)).symm), (a1ω.kept (hq _ (by omega))).cong (fun jω hjω => lA1_cg (hgω _ (by omega) _ (by decide)) (hgω _ (by omega) _ (by decide)) (hgω _ (by omega) _ (by decide)) (hgω _ (by omega) _ (by decide))), (a2ω.kept (hq _ (by omega))).cong (fun jω hjω => lA2_cg (hgω _ (by omega) _ (by decide)) (hgω _ (by omega) _ (by decide)) (hgω _ (by omega) _ (by decide)) (hgω _ (by omega) _ (by decide))), (a3ω.kept (hq _ (by omega))).cong (fun jω hjω => lA3_cg (hgω _ (by omega) _ (by decide)) (hgω _ (by omega) _ (by decide)) (hgω _ (by omega) _ (by decide)) (hgω _ (by omega) _ (by decide))), (a4ω.kept (hq _ (by omega))).cong (fun jω hjω => (zDr6_o (q := 205 + jω) (by omega)).symm), zAL.of h5 (by omega) (fun jω hjω => ?_), hn16ω, hn4ω, by omega⟩
  unfold lA5 zDr6 upd zDrop zDrI zShF
  rw [if_neg (show ¬ 237 + jω = 6 from by omega)]
  by_cases hj2 : 5 * k ≤ jω
  · rw [if_pos ⟨hj2, by omega⟩, if_pos (by omega), hf _ (by omega)]
    unfold lA5
    rw [show 237 + (jω + 5) = 237 + jω + 5 from by omega]
  · rw [if_neg (by omega), if_neg (by omega), if_neg (by omega), hf _ (by omega)]
    rfl
/-- o is the dearest of those from jω on, the first of equals -/
def zOn (s : Nat → Int32) (place hour room bound : Int32) (no j : Nat) (o : Option Nat) : Prop := match o with
  | none => ∀ c, j ≤ c → c < no → ¬ zOk1 s place hour room bound c
  | some k => j ≤ k ∧ k < no ∧ zOk1 s place hour room bound k ∧ ∀ c, j ≤ c → c < no → zOk1 s place hour room bound c → (k < c → ¬ od s k 3 < od s c 3) ∧ (c < k → od s c 3 < od s k 3)
theorem zOn_end {s : Nat → Int32} {place hour room bound : Int32} {no : Nat} : zOn s place hour room bound no no none := fun cω h1ω h2ω => absurd h1ω (by omega)
theorem zOn_no {s : Nat → Int32} {place hour room bound : Int32} {no j : Nat} {o : Option Nat} (h : zOn s place hour room bound no (j + 1) o) (hm : ¬ zOk1 s place hour room bound j) : zOn s place hour room bound no j o := by
  have hxω : ∀ cω, j ≤ cω → zOk1 s place hour room bound cω → j + 1 ≤ cω := fun cω h1ω h2ω => by
    rcases Nat.lt_or_ge j cω with h3ω | h3ω
    · exact h3ω
    · exact absurd (show zOk1 s place hour room bound j from by rw [show j = cω from by omega]; exact h2ω) hm
  cases o with
  | none => exact fun cω h1ω h2ω h3ω => h cω (hxω cω h1ω h3ω) h2ω h3ω
  | some kω => exact ⟨by have := h.1; omega, h.2.1, h.2.2.1, fun cω h1ω h2ω h3ω => h.2.2.2 cω (hxω cω h1ω h3ω) h2ω h3ω⟩
theorem zOn_first {s : Nat → Int32} {place hour room bound : Int32} {no j : Nat} (hj : j < no) (h : zOn s place hour room bound no (j + 1) none) (hm : zOk1 s place hour room bound j) : zOn s place hour room bound no j (some j) := ⟨Nat.le_refl _, hj, hm, fun cω h1ω h2ω h3ω => ⟨fun h4ω => absurd h3ω (h cω (by omega) h2ω), fun h4ω => absurd h1ω (by omega)⟩⟩
theorem zOn_old {s : Nat → Int32} {place hour room bound : Int32} {no j k : Nat} (h : zOn s place hour room bound no (j + 1) (some k)) (hb : od s j 3 < od s k 3) : zOn s place hour room bound no j (some k) := by
  obtain ⟨h1ω, h2ω, h3ω, h4ω⟩ := h
  refine ⟨by omega, h2ω, h3ω, fun cω c1ω c2ω c3ω => ?_⟩
  rcases Nat.lt_or_ge j cω with h5ω | h5ω
  · exact h4ω cω h5ω c2ω c3ω
  · rw [show cω = j from by omega]
    exact ⟨fun h6ω => by omega, fun _ => hb⟩
theorem zOn_new {s : Nat → Int32} {place hour room bound : Int32} {no j k : Nat} (hj : j < no) (h : zOn s place hour room bound no (j + 1) (some k)) (hm : zOk1 s place hour room bound j) (hb : ¬ od s j 3 < od s k 3) : zOn s place hour room bound no j (some j) := by
  obtain ⟨h1ω, h2ω, h3ω, h4ω⟩ := h
  refine ⟨Nat.le_refl _, hj, hm, fun cω c1ω c2ω c3ω => ⟨fun h5ω => ?_, fun h5ω => absurd c1ω (by omega)⟩⟩
  have hjkω := Int32.not_lt.mp hb
  rw [Int32.not_lt]
  by_cases hk : cω = k
  · rw [hk]; exact hjkω
  · have gω := h4ω cω (by omega) c2ω c3ω
    refine Int32.le_trans ?_ hjkω
    rcases Nat.lt_or_ge k cω with h6ω | h6ω
    · exact Int32.not_lt.mp (gω.1 h6ω)
    · exact Int32.le_of_lt (gω.2 (by omega))
theorem zOn_best {s : Nat → Int32} {place hour room bound : Int32} {no : Nat} {o : Option Nat} (h : zOn s place hour room bound no 0 o) : zBest s place hour room bound no = o := by
  cases o with
  | none =>
    have : ∀ qω, qω ≤ no → zBest s place hour room bound qω = none := by
      intro qω
      induction qω with
      | zero => intro _; rfl
      | succ qω ihω =>
        intro hmω
        rw [← zBest_keep (h qω (by omega) (by omega))]
        exact ihω (by omega)
    exact this no (Nat.le_refl no)
  | some kω =>
    obtain ⟨h1ω, h2ω, h3ω, h4ω⟩ := h
    have : ∀ qω, qω ≤ no → kω < qω → zBest s place hour room bound qω = some kω := by
      intro qω
      induction qω with
      | zero => intro _ h; omega
      | succ qω ihω =>
        intro hmω hkω
        by_cases hkm : kω = qω
        · rw [← hkm]
          cases hpω : zBest s place hour room bound kω with
          | none => exact zBest_first h3ω hpω
          | some k'ω =>
            have gω := zBest_lt hpω
            exact zBest_new h3ω hpω ((h4ω k'ω (by omega) (by omega) gω.2).2 gω.1)
        · have hpω := ihω (by omega) (by omega)
          by_cases hmm : zOk1 s place hour room bound qω
          · rw [← zBest_old hpω ((h4ω qω (by omega) (by omega) hmm).1 (by omega))]
            exact hpω
          · rw [← zBest_keep hmm]
            exact hpω
    exact this no (Nat.le_refl no) h2ω
/-- how taking stands after i of the 10 rounds -/
def zTi (place hour : Int32) (R : (Nat → Int32) × Int32) (i : Nat) (no1 : Nat) (s1 : Nat → Int32) (room bound t : Int32) : Prop := zTake place hour no1 s1 room bound t = R ∧ (no1 ≤ 10 - i ∨ zBest s1 place hour room bound no1 = none)
theorem zTi_none {place hour : Int32} {R : (Nat → Int32) × Int32} {i no1 : Nat} {s1 : Nat → Int32} {room bound t : Int32} (h : zTi place hour R i no1 s1 room bound t) (hp : zBest s1 place hour room bound no1 = none) : zTi place hour R (i + 1) no1 s1 room bound t := ⟨h.1, Or.inr hp⟩
theorem zTi_some {place hour : Int32} {R : (Nat → Int32) × Int32} {i no1 k : Nat} {s1 : Nat → Int32} {room bound t : Int32} (hi : i < 10) (h : zTi place hour R i no1 s1 room bound t) (hp : zBest s1 place hour room bound no1 = some k) : zTi place hour R (i + 1) (no1 - 1) (zDrop s1 no1 k) (room - od s1 k 1) (bound - od s1 k 2) (t + od s1 k 3) := by
  refine ⟨(zTake_some hp).symm.trans h.1, Or.inl ?_⟩
  have h4ω : no1 ≤ 10 - i := h.2.elim id (fun zω => by rw [zω] at hp; cases hp)
  have gω := zBest_lt hp
  omega
theorem zTi_end {place hour : Int32} {R : (Nat → Int32) × Int32} {no1 : Nat} {s1 : Nat → Int32} {room bound t : Int32} (h : zTi place hour R 10 no1 s1 room bound t) : R = (s1, t) := by
  refine h.1.symm.trans (zTake_none ?_)
  rcases h.2 with h2ω | h2ω
  · rw [show no1 = 0 from by omega]
    rfl
  · exact h2ω
theorem dI_1 {no : Nat} (h : 0 < no) : dI no = nI (no - 1) := by
  cases no with
  | zero => omega
  | succ jω => rfl
set_option maxRecDepth 20000 in
set_option maxHeartbeats 4000000 in
theorem ct_L_away {K : zK} {M : mM} {nx : Nat} {m : Nat} {s : Nat → Int32} {n nv no : Nat} (hm : lP M m s n nv no) (hN : zN s n nv no) {k : Nat} (hk : k < no) : zCt K yL_away cL_away 4 zr_L_away 0 [.ref m, .ref (m + 5), .int (nI k)] M nx 0 0 (zU (fun M' => lP M' m (zDrop s no k) n nv (no - 1) ∧ zFr M M' m 6)) := by
  refine z_enter [some (.ref m), some (.ref (m + 5)), some (.int (nI k)), none] (by decide +kernel) (Nat.le_of_ble_eq_true rfl) rfl (fun Bω okω hzω => ?_)
  have hno10ω := hN.2.2.2.2.2
  obtain ⟨fω, hf0ω, hf2ω⟩ := hm.2.2.2.2.2.1.arr
  refine z_iconst (v := 5) okω dL_away_0 (by decide) ?_
  refine z_iload_n okω dL_away_1 rfl ?_
  refine z_imul okω dL_away_2 ?_
  rw [lx5_0]
  refine z_istore_n okω dL_away_3 (by decide) rfl ?_
  have loop4ω : ∀ (t4ω i4ω : Nat) (M1ω : mM), 45 < i4ω + t4ω → i4ω ≤ 45 → 5 * k ≤ i4ω → zArr M1ω (m + 5) 50 (zShF fω (5 * k) i4ω) → (∀ qω, qω ≠ m + 5 → M1ω qω = M qω) → zV 4 Bω (zE Bω (zU (fun M'ω => lP M'ω m (zDrop s no k) n nv (no - 1) ∧ zFr M M'ω m 6)) 0 0) 4 [some (.ref m), some (.ref (m + 5)), some (.int (nI k)), some (.int (nI i4ω))] [] M1ω 0 0 := by
    intro t4ω
    induction t4ω with
    | zero => intro i4ω M1ω h14ω h24ω; exact absurd h14ω (by omega)
    | succ t4ω ih4ω =>
      intro i4ω M1ω h14ω h24ω hkiω hz1ω hq1ω
      refine z_iload_n okω dL_away_4 rfl ?_
      refine z_bipush (v := 45) okω dL_away_5 (by decide) ?_
      refine z_icmp_ge (tgt := 24) okω dL_away_7 (by decide) (fun cz7ω => ?_) (fun cz7ω => ?_)
      · have hi45ω : i4ω = 45 := by have := (nI_leI (a := 45) (by omega) (by omega)).mp cz7ω; omega
        rw [hi45ω] at hz1ω
        have hm1ω := hm.dr6 hk hf2ω hz1ω hq1ω
        refine z_aload_n okω dL_away_24 rfl ?_
        refine z_bipush (v := 6) okω dL_away_25 (by decide) ?_
        refine z_dup2 okω dL_away_27 rfl rfl ?_
        refine l_ldG (t := 6) okω dL_away_28 hm1ω rfl (by decide) ?_
        refine z_iconst (v := 1) okω dL_away_29 (by decide) ?_
        refine z_isub okω dL_away_30 ?_
        refine l_stG (t := 6) okω dL_away_31 hm1ω rfl (by decide) (fun Mz2ω hm1ω frz3ω => ?_)
        exact z_vret okω dL_away_32 rfl rfl (Nat.zero_le _) ⟨by rw [zDr6_f (by rw [zDr6_o (by omega), hN.2.2.2.2.1, dI_sub, dI_1 (by omega)])] at hm1ω; exact hm1ω, zFr.tr (fun qω hqω => hq1ω qω (by omega)) (by assumption)⟩
      · have hi45ω : i4ω < 45 := by have := mt (nI_leI (a := 45) (b := i4ω) (by omega) (by omega)).mpr cz7ω; omega
        refine z_aload_n okω dL_away_10 rfl ?_
        refine z_iload_n okω dL_away_11 rfl ?_
        refine z_aload_n okω dL_away_12 rfl ?_
        refine z_iload_n okω dL_away_13 rfl ?_
        refine z_iconst (v := 5) okω dL_away_14 (by decide) ?_
        refine z_iadd okω dL_away_15 ?_
        refine z_ald okω dL_away_16 hz1ω (j := i4ω + 5) (by rw [show (5 : Int32) = nI 5 from rfl, nI_add]) (by omega) (by omega) ?_
        refine z_ast okω dL_away_17 hz1ω rfl (by omega) (by omega) (fun M2ω h3ω h4ω => ?_)
        refine z_iinc okω dL_away_18 rfl (zinc2 _) (by decide) rfl ?_
        refine z_goto (tgt := 4) okω dL_away_21 (by decide) ?_
        exact ih4ω (i4ω + 1) M2ω (by omega) (by omega) (by omega) (by rw [← zShF_s fω hkiω]; exact h3ω) (fun qω hqω => (h4ω qω hqω).trans (hq1ω qω hqω))
  exact loop4ω 46 (5 * k + 0) M (by omega) (by omega) (by omega) (by rw [show 5 * k + 0 = 5 * k from rfl, zShF_0]; exact hf0ω) (fun _ _ => rfl)

set_option maxRecDepth 20000 in
set_option maxHeartbeats 4000000 in
theorem ct_L_offers {K : zK} {M : mM} {nx : Nat} {m : Nat} {s : Nat → Int32} {n nv no : Nat} (hm : lP M m s n nv no) (hN : zN s n nv no) {v : Nat} (hvv : v < nv) {place hour : Int32} : zCt K yL_offers cL_offers 13 zr_L_offers 1 [.ref m, .ref (m + 4), .ref (m + 5), .int (nI v), .int place, .int hour] M nx 0 0 (zI (fun x M' => x = (zTake place hour no s (vd s v 0) (vd s v 1) 0).2 ∧ ∃ no', no' ≤ no ∧ lP M' m (zTake place hour no s (vd s v 0) (vd s v 1) 0).1 n nv no' ∧ zN (zTake place hour no s (vd s v 0) (vd s v 1) 0).1 n nv no' ∧ zFr M M' m 6)) := by
  refine z_enter [some (.ref m), some (.ref (m + 4)), some (.ref (m + 5)), some (.int (nI v)), some (.int place), some (.int hour), none, none, none, none, none, none, none] (by decide +kernel) (Nat.le_of_ble_eq_true rfl) rfl (fun Bω okω hzω => ?_)
  have hno10ω := hN.2.2.2.2.2
  refine z_aload_n okω dL_offers_0 rfl ?_
  refine z_bipush (v := 8) okω dL_offers_1 (by decide) ?_
  refine z_iload_n okω dL_offers_3 rfl ?_
  refine z_imul okω dL_offers_4 ?_
  refine l_ldV (u := v) (t := 0) okω dL_offers_5 hm (lx8_0 v) (by first | assumption | omega) (by decide) ?_
  refine z_istore okω dL_offers_6 (by decide) rfl ?_
  refine z_aload_n okω dL_offers_8 rfl ?_
  refine z_bipush (v := 8) okω dL_offers_9 (by decide) ?_
  refine z_iload_n okω dL_offers_11 rfl ?_
  refine z_imul okω dL_offers_12 ?_
  refine z_iconst (v := 1) okω dL_offers_13 (by decide) ?_
  refine z_iadd okω dL_offers_14 ?_
  refine l_ldV (u := v) (t := 1) okω dL_offers_15 hm (lx8_1 v) (by first | assumption | omega) (by decide) ?_
  refine z_istore okω dL_offers_16 (by decide) rfl ?_
  refine z_iconst (v := 0) okω dL_offers_18 (by decide) ?_
  refine z_istore okω dL_offers_19 (by decide) rfl ?_
  refine z_iconst (v := 0) okω dL_offers_21 (by decide) ?_
  refine z_istore okω dL_offers_22 (by decide) rfl ?_
  have loop24ω : ∀ (t9ω i9ω : Nat) (s1ω : Nat → Int32) (no1ω : Nat) (roomω boundω yω : Int32) (M1ω : mM) (vzq1ω vzq2ω vzq3ω : Option Value), 10 < i9ω + t9ω → i9ω ≤ 10 → zTi place hour (zTake place hour no s (vd s v 0) (vd s v 1) 0) i9ω no1ω s1ω roomω boundω yω → no1ω ≤ no → zN s1ω n nv no1ω → lP M1ω m s1ω n nv no1ω → zFr M M1ω m 6 → zV 13 Bω (zE Bω (zI (fun xω M'ω => xω = (zTake place hour no s (vd s v 0) (vd s v 1) 0).2 ∧ ∃ no'ω, no'ω ≤ no ∧ lP M'ω m (zTake place hour no s (vd s v 0) (vd s v 1) 0).1 n nv no'ω ∧ zN (zTake place hour no s (vd s v 0) (vd s v 1) 0).1 n nv no'ω ∧ zFr M M'ω m 6)) 0 0) 24 [some (.ref m), some (.ref (m + 4)), some (.ref (m + 5)), some (.int (nI v)), some (.int place), some (.int hour), some (.int roomω), some (.int boundω), some (.int yω), some (.int (nI i9ω)), vzq1ω, vzq2ω, vzq3ω] [] M1ω 0 0 := by
    intro t9ω
    induction t9ω with
    | zero => intro i9ω s1ω no1ω roomω boundω yω M1ω vzq1ω vzq2ω vzq3ω h19ω h29ω; exact absurd h19ω (by omega)
    | succ t9ω ih9ω =>
      intro i9ω s1ω no1ω roomω boundω yω M1ω vzq1ω vzq2ω vzq3ω h19ω h29ω htiω hleω hN1ω hm1ω hf1ω
      have h10ω := hN1ω.2.2.2.2.2
      refine z_iload okω dL_offers_24 rfl ?_
      refine z_bipush (v := 10) okω dL_offers_26 (by decide) ?_
      refine z_icmp_ge (tgt := 205) okω dL_offers_28 (by decide) (fun cz28ω => ?_) (fun cz28ω => ?_)
      · have hi16ω : i9ω = 10 := by have := (nI_leI (a := 10) (by omega) (by omega)).mp cz28ω; omega
        rw [hi16ω] at htiω
        have hendω := zTi_end htiω
        refine z_iload okω dL_offers_205 rfl ?_
        exact z_iret okω dL_offers_207 rfl rfl rfl (Nat.zero_le _) ⟨by rw [hendω], no1ω, hleω, by rw [hendω]; exact hm1ω, by rw [hendω]; exact hN1ω, hf1ω⟩
      · have hi16ω : i9ω < 10 := by have := mt (nI_leI (a := 10) (b := i9ω) (by omega) (by omega)).mpr cz28ω; omega
        refine z_iconst (v := -1) okω dL_offers_31 (by decide) ?_
        refine z_istore okω dL_offers_32 (by decide) rfl ?_
        refine z_aload_n okω dL_offers_34 rfl ?_
        refine z_bipush (v := 6) okω dL_offers_35 (by decide) ?_
        refine l_ldG (t := 6) okω dL_offers_37 hm1ω rfl (by decide) ?_
        refine z_iconst (v := 1) okω dL_offers_38 (by decide) ?_
        refine z_isub okω dL_offers_39 ?_
        rw [hN1ω.2.2.2.2.1, dI_sub]
        refine z_istore okω dL_offers_40 (by decide) rfl ?_
        have loop42ω : ∀ (t6ω i6ω : Nat) (oω : Option Nat) (vzq5ω : Option Value), no1ω < i6ω + t6ω → i6ω ≤ no1ω → zOn s1ω place hour roomω boundω no1ω (no1ω - i6ω) oω → zV 13 Bω (zE Bω (zI (fun xω M'ω => xω = (zTake place hour no s (vd s v 0) (vd s v 1) 0).2 ∧ ∃ no'ω, no'ω ≤ no ∧ lP M'ω m (zTake place hour no s (vd s v 0) (vd s v 1) 0).1 n nv no'ω ∧ zN (zTake place hour no s (vd s v 0) (vd s v 1) 0).1 n nv no'ω ∧ zFr M M'ω m 6)) 0 0) 42 [some (.ref m), some (.ref (m + 4)), some (.ref (m + 5)), some (.int (nI v)), some (.int place), some (.int hour), some (.int roomω), some (.int boundω), some (.int yω), some (.int (nI i9ω)), some (.int (oI oω)), some (.int (dI (no1ω - i6ω))), vzq5ω] [] M1ω 0 0 := by
          intro t6ω
          induction t6ω with
          | zero => intro i6ω oω vzq5ω h16ω h26ω; exact absurd h16ω (by omega)
          | succ t6ω ih6ω =>
            intro i6ω oω vzq5ω h16ω h26ω hwnω
            refine z_iload okω dL_offers_42 rfl ?_
            refine z_if_lt (tgt := 148) okω dL_offers_44 (by decide) (fun cz44ω => ?_) (fun cz44ω => ?_)
            · have hz6ω := (dI_neg (by omega)).mp cz44ω
              rw [hz6ω] at hwnω
              have hpk9ω := zOn_best hwnω
              refine z_iload okω dL_offers_148 rfl ?_
              refine z_if_lt (tgt := 199) okω dL_offers_150 (by decide) (fun cz150ω => ?_) (fun cz150ω => ?_)
              · have hpnω : zBest s1ω place hour roomω boundω no1ω = none := hpk9ω.trans (oI_none (fun kω hkω => by rw [hkω] at hwnω; have := hwnω.2.1; omega) cz150ω)
                refine z_iinc okω dL_offers_199 rfl (zinc2 _) (by decide) rfl ?_
                refine z_goto (tgt := 24) okω dL_offers_202 (by decide) ?_
                first | exact ih9ω (i9ω + 1) _ _ _ _ _ _ _ _ _ (by omega) (by omega) (zTi_none htiω hpnω) hleω hN1ω hm1ω hf1ω | exact ih9ω (i9ω + 1) _ _ _ _ _ _ _ _ _ (by omega) (by omega) (zTi_some hi16ω htiω hpkω) (by omega) (zDrop_N hN1ω) hm1ω (hf1ω.tr hf2ω)
              · obtain ⟨kbω, hkbω⟩ := oI_some (Int32.not_lt.mp cz150ω)
                subst hkbω
                have hknω : kbω < no1ω := hwnω.2.1
                have hpkω : zBest s1ω place hour roomω boundω no1ω = some kbω := hpk9ω
                refine z_iload okω dL_offers_153 rfl ?_
                refine z_aload_n okω dL_offers_155 rfl ?_
                refine z_iconst (v := 5) okω dL_offers_156 (by decide) ?_
                refine z_iload okω dL_offers_157 rfl ?_
                refine z_imul okω dL_offers_159 ?_
                refine z_iconst (v := 1) okω dL_offers_160 (by decide) ?_
                refine z_iadd okω dL_offers_161 ?_
                refine l_ldF (u := kbω) (t := 1) okω dL_offers_162 hm1ω (lx5_1 kbω) hknω (by decide) ?_
                refine z_isub okω dL_offers_163 ?_
                refine z_istore okω dL_offers_164 (by decide) rfl ?_
                refine z_iload okω dL_offers_166 rfl ?_
                refine z_aload_n okω dL_offers_168 rfl ?_
                refine z_iconst (v := 5) okω dL_offers_169 (by decide) ?_
                refine z_iload okω dL_offers_170 rfl ?_
                refine z_imul okω dL_offers_172 ?_
                refine z_iconst (v := 2) okω dL_offers_173 (by decide) ?_
                refine z_iadd okω dL_offers_174 ?_
                refine l_ldF (u := kbω) (t := 2) okω dL_offers_175 hm1ω (lx5_2 kbω) hknω (by decide) ?_
                refine z_isub okω dL_offers_176 ?_
                refine z_istore okω dL_offers_177 (by decide) rfl ?_
                refine z_iload okω dL_offers_179 rfl ?_
                refine z_aload_n okω dL_offers_181 rfl ?_
                refine z_iconst (v := 5) okω dL_offers_182 (by decide) ?_
                refine z_iload okω dL_offers_183 rfl ?_
                refine z_imul okω dL_offers_185 ?_
                refine z_iconst (v := 3) okω dL_offers_186 (by decide) ?_
                refine z_iadd okω dL_offers_187 ?_
                refine l_ldF (u := kbω) (t := 3) okω dL_offers_188 hm1ω (lx5_3 kbω) hknω (by decide) ?_
                refine z_iadd okω dL_offers_189 ?_
                refine z_istore okω dL_offers_190 (by decide) rfl ?_
                refine z_aload_n okω dL_offers_192 rfl ?_
                refine z_aload_n okω dL_offers_193 rfl ?_
                refine z_iload okω dL_offers_194 rfl ?_
                refine z_callSv okω dL_offers_196 zm_L_away zw_532 zw_533 (ct_L_away hm1ω hN1ω (k := kbω) hknω) rfl rfl (by decide) (by decide) (by decide) (Nat.le_of_ble_eq_true rfl) (fun Mz2ω qz3ω => ?_)
                obtain ⟨hm4ω, hf2ω⟩ := qz3ω
                refine z_iinc okω dL_offers_199 rfl (zinc2 _) (by decide) rfl ?_
                refine z_goto (tgt := 24) okω dL_offers_202 (by decide) ?_
                first | exact ih9ω (i9ω + 1) _ _ _ _ _ _ _ _ _ (by omega) (by omega) (zTi_none htiω hpnω) hleω hN1ω hm1ω hf1ω | exact ih9ω (i9ω + 1) _ _ _ _ _ _ _ _ _ (by omega) (by omega) (zTi_some hi16ω htiω hpkω) (by omega) (zDrop_N hN1ω) hm4ω (hf1ω.tr hf2ω)
            · obtain ⟨jω, hjω⟩ := dI_ex cz44ω
              have hj2ω : no1ω - (i6ω + 1) = jω := by omega
              have hjnω : jω < no1ω := by omega
              rw [hjω] at hwnω
              rw [hjω]
              show zV _ Bω _ 47 [_, _, _, _, _, _, _, _, _, _, _, some (.int (nI jω)), _] _ M1ω 0 0
              refine z_aload_n okω dL_offers_47 rfl ?_
              refine z_iconst (v := 5) okω dL_offers_48 (by decide) ?_
              refine z_iload okω dL_offers_49 rfl ?_
              refine z_imul okω dL_offers_51 ?_
              refine l_ldF (u := jω) (t := 0) okω dL_offers_52 hm1ω (lx5_0 jω) hjnω (by decide) ?_
              refine z_iload okω dL_offers_53 rfl ?_
              refine z_icmp_ne (tgt := 101) okω dL_offers_55 (by decide) (fun cz55ω => ?_) (fun cz55ω => ?_)
              · have hbω : ¬ zOk1 s1ω place hour roomω boundω jω := fun zω => cz55ω zω.1
                refine z_iconst (v := 0) okω dL_offers_101 (by decide) ?_
                refine z_istore okω dL_offers_102 (by decide) rfl ?_
                refine z_iload okω dL_offers_104 rfl ?_
                refine z_if_eq (tgt := 138) okω dL_offers_106 (by decide) (fun _ => ?_) (fun q9ω => absurd (by decide) q9ω)
                refine z_iload okω dL_offers_138 rfl ?_
                refine z_istore okω dL_offers_140 (by decide) rfl ?_
                refine z_iinc okω dL_offers_142 rfl (show nI jω + Int32.ofInt (-1) = dI (no1ω - (i6ω + 1)) from by rw [hj2ω]; exact dI_dec jω) (by decide) rfl ?_
                refine z_goto (tgt := 42) okω dL_offers_145 (by decide) ?_
                first | exact ih6ω (i6ω + 1) oω _ (by omega) (by omega) (by rw [hj2ω]; exact zOn_no hwnω hbω) | exact ih6ω (i6ω + 1) (some jω) _ (by omega) (by omega) (by rw [hj2ω]; exact zOn_first (by omega) hwnω hmayω) | exact ih6ω (i6ω + 1) (some jω) _ (by omega) (by omega) (by rw [hj2ω]; exact zOn_new (by omega) hwnω hmayω cz130ω) | exact ih6ω (i6ω + 1) (some kbω) _ (by omega) (by omega) (by rw [hj2ω]; exact zOn_old hwnω cz130ω)
              · refine z_aload_n okω dL_offers_58 rfl ?_
                refine z_iconst (v := 5) okω dL_offers_59 (by decide) ?_
                refine z_iload okω dL_offers_60 rfl ?_
                refine z_imul okω dL_offers_62 ?_
                refine z_iconst (v := 4) okω dL_offers_63 (by decide) ?_
                refine z_iadd okω dL_offers_64 ?_
                refine l_ldF (u := jω) (t := 4) okω dL_offers_65 hm1ω (lx5_4 jω) hjnω (by decide) ?_
                refine z_iload okω dL_offers_66 rfl ?_
                refine z_icmp_lt (tgt := 101) okω dL_offers_68 (by decide) (fun cz68ω => ?_) (fun cz68ω => ?_)
                · have hbω : ¬ zOk1 s1ω place hour roomω boundω jω := fun zω => absurd zω.2.1 (Int32.not_le.mpr cz68ω)
                  refine z_iconst (v := 0) okω dL_offers_101 (by decide) ?_
                  refine z_istore okω dL_offers_102 (by decide) rfl ?_
                  refine z_iload okω dL_offers_104 rfl ?_
                  refine z_if_eq (tgt := 138) okω dL_offers_106 (by decide) (fun _ => ?_) (fun q9ω => absurd (by decide) q9ω)
                  refine z_iload okω dL_offers_138 rfl ?_
                  refine z_istore okω dL_offers_140 (by decide) rfl ?_
                  refine z_iinc okω dL_offers_142 rfl (show nI jω + Int32.ofInt (-1) = dI (no1ω - (i6ω + 1)) from by rw [hj2ω]; exact dI_dec jω) (by decide) rfl ?_
                  refine z_goto (tgt := 42) okω dL_offers_145 (by decide) ?_
                  first | exact ih6ω (i6ω + 1) oω _ (by omega) (by omega) (by rw [hj2ω]; exact zOn_no hwnω hbω) | exact ih6ω (i6ω + 1) (some jω) _ (by omega) (by omega) (by rw [hj2ω]; exact zOn_first (by omega) hwnω hmayω) | exact ih6ω (i6ω + 1) (some jω) _ (by omega) (by omega) (by rw [hj2ω]; exact zOn_new (by omega) hwnω hmayω cz130ω) | exact ih6ω (i6ω + 1) (some kbω) _ (by omega) (by omega) (by rw [hj2ω]; exact zOn_old hwnω cz130ω)
                · refine z_aload_n okω dL_offers_71 rfl ?_
                  refine z_iconst (v := 5) okω dL_offers_72 (by decide) ?_
                  refine z_iload okω dL_offers_73 rfl ?_
                  refine z_imul okω dL_offers_75 ?_
                  refine z_iconst (v := 1) okω dL_offers_76 (by decide) ?_
                  refine z_iadd okω dL_offers_77 ?_
                  refine l_ldF (u := jω) (t := 1) okω dL_offers_78 hm1ω (lx5_1 jω) hjnω (by decide) ?_
                  refine z_iload okω dL_offers_79 rfl ?_
                  refine z_icmp_gt (tgt := 101) okω dL_offers_81 (by decide) (fun cz81ω => ?_) (fun cz81ω => ?_)
                  · have hbω : ¬ zOk1 s1ω place hour roomω boundω jω := fun zω => absurd zω.2.2.1 (Int32.not_le.mpr cz81ω)
                    refine z_iconst (v := 0) okω dL_offers_101 (by decide) ?_
                    refine z_istore okω dL_offers_102 (by decide) rfl ?_
                    refine z_iload okω dL_offers_104 rfl ?_
                    refine z_if_eq (tgt := 138) okω dL_offers_106 (by decide) (fun _ => ?_) (fun q9ω => absurd (by decide) q9ω)
                    refine z_iload okω dL_offers_138 rfl ?_
                    refine z_istore okω dL_offers_140 (by decide) rfl ?_
                    refine z_iinc okω dL_offers_142 rfl (show nI jω + Int32.ofInt (-1) = dI (no1ω - (i6ω + 1)) from by rw [hj2ω]; exact dI_dec jω) (by decide) rfl ?_
                    refine z_goto (tgt := 42) okω dL_offers_145 (by decide) ?_
                    first | exact ih6ω (i6ω + 1) oω _ (by omega) (by omega) (by rw [hj2ω]; exact zOn_no hwnω hbω) | exact ih6ω (i6ω + 1) (some jω) _ (by omega) (by omega) (by rw [hj2ω]; exact zOn_first (by omega) hwnω hmayω) | exact ih6ω (i6ω + 1) (some jω) _ (by omega) (by omega) (by rw [hj2ω]; exact zOn_new (by omega) hwnω hmayω cz130ω) | exact ih6ω (i6ω + 1) (some kbω) _ (by omega) (by omega) (by rw [hj2ω]; exact zOn_old hwnω cz130ω)
                  · refine z_aload_n okω dL_offers_84 rfl ?_
                    refine z_iconst (v := 5) okω dL_offers_85 (by decide) ?_
                    refine z_iload okω dL_offers_86 rfl ?_
                    refine z_imul okω dL_offers_88 ?_
                    refine z_iconst (v := 2) okω dL_offers_89 (by decide) ?_
                    refine z_iadd okω dL_offers_90 ?_
                    refine l_ldF (u := jω) (t := 2) okω dL_offers_91 hm1ω (lx5_2 jω) hjnω (by decide) ?_
                    refine z_iload okω dL_offers_92 rfl ?_
                    refine z_icmp_gt (tgt := 101) okω dL_offers_94 (by decide) (fun cz94ω => ?_) (fun cz94ω => ?_)
                    · have hbω : ¬ zOk1 s1ω place hour roomω boundω jω := fun zω => absurd zω.2.2.2 (Int32.not_le.mpr cz94ω)
                      refine z_iconst (v := 0) okω dL_offers_101 (by decide) ?_
                      refine z_istore okω dL_offers_102 (by decide) rfl ?_
                      refine z_iload okω dL_offers_104 rfl ?_
                      refine z_if_eq (tgt := 138) okω dL_offers_106 (by decide) (fun _ => ?_) (fun q9ω => absurd (by decide) q9ω)
                      refine z_iload okω dL_offers_138 rfl ?_
                      refine z_istore okω dL_offers_140 (by decide) rfl ?_
                      refine z_iinc okω dL_offers_142 rfl (show nI jω + Int32.ofInt (-1) = dI (no1ω - (i6ω + 1)) from by rw [hj2ω]; exact dI_dec jω) (by decide) rfl ?_
                      refine z_goto (tgt := 42) okω dL_offers_145 (by decide) ?_
                      first | exact ih6ω (i6ω + 1) oω _ (by omega) (by omega) (by rw [hj2ω]; exact zOn_no hwnω hbω) | exact ih6ω (i6ω + 1) (some jω) _ (by omega) (by omega) (by rw [hj2ω]; exact zOn_first (by omega) hwnω hmayω) | exact ih6ω (i6ω + 1) (some jω) _ (by omega) (by omega) (by rw [hj2ω]; exact zOn_new (by omega) hwnω hmayω cz130ω) | exact ih6ω (i6ω + 1) (some kbω) _ (by omega) (by omega) (by rw [hj2ω]; exact zOn_old hwnω cz130ω)
                    · have hmayω : zOk1 s1ω place hour roomω boundω jω := ⟨cz55ω, Int32.not_lt.mp cz68ω, Int32.not_lt.mp cz81ω, Int32.not_lt.mp cz94ω⟩
                      refine z_iconst (v := 1) okω dL_offers_97 (by decide) ?_
                      refine z_goto (tgt := 102) okω dL_offers_98 (by decide) ?_
                      refine z_istore okω dL_offers_102 (by decide) rfl ?_
                      refine z_iload okω dL_offers_104 rfl ?_
                      refine z_if_eq (tgt := 138) okω dL_offers_106 (by decide) (fun q9ω => absurd q9ω (by decide)) (fun _ => ?_)
                      refine z_iload okω dL_offers_109 rfl ?_
                      refine z_if_lt (tgt := 133) okω dL_offers_111 (by decide) (fun cz111ω => ?_) (fun cz111ω => ?_)
                      · have hoω := oI_none (fun kω hkω => by rw [hkω] at hwnω; have := hwnω.2.1; omega) cz111ω
                        have hwoω := hwnω
                        rw [hoω] at hwnω
                        refine z_iload okω dL_offers_133 rfl ?_
                        refine z_goto (tgt := 140) okω dL_offers_135 (by decide) ?_
                        refine z_istore okω dL_offers_140 (by decide) rfl ?_
                        refine z_iinc okω dL_offers_142 rfl (show nI jω + Int32.ofInt (-1) = dI (no1ω - (i6ω + 1)) from by rw [hj2ω]; exact dI_dec jω) (by decide) rfl ?_
                        refine z_goto (tgt := 42) okω dL_offers_145 (by decide) ?_
                        first | exact ih6ω (i6ω + 1) oω _ (by omega) (by omega) (by rw [hj2ω]; exact zOn_no hwnω hbω) | exact ih6ω (i6ω + 1) (some jω) _ (by omega) (by omega) (by rw [hj2ω]; exact zOn_first (by omega) hwnω hmayω) | exact ih6ω (i6ω + 1) (some jω) _ (by omega) (by omega) (by rw [hj2ω]; exact zOn_new (by omega) hwnω hmayω cz130ω) | exact ih6ω (i6ω + 1) (some kbω) _ (by omega) (by omega) (by rw [hj2ω]; exact zOn_old hwnω cz130ω)
                      · obtain ⟨kbω, hkbω⟩ := oI_some (Int32.not_lt.mp cz111ω)
                        subst hkbω
                        have hknω : kbω < no1ω := hwnω.2.1
                        refine z_aload_n okω dL_offers_114 rfl ?_
                        refine z_iconst (v := 5) okω dL_offers_115 (by decide) ?_
                        refine z_iload okω dL_offers_116 rfl ?_
                        refine z_imul okω dL_offers_118 ?_
                        refine z_iconst (v := 3) okω dL_offers_119 (by decide) ?_
                        refine z_iadd okω dL_offers_120 ?_
                        refine l_ldF (u := jω) (t := 3) okω dL_offers_121 hm1ω (lx5_3 jω) hjnω (by decide) ?_
                        refine z_aload_n okω dL_offers_122 rfl ?_
                        refine z_iconst (v := 5) okω dL_offers_123 (by decide) ?_
                        refine z_iload okω dL_offers_124 rfl ?_
                        refine z_imul okω dL_offers_126 ?_
                        refine z_iconst (v := 3) okω dL_offers_127 (by decide) ?_
                        refine z_iadd okω dL_offers_128 ?_
                        refine l_ldF (u := kbω) (t := 3) okω dL_offers_129 hm1ω (lx5_3 kbω) hknω (by decide) ?_
                        refine z_icmp_lt (tgt := 138) okω dL_offers_130 (by decide) (fun cz130ω => ?_) (fun cz130ω => ?_)
                        · refine z_iload okω dL_offers_138 rfl ?_
                          refine z_istore okω dL_offers_140 (by decide) rfl ?_
                          refine z_iinc okω dL_offers_142 rfl (show nI jω + Int32.ofInt (-1) = dI (no1ω - (i6ω + 1)) from by rw [hj2ω]; exact dI_dec jω) (by decide) rfl ?_
                          refine z_goto (tgt := 42) okω dL_offers_145 (by decide) ?_
                          first | exact ih6ω (i6ω + 1) oω _ (by omega) (by omega) (by rw [hj2ω]; exact zOn_no hwnω hbω) | exact ih6ω (i6ω + 1) (some jω) _ (by omega) (by omega) (by rw [hj2ω]; exact zOn_first (by omega) hwnω hmayω) | exact ih6ω (i6ω + 1) (some jω) _ (by omega) (by omega) (by rw [hj2ω]; exact zOn_new (by omega) hwnω hmayω cz130ω) | exact ih6ω (i6ω + 1) (some kbω) _ (by omega) (by omega) (by rw [hj2ω]; exact zOn_old hwnω cz130ω)
                        · refine z_iload okω dL_offers_133 rfl ?_
                          refine z_goto (tgt := 140) okω dL_offers_135 (by decide) ?_
                          refine z_istore okω dL_offers_140 (by decide) rfl ?_
                          refine z_iinc okω dL_offers_142 rfl (show nI jω + Int32.ofInt (-1) = dI (no1ω - (i6ω + 1)) from by rw [hj2ω]; exact dI_dec jω) (by decide) rfl ?_
                          refine z_goto (tgt := 42) okω dL_offers_145 (by decide) ?_
                          first | exact ih6ω (i6ω + 1) oω _ (by omega) (by omega) (by rw [hj2ω]; exact zOn_no hwnω hbω) | exact ih6ω (i6ω + 1) (some jω) _ (by omega) (by omega) (by rw [hj2ω]; exact zOn_first (by omega) hwnω hmayω) | exact ih6ω (i6ω + 1) (some jω) _ (by omega) (by omega) (by rw [hj2ω]; exact zOn_new (by omega) hwnω hmayω cz130ω) | exact ih6ω (i6ω + 1) (some kbω) _ (by omega) (by omega) (by rw [hj2ω]; exact zOn_old hwnω cz130ω)
        exact loop42ω (no1ω + 1) 0 none _ (by omega) (by omega) (by rw [Nat.sub_zero]; exact zOn_end)
  exact loop24ω 11 0 s no _ _ _ M _ _ _ (by omega) (by omega) ⟨rfl, Or.inl (by omega)⟩ (Nat.le_refl _) hN hm zFr.rf

