theorem zInV_12 {s : Nat → Int32} {i : Nat} {x : Int32} (z : zInV s i x) : gd s i 6 = 1 ∨ gd s i 6 = 2 := by
  have h8 := z.2.1
  have h4 := Int32.le_iff_toInt_le.mp h8.1
  have h5 := Int32.le_iff_toInt_le.mp h8.2
  have e1 : (1 : Int32).toInt = 1 := rfl
  have e2 : (2 : Int32).toInt = 2 := rfl
  rw [e1] at h4
  rw [e2] at h5
  rcases (by omega : (gd s i 6).toInt = 1 ∨ (gd s i 6).toInt = 2) with h6 | h6
  · exact Or.inl (Int32.toInt_inj.mp (h6.trans e1.symm))
  · exact Or.inr (Int32.toInt_inj.mp (h6.trans e2.symm))
theorem zWF.no1 {s : Nat → Int32} {n nv no v : Nat} (h : zWF s n nv no) (hv : v < nv) (h2 : ¬ vd s v 2 = 0) : ∀ c, c < n → gd s c 6 = 1 → ¬ gd s c 7 = nI v := fun c hc h1 h7 => by
  obtain ⟨u, hu, h8, h9⟩ := h.ld c hc (Or.inl h1)
  have hn4 := h.N.2.2.2.1
  have e := (nI_eq (a := v) (b := u) (by omega) (by omega)).mp (h7.symm.trans h8)
  rw [← e] at h9
  exact h2 (h9 h1)
theorem zWF.in2 {s : Nat → Int32} {n nv no v : Nat} (h : zWF s n nv no) (hv : v < nv) (h2 : ¬ vd s v 2 = 0) : ∀ c, c < n → zInV s c (nI v) → gd s c 6 = 2 := fun c hc hin => by
  rcases zInV_12 hin with h1 | h1
  · exact absurd hin.2.2 (h.no1 hv h2 c hc h1)
  · exact h1
theorem zWF.fee {s : Nat → Int32} {n nv no : Nat} (h : zWF s n nv no) (k : Nat) : zWF (zFee s k) n nv no :=
  h.scal (zFee_N h.N k) (by rw [zFee_o (by decide)]; exact h.s0) (by rw [zFee_o (by decide)]; exact h.s1) (by rw [zFee_o (by decide)]; exact h.s2) (by rw [zFee_o (by decide)]; exact h.tm) (zFee_o (by decide) k) (zFee_o (by decide) k) (fun i hi j hj => zFee_o (by omega) k) (fun i hi j hj => zFee_o (by omega) k) (fun o ho => by rw [show od (zFee s k) o 3 = od s o 3 from zFee_o (by omega) k]; exact h.of o ho)
theorem zWF.tick {s : Nat → Int32} {n nv no : Nat} (h : zWF s n nv no) (ht : s 5 < 9000) : zWF (zTick s) n nv no := by
  have htm := h.tm
  have e : ∀ q, q ≠ 5 → zTick s q = s q := fun q hq => upd_n _ _ hq
  have e5 : zTick s 5 = s 5 + 1 := upd_s _ _ _
  exact h.scal (zTick_N h.N) (by rw [e _ (by decide)]; exact h.s0) (by rw [e _ (by decide)]; exact h.s1) (by rw [e _ (by decide)]; exact h.s2) (by rw [e5]; constructor <;> grind) (e _ (by decide)) (e _ (by decide)) (fun i hi j hj => e _ (by omega)) (fun i hi j hj => e _ (by omega)) (fun o ho => by rw [show od (zTick s) o 3 = od s o 3 from e _ (by omega)]; exact h.of o ho)
theorem zWF.drop {s : Nat → Int32} {n nv no k : Nat} (h : zWF s n nv no) (hk : k < no) : zWF (zDrop s no k) n nv (no - 1) := by
  have hn := h.N.2.1
  have hnv := h.N.2.2.2.1
  exact h.scal (zDrop_N h.N) (by rw [zDrop_lo (by decide) (by decide)]; exact h.s0) (by rw [zDrop_lo (by decide) (by decide)]; exact h.s1) (by rw [zDrop_lo (by decide) (by decide)]; exact h.s2) (by rw [zDrop_lo (by decide) (by decide)]; exact h.tm) (zDrop_lo (by decide) (by decide)) (zDrop_lo (by decide) (by decide)) (fun i hi j hj => zDrop_lo (by omega) (by omega)) (fun i hi j hj => zDrop_lo (by omega) (by omega)) (zDrop_pr h.of hk)
theorem zDel1_7 {s : Nat → Int32} {c : Nat} : zDel1 s c 7 = if gd s c 4 < s 5 then s 7 else s 7 + 1 := by
  simp only [zDel1]
  rw [upd_n _ _ (by decide), upd_n _ _ (by decide)]
  split
  · rw [upd_n _ _ (by decide), pg_lo (by decide), pg_lo (by decide)]
  · rw [upd_s, pg_lo (by decide), pg_lo (by decide)]
theorem zDel1_8 {s : Nat → Int32} {c : Nat} : zDel1 s c 8 = if gd s c 4 < s 5 then s 8 + 1 else s 8 := by
  simp only [zDel1]
  rw [upd_n _ _ (by decide), upd_n _ _ (by decide)]
  split
  · rw [upd_s, pg_lo (by decide), pg_lo (by decide)]
  · rw [upd_n _ _ (by decide), pg_lo (by decide), pg_lo (by decide)]
theorem zWF.del1 {s : Nat → Int32} {n nv no c : Nat} (h : zWF s n nv no) (hc : c < n) (h2 : gd s c 6 = 2) : zWF (zDel1 s c) n nv no := by
  have h6 : gd (zDel1 s c) c 6 = if gd s c 4 < s 5 then 4 else 3 := by rw [zDel1_g, if_neg (by decide), if_pos rfl]
  have hk : ∀ k, k ≠ 6 → k ≠ 8 → gd (zDel1 s c) c k = gd s c k := fun k h1 h2 => by rw [zDel1_g, if_neg h2, if_neg h1]
  have h8 : gd (zDel1 s c) c 8 = s 5 := by rw [zDel1_g, if_pos rfl]
  have ho : ∀ j, j < n → j ≠ c → ∀ k, k < 12 → gd (zDel1 s c) j k = gd s j k := fun j hj hjc k hk => zDel1_o (by omega) (by omega)
  have hct : ∀ k, k ≠ 6 → k ≠ 8 → k < 12 → ∀ j, j < n → zCt1 (zDel1 s c) k j = zCt1 s k j := fun k k6 k8 k12 j hj => by
    by_cases hjc : j = c
    · rw [hjc]
      unfold zCt1
      rw [h6, h2, hk k k6 k8]
      split <;> rfl
    · exact zCt1_cong (ho j hj hjc 6 (by decide)) (ho j hj hjc k k12)
  have hg := h.g c hc
  have hgo : ∀ x j, j < n → j ≠ c → (gd (zDel1 s c) j 6 = x ↔ gd s j 6 = x) := fun x j hj hjc => by rw [ho j hj hjc 6 (by decide)]
  refine h.good hc (fun q h1 h2 => zDel1_o (by omega) h2) ?_ (by rw [zTot_cong n (hct 1 (by decide) (by decide) (by decide))]; exact h.sz) (by rw [zTot_cong n (hct 5 (by decide) (by decide) (by decide))]; exact h.wo) (fun z => ?_) (fun u hu z => ?_) ?_ ?_
  · unfold zG at hg ⊢
    rw [hk 0 (by decide) (by decide), hk 1 (by decide) (by decide), hk 3 (by decide) (by decide), hk 4 (by decide) (by decide), hk 5 (by decide) (by decide), hk 7 (by decide) (by decide), h6, h8]
    exact ⟨hg.1, hg.2.1, hg.2.2.1, hg.2.2.2.1, by split <;> decide, hg.2.2.2.2.2.1, Or.inr h.tm.1⟩
  · rw [h6] at z
    split at z <;> exact absurd z (by decide)
  · have z9 := zInV_12 z
    rw [h6] at z9
    split at z9 <;> exact absurd z9 (by decide)
  · rw [zDel1_7, h.c3]
    by_cases hl : gd s c 4 < s 5
    · have e3 : zK3 (zDel1 s c) 3 n = zK3 s 3 n := zK3_cong n (fun jz hjz => by
        by_cases hjc : jz = c
        · rw [hjc, h6, if_pos hl, h2]
          decide
        · exact hgo 3 jz hjz hjc)
      rw [if_pos hl, e3]
    · rw [if_neg hl, zK3_add (s := s) n hc (hgo 3) (by rw [h6, if_neg hl]) (by rw [h2]; decide)]
  · rw [zDel1_8, h.c4]
    by_cases hl : gd s c 4 < s 5
    · rw [if_pos hl, zK3_add (s := s) n hc (hgo 4) (by rw [h6, if_pos hl]) (by rw [h2]; decide)]
    · have e3 : zK3 (zDel1 s c) 4 n = zK3 s 4 n := zK3_cong n (fun jz hjz => by
        by_cases hjc : jz = c
        · rw [hjc, h6, if_neg hl, h2]
          decide
        · exact hgo 4 jz hjz hjc)
      rw [if_neg hl, e3]
theorem zDel_WF {s : Nat → Int32} {n nv no v : Nat} (h : zWF s n nv no) (hu : ∀ c, c < n → zInV s c (nI v) → gd s c 6 = 2) : ∀ k, k ≤ n → zWF (zDel v s k).1 n nv no
  | 0, _ => h
  | k + 1, hk => by
    have ih := zDel_WF h hu k (by omega)
    by_cases hc : zInV (zDel v s k).1 k (nI v)
    · rw [zDel_t hc]
      have e : ∀ j, gd (zDel v s k).1 k j = gd s k j := fun j => zDel_o k (by omega)
      exact ih.del1 (by omega) ((e 6).trans (hu k (by omega) ((zInV_cong (e 6) (e 7)).mp hc)))
    · rw [zDel_f hc]
      exact ih
theorem zTake_o {place hour : Int32} {q : Nat} (hq : q ≠ 6) (hq2 : q < 237) : ∀ (no : Nat) (s : Nat → Int32) (room bound t : Int32), (zTake place hour no s room bound t).1 q = s q
  | 0, s, _, _, _ => rfl
  | no + 1, s, room, bound, t => by
    cases hb : zBest s place hour room bound (no + 1) with
    | none => rw [zTake_none hb]
    | some b =>
      rw [zTake_some hb]
      exact (zTake_o hq hq2 no _ _ _ _).trans (zDrop_lo hq hq2)
theorem zTake_WF {place hour : Int32} {n nv : Nat} : ∀ (no : Nat) (s : Nat → Int32) (room bound t : Int32), zWF s n nv no → ∃ no', no' ≤ no ∧ zWF (zTake place hour no s room bound t).1 n nv no'
  | 0, s, _, _, _, h => ⟨0, Nat.le_refl _, h⟩
  | no + 1, s, room, bound, t, h => by
    cases hb : zBest s place hour room bound (no + 1) with
    | none => rw [zTake_none hb]; exact ⟨_, Nat.le_refl _, h⟩
    | some b =>
      rw [zTake_some hb]
      obtain ⟨no', h1, h2⟩ := zTake_WF (place := place) (hour := hour) no _ (room - od s b 1) (bound - od s b 2) (t + od s b 3) (h.drop (zBest_lt hb).1)
      exact ⟨no', by omega, h2⟩
/-- what an arrival leaves as it was -/
theorem zArr1_o {s : Nat → Int32} {n v q : Nat} (h : q < 6 ∨ q = 10 ∨ q = 11 ∨ (13 + 12 * n ≤ q ∧ q < 237)) (h2 : q < 205 + 8 * v ∨ 205 + 8 * v + 8 ≤ q) : (zArr1 s n v).1 q = s q := by
  simp only [zArr1]
  rw [pv_o (by decide) h2, pv_o (by decide) h2, pv_o (by decide) h2, zTake_o (by omega) (by omega)]
  exact zDel_o n (by omega)
theorem zArr1_v {s : Nat → Int32} {n v k : Nat} (hv : v < 4) (hk : k < 8) (hn : n ≤ 16) : vd (zArr1 s n v).1 v k = if k = 4 then s 5 + vd s v 5 else if k = 2 then 2 else if k = 6 then (zTake (vd s v 3) (s 5) (cO (zDel v s n).1) (zDel v s n).1 (vd s v 0) (vd s v 1) 0).2 else vd s v k := by
  have e : ∀ j, j < 8 → vd (zDel v s n).1 v j = vd s v j := fun j hj => zDel_o n (by omega)
  have e5 : (zDel v s n).1 5 = s 5 := zDel_o n (by omega)
  have e2 : ∀ (o : Nat) (x y z w : Int32) (t : Int32) (j : Nat), j < 8 → vd (zTake x y o (zDel v s n).1 z w t).1 v j = vd s v j := fun o x y z w t j hj => (zTake_o (by omega) (by omega) o _ _ _ _).trans (e j hj)
  simp only [zArr1]
  rw [vd_pv, vd_pv, vd_pv, vd_pv, vd_pv, e2 _ _ _ _ _ _ k hk, e2 _ _ _ _ _ _ 5 (by decide), e 0 (by decide), e 1 (by decide), e 3 (by decide), e5, pv_lo (by decide), pv_lo (by decide), zTake_o (by decide) (by decide), e5]
  simp
theorem zWF.arr1 {s : Nat → Int32} {n nv no v : Nat} (h : zWF s n nv no) (hv : v < nv) (h1 : vd s v 2 = 1) : ∃ no', no' ≤ no ∧ zWF (zArr1 s n v).1 n nv no' := by
  have hn := h.N.2.1
  have hnv := h.N.2.2.2.1
  have h2 : ¬ vd s v 2 = 0 := by rw [h1]; decide
  have hd := zDel_WF h (h.in2 hv h2) n (Nat.le_refl _)
  have e : ∀ j, j < 8 → vd (zDel v s n).1 v j = vd s v j := fun j hj => zDel_o n (by omega)
  obtain ⟨no', ho, ht⟩ := zTake_WF (place := vd (zDel v s n).1 v 3) (hour := (zDel v s n).1 5) no (zDel v s n).1 (vd (zDel v s n).1 v 0) (vd (zDel v s n).1 v 1) 0 hd
  refine ⟨no', ho, ?_⟩
  have hco : cO (zDel v s n).1 = no := cO_N hd.N
  have hvv := fun (kz : Nat) (hkz : kz < 8) => zArr1_v (s := s) (v := v) (n := n) (k := kz) (by omega) hkz hn
  have et : ∀ j, j < 8 → vd (zTake (vd (zDel v s n).1 v 3) ((zDel v s n).1 5) no (zDel v s n).1 (vd (zDel v s n).1 v 0) (vd (zDel v s n).1 v 1) 0).1 v j = vd s v j := fun j hj => (zTake_o (by omega) (by omega) no _ _ _ _).trans (e j hj)
  have h2t : ¬ vd (zTake (vd (zDel v s n).1 v 3) ((zDel v s n).1 5) no (zDel v s n).1 (vd (zDel v s n).1 v 0) (vd (zDel v s n).1 v 1) 0).1 v 2 = 0 := by rw [et 2 (by decide)]; exact h2
  refine ht.veh hv (fun q _ h9 => ?_) ?_ (fun i hi h6 h7 => absurd h7 (ht.no1 hv h2t i hi h6)) (fun _ i hi hin => ?_)
  · simp only [zArr1]
    rw [pv_o (by decide) h9, pv_o (by decide) h9, pv_o (by decide) h9, hco]
  · have h9 := h.v v hv
    unfold zVv at h9 ⊢
    rw [hvv 0 (by decide), hvv 1 (by decide), hvv 2 (by decide), hvv 3 (by decide), hvv 6 (by decide)]
    simp only [show ¬ (0 : Nat) = 4 by decide, show ¬ (0 : Nat) = 2 by decide, show ¬ (0 : Nat) = 6 by decide, show ¬ (1 : Nat) = 4 by decide, show ¬ (1 : Nat) = 2 by decide, show ¬ (1 : Nat) = 6 by decide, show ¬ (2 : Nat) = 4 by decide, show ¬ (3 : Nat) = 4 by decide, show ¬ (3 : Nat) = 2 by decide, show ¬ (3 : Nat) = 6 by decide, if_false, if_true]
    exact ⟨h9.1, h9.2.1, by decide, fun _ => h9.2.2.2.1 h2, fun z => absurd trivial z⟩
  · rw [hvv 3 (by decide), if_neg (by decide), if_neg (by decide), if_neg (by decide), ← et 3 (by decide)]
    exact ht.aw v hv h2t i hi hin
theorem zWF.ret {s : Nat → Int32} {n nv no v : Nat} (h : zWF s n nv no) (hv : v < nv) : zWF (zRet s v) n nv no := by
  have hnv := h.N.2.2.2.1
  have hvv := zRet_v (s := s) (v := v) (k := 0)
  have e0 : vd (zRet s v) v 2 = 0 := by rw [zRet_v (by decide) (by omega), if_pos rfl]
  refine h.veh hv (fun q h8 h9 => zRet_o (by omega) h9) ?_ (fun i hi h6 h7 => e0) (fun z => absurd e0 z)
  have h9 := h.v v hv
  unfold zVv at h9 ⊢
  rw [e0, zRet_v (by decide) (by omega), zRet_v (by decide) (by omega), zRet_v (k := 6) (by decide) (by omega), if_neg (by decide), if_neg (by decide), if_neg (by decide), if_neg (by decide), if_neg (by decide), if_neg (by decide), if_neg (by decide), if_neg (by decide), if_pos rfl]
  exact ⟨h9.1, h9.2.1, by decide, fun z => absurd rfl z, fun _ => rfl⟩
theorem zHv_WF {s : Nat → Int32} {n nv no : Nat} (h : zWF s n nv no) : ∀ v, v ≤ nv → ∃ no', no' ≤ no ∧ zWF (zHv n s v).1 n nv no'
  | 0, _ => ⟨no, Nat.le_refl _, h⟩
  | v + 1, hv => by
    obtain ⟨o1, h1, h2⟩ := zHv_WF h v (by omega)
    by_cases hc : 0 < vd (zHv n s v).1 v 2 ∧ vd (zHv n s v).1 v 4 = (zHv n s v).1 5
    · by_cases h3 : vd (zHv n s v).1 v 2 = 1
      · rw [zHv_arr hc h3]
        obtain ⟨o2, g1, g2⟩ := h2.arr1 (v := v) (by omega) h3
        exact ⟨o2, by omega, g2⟩
      · rw [zHv_ret hc h3]
        exact ⟨o1, h1, h2.ret (by omega)⟩
    · rw [zHv_no hc]
      exact ⟨o1, h1, h2⟩
theorem zHv_o {s : Nat → Int32} {n q : Nat} (h : q < 6 ∨ q = 11) : ∀ v, (zHv n s v).1 q = s q
  | 0 => rfl
  | v + 1 => by
    by_cases hc : 0 < vd (zHv n s v).1 v 2 ∧ vd (zHv n s v).1 v 4 = (zHv n s v).1 5
    · by_cases h3 : vd (zHv n s v).1 v 2 = 1
      · rw [zHv_arr hc h3]
        exact (zArr1_o (by omega) (by omega)).trans (zHv_o h v)
      · rw [zHv_ret hc h3]
        exact (zRet_o (by omega) (by omega)).trans (zHv_o h v)
    · rw [zHv_no hc]
      exact zHv_o h v
theorem zOld_WF {n nv : Nat} : ∀ (k no : Nat) (s : Nat → Int32), k ≤ no → zWF s n nv no → ∃ no', no' ≤ no ∧ zWF (zOld k s) n nv no'
  | 0, no, _, _, h => ⟨no, Nat.le_refl _, h⟩
  | k + 1, no, s, hk, h => by
    rw [zOld]
    split
    · rw [cO_N h.N]
      obtain ⟨o2, g1, g2⟩ := zOld_WF k (no - 1) _ (by omega) (h.drop (k := k) (by omega))
      exact ⟨o2, by omega, g2⟩
    · exact zOld_WF k no s (by omega) h
theorem zOld_o {q : Nat} (hq : q ≠ 6) (hq2 : q < 237) : ∀ (k : Nat) (s : Nat → Int32), zOld k s q = s q
  | 0, _ => rfl
  | k + 1, s => by
    rw [zOld, zOld_o hq hq2 k]
    split
    · exact zDrop_lo hq hq2
    · rfl
theorem zHour_5 {s : Nat → Int32} {n nv : Nat} : (zHour s n nv).1 5 = s 5 + 1 := by
  show zFee (zOld (cO (zHv n (zTick s) nv).1) (zHv n (zTick s) nv).1) n 5 = s 5 + 1
  rw [zFee_o (by decide), zOld_o (by decide) (by decide), zHv_o (by decide)]
  exact upd_s _ _ _
theorem zHour_WF {s : Nat → Int32} {n nv no : Nat} (h : zWF s n nv no) (ht : s 5 < 9000) : ∃ no', no' ≤ no ∧ zWF (zHour s n nv).1 n nv no' := by
  obtain ⟨o1, h1, h2⟩ := zHv_WF (h.tick ht) nv (Nat.le_refl _)
  obtain ⟨o2, h3, h4⟩ := zOld_WF (cO (zHv n (zTick s) nv).1) o1 _ (by rw [cO_N h2.N]; exact Nat.le_refl _) h2
  exact ⟨o2, by omega, h4.fee n⟩
theorem zPass_5 {s : Nat → Int32} {n nv : Nat} : ∀ k, (zPass n nv s k).1 5 = s 5 + nI k
  | 0 => (Int32.add_zero _).symm
  | k + 1 => by
    rw [zPass, zHour_5, zPass_5 k, Int32.add_assoc]
    exact congrArg _ (nI_1 k)
theorem i_lt9 {x : Int32} {k m : Nat} (h0 : 0 ≤ x) (h : x + nI m ≤ 9000) (hk : k < m) (hm : m < 100) (hx : x ≤ 9000) : x + nI k < 9000 := by
  have a0 := Int32.le_iff_toInt_le.mp h0
  have a1 := Int32.le_iff_toInt_le.mp h
  have a2 := Int32.le_iff_toInt_le.mp hx
  have e9 : (9000 : Int32).toInt = 9000 := rfl
  have e0 : (0 : Int32).toInt = 0 := rfl
  have b1 : (x + nI m).toInt = x.toInt + m := by rw [Int32.toInt_add, nI_toInt (by omega), Int.bmod_eq_of_le (by omega) (by omega)]
  have b2 : (x + nI k).toInt = x.toInt + k := by rw [Int32.toInt_add, nI_toInt (by omega), Int.bmod_eq_of_le (by omega) (by omega)]
  rw [Int32.lt_iff_toInt_lt, b2, e9]
  omega
theorem zPass_WF {s : Nat → Int32} {n nv no m : Nat} (h : zWF s n nv no) (hm : m < 100) (ht : s 5 + nI m ≤ 9000) : ∀ k, k ≤ m → ∃ no', no' ≤ no ∧ zWF (zPass n nv s k).1 n nv no'
  | 0, _ => ⟨no, Nat.le_refl _, h⟩
  | k + 1, hk => by
    obtain ⟨o1, h1, h2⟩ := zPass_WF h hm ht k (by omega)
    obtain ⟨o2, h3, h4⟩ := zHour_WF h2 (by rw [zPass_5]; exact i_lt9 h.tm.1 ht (by omega) hm h.tm.2)
    exact ⟨o2, by omega, h4⟩
theorem zDel_2 {v : Nat} {s : Nat → Int32} : ∀ k, ∃ m, m ≤ k ∧ (zDel v s k).2 = nI m
  | 0 => ⟨0, Nat.le_refl _, rfl⟩
  | k + 1 => by
    obtain ⟨m, hm, he⟩ := zDel_2 (v := v) (s := s) k
    by_cases hc : zInV (zDel v s k).1 k (nI v)
    · rw [zDel_t hc]
      exact ⟨m + 1, by omega, by rw [he]; exact nI_1 m⟩
    · rw [zDel_f hc]
      exact ⟨m, by omega, he⟩
theorem zHv_2 {n : Nat} {s : Nat → Int32} : ∀ v, ∃ m, m ≤ n * v ∧ (zHv n s v).2 = nI m
  | 0 => ⟨0, Nat.le_refl _, rfl⟩
  | v + 1 => by
    obtain ⟨m, hm, he⟩ := zHv_2 (n := n) (s := s) v
    have e : n * (v + 1) = n * v + n := Nat.mul_succ n v
    by_cases hc : 0 < vd (zHv n s v).1 v 2 ∧ vd (zHv n s v).1 v 4 = (zHv n s v).1 5
    · by_cases h3 : vd (zHv n s v).1 v 2 = 1
      · rw [zHv_arr hc h3]
        obtain ⟨m2, hm2, he2⟩ := zDel_2 (v := v) (s := (zHv n s v).1) n
        exact ⟨m + m2, by omega, by show _ + (zDel v (zHv n s v).1 n).2 = _; rw [he, he2]; exact nI_add m m2⟩
      · rw [zHv_ret hc h3]
        exact ⟨m, by omega, he⟩
    · rw [zHv_no hc]
      exact ⟨m, by omega, he⟩
theorem zPass_2 {n nv : Nat} {s : Nat → Int32} (hn : n ≤ 16) (hv : nv ≤ 4) : ∀ k, ∃ m, m ≤ 64 * k ∧ (zPass n nv s k).2 = nI m
  | 0 => ⟨0, Nat.le_refl _, rfl⟩
  | k + 1 => by
    obtain ⟨m, hm, he⟩ := zPass_2 (s := s) hn hv k
    obtain ⟨m2, hm2, he2⟩ := zHv_2 (n := n) (s := zTick (zPass n nv s k).1) nv
    have h64 : n * nv ≤ 16 * 4 := Nat.mul_le_mul hn hv
    exact ⟨m + m2, by omega, by rw [zPass]; show (zPass n nv s k).2 + (zHv n (zTick (zPass n nv s k).1) nv).2 = _; rw [he, he2]; exact nI_add m m2⟩
