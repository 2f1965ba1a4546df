/-- the first that holds below n -/
def zFst (p : Nat → Prop) [DecidablePred p] : Nat → Option Nat
  | 0 => none
  | k + 1 => match zFst p k with
    | some j => some j
    | none => if p k then some k else none
theorem zFst_n {p : Nat → Prop} [DecidablePred p] {i : Nat} (h : zFst p i = none) (hp : ¬ p i) : zFst p (i + 1) = none := by
  rw [zFst, h]
  exact if_neg hp
theorem zFst_none {p : Nat → Prop} [DecidablePred p] : ∀ n, zFst p n = none → ∀ j, j < n → ¬ p j
  | 0, _, j, hj => absurd hj (by omega)
  | n + 1, h, j, hj => by
    rw [zFst] at h
    split at h
    · cases h
    · next h2 =>
      by_cases hjn : j = n
      · rw [hjn]
        intro hp
        rw [if_pos hp] at h
        cases h
      · exact zFst_none n h2 j (by omega)
/-- the place that the load of v is for, as the hall tells it: that of the first, or 0 -/
def kPlace (s : Nat → Int32) (n v : Nat) (x : Int32) : Prop := (x = 0 ∧ ∀ c, c < n → ¬ zInV s c (nI v)) ∨ ∃ c, c < n ∧ zInV s c (nI v) ∧ x = gd s c 0
set_option maxRecDepth 20000 in
set_option maxHeartbeats 4000000 in
theorem ct_X1_loadPlace {K : zK} {M : mM} {nx : Nat} {b : Nat} {κ : hK} {π : Nat → Nat} (hm : hPicP M b κ π) {s : Nat → Int32} {n nv no : Nat} (hr : hRel κ s n nv no) {v : Nat} (hv : v < 4) : zCt K yX1_loadPlace cX1_loadPlace 3 zr_X1_loadPlace 1 [.ref b, .ref (b + 21 + v)] M nx 0 0 (zI (fun x M' => kPlace s n v x ∧ M' = M)) := by
  refine z_enter [some (.ref b), some (.ref (b + 21 + v)), none] (by decide +kernel) (Nat.le_of_ble_eq_true rfl) rfl (fun B ok hz => ?_)
  have hmd := hr.made
  have hn16 := hr.1.2.1
  refine z_iconst (v := 0) ok dX1_loadPlace_0 (by decide) ?_
  refine z_istore_n ok dX1_loadPlace_1 (by decide) rfl ?_
  have loop2 : ∀ (t i : Nat), n < i + t → i ≤ n → (∀ c, c < i → ¬ zInV s c (nI v)) → zV 3 B (zE B (zI (fun x M' => kPlace s n v x ∧ M' = M)) 0 0) 2 [some (.ref b), some (.ref (b + 21 + v)), some (.int (nI i))] [] M 0 0 := by
    intro t
    induction t with
    | zero => intro i  h1 h2; exact absurd h1 (by omega)
    | succ t ih =>
      intro i  h1 h2 hy
      refine z_iload_n ok dX1_loadPlace_2 rfl ?_
      refine z_aload_n ok dX1_loadPlace_3 rfl ?_
      refine z_getf ok dX1_loadPlace_4 zin_X1 rfl 4 (by decide) zw_192 hm.1 rfl ?_
      refine z_icmp_ge (tgt := 39) ok dX1_loadPlace_7 (by decide) (fun cz7 => ?_) (fun cz7 => ?_)
      · have hin : i = n := by rw [hmd, nI_leI (by omega) (by omega)] at cz7; omega
        rw [hin] at hy
        refine z_iconst (v := 0) ok dX1_loadPlace_39 (by decide) ?_
        exact z_iret ok dX1_loadPlace_40 rfl rfl rfl (Nat.zero_le _) ⟨Or.inl ⟨rfl, hy⟩, rfl⟩
      · have hin : i < n := by rw [hmd, nI_leI (by omega) (by omega)] at cz7; omega
        refine z_aload_n ok dX1_loadPlace_10 rfl ?_
        refine z_getf ok dX1_loadPlace_11 zin_X1 rfl 0 (by decide) zw_186 hm.1 rfl ?_
        refine z_iload_n ok dX1_loadPlace_14 rfl ?_
        refine h_ldC (j := i) ok dX1_loadPlace_15 hm rfl (by omega) ?_
        refine z_aload_n ok dX1_loadPlace_16 rfl ?_
        refine z_callVi ok dX1_loadPlace_17 zm_X0_isIn zw_453 zi_X0_isIn (hm.2.2.2.2.1 i (by omega)).1 rfl (ct_isIn2 hm hr hin hv) rfl rfl (by decide) (by decide) (by decide) (Nat.le_of_ble_eq_true rfl) (fun xz1 Mz2 qz3 => ?_)
        obtain ⟨rfl, hMe⟩ := qz3
        obtain rfl := hMe.symm
        refine z_if_eq (tgt := 33) ok dX1_loadPlace_20 (by decide) (fun cz20 => ?_) (fun cz20 => ?_)
        · have hb := b2_0.mp cz20
          refine z_iinc ok dX1_loadPlace_33 rfl (zinc _) (by decide) rfl ?_
          refine z_goto (tgt := 2) ok dX1_loadPlace_36 (by decide) ?_
          exact ih (i + 1) (by omega) (by omega) (fun cj hcj => by rcases (by omega : cj < i ∨ cj = i) with hl9 | he9; exact hy cj hl9; rw [he9]; exact hb)
        · have hb := Decidable.not_not.mp (mt b2_0.mpr cz20)
          refine z_aload_n ok dX1_loadPlace_23 rfl ?_
          refine z_getf ok dX1_loadPlace_24 zin_X1 rfl 0 (by decide) zw_186 hm.1 rfl ?_
          refine z_iload_n ok dX1_loadPlace_27 rfl ?_
          refine h_ldC (j := i) ok dX1_loadPlace_28 hm rfl (by omega) ?_
          refine z_getf ok dX1_loadPlace_29 zin_X0 rfl 1 (by decide) zw_42 (hm.2.2.2.2.1 i (by omega)).1 rfl ?_
          exact z_iret ok dX1_loadPlace_32 rfl rfl rfl (Nat.zero_le _) ⟨Or.inr ⟨i, hin, hb, (hr.c hin).1⟩, rfl⟩
  exact loop2 (n + 1) 0 (by omega) (by omega) (fun cj hcj => absurd hcj (by omega))

