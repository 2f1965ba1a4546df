theorem h_ldR {K : zK} {yn : MethodName} {cc : ByteArray} {nL : Nat} {ret : Option FieldType} {d mc ms : Nat} {B : zB} {Q : State → Prop} {pc : Nat} {L : List (Option Value)} {rest : List Value} {M : mM} {k n : Nat} {a N j jj : Nat} {C : String} {g : Nat → Nat} {i : Int32} (ok : zOk K yn cc nL ret d mc ms B) (hd : decode cc pc = .ok (.aaload, 1)) (hm : zRef M a jj N g) (hj : mTy[jj]? = some (.object C)) (hi : i = nI j) (hjN : j < N) (hN : N < 2 ^ 31) (kk : zV nL B Q (pc + 1) L (.ref (g j) :: rest) M k n) : zV nL B Q pc L (.int i :: .ref a :: rest) M k n := by
  subst hi
  obtain ⟨f, h1, h2⟩ := hm
  refine z_aaload ok hd h1 hj (vp_in_nI hjN hN) ?_
  rw [nI_clamp (by omega), h2 j hjN]
  exact kk
theorem h_stR {K : zK} {yn : MethodName} {cc : ByteArray} {nL : Nat} {ret : Option FieldType} {d mc ms : Nat} {B : zB} {Q : State → Prop} {pc : Nat} {L : List (Option Value)} {rest : List Value} {M : mM} {k n : Nat} {a N j jj v ci : Nat} {g : Nat → Nat} {i : Int32} {r : vw_C} {vs : List Value} (ok : zOk K yn cc nL ret d mc ms B) (hd : decode cc pc = .ok (.aastore, 1)) (hm : zRef M a jj N g) (hj : mTy[jj]? = some (.object r.1)) (hv : M v = some (.inr (ci, vs))) (hc : vwCl[ci]? = some r) (hi : i = nI j) (hjN : j < N) (hN : N < 2 ^ 31) (kk : ∀ M1 : mM, zRef M1 a jj N (va_up g j v) → (∀ q, q ≠ a → M1 q = M q) → zV nL B Q (pc + 1) L rest M1 k n) : zV nL B Q pc L (.ref v :: .int i :: .ref a :: rest) M k n := by
  subst hi
  obtain ⟨f, h1, h2⟩ := hm
  refine z_aastore ok hd h1 hj hv hc (vp_in_nI hjN hN) ?_
  refine kk _ ⟨_, mU_s, fun q hq => ?_⟩ (fun q hq => mU_n hq)
  rw [nI_clamp (by omega)]
  unfold va_up
  by_cases h9 : q = j
  · rw [if_pos h9, if_pos h9]
  · rw [if_neg h9, if_neg h9]
    exact h2 q hq
def oI (o : Option Nat) : Int32 := match o with
  | none => -1
  | some k => nI k
def oP (s : Nat → Int32) (o : Option Nat) : Int32 := match o with
  | none => -1
  | some k => od s k 3
theorem zBest_up {s : Nat → Int32} {place hour room bound : Int32} {i : Nat} (h : zOk1 s place hour room bound i) (ha : oP s (zBest s place hour room bound i) < od s i 3) : zBest s place hour room bound (i + 1) = some i := by
  cases hp : zBest s place hour room bound i with
  | none => exact zBest_first h hp
  | some kz => exact zBest_new h hp (by rw [hp] at ha; exact ha)
theorem zBest_same {s : Nat → Int32} {place hour room bound : Int32} {i : Nat} (h0 : 0 ≤ od s i 3) (ha : ¬ oP s (zBest s place hour room bound i) < od s i 3) : zBest s place hour room bound i = zBest s place hour room bound (i + 1) := by
  cases hp : zBest s place hour room bound i with
  | none =>
    rw [hp] at ha
    exact absurd (Int32.lt_of_lt_of_le (by decide : (-1 : Int32) < 0) h0) ha
  | some kz => rw [← hp]; exact zBest_old hp (by rw [hp] at ha; exact ha)
set_option maxRecDepth 20000 in
set_option maxHeartbeats 4000000 in
theorem ct_X1_bestOffer {K : zK} {M : mM} {nx : Nat} {b : Nat} {κ : hK} {π : Nat → Nat} (hm : hPicP M b κ π) {s : Nat → Int32} {n nv no : Nat} (hr : hRel κ s n nv no) {p1 r w : Int32} (hpr : ∀ o, o < no → 0 ≤ od s o 3) : zCt K yX1_bestOffer cX1_bestOffer 9 zr_X1_bestOffer 0 [.ref b, .int p1, .int r, .int w] M nx 0 0 (zI (fun x M' => x = oI (zBest s p1 (s 5) r w no) ∧ M' = M)) := by
  refine z_enter [some (.ref b), some (.int p1), some (.int r), some (.int w), none, none, none, none, none] (by decide +kernel) (Nat.le_of_ble_eq_true rfl) rfl (fun B ok hz => ?_)
  have hof := hr.offs
  have hn10 := hr.1.2.2.2.2.2
  refine z_iconst (v := -1) ok dX1_bestOffer_0 (by decide) ?_
  refine z_istore ok dX1_bestOffer_1 (by decide) rfl ?_
  refine z_iconst (v := -1) ok dX1_bestOffer_3 (by decide) ?_
  refine z_istore ok dX1_bestOffer_4 (by decide) rfl ?_
  refine z_iconst (v := 0) ok dX1_bestOffer_6 (by decide) ?_
  refine z_istore ok dX1_bestOffer_7 (by decide) rfl ?_
  have loop9 : ∀ (t i : Nat) (y z : Int32) (vzq7 vzq8 : Option Value), no < i + t → i ≤ no → y = oI (zBest s p1 (s 5) r w i) → z = oP s (zBest s p1 (s 5) r w i) → zV 9 B (zE B (zI (fun x M' => x = oI (zBest s p1 (s 5) r w no) ∧ M' = M)) 0 0) 9 [some (.ref b), some (.int p1), some (.int r), some (.int w), some (.int y), some (.int z), some (.int (nI i)), vzq7, vzq8] [] M 0 0 := by
    intro t
    induction t with
    | zero => intro i y z vzq7 vzq8 h1 h2; exact absurd h1 (by omega)
    | succ t ih =>
      intro i y z vzq7 vzq8 h1 h2 hy hz5
      refine z_iload ok dX1_bestOffer_9 rfl ?_
      refine z_aload_n ok dX1_bestOffer_11 rfl ?_
      refine z_getf ok dX1_bestOffer_12 zin_X1 rfl 6 (by decide) zw_196 hm.1 rfl ?_
      refine z_icmp_ge (tgt := 105) ok dX1_bestOffer_15 (by decide) (fun cz15 => ?_) (fun cz15 => ?_)
      · have hin : i = no := by rw [hof, nI_leI (by omega) (by omega)] at cz15; omega
        rw [hin] at hy
        refine z_iload ok dX1_bestOffer_105 rfl ?_
        exact z_iret ok dX1_bestOffer_107 rfl rfl rfl (Nat.zero_le _) ⟨hy, rfl⟩
      · have hin : i < no := by rw [hof, nI_leI (by omega) (by omega)] at cz15; omega
        have hq0 := hr.2.2.2.2.2 i hin 0 (by decide)
        have hq1 := hr.2.2.2.2.2 i hin 1 (by decide)
        have hq2 := hr.2.2.2.2.2 i hin 2 (by decide)
        have hq3 := hr.2.2.2.2.2 i hin 3 (by decide)
        have hq4 := hr.2.2.2.2.2 i hin 4 (by decide)
        have htm := hr.tm
        refine z_aload_n ok dX1_bestOffer_18 rfl ?_
        refine z_getf ok dX1_bestOffer_19 zin_X1 rfl 2 (by decide) zw_188 hm.1 rfl ?_
        refine z_iload ok dX1_bestOffer_22 rfl ?_
        refine h_ldO (j := i) ok dX1_bestOffer_24 hm rfl (by omega) ?_
        refine z_astore ok dX1_bestOffer_25 (by decide) rfl ?_
        refine z_aload ok dX1_bestOffer_27 rfl ?_
        refine z_getf ok dX1_bestOffer_29 zin_X3 rfl 0 (by decide) zw_161 (hm.2.2.2.2.2.2.2.2 i (by omega)) rfl ?_
        refine z_iload_n ok dX1_bestOffer_32 rfl ?_
        refine z_icmp_ne (tgt := 70) ok dX1_bestOffer_33 (by decide) (fun cz33 => ?_) (fun cz33 => ?_)
        · have hb : ¬ zOk1 s p1 (s 5) r w i := fun z9 => cz33 (hq0.trans z9.1)
          refine z_iconst (v := 0) ok dX1_bestOffer_70 (by decide) ?_
          refine z_istore ok dX1_bestOffer_71 (by decide) rfl ?_
          refine z_iload ok dX1_bestOffer_73 rfl ?_
          refine z_if_eq (tgt := 99) ok dX1_bestOffer_75 (by decide) (fun _ => ?_) (fun q9 => absurd (by decide) q9)
          refine z_iinc ok dX1_bestOffer_99 rfl (zinc _) (by decide) rfl ?_
          refine z_goto (tgt := 9) ok dX1_bestOffer_102 (by decide) ?_
          first | exact ih (i + 1) _ _ _ _ (by omega) (by omega) (by rw [← zBest_keep hb]; exact hy) (by rw [← zBest_keep hb]; exact hz5) | exact ih (i + 1) _ _ _ _ (by omega) (by omega) (by rw [← zBest_same (hpr i hin) hlt]; exact hy) (by rw [← zBest_same (hpr i hin) hlt]; exact hz5) | exact ih (i + 1) _ _ _ _ (by omega) (by omega) (by rw [zBest_up hb hlt]; rfl) (by rw [zBest_up hb hlt]; exact hq3)
        · refine z_aload ok dX1_bestOffer_36 rfl ?_
          refine z_getf ok dX1_bestOffer_38 zin_X3 rfl 4 (by decide) zw_173 (hm.2.2.2.2.2.2.2.2 i (by omega)) rfl ?_
          refine z_aload_n ok dX1_bestOffer_41 rfl ?_
          refine z_getf ok dX1_bestOffer_42 zin_X1 rfl 7 (by decide) zw_198 hm.1 rfl ?_
          refine z_icmp_lt (tgt := 70) ok dX1_bestOffer_45 (by decide) (fun cz45 => ?_) (fun cz45 => ?_)
          · have hb : ¬ zOk1 s p1 (s 5) r w i := fun z9 => absurd z9.2.1 (Int32.not_le.mpr (by rw [← hq4, ← htm]; exact cz45))
            refine z_iconst (v := 0) ok dX1_bestOffer_70 (by decide) ?_
            refine z_istore ok dX1_bestOffer_71 (by decide) rfl ?_
            refine z_iload ok dX1_bestOffer_73 rfl ?_
            refine z_if_eq (tgt := 99) ok dX1_bestOffer_75 (by decide) (fun _ => ?_) (fun q9 => absurd (by decide) q9)
            refine z_iinc ok dX1_bestOffer_99 rfl (zinc _) (by decide) rfl ?_
            refine z_goto (tgt := 9) ok dX1_bestOffer_102 (by decide) ?_
            first | exact ih (i + 1) _ _ _ _ (by omega) (by omega) (by rw [← zBest_keep hb]; exact hy) (by rw [← zBest_keep hb]; exact hz5) | exact ih (i + 1) _ _ _ _ (by omega) (by omega) (by rw [← zBest_same (hpr i hin) hlt]; exact hy) (by rw [← zBest_same (hpr i hin) hlt]; exact hz5) | exact ih (i + 1) _ _ _ _ (by omega) (by omega) (by rw [zBest_up hb hlt]; rfl) (by rw [zBest_up hb hlt]; exact hq3)
          · refine z_aload ok dX1_bestOffer_48 rfl ?_
            refine z_getf ok dX1_bestOffer_50 zin_X3 rfl 1 (by decide) zw_164 (hm.2.2.2.2.2.2.2.2 i (by omega)) rfl ?_
            refine z_iload_n ok dX1_bestOffer_53 rfl ?_
            refine z_icmp_gt (tgt := 70) ok dX1_bestOffer_54 (by decide) (fun cz54 => ?_) (fun cz54 => ?_)
            · have hb : ¬ zOk1 s p1 (s 5) r w i := fun z9 => absurd z9.2.2.1 (Int32.not_le.mpr (by rw [← hq1]; exact cz54))
              refine z_iconst (v := 0) ok dX1_bestOffer_70 (by decide) ?_
              refine z_istore ok dX1_bestOffer_71 (by decide) rfl ?_
              refine z_iload ok dX1_bestOffer_73 rfl ?_
              refine z_if_eq (tgt := 99) ok dX1_bestOffer_75 (by decide) (fun _ => ?_) (fun q9 => absurd (by decide) q9)
              refine z_iinc ok dX1_bestOffer_99 rfl (zinc _) (by decide) rfl ?_
              refine z_goto (tgt := 9) ok dX1_bestOffer_102 (by decide) ?_
              first | exact ih (i + 1) _ _ _ _ (by omega) (by omega) (by rw [← zBest_keep hb]; exact hy) (by rw [← zBest_keep hb]; exact hz5) | exact ih (i + 1) _ _ _ _ (by omega) (by omega) (by rw [← zBest_same (hpr i hin) hlt]; exact hy) (by rw [← zBest_same (hpr i hin) hlt]; exact hz5) | exact ih (i + 1) _ _ _ _ (by omega) (by omega) (by rw [zBest_up hb hlt]; rfl) (by rw [zBest_up hb hlt]; exact hq3)
            · refine z_aload ok dX1_bestOffer_57 rfl ?_
              refine z_getf ok dX1_bestOffer_59 zin_X3 rfl 2 (by decide) zw_167 (hm.2.2.2.2.2.2.2.2 i (by omega)) rfl ?_
              refine z_iload_n ok dX1_bestOffer_62 rfl ?_
              refine z_icmp_gt (tgt := 70) ok dX1_bestOffer_63 (by decide) (fun cz63 => ?_) (fun cz63 => ?_)
              · have hb : ¬ zOk1 s p1 (s 5) r w i := fun z9 => absurd z9.2.2.2 (Int32.not_le.mpr (by rw [← hq2]; exact cz63))
                refine z_iconst (v := 0) ok dX1_bestOffer_70 (by decide) ?_
                refine z_istore ok dX1_bestOffer_71 (by decide) rfl ?_
                refine z_iload ok dX1_bestOffer_73 rfl ?_
                refine z_if_eq (tgt := 99) ok dX1_bestOffer_75 (by decide) (fun _ => ?_) (fun q9 => absurd (by decide) q9)
                refine z_iinc ok dX1_bestOffer_99 rfl (zinc _) (by decide) rfl ?_
                refine z_goto (tgt := 9) ok dX1_bestOffer_102 (by decide) ?_
                first | exact ih (i + 1) _ _ _ _ (by omega) (by omega) (by rw [← zBest_keep hb]; exact hy) (by rw [← zBest_keep hb]; exact hz5) | exact ih (i + 1) _ _ _ _ (by omega) (by omega) (by rw [← zBest_same (hpr i hin) hlt]; exact hy) (by rw [← zBest_same (hpr i hin) hlt]; exact hz5) | exact ih (i + 1) _ _ _ _ (by omega) (by omega) (by rw [zBest_up hb hlt]; rfl) (by rw [zBest_up hb hlt]; exact hq3)
              · have hb : zOk1 s p1 (s 5) r w i := ⟨hq0.symm.trans cz33, by rw [← hq4, ← htm]; exact Int32.not_lt.mp cz45, by rw [← hq1]; exact Int32.not_lt.mp cz54, by rw [← hq2]; exact Int32.not_lt.mp cz63⟩
                refine z_iconst (v := 1) ok dX1_bestOffer_66 (by decide) ?_
                refine z_goto (tgt := 71) ok dX1_bestOffer_67 (by decide) ?_
                refine z_istore ok dX1_bestOffer_71 (by decide) rfl ?_
                refine z_iload ok dX1_bestOffer_73 rfl ?_
                refine z_if_eq (tgt := 99) ok dX1_bestOffer_75 (by decide) (fun q9 => absurd q9 (by decide)) (fun _ => ?_)
                refine z_aload ok dX1_bestOffer_78 rfl ?_
                refine z_getf ok dX1_bestOffer_80 zin_X3 rfl 3 (by decide) zw_170 (hm.2.2.2.2.2.2.2.2 i (by omega)) rfl ?_
                refine z_iload ok dX1_bestOffer_83 rfl ?_
                refine z_icmp_le (tgt := 99) ok dX1_bestOffer_85 (by decide) (fun cz85 => ?_) (fun cz85 => ?_)
                · have hlt : ¬ oP s (zBest s p1 (s 5) r w i) < od s i 3 := by rw [← hz5, ← hq3]; exact Int32.not_lt.mpr cz85
                  refine z_iinc ok dX1_bestOffer_99 rfl (zinc _) (by decide) rfl ?_
                  refine z_goto (tgt := 9) ok dX1_bestOffer_102 (by decide) ?_
                  first | exact ih (i + 1) _ _ _ _ (by omega) (by omega) (by rw [← zBest_keep hb]; exact hy) (by rw [← zBest_keep hb]; exact hz5) | exact ih (i + 1) _ _ _ _ (by omega) (by omega) (by rw [← zBest_same (hpr i hin) hlt]; exact hy) (by rw [← zBest_same (hpr i hin) hlt]; exact hz5) | exact ih (i + 1) _ _ _ _ (by omega) (by omega) (by rw [zBest_up hb hlt]; rfl) (by rw [zBest_up hb hlt]; exact hq3)
                · have hlt : oP s (zBest s p1 (s 5) r w i) < od s i 3 := by rw [← hz5, ← hq3]; exact Int32.not_le.mp cz85
                  refine z_iload ok dX1_bestOffer_88 rfl ?_
                  refine z_istore ok dX1_bestOffer_90 (by decide) rfl ?_
                  refine z_aload ok dX1_bestOffer_92 rfl ?_
                  refine z_getf ok dX1_bestOffer_94 zin_X3 rfl 3 (by decide) zw_170 (hm.2.2.2.2.2.2.2.2 i (by omega)) rfl ?_
                  refine z_istore ok dX1_bestOffer_97 (by decide) rfl ?_
                  refine z_iinc ok dX1_bestOffer_99 rfl (zinc _) (by decide) rfl ?_
                  refine z_goto (tgt := 9) ok dX1_bestOffer_102 (by decide) ?_
                  first | exact ih (i + 1) _ _ _ _ (by omega) (by omega) (by rw [← zBest_keep hb]; exact hy) (by rw [← zBest_keep hb]; exact hz5) | exact ih (i + 1) _ _ _ _ (by omega) (by omega) (by rw [← zBest_same (hpr i hin) hlt]; exact hy) (by rw [← zBest_same (hpr i hin) hlt]; exact hz5) | exact ih (i + 1) _ _ _ _ (by omega) (by omega) (by rw [zBest_up hb hlt]; rfl) (by rw [zBest_up hb hlt]; exact hq3)
  exact loop9 (no + 1) 0 _ _ _ _ (by omega) (by omega) rfl rfl

/-- the row k goes behind the others -/
def zRot (k m j : Nat) : Nat := if k ≤ j ∧ j < m then j + 1 else if j = m then k else j
def zRi (k i j : Nat) : Nat := if k ≤ j ∧ j < i then j + 1 else j
theorem zRi_step (g : Nat → Nat) {k i : Nat} (hk : k ≤ i) : va_up (fun j => g (zRi k i j)) i (g (zRi k i (i + 1))) = fun j => g (zRi k (i + 1) j) := by
  funext j
  unfold va_up zRi
  by_cases h : j = i
  · rw [if_pos h, if_neg (by omega), if_pos (by omega), h]
  · rw [if_neg h]
    dsimp only
    by_cases h2 : k ≤ j ∧ j < i
    · rw [if_pos h2, if_pos (by omega)]
    · rw [if_neg h2, if_neg (by omega)]
theorem zRi_end (g : Nat → Nat) {k m : Nat} (hk : k ≤ m) : va_up (fun j => g (zRi k m j)) m (g k) = fun j => g (zRot k m j) := by
  funext j
  unfold va_up zRi zRot
  by_cases h : j = m
  · rw [if_pos h, if_neg (by omega), if_pos h]
  · rw [if_neg h]
    dsimp only
    by_cases h2 : k ≤ j ∧ j < m
    · rw [if_pos h2, if_pos h2]
    · rw [if_neg h2, if_neg h2, if_neg h]
theorem zRot_lt {k m j : Nat} (hk : k ≤ m) (hm : m < 10) (hj : j < 10) : zRot k m j < 10 := by
  unfold zRot
  split
  · omega
  · split <;> omega
theorem zPm.rot {π : Nat → Nat} {k m : Nat} (h : zPm π) (hk : k ≤ m) (hm : m < 10) : zPm (fun j => π (zRot k m j)) := by
  refine ⟨fun i hi => h.1 _ (zRot_lt hk hm hi), fun i hi j hj he => ?_⟩
  have h1 := h.2 _ (zRot_lt hk hm hi) _ (zRot_lt hk hm hj) he
  unfold zRot at h1
  split at h1 <;> split at h1 <;> (try split at h1) <;> (try split at h1) <;> omega
theorem zDrop_lo {s : Nat → Int32} {no k q : Nat} (h : q ≠ 6) (h2 : q < 237) : zDrop s no k q = s q := by
  unfold zDrop zDrI
  rw [if_neg (by omega), if_neg h]
theorem zDrop_6 {s : Nat → Int32} {no k : Nat} : zDrop s no k 6 = nI (no - 1) := by
  unfold zDrop zDrI
  rw [if_neg (by omega), if_pos rfl]
theorem zDrop_od {s : Nat → Int32} {no k o f : Nat} (ho : o < no - 1) (hf : f < 5) (hk : k ≤ no - 1) : od (zDrop s no k) o f = od s (zRot k (no - 1) o) f := by
  unfold zDrop zDrI od zRot
  dsimp only
  by_cases h : k ≤ o
  · rw [if_pos (by omega), if_pos (by omega)]
    exact congrArg s (by omega)
  · rw [if_neg (by omega), if_neg (by omega), if_neg (by omega), if_neg (by omega)]
def kRot (κ : hK) (k m : Nat) : hK := fun a i => if a = 2 then κ 2 (zRot k m i) else κ a i
theorem hPicP.rot {M M' : mM} {b : Nat} {κ : hK} {π : Nat → Nat} {k m : Nat} (h : hPicP M b κ π) (hk : k ≤ m) (hm : m < 10) (hr : zRef M' (b + 3) 5 10 (fun j => b + 25 + π (zRot k m j))) (hq : ∀ q, q ≠ b + 3 → M' q = M q) : hPicP M' b (kRot κ k m) (fun j => π (zRot k m j)) := by
  obtain ⟨h1, h2, h3, h4, h5, h6, h7, h8, h9⟩ := h
  have e : ∀ a, a ≠ 2 → kRot κ k m a = κ a := fun a ha => funext fun i => if_neg ha
  refine ⟨?_, h2.kept (hq _ (by omega)), h3.kept (hq _ (by omega)), ?_, fun i hi => ?_, fun i hi => ?_, h7.rot hk hm, hr, fun i hi => ?_⟩
  · rw [hq _ (by omega), e _ (by decide)]; exact h1
  · rw [e _ (by decide)]; exact h4.kept (hq _ (by omega))
  · rw [hq _ (by omega), e _ (by decide)]; exact h5 i hi
  · rw [hq _ (by omega), e _ (by decide)]; exact h6 i hi
  · rw [hq _ (by have := h7.1 _ (zRot_lt hk hm hi); omega)]
    exact h9 _ (zRot_lt hk hm hi)
theorem hRel.drop {κ : hK} {s : Nat → Int32} {n nv no k : Nat} (h : hRel κ s n nv no) (hk : k < no) : hRel (kU (kRot κ k (no - 1)) 4 0 6 (nI (no - 1))) (zDrop s no k) n nv (no - 1) := by
  obtain ⟨h1, h2, h3, h4, h5, h6⟩ := h
  have hn := h1.2.1
  have hn4 := h1.2.2.2.1
  have e : ∀ a i, a ≠ 2 → a ≠ 4 → kU (kRot κ k (no - 1)) 4 0 6 (nI (no - 1)) a i = κ a i := fun a i ha h4 => (kU_o (by omega)).trans (if_neg ha)
  refine ⟨zDrop_N h1, ?_, fun j hj => ?_, fun j hj => ?_, fun j hj => ?_, fun j hj f hf => ?_⟩
  · rw [zDrop_6, zDrop_lo (by decide) (by decide), zDrop_lo (by decide) (by decide), zDrop_lo (by decide) (by decide), zDrop_lo (by decide) (by decide), zDrop_lo (by decide) (by decide), zDrop_lo (by decide) (by decide), zDrop_lo (by decide) (by decide)]
    simp [kU, kRot, h2]
  · rw [e _ _ (by decide) (by decide), zDrop_lo (by omega) (by omega)]
    exact h3 j hj
  · rw [e _ _ (by decide) (by decide)]
    have hg : ∀ k', k' < 12 → gd (zDrop s no k) j k' = gd s j k' := fun k' hk => zDrop_lo (by omega) (by omega)
    have h9 := h4 j hj
    unfold kC at h9 ⊢
    rw [hg 0 (by decide), hg 1 (by decide), hg 2 (by decide), hg 3 (by decide), hg 4 (by decide), hg 5 (by decide), hg 6 (by decide), hg 7 (by decide), hg 8 (by decide), hg 9 (by decide), hg 10 (by decide), hg 11 (by decide)]
    exact h9
  · rw [e _ _ (by decide) (by decide)]
    have hg : ∀ k', k' < 8 → vd (zDrop s no k) j k' = vd s j k' := fun k' hk => zDrop_lo (by omega) (by omega)
    have h9 := h5 j hj
    unfold kV at h9 ⊢
    rw [hg 0 (by decide), hg 1 (by decide), hg 2 (by decide), hg 3 (by decide), hg 4 (by decide), hg 5 (by decide), hg 6 (by decide), hg 7 (by decide)]
    exact h9
  · rw [zDrop_od hj hf (by omega), kU_a (by decide)]
    exact h6 _ (by unfold zRot; split <;> (try split) <;> omega) f hf
set_option maxRecDepth 20000 in
set_option maxHeartbeats 4000000 in
theorem ct_X1_removeOffer {K : zK} {M : mM} {nx : Nat} {b : Nat} {κ : hK} {π : Nat → Nat} (hm : hPicP M b κ π) {s : Nat → Int32} {n nv no : Nat} (hr : hRel κ s n nv no) {k : Nat} (hk : k < no) : zCt K yX1_removeOffer cX1_removeOffer 4 zr_X1_removeOffer 0 [.ref b, .int (nI k)] M nx 0 0 (zU (fun M' => ∃ κ' π', hPicP M' b κ' π' ∧ hRel κ' (zDrop s no k) n nv (no - 1) ∧ zFr M M' b 35)) := by
  refine z_enter [some (.ref b), some (.int (nI k)), none, none] (by decide +kernel) (Nat.le_of_ble_eq_true rfl) rfl (fun B ok hz => ?_)
  have hof := hr.offs
  have hn10 := hr.1.2.2.2.2.2
  refine z_iload_n ok dX1_removeOffer_0 rfl ?_
  refine z_if_lt (tgt := 21) ok dX1_removeOffer_1 (by decide) (fun q9 => absurd q9 (nI_pos (by omega))) (fun _ => ?_)
  refine z_iload_n ok dX1_removeOffer_4 rfl ?_
  refine z_aload_n ok dX1_removeOffer_5 rfl ?_
  refine z_getf ok dX1_removeOffer_6 zin_X1 rfl 6 (by decide) zw_196 hm.1 rfl ?_
  refine z_icmp_ge (tgt := 21) ok dX1_removeOffer_9 (by decide) (fun cz9 => ?_) (fun cz9 => ?_)
  · exact absurd cz9 (by rw [hof, nI_leI (by omega) (by omega)]; omega)
  · refine z_aload_n ok dX1_removeOffer_12 rfl ?_
    refine z_getf ok dX1_removeOffer_13 zin_X1 rfl 6 (by decide) zw_196 hm.1 rfl ?_
    refine z_bipush (v := 10) ok dX1_removeOffer_16 (by decide) ?_
    refine z_icmp_le (tgt := 22) ok dX1_removeOffer_18 (by decide) (fun cz18 => ?_) (fun cz18 => ?_)
    · refine z_aload_n ok dX1_removeOffer_22 rfl ?_
      refine z_getf ok dX1_removeOffer_23 zin_X1 rfl 2 (by decide) zw_188 hm.1 rfl ?_
      refine z_iload_n ok dX1_removeOffer_26 rfl ?_
      refine h_ldR (j := k) ok dX1_removeOffer_27 hm.2.2.2.2.2.2.2.1 rfl rfl (by omega) (by omega) ?_
      refine z_astore_n ok dX1_removeOffer_28 (by decide) rfl ?_
      refine z_iload_n ok dX1_removeOffer_29 rfl ?_
      refine z_istore_n ok dX1_removeOffer_30 (by decide) rfl ?_
      have loop31 : ∀ (t i : Nat) (M1 : mM), no - 1 < i + t → i ≤ no - 1 → k ≤ i → M1 b = some (.inr (1, hFs b (κ 4 0))) ∧ zRef M1 (b + 3) 5 10 (fun j => b + 25 + π (zRi k i j)) → (∀ q, q ≠ b + 3 → M1 q = M q) → zV 4 B (zE B (zU (fun M' => ∃ κ' π', hPicP M' b κ' π' ∧ hRel κ' (zDrop s no k) n nv (no - 1) ∧ zFr M M' b 35)) 0 0) 31 [some (.ref b), some (.int (nI k)), some (.ref (b + 25 + π k)), some (.int (nI i))] [] M1 0 0 := by
        intro t
        induction t with
        | zero => intro i M1 h1 h2; exact absurd h1 (by omega)
        | succ t ih =>
          intro i M1 h1 h2 hki hm1 hq1
          refine z_iload_n ok dX1_removeOffer_31 rfl ?_
          refine z_aload_n ok dX1_removeOffer_32 rfl ?_
          refine z_getf ok dX1_removeOffer_33 zin_X1 rfl 6 (by decide) zw_196 hm1.1 rfl ?_
          refine z_iconst (v := 1) ok dX1_removeOffer_36 (by decide) ?_
          refine z_isub ok dX1_removeOffer_37 ?_
          rw [hof, show nI no - 1 = nI (no - 1) from by obtain ⟨z9, rfl⟩ : ∃ z, no = z + 1 := ⟨no - 1, by omega⟩; exact nI_pred z9]
          refine z_icmp_ge (tgt := 61) ok dX1_removeOffer_38 (by decide) (fun cz38 => ?_) (fun cz38 => ?_)
          · have hin : i = no - 1 := by rw [nI_leI (by omega) (by omega)] at cz38; omega
            rw [hin] at hm1
            have hpn : nI no - 1 = nI (no - 1) := by obtain ⟨z9, rfl⟩ : ∃ z, no = z + 1 := ⟨no - 1, by omega⟩; exact nI_pred z9
            refine z_aload_n ok dX1_removeOffer_61 rfl ?_
            refine z_dup ok dX1_removeOffer_62 rfl ?_
            refine z_getf ok dX1_removeOffer_63 zin_X1 rfl 6 (by decide) zw_196 hm1.1 rfl ?_
            refine z_iconst (v := 1) ok dX1_removeOffer_66 (by decide) ?_
            refine z_isub ok dX1_removeOffer_67 ?_
            rw [hof, hpn]
            refine z_putf (T := TX1) (N := 12) (ty := .int) ok dX1_removeOffer_68 zin_X1 tyX1 tyX1_ok nmX1 rfl 6 (by decide) zw_196 rfl hm1.1 (by decide +kernel) rfl rfl (Nat.le_of_ble_eq_true rfl) ?_
            refine zV_up (fun _ he3 hu3 => ?_)
            rw [hFs_set b (κ 4 0) (nI (no - 1)) (by decide) (by decide)] at he3
            refine z_aload_n ok dX1_removeOffer_71 rfl ?_
            refine z_getf ok dX1_removeOffer_72 zin_X1 rfl 2 (by decide) zw_188 he3 rfl ?_
            refine z_aload_n ok dX1_removeOffer_75 rfl ?_
            refine z_getf ok dX1_removeOffer_76 zin_X1 rfl 6 (by decide) zw_196 he3 rfl ?_
            refine z_aload_n ok dX1_removeOffer_79 rfl ?_
            rw [show upd (κ 4 0) 6 (nI (no - 1)) 6 = nI (no - 1) from upd_s _ _ _]
            refine h_stR (j := no - 1) (r := (RX3, TX3, 5)) ok dX1_removeOffer_80 (hm1.2.kept (hu3 _ (by omega))) rfl ((hu3 _ (by omega)).trans ((hq1 _ (by omega)).trans (hm.2.2.2.2.2.2.2.2 k (by omega)))) rfl rfl (by omega) (by omega) (fun Mzf hz4 hq4 => ?_)
            rw [zRi_end (fun j9 => b + 25 + π j9) (by omega)] at hz4
            refine z_vret ok dX1_removeOffer_81 rfl rfl (Nat.zero_le _) ⟨_, fun j9 => π (zRot k (no - 1) j9), ?_, hr.drop hk, fun q9 h9 => (hq4 _ (by omega)).trans ((hu3 _ (by omega)).trans (hq1 _ (by omega)))⟩
            refine hPicP.setS (M := fun q9 => if q9 = b then M b else Mzf q9) (hPicP.rot hm (by omega) (by omega) ?_ ?_) (by decide) (by decide) ?_ ?_
            · exact hz4.kept (if_neg (by omega))
            · intro q9 h9
              by_cases h8 : q9 = b
              · rw [if_pos h8, h8]
              · rw [if_neg h8]
                exact (hq4 _ h9).trans ((hu3 _ h8).trans (hq1 _ h9))
            · rw [hq4 _ (by omega), he3, hFs_set _ _ _ (by decide) (by decide)]
              rfl
            · intro q9 h9
              exact (if_neg h9).symm
          · have hin : i < no - 1 := by rw [nI_leI (by omega) (by omega)] at cz38; omega
            refine z_aload_n ok dX1_removeOffer_41 rfl ?_
            refine z_getf ok dX1_removeOffer_42 zin_X1 rfl 2 (by decide) zw_188 hm1.1 rfl ?_
            refine z_iload_n ok dX1_removeOffer_45 rfl ?_
            refine z_aload_n ok dX1_removeOffer_46 rfl ?_
            refine z_getf ok dX1_removeOffer_47 zin_X1 rfl 2 (by decide) zw_188 hm1.1 rfl ?_
            refine z_iload_n ok dX1_removeOffer_50 rfl ?_
            refine z_iconst (v := 1) ok dX1_removeOffer_51 (by decide) ?_
            refine z_iadd ok dX1_removeOffer_52 ?_
            refine h_ldR (j := i + 1) ok dX1_removeOffer_53 hm1.2 rfl (nI_1 i) (by omega) (by omega) ?_
            refine h_stR (j := i) (r := (RX3, TX3, 5)) ok dX1_removeOffer_54 hm1.2 rfl ((hq1 _ (by omega)).trans (hm.2.2.2.2.2.2.2.2 (zRi k i (i + 1)) (by unfold zRi; split <;> omega))) rfl rfl (by omega) (by omega) (fun _ hz2 hq2 => ?_)
            refine z_iinc ok dX1_removeOffer_55 rfl (zinc _) (by decide) rfl ?_
            refine z_goto (tgt := 31) ok dX1_removeOffer_58 (by decide) ?_
            exact ih (i + 1) _ (by omega) (by omega) (by omega) ⟨(hq2 _ (by omega)).trans hm1.1, by rw [zRi_step (fun j9 => b + 25 + π j9) hki] at hz2; exact hz2⟩ (fun q9 h9 => (hq2 q9 h9).trans (hq1 q9 h9))
      exact loop31 (no + 1) k _ (by omega) (by omega) (Nat.le_refl _) ⟨hm.1, by have h9 : ∀ j, zRi k k j = j := (fun j9 => if_neg (by omega)); simp only [h9]; exact hm.2.2.2.2.2.2.2.1⟩ (fun _ _ => rfl)
    · exact absurd (by rw [hof]; exact (nI_leI (b := 10) (by omega) (by omega)).mpr (by omega)) cz18


