/-! the six arrays as they stand, what is not live too -/
def lR (M : mM) (m : Nat) (f0 f1 f2 f3 f4 f5 : Nat → Int32) : Prop := zArr M m 13 f0 ∧ zArr M (m + 1) 64 f1 ∧ zArr M (m + 2) 64 f2 ∧ zArr M (m + 3) 64 f3 ∧ zArr M (m + 4) 32 f4 ∧ zArr M (m + 5) 50 f5
def lRp (f0 f1 f2 f3 f4 f5 : Nat → Int32) (s : Nat → Int32) (n nv no : Nat) : Prop := (∀ j, j < 13 → f0 j = s j) ∧ (∀ j, j < 4 * n → f1 j = lA1 s j) ∧ (∀ j, j < 4 * n → f2 j = lA2 s j) ∧ (∀ j, j < 4 * n → f3 j = lA3 s j) ∧ (∀ j, j < 8 * nv → f4 j = lA4 s j) ∧ (∀ j, j < 5 * no → f5 j = lA5 s j)
theorem lP.raw {M : mM} {m : Nat} {s : Nat → Int32} {n nv no : Nat} (h : lP M m s n nv no) : ∃ f0 f1 f2 f3 f4 f5, lR M m f0 f1 f2 f3 f4 f5 ∧ lRp f0 f1 f2 f3 f4 f5 s n nv no := by
  obtain ⟨h0ω, h1ω, h2ω, h3ω, h4ω, h5ω, h6ω⟩ := h
  obtain ⟨f0ω, a0ω, b0ω⟩ := h0ω.arr
  obtain ⟨f1ω, a1ω, b1ω⟩ := h1ω.arr
  obtain ⟨f2ω, a2ω, b2ω⟩ := h2ω.arr
  obtain ⟨f3ω, a3ω, b3ω⟩ := h3ω.arr
  obtain ⟨f4ω, a4ω, b4ω⟩ := h4ω.arr
  obtain ⟨f5ω, a5ω, b5ω⟩ := h5ω.arr
  exact ⟨f0ω, f1ω, f2ω, f3ω, f4ω, f5ω, ⟨a0ω, a1ω, a2ω, a3ω, a4ω, a5ω⟩, b0ω, b1ω, b2ω, b3ω, b4ω, b5ω⟩
theorem lR.lP {M : mM} {m : Nat} {f0 f1 f2 f3 f4 f5 : Nat → Int32} {s : Nat → Int32} {n nv no : Nat} (h : lR M m f0 f1 f2 f3 f4 f5) (hn : n ≤ 16) (hv : nv ≤ 4) (ho : no ≤ 10) (g : lRp f0 f1 f2 f3 f4 f5 s n nv no) : lP M m s n nv no := ⟨zAL.of h.1 (by omega) g.1, zAL.of h.2.1 (by omega) g.2.1, zAL.of h.2.2.1 (by omega) g.2.2.1, zAL.of h.2.2.2.1 (by omega) g.2.2.2.1, zAL.of h.2.2.2.2.1 (by omega) g.2.2.2.2.1, zAL.of h.2.2.2.2.2 (by omega) g.2.2.2.2.2, hn, hv, ho⟩
theorem r_ald0 {K : zK} {yn : MethodName} {cc : ByteArray} {nL : Nat} {ret : Option FieldType} {d mc ms : Nat} {B : zB} {Q : State → Prop} {pc : Nat} {L : List (Option Value)} {rest : List Value} {M : mM} {k n0 : Nat} {m : Nat} (j : Nat) {f0 f1 f2 f3 f4 f5 : Nat → Int32} {i : Int32} (ok : zOk K yn cc nL ret d mc ms B) (hd : decode cc pc = .ok (.iaload, 1)) (hm : lR M m f0 f1 f2 f3 f4 f5) (hi : i = nI j) (hj : j < 13)
    (kk : zV nL B Q (pc + 1) L (.int (f0 j) :: rest) M k n0) : zV nL B Q pc L (.int i :: .ref m :: rest) M k n0 := z_ald ok hd hm.1 hi hj (by omega) kk
theorem r_ast0 {K : zK} {yn : MethodName} {cc : ByteArray} {nL : Nat} {ret : Option FieldType} {d mc ms : Nat} {B : zB} {Q : State → Prop} {pc : Nat} {L : List (Option Value)} {rest : List Value} {M : mM} {k n0 : Nat} {m : Nat} (j : Nat) {f0 f1 f2 f3 f4 f5 : Nat → Int32} {i x : Int32} (ok : zOk K yn cc nL ret d mc ms B) (hd : decode cc pc = .ok (.iastore, 1)) (hm : lR M m f0 f1 f2 f3 f4 f5) (hi : i = nI j) (hj : j < 13)
    (kk : ∀ M1 : mM, lR M1 m (upd f0 j x) f1 f2 f3 f4 f5 → zFr M M1 m 6 → zV nL B Q (pc + 1) L rest M1 k n0) : zV nL B Q pc L (.int x :: .int i :: .ref m :: rest) M k n0 := z_ast ok hd hm.1 hi hj (by omega) (fun M1ω h1ω h2ω => kk M1ω ⟨h1ω, hm.2.1.kept (h2ω _ (by omega)), hm.2.2.1.kept (h2ω _ (by omega)), hm.2.2.2.1.kept (h2ω _ (by omega)), hm.2.2.2.2.1.kept (h2ω _ (by omega)), hm.2.2.2.2.2.kept (h2ω _ (by omega))⟩ (fun qω hqω => h2ω qω (by omega)))
theorem r_ald1 {K : zK} {yn : MethodName} {cc : ByteArray} {nL : Nat} {ret : Option FieldType} {d mc ms : Nat} {B : zB} {Q : State → Prop} {pc : Nat} {L : List (Option Value)} {rest : List Value} {M : mM} {k n0 : Nat} {m : Nat} (j : Nat) {f0 f1 f2 f3 f4 f5 : Nat → Int32} {i : Int32} (ok : zOk K yn cc nL ret d mc ms B) (hd : decode cc pc = .ok (.iaload, 1)) (hm : lR M m f0 f1 f2 f3 f4 f5) (hi : i = nI j) (hj : j < 64)
    (kk : zV nL B Q (pc + 1) L (.int (f1 j) :: rest) M k n0) : zV nL B Q pc L (.int i :: .ref (m + 1) :: rest) M k n0 := z_ald ok hd hm.2.1 hi hj (by omega) kk
theorem r_ast1 {K : zK} {yn : MethodName} {cc : ByteArray} {nL : Nat} {ret : Option FieldType} {d mc ms : Nat} {B : zB} {Q : State → Prop} {pc : Nat} {L : List (Option Value)} {rest : List Value} {M : mM} {k n0 : Nat} {m : Nat} (j : Nat) {f0 f1 f2 f3 f4 f5 : Nat → Int32} {i x : Int32} (ok : zOk K yn cc nL ret d mc ms B) (hd : decode cc pc = .ok (.iastore, 1)) (hm : lR M m f0 f1 f2 f3 f4 f5) (hi : i = nI j) (hj : j < 64)
    (kk : ∀ M1 : mM, lR M1 m f0 (upd f1 j x) f2 f3 f4 f5 → zFr M M1 m 6 → zV nL B Q (pc + 1) L rest M1 k n0) : zV nL B Q pc L (.int x :: .int i :: .ref (m + 1) :: rest) M k n0 := z_ast ok hd hm.2.1 hi hj (by omega) (fun M1ω h1ω h2ω => kk M1ω ⟨hm.1.kept (h2ω _ (by omega)), h1ω, hm.2.2.1.kept (h2ω _ (by omega)), hm.2.2.2.1.kept (h2ω _ (by omega)), hm.2.2.2.2.1.kept (h2ω _ (by omega)), hm.2.2.2.2.2.kept (h2ω _ (by omega))⟩ (fun qω hqω => h2ω qω (by omega)))
theorem r_ald2 {K : zK} {yn : MethodName} {cc : ByteArray} {nL : Nat} {ret : Option FieldType} {d mc ms : Nat} {B : zB} {Q : State → Prop} {pc : Nat} {L : List (Option Value)} {rest : List Value} {M : mM} {k n0 : Nat} {m : Nat} (j : Nat) {f0 f1 f2 f3 f4 f5 : Nat → Int32} {i : Int32} (ok : zOk K yn cc nL ret d mc ms B) (hd : decode cc pc = .ok (.iaload, 1)) (hm : lR M m f0 f1 f2 f3 f4 f5) (hi : i = nI j) (hj : j < 64)
    (kk : zV nL B Q (pc + 1) L (.int (f2 j) :: rest) M k n0) : zV nL B Q pc L (.int i :: .ref (m + 2) :: rest) M k n0 := z_ald ok hd hm.2.2.1 hi hj (by omega) kk
theorem r_ast2 {K : zK} {yn : MethodName} {cc : ByteArray} {nL : Nat} {ret : Option FieldType} {d mc ms : Nat} {B : zB} {Q : State → Prop} {pc : Nat} {L : List (Option Value)} {rest : List Value} {M : mM} {k n0 : Nat} {m : Nat} (j : Nat) {f0 f1 f2 f3 f4 f5 : Nat → Int32} {i x : Int32} (ok : zOk K yn cc nL ret d mc ms B) (hd : decode cc pc = .ok (.iastore, 1)) (hm : lR M m f0 f1 f2 f3 f4 f5) (hi : i = nI j) (hj : j < 64)
    (kk : ∀ M1 : mM, lR M1 m f0 f1 (upd f2 j x) f3 f4 f5 → zFr M M1 m 6 → zV nL B Q (pc + 1) L rest M1 k n0) : zV nL B Q pc L (.int x :: .int i :: .ref (m + 2) :: rest) M k n0 := z_ast ok hd hm.2.2.1 hi hj (by omega) (fun M1ω h1ω h2ω => kk M1ω ⟨hm.1.kept (h2ω _ (by omega)), hm.2.1.kept (h2ω _ (by omega)), h1ω, hm.2.2.2.1.kept (h2ω _ (by omega)), hm.2.2.2.2.1.kept (h2ω _ (by omega)), hm.2.2.2.2.2.kept (h2ω _ (by omega))⟩ (fun qω hqω => h2ω qω (by omega)))
theorem r_ald3 {K : zK} {yn : MethodName} {cc : ByteArray} {nL : Nat} {ret : Option FieldType} {d mc ms : Nat} {B : zB} {Q : State → Prop} {pc : Nat} {L : List (Option Value)} {rest : List Value} {M : mM} {k n0 : Nat} {m : Nat} (j : Nat) {f0 f1 f2 f3 f4 f5 : Nat → Int32} {i : Int32} (ok : zOk K yn cc nL ret d mc ms B) (hd : decode cc pc = .ok (.iaload, 1)) (hm : lR M m f0 f1 f2 f3 f4 f5) (hi : i = nI j) (hj : j < 64)
    (kk : zV nL B Q (pc + 1) L (.int (f3 j) :: rest) M k n0) : zV nL B Q pc L (.int i :: .ref (m + 3) :: rest) M k n0 := z_ald ok hd hm.2.2.2.1 hi hj (by omega) kk
theorem r_ast3 {K : zK} {yn : MethodName} {cc : ByteArray} {nL : Nat} {ret : Option FieldType} {d mc ms : Nat} {B : zB} {Q : State → Prop} {pc : Nat} {L : List (Option Value)} {rest : List Value} {M : mM} {k n0 : Nat} {m : Nat} (j : Nat) {f0 f1 f2 f3 f4 f5 : Nat → Int32} {i x : Int32} (ok : zOk K yn cc nL ret d mc ms B) (hd : decode cc pc = .ok (.iastore, 1)) (hm : lR M m f0 f1 f2 f3 f4 f5) (hi : i = nI j) (hj : j < 64)
    (kk : ∀ M1 : mM, lR M1 m f0 f1 f2 (upd f3 j x) f4 f5 → zFr M M1 m 6 → zV nL B Q (pc + 1) L rest M1 k n0) : zV nL B Q pc L (.int x :: .int i :: .ref (m + 3) :: rest) M k n0 := z_ast ok hd hm.2.2.2.1 hi hj (by omega) (fun M1ω h1ω h2ω => kk M1ω ⟨hm.1.kept (h2ω _ (by omega)), hm.2.1.kept (h2ω _ (by omega)), hm.2.2.1.kept (h2ω _ (by omega)), h1ω, hm.2.2.2.2.1.kept (h2ω _ (by omega)), hm.2.2.2.2.2.kept (h2ω _ (by omega))⟩ (fun qω hqω => h2ω qω (by omega)))
theorem r_ald4 {K : zK} {yn : MethodName} {cc : ByteArray} {nL : Nat} {ret : Option FieldType} {d mc ms : Nat} {B : zB} {Q : State → Prop} {pc : Nat} {L : List (Option Value)} {rest : List Value} {M : mM} {k n0 : Nat} {m : Nat} (j : Nat) {f0 f1 f2 f3 f4 f5 : Nat → Int32} {i : Int32} (ok : zOk K yn cc nL ret d mc ms B) (hd : decode cc pc = .ok (.iaload, 1)) (hm : lR M m f0 f1 f2 f3 f4 f5) (hi : i = nI j) (hj : j < 32)
    (kk : zV nL B Q (pc + 1) L (.int (f4 j) :: rest) M k n0) : zV nL B Q pc L (.int i :: .ref (m + 4) :: rest) M k n0 := z_ald ok hd hm.2.2.2.2.1 hi hj (by omega) kk
theorem r_ast4 {K : zK} {yn : MethodName} {cc : ByteArray} {nL : Nat} {ret : Option FieldType} {d mc ms : Nat} {B : zB} {Q : State → Prop} {pc : Nat} {L : List (Option Value)} {rest : List Value} {M : mM} {k n0 : Nat} {m : Nat} (j : Nat) {f0 f1 f2 f3 f4 f5 : Nat → Int32} {i x : Int32} (ok : zOk K yn cc nL ret d mc ms B) (hd : decode cc pc = .ok (.iastore, 1)) (hm : lR M m f0 f1 f2 f3 f4 f5) (hi : i = nI j) (hj : j < 32)
    (kk : ∀ M1 : mM, lR M1 m f0 f1 f2 f3 (upd f4 j x) f5 → zFr M M1 m 6 → zV nL B Q (pc + 1) L rest M1 k n0) : zV nL B Q pc L (.int x :: .int i :: .ref (m + 4) :: rest) M k n0 := z_ast ok hd hm.2.2.2.2.1 hi hj (by omega) (fun M1ω h1ω h2ω => kk M1ω ⟨hm.1.kept (h2ω _ (by omega)), hm.2.1.kept (h2ω _ (by omega)), hm.2.2.1.kept (h2ω _ (by omega)), hm.2.2.2.1.kept (h2ω _ (by omega)), h1ω, hm.2.2.2.2.2.kept (h2ω _ (by omega))⟩ (fun qω hqω => h2ω qω (by omega)))
theorem r_ald5 {K : zK} {yn : MethodName} {cc : ByteArray} {nL : Nat} {ret : Option FieldType} {d mc ms : Nat} {B : zB} {Q : State → Prop} {pc : Nat} {L : List (Option Value)} {rest : List Value} {M : mM} {k n0 : Nat} {m : Nat} (j : Nat) {f0 f1 f2 f3 f4 f5 : Nat → Int32} {i : Int32} (ok : zOk K yn cc nL ret d mc ms B) (hd : decode cc pc = .ok (.iaload, 1)) (hm : lR M m f0 f1 f2 f3 f4 f5) (hi : i = nI j) (hj : j < 50)
    (kk : zV nL B Q (pc + 1) L (.int (f5 j) :: rest) M k n0) : zV nL B Q pc L (.int i :: .ref (m + 5) :: rest) M k n0 := z_ald ok hd hm.2.2.2.2.2 hi hj (by omega) kk
theorem r_ast5 {K : zK} {yn : MethodName} {cc : ByteArray} {nL : Nat} {ret : Option FieldType} {d mc ms : Nat} {B : zB} {Q : State → Prop} {pc : Nat} {L : List (Option Value)} {rest : List Value} {M : mM} {k n0 : Nat} {m : Nat} (j : Nat) {f0 f1 f2 f3 f4 f5 : Nat → Int32} {i x : Int32} (ok : zOk K yn cc nL ret d mc ms B) (hd : decode cc pc = .ok (.iastore, 1)) (hm : lR M m f0 f1 f2 f3 f4 f5) (hi : i = nI j) (hj : j < 50)
    (kk : ∀ M1 : mM, lR M1 m f0 f1 f2 f3 f4 (upd f5 j x) → zFr M M1 m 6 → zV nL B Q (pc + 1) L rest M1 k n0) : zV nL B Q pc L (.int x :: .int i :: .ref (m + 5) :: rest) M k n0 := z_ast ok hd hm.2.2.2.2.2 hi hj (by omega) (fun M1ω h1ω h2ω => kk M1ω ⟨hm.1.kept (h2ω _ (by omega)), hm.2.1.kept (h2ω _ (by omega)), hm.2.2.1.kept (h2ω _ (by omega)), hm.2.2.2.1.kept (h2ω _ (by omega)), hm.2.2.2.2.1.kept (h2ω _ (by omega)), h1ω⟩ (fun qω hqω => h2ω qω (by omega)))
theorem nI_ad (a : Nat) {b : Nat} {x : Int32} (h : x = nI b) : nI a + x = nI (a + b) := by rw [h, nI_add]
theorem upd_lt {f : Nat → Int32} {j q : Nat} {x : Int32} (h : q < j) : upd f j x q = f q := if_neg (by omega)
/-- four cells more behind those that are live -/
theorem upd4 {f g : Nat → Int32} {n : Nat} {x0 x1 x2 x3 : Int32} (h : ∀ j, j < 4 * n → f j = g j) (h0 : x0 = g (4 * n + 0)) (h1 : x1 = g (4 * n + 1)) (h2 : x2 = g (4 * n + 2)) (h3 : x3 = g (4 * n + 3)) : ∀ j, j < 4 * (n + 1) → upd (upd (upd (upd f (4 * n) x0) (4 * n + 1) x1) (4 * n + 2) x2) (4 * n + 3) x3 j = g j := fun jω hjω => by
  unfold upd
  by_cases e3 : jω = 4 * n + 3
  · rw [if_pos e3, e3, h3]
  · rw [if_neg e3]
    by_cases e2 : jω = 4 * n + 2
    · rw [if_pos e2, e2, h2]
    · rw [if_neg e2]
      by_cases e1 : jω = 4 * n + 1
      · rw [if_pos e1, e1, h1]
      · rw [if_neg e1]
        by_cases e0 : jω = 4 * n
        · rw [if_pos e0, e0, h0]
          rfl
        · rw [if_neg e0]
          exact h jω (by omega)
theorem lA_mk {s : Nat → Int32} {n : Nat} {p b w f t wo : Int32} (hn : n < 16) : (∀ j, j < 4 * n → lA1 s j = lA1 (zMk s n p b w f t wo) j) ∧ (∀ j, j < 4 * n → lA2 s j = lA2 (zMk s n p b w f t wo) j) ∧ (∀ j, j < 4 * n → lA3 s j = lA3 (zMk s n p b w f t wo) j) := by
  have hzω : ∀ jω, jω < 4 * n → ∀ kω, kω < 12 → gd s (jω / 4) kω = gd (zMk s n p b w f t wo) (jω / 4) kω := fun jω hjω kω hkω => (zMk_g2 (by omega) hkω).symm
  exact ⟨fun jω hjω => lA1_cg (hzω jω hjω _ (by decide)) (hzω jω hjω _ (by decide)) (hzω jω hjω _ (by decide)) (hzω jω hjω _ (by decide)), fun jω hjω => lA2_cg (hzω jω hjω _ (by decide)) (hzω jω hjω _ (by decide)) (hzω jω hjω _ (by decide)) (hzω jω hjω _ (by decide)), fun jω hjω => lA3_cg (hzω jω hjω _ (by decide)) (hzω jω hjω _ (by decide)) (hzω jω hjω _ (by decide)) (hzω jω hjω _ (by decide))⟩
theorem g03 {f0 s : Nat → Int32} {n : Nat} {p b w f t wo : Int32} (h : ∀ j, j < 13 → f0 j = s j) (h3 : f0 3 = nI n) (hs : s 3 = nI n) : ∀ j, j < 13 → upd f0 3 (f0 3 + 1) j = zMk s n p b w f t wo j := fun jω hjω => by
  unfold upd
  by_cases e : jω = 3
  · rw [if_pos e, e, zMk_3, h3, hs]
  · rw [if_neg e, zMk_o e (by omega), h jω hjω]
theorem upd_same {f : Nat → Int32} {j : Nat} : upd f j (f j) = f := by
  funext q
  unfold upd
  split
  · next hω => rw [hω]
  · rfl
set_option maxHeartbeats 400000 in
theorem makes_fin {M : mM} {m : Nat} {f0 f1 f2 f3 f4 f5 s : Nat → Int32} {n nv no : Nat} {p1 b1 w1 o1 : Int32} (hr : lRp f0 f1 f2 f3 f4 f5 s n nv no) (hN : zN s n nv no) (hn : n < 16) (h : lR M m (upd f0 3 (f0 3 + 1)) (upd (upd (upd (upd f1 (4 * n) p1) (4 * n + 1) b1) (4 * n + 2) w1) (4 * n + 3) o1) (upd (upd f2 (4 * n + 2) 0) (4 * n + 3) (-1)) (upd (upd (upd (upd f3 (4 * n) (-1)) (4 * n + 1) (f0 3)) (4 * n + 2) (f0 5)) (4 * n + 3) 0) f4 f5) : lP M m (zMk s n p1 b1 w1 (f2 (4 * n)) (f2 (4 * n + 1)) o1) (n + 1) nv no := by
  have hnv4ω := hN.2.2.2.1
  have hno10ω := hN.2.2.2.2.2
  have hx3ω : f0 3 = nI n := (hr.1 3 (by omega)).trans hN.1
  have hx5ω : f0 5 = s 5 := hr.1 5 (by omega)
  have hzω := lA_mk (s := s) (n := n) (p := p1) (b := b1) (w := w1) (f := f2 (4 * n)) (t := f2 (4 * n + 1)) (wo := o1) hn
  have e1ω : ∀ jω, jω < 4 * (n + 1) → upd (upd (upd (upd f1 (4 * n) p1) (4 * n + 1) b1) (4 * n + 2) w1) (4 * n + 3) o1 jω = lA1 (zMk s n p1 b1 w1 (f2 (4 * n)) (f2 (4 * n + 1)) o1) jω := by
    refine upd4 (fun jω hjω => (hr.2.1 jω hjω).trans (hzω.1 jω hjω)) ?_ ?_ ?_ ?_
    · rw [lA_0, zMk_g]; simp
    · rw [lA_1, zMk_g]; simp
    · rw [lA_2, zMk_g]; simp
    · rw [lA_5, zMk_g]; simp
  have e2ω : ∀ jω, jω < 4 * (n + 1) → upd (upd f2 (4 * n + 2) 0) (4 * n + 3) (-1) jω = lA2 (zMk s n p1 b1 w1 (f2 (4 * n)) (f2 (4 * n + 1)) o1) jω := by
    have h9ω : ∀ jω, jω < 4 * (n + 1) → upd (upd (upd (upd f2 (4 * n) (f2 (4 * n))) (4 * n + 1) (f2 (4 * n + 1))) (4 * n + 2) 0) (4 * n + 3) (-1) jω = lA2 (zMk s n p1 b1 w1 (f2 (4 * n)) (f2 (4 * n + 1)) o1) jω := by
      refine upd4 (fun jω hjω => (hr.2.2.1 jω hjω).trans (hzω.2.1 jω hjω)) ?_ ?_ ?_ ?_
      · rw [lA_3, zMk_g]; simp
      · rw [lA_4, zMk_g]; simp
      · rw [lA_6, zMk_g]; simp
      · rw [lA_7, zMk_g]; simp [zEn]
    rw [upd_same, upd_same] at h9ω
    exact h9ω
  have e3ω : ∀ jω, jω < 4 * (n + 1) → upd (upd (upd (upd f3 (4 * n) (-1)) (4 * n + 1) (f0 3)) (4 * n + 2) (f0 5)) (4 * n + 3) 0 jω = lA3 (zMk s n p1 b1 w1 (f2 (4 * n)) (f2 (4 * n + 1)) o1) jω := by
    refine upd4 (fun jω hjω => (hr.2.2.2.1 jω hjω).trans (hzω.2.2 jω hjω)) ?_ ?_ ?_ ?_
    · rw [lA_8, zMk_g]; simp [zEn]
    · rw [lA_9, zMk_g, hx3ω, hN.1]; simp
    · rw [lA_10, zMk_g, hx5ω]; simp
    · rw [lA_11, zMk_g]; simp
  have e4ω : ∀ jω, jω < 8 * nv → f4 jω = lA4 (zMk s n p1 b1 w1 (f2 (4 * n)) (f2 (4 * n + 1)) o1) jω := fun jω hjω => (hr.2.2.2.2.1 jω hjω).trans (zMk_o (q := 205 + jω) (by omega) (by omega)).symm
  have e5ω : ∀ jω, jω < 5 * no → f5 jω = lA5 (zMk s n p1 b1 w1 (f2 (4 * n)) (f2 (4 * n + 1)) o1) jω := fun jω hjω => (hr.2.2.2.2.2 jω hjω).trans (zMk_o (q := 237 + jω) (by omega) (by omega)).symm
  exact h.lP (by omega) (by omega) (by omega) ⟨g03 hr.1 hx3ω hN.1, e1ω, e2ω, e3ω, e4ω, e5ω⟩
theorem nI_pr (n : Nat) : nI (n + 1) - 1 = nI n := by
  rw [dI_sub]
  rfl
set_option maxRecDepth 20000 in
set_option maxHeartbeats 1000000 in
theorem ct_L_makes {K : zK} {M : mM} {nx : Nat} {m : Nat} {s : Nat → Int32} {n nv no : Nat} (hm : lP M m s n nv no) (hN : zN s n nv no) (hn : n < 16) {p1 b1 w1 o1 : Int32} : zCt K yL_makes cL_makes 9 zr_L_makes 0 [.ref m, .ref (m + 1), .ref (m + 2), .ref (m + 3), .int p1, .int b1, .int w1, .int o1] M nx 0 0 (zI (fun x M' => x = nI n ∧ ∃ f t : Int32, lP M' m (zMk s n p1 b1 w1 f t o1) (n + 1) nv no ∧ zFr M M' m 6)) := by
  refine z_enter [some (.ref m), some (.ref (m + 1)), some (.ref (m + 2)), some (.ref (m + 3)), some (.int p1), some (.int b1), some (.int w1), some (.int o1), none] (by decide +kernel) (Nat.le_of_ble_eq_true rfl) rfl (fun Bω okω hzω => ?_)
  have hnv4ω := hN.2.2.2.1
  have hno10ω := hN.2.2.2.2.2
  obtain ⟨f0ω, f1ω, f2ω, f3ω, f4ω, f5ω, hr0ω, hrω⟩ := hm.raw
  refine z_iconst (v := 4) okω dL_makes_0 (by decide) ?_
  refine z_aload_n okω dL_makes_1 rfl ?_
  refine z_iconst (v := 3) okω dL_makes_2 (by decide) ?_
  refine r_ald0 (3) okω dL_makes_3 hr0ω rfl (by omega) ?_
  refine z_imul okω dL_makes_4 ?_
  rw [hrω.1 3 (by omega), hN.1, lx4_0, Nat.add_zero]
  refine z_istore okω dL_makes_5 (by decide) rfl ?_
  refine z_aload_n okω dL_makes_7 rfl ?_
  refine z_iload okω dL_makes_8 rfl ?_
  refine z_iload okω dL_makes_10 rfl ?_
  refine r_ast1 (4 * n) okω dL_makes_12 hr0ω rfl (by omega) (fun Mz2ω hr01ω frz3ω => ?_)
  refine z_aload_n okω dL_makes_13 rfl ?_
  refine z_iload okω dL_makes_14 rfl ?_
  refine z_iconst (v := 1) okω dL_makes_16 (by decide) ?_
  refine z_iadd okω dL_makes_17 ?_
  refine z_iload okω dL_makes_18 rfl ?_
  refine r_ast1 (4 * n + 1) okω dL_makes_20 hr01ω (nI_ad (4 * n) (b := 1) rfl) (by omega) (fun Mz5ω hr04ω frz6ω => ?_)
  refine z_aload_n okω dL_makes_21 rfl ?_
  refine z_iload okω dL_makes_22 rfl ?_
  refine z_iconst (v := 2) okω dL_makes_24 (by decide) ?_
  refine z_iadd okω dL_makes_25 ?_
  refine z_iload okω dL_makes_26 rfl ?_
  refine r_ast1 (4 * n + 2) okω dL_makes_28 hr04ω (nI_ad (4 * n) (b := 2) rfl) (by omega) (fun Mz8ω hr07ω frz9ω => ?_)
  refine z_aload_n okω dL_makes_29 rfl ?_
  refine z_iload okω dL_makes_30 rfl ?_
  refine z_iconst (v := 3) okω dL_makes_32 (by decide) ?_
  refine z_iadd okω dL_makes_33 ?_
  refine z_iload okω dL_makes_34 rfl ?_
  refine r_ast1 (4 * n + 3) okω dL_makes_36 hr07ω (nI_ad (4 * n) (b := 3) rfl) (by omega) (fun Mz11ω hr010ω frz12ω => ?_)
  refine z_aload_n okω dL_makes_37 rfl ?_
  refine z_iload okω dL_makes_38 rfl ?_
  refine z_iconst (v := 2) okω dL_makes_40 (by decide) ?_
  refine z_iadd okω dL_makes_41 ?_
  refine z_iconst (v := 0) okω dL_makes_42 (by decide) ?_
  refine r_ast2 (4 * n + 2) okω dL_makes_43 hr010ω (nI_ad (4 * n) (b := 2) rfl) (by omega) (fun Mz14ω hr013ω frz15ω => ?_)
  refine z_aload_n okω dL_makes_44 rfl ?_
  refine z_iload okω dL_makes_45 rfl ?_
  refine z_iconst (v := 3) okω dL_makes_47 (by decide) ?_
  refine z_iadd okω dL_makes_48 ?_
  refine z_iconst (v := -1) okω dL_makes_49 (by decide) ?_
  refine r_ast2 (4 * n + 3) okω dL_makes_50 hr013ω (nI_ad (4 * n) (b := 3) rfl) (by omega) (fun Mz17ω hr016ω frz18ω => ?_)
  refine z_aload_n okω dL_makes_51 rfl ?_
  refine z_iload okω dL_makes_52 rfl ?_
  refine z_iconst (v := -1) okω dL_makes_54 (by decide) ?_
  refine r_ast3 (4 * n) okω dL_makes_55 hr016ω rfl (by omega) (fun Mz20ω hr019ω frz21ω => ?_)
  refine z_aload_n okω dL_makes_56 rfl ?_
  refine z_iload okω dL_makes_57 rfl ?_
  refine z_iconst (v := 1) okω dL_makes_59 (by decide) ?_
  refine z_iadd okω dL_makes_60 ?_
  refine z_aload_n okω dL_makes_61 rfl ?_
  refine z_iconst (v := 3) okω dL_makes_62 (by decide) ?_
  refine r_ald0 (3) okω dL_makes_63 hr019ω rfl (by omega) ?_
  refine r_ast3 (4 * n + 1) okω dL_makes_64 hr019ω (nI_ad (4 * n) (b := 1) rfl) (by omega) (fun Mz23ω hr022ω frz24ω => ?_)
  refine z_aload_n okω dL_makes_65 rfl ?_
  refine z_iload okω dL_makes_66 rfl ?_
  refine z_iconst (v := 2) okω dL_makes_68 (by decide) ?_
  refine z_iadd okω dL_makes_69 ?_
  refine z_aload_n okω dL_makes_70 rfl ?_
  refine z_iconst (v := 5) okω dL_makes_71 (by decide) ?_
  refine r_ald0 (5) okω dL_makes_72 hr022ω rfl (by omega) ?_
  refine r_ast3 (4 * n + 2) okω dL_makes_73 hr022ω (nI_ad (4 * n) (b := 2) rfl) (by omega) (fun Mz26ω hr025ω frz27ω => ?_)
  refine z_aload_n okω dL_makes_74 rfl ?_
  refine z_iload okω dL_makes_75 rfl ?_
  refine z_iconst (v := 3) okω dL_makes_77 (by decide) ?_
  refine z_iadd okω dL_makes_78 ?_
  refine z_iconst (v := 0) okω dL_makes_79 (by decide) ?_
  refine r_ast3 (4 * n + 3) okω dL_makes_80 hr025ω (nI_ad (4 * n) (b := 3) rfl) (by omega) (fun Mz29ω hr028ω frz30ω => ?_)
  refine z_aload_n okω dL_makes_81 rfl ?_
  refine z_iconst (v := 3) okω dL_makes_82 (by decide) ?_
  refine z_dup2 okω dL_makes_83 rfl rfl ?_
  refine r_ald0 (3) okω dL_makes_84 hr028ω rfl (by omega) ?_
  refine z_iconst (v := 1) okω dL_makes_85 (by decide) ?_
  refine z_iadd okω dL_makes_86 ?_
  refine r_ast0 (3) okω dL_makes_87 hr028ω rfl (by omega) (fun Mz32ω hr031ω frz33ω => ?_)
  refine z_aload_n okω dL_makes_88 rfl ?_
  refine z_iconst (v := 3) okω dL_makes_89 (by decide) ?_
  refine r_ald0 (3) okω dL_makes_90 hr031ω rfl (by omega) ?_
  refine z_iconst (v := 1) okω dL_makes_91 (by decide) ?_
  refine z_isub okω dL_makes_92 ?_
  have hx3ω : f0ω 3 = nI n := (hrω.1 3 (by omega)).trans hN.1
  have hfinω := makes_fin hrω hN hn hr031ω
  exact z_iret okω dL_makes_93 rfl rfl rfl (Nat.zero_le _) ⟨by rw [upd_s, hx3ω, nI_1, nI_pr], _, _, hfinω, (zFr.tr frz3ω (zFr.tr frz6ω (zFr.tr frz9ω (zFr.tr frz12ω (zFr.tr frz15ω (zFr.tr frz18ω (zFr.tr frz21ω (zFr.tr frz24ω (zFr.tr frz27ω (zFr.tr frz30ω frz33ω))))))))))⟩

theorem nI_eq0 {n : Nat} (hn : n < 2 ^ 31) (h : nI n = 0) : n = 0 := by
  have h9ω := congrArg Int32.toInt h
  rw [nI_toInt hn] at h9ω
  exact Int.natCast_eq_zero.mp h9ω
set_option maxRecDepth 20000 in
set_option maxHeartbeats 1000000 in
theorem ct_L_some {K : zK} {M : mM} {nx : Nat} {m : Nat} {s : Nat → Int32} {n nv no : Nat} (hm : lP M m s n nv no) (hw : zWF s n nv no) {y : Nat} (hy : y < 2 ^ 31) {st : Int32} : zCt K yL_some cL_some 6 zr_L_some 0 [.ref m, .ref (m + 2), .int (nI y), .int st] M nx 0 0 (zI (fun x M' => (∃ k, x = nI k ∧ (0 < n → k < n) ∧ (n = 0 → k = 0)) ∧ M' = M)) := by
  refine z_enter [some (.ref m), some (.ref (m + 2)), some (.int (nI y)), some (.int st), none, none] (by decide +kernel) (Nat.le_of_ble_eq_true rfl) rfl (fun Bω okω hzω => ?_)
  have hNω := hw.N
  have hn16ω := hNω.2.1
  have hnv4ω := hNω.2.2.2.1
  have hno10ω := hNω.2.2.2.2.2
  have J15ω : ∀ (kω : Nat), (0 < n → kω < n) → (n = 0 → kω = 0) → zV 6 Bω (zE Bω (zI (fun xω M'ω => (∃ kω, xω = nI kω ∧ (0 < n → kω < n) ∧ (n = 0 → kω = 0)) ∧ M'ω = M)) 0 0) 15 [some (.ref m), some (.ref (m + 2)), some (.int (nI y)), some (.int st), none, none] [.int (nI kω)] M 0 0 := by
    intro kω hk1ω hk2ω
    refine z_istore okω dL_some_15 (by decide) rfl ?_
    refine z_iconst (v := 0) okω dL_some_17 (by decide) ?_
    refine z_istore okω dL_some_18 (by decide) rfl ?_
    have loop20ω : ∀ (t6ω i6ω : Nat) (kω : Nat), 16 < i6ω + t6ω → i6ω ≤ 16 → (0 < n → kω < n) → (n = 0 → kω = 0) → zV 6 Bω (zE Bω (zI (fun xω M'ω => (∃ kω, xω = nI kω ∧ (0 < n → kω < n) ∧ (n = 0 → kω = 0)) ∧ M'ω = M)) 0 0) 20 [some (.ref m), some (.ref (m + 2)), some (.int (nI y)), some (.int st), some (.int (nI kω)), some (.int (nI i6ω))] [] M 0 0 := by
      intro t6ω
      induction t6ω with
      | zero => intro i6ω kω h16ω h26ω; exact absurd h16ω (by omega)
      | succ t6ω ih6ω =>
        intro i6ω kω h16ω h26ω hk1ω hk2ω
        refine z_iload okω dL_some_20 rfl ?_
        refine z_bipush (v := 16) okω dL_some_22 (by decide) ?_
        refine z_icmp_ge (tgt := 61) okω dL_some_24 (by decide) (fun cz24ω => ?_) (fun cz24ω => ?_)
        · refine z_iload okω dL_some_61 rfl ?_
          exact z_iret okω dL_some_63 rfl rfl rfl (Nat.zero_le _) ⟨⟨kω, rfl, hk1ω, hk2ω⟩, rfl⟩
        · have hi16ω : i6ω < 16 := by have := mt (nI_leI (a := 16) (b := i6ω) (by omega) (by omega)).mpr cz24ω; omega
          refine z_aload_n okω dL_some_27 rfl ?_
          refine z_iconst (v := 3) okω dL_some_28 (by decide) ?_
          refine l_ldG (t := 3) okω dL_some_29 hm rfl (by decide) ?_
          refine z_if_le (tgt := 61) okω dL_some_30 (by decide) (fun cz30ω => ?_) (fun cz30ω => ?_)
          · refine z_iload okω dL_some_61 rfl ?_
            exact z_iret okω dL_some_63 rfl rfl rfl (Nat.zero_le _) ⟨⟨kω, rfl, hk1ω, hk2ω⟩, rfl⟩
          · have hnpω : 0 < n := by exact (Nat.eq_zero_or_pos n).elim (fun zω => absurd (show s 3 ≤ 0 from by rw [hNω.1, zω]; decide) cz30ω) id
            have hn0ω : ¬ n = 0 := by omega
            have hknω := hk1ω hnpω
            refine z_aload_n okω dL_some_33 rfl ?_
            refine z_iconst (v := 4) okω dL_some_34 (by decide) ?_
            refine z_iload okω dL_some_35 rfl ?_
            refine z_imul okω dL_some_37 ?_
            refine z_iconst (v := 2) okω dL_some_38 (by decide) ?_
            refine z_iadd okω dL_some_39 ?_
            refine l_ld6 kω okω dL_some_40 hm (lx4_2 kω) hknω ?_
            refine z_iload_n okω dL_some_41 rfl ?_
            refine z_icmp_eq (tgt := 61) okω dL_some_42 (by decide) (fun cz42ω => ?_) (fun cz42ω => ?_)
            · refine z_iload okω dL_some_61 rfl ?_
              exact z_iret okω dL_some_63 rfl rfl rfl (Nat.zero_le _) ⟨⟨kω, rfl, hk1ω, hk2ω⟩, rfl⟩
            · refine z_iload okω dL_some_45 rfl ?_
              refine z_iconst (v := 1) okω dL_some_47 (by decide) ?_
              refine z_iadd okω dL_some_48 ?_
              refine z_aload_n okω dL_some_49 rfl ?_
              refine z_iconst (v := 3) okω dL_some_50 (by decide) ?_
              refine l_ldG (t := 3) okω dL_some_51 hm rfl (by decide) ?_
              refine z_irem okω dL_some_52 (by rw [hNω.1]; exact fun zω => hn0ω (nI_eq0 (by omega) zω)) ?_
              rw [hNω.1, nI_1, pk_rem (by omega) hnpω (by omega)]
              refine z_istore okω dL_some_53 (by decide) rfl ?_
              refine z_iinc okω dL_some_55 rfl (zinc2 _) (by decide) rfl ?_
              refine z_goto (tgt := 20) okω dL_some_58 (by decide) ?_
              exact ih6ω (i6ω + 1) ((kω + 1) % n) (by omega) (by omega) (fun zω => Nat.mod_lt _ zω) (fun zω => absurd zω (by omega))
    exact loop20ω 17 0 kω (by omega) (by omega) hk1ω hk2ω
  refine z_aload_n okω dL_some_0 rfl ?_
  refine z_iconst (v := 3) okω dL_some_1 (by decide) ?_
  refine l_ldG (t := 3) okω dL_some_2 hm rfl (by decide) ?_
  refine z_if_ne (tgt := 10) okω dL_some_3 (by decide) (fun cz3ω => ?_) (fun cz3ω => ?_)
  · have hn0ω : ¬ n = 0 := fun zω => cz3ω (by rw [hNω.1, zω]; rfl)
    refine z_iload_n okω dL_some_10 rfl ?_
    refine z_aload_n okω dL_some_11 rfl ?_
    refine z_iconst (v := 3) okω dL_some_12 (by decide) ?_
    refine l_ldG (t := 3) okω dL_some_13 hm rfl (by decide) ?_
    refine z_irem okω dL_some_14 (by rw [hNω.1]; exact fun zω => hn0ω (nI_eq0 (by omega) zω)) ?_
    first | (rw [hNω.1, pk_rem hy (by omega) (by omega)]; exact J15ω (y % n) (fun zω => Nat.mod_lt _ zω) (fun zω => absurd zω hn0ω)) | exact J15ω 0 (fun zω => absurd zω (by omega)) (fun _ => rfl)
  · have hn0ω : n = 0 := nI_eq0 (by omega) (hNω.1.symm.trans cz3ω)
    refine z_iconst (v := 0) okω dL_some_6 (by decide) ?_
    refine z_goto (tgt := 15) okω dL_some_7 (by decide) ?_
    first | (rw [hNω.1, pk_rem hy (by omega) (by omega)]; exact J15ω (y % n) (fun zω => Nat.mod_lt _ zω) (fun zω => absurd zω hn0ω)) | exact J15ω 0 (fun zω => absurd zω (by omega)) (fun _ => rfl)

