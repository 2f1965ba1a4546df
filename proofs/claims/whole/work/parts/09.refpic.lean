/-! the reference's memory: its object at m, its arrays behind it (1 s, 2 past, 3 held, 4 tried, 5 text, 6 words, 7 numbers, 8 told); what they hold: arrays by these numbers, whole numbers by the fields' slots (4 pasts, 5 runs, 7 typed, 10 spot, 11 cause, 12 commands) -/
abbrev zMS : Type := (Nat → Nat → Int32) × (Nat → Int32)
def mA (μ : zMS) (k : Nat) (f : Nat → Int32) : zMS := (fun j => if j = k then f else μ.1 j, μ.2)
def mS (μ : zMS) (k : Nat) (x : Int32) : zMS := (μ.1, fun j => if j = k then x else μ.2 j)
theorem mA_s (μ : zMS) (k : Nat) (f : Nat → Int32) : (mA μ k f).1 k = f := if_pos rfl
theorem mA_n (μ : zMS) {k j : Nat} (f : Nat → Int32) (h : j ≠ k) : (mA μ k f).1 j = μ.1 j := if_neg h
theorem mA_2 (μ : zMS) (k : Nat) (f : Nat → Int32) : (mA μ k f).2 = μ.2 := rfl
theorem mS_s (μ : zMS) (k : Nat) (x : Int32) : (mS μ k x).2 k = x := if_pos rfl
theorem mS_n (μ : zMS) {k j : Nat} (x : Int32) (h : j ≠ k) : (mS μ k x).2 j = μ.2 j := if_neg h
theorem mS_1 (μ : zMS) (k : Nat) (x : Int32) : (mS μ k x).1 = μ.1 := rfl
def zWd (i : Nat) : Int64 := match i with | 0 => 1819238756 | 1 => 1718185068 | 2 => 26479 | 3 => 495807392116 | 4 => 1785686382 | 5 => 478459356530 | _ => 1885434739
def zNu (i : Nat) : Int32 := match i with | 0 => 2 | 1 => 3 | 2 => 1 | 3 => 3 | 4 => 2 | 5 => 5 | _ => 1
def mFs (m : Nat) (g : Nat → Int32) : List Value := [.ref (m + 1), .ref (m + 2), .ref (m + 3), .ref (m + 4), .int (g 4), .int (g 5), .ref (m + 5), .int (g 7), .ref (m + 6), .ref (m + 7), .int (g 10), .int (g 11), .int (g 12), .ref (m + 8)]
/-- a row of N whole numbers lies at a -/
def zArr (M : mM) (a N : Nat) (g : Nat → Int32) : Prop := ∃ f : Nat → Int32, M a = some (.inl (0, N, .inl f)) ∧ ∀ j, j < N → f j = g j
theorem zArr.kept {M M' : mM} {a N : Nat} {g : Nat → Int32} (h : zArr M a N g) (hq : M' a = M a) : zArr M' a N g := by
  obtain ⟨f, h1, h2⟩ := h
  exact ⟨f, hq.trans h1, h2⟩
theorem zArr.cong {M : mM} {a N : Nat} {g g' : Nat → Int32} (h : zArr M a N g) (hg : ∀ j, j < N → g j = g' j) : zArr M a N g' := by
  obtain ⟨f, h1, h2⟩ := h
  exact ⟨f, h1, fun j hj => (h2 j hj).trans (hg j hj)⟩
def mPic (M : mM) (m : Nat) (μ : zMS) : Prop := M m = some (.inr (7, mFs m μ.2)) ∧ zArr M (m + 1) 287 (μ.1 1) ∧ zArr M (m + 2) 1148 (μ.1 2) ∧ zArr M (m + 3) 287 (μ.1 3) ∧ zArr M (m + 4) 287 (μ.1 4) ∧ zArr M (m + 5) 80 (μ.1 5) ∧ zArr M (m + 8) 5 (μ.1 8) ∧ zArr M (m + 7) 7 zNu ∧ ∃ w : Nat → Int64, M (m + 6) = some (.inl (1, 7, .inr (.inl w))) ∧ ∀ i, i < 7 → w i = zWd i
/-- outside the w cells from m on nothing has changed -/
def zFr (M M' : mM) (m w : Nat) : Prop := ∀ q, (q < m ∨ m + w ≤ q) → M' q = M q
theorem zFr.rf {M : mM} {m w : Nat} : zFr M M m w := fun _ _ => rfl
theorem zFr.tr {M M1 M2 : mM} {m w : Nat} (h1 : zFr M M1 m w) (h2 : zFr M1 M2 m w) : zFr M M2 m w := fun q hq => (h2 q hq).trans (h1 q hq)
theorem zFr.up {M : mM} {m w a : Nat} {e : mE} (h1 : m ≤ a) (h2 : a < m + w) : zFr M (mU M a e) m w := fun q hq => mU_n (by omega)
theorem mPic.kept {M M' : mM} {m : Nat} {μ : zMS} (h : mPic M m μ) (hq : ∀ q, m ≤ q → q < m + 9 → M' q = M q) : mPic M' m μ := by
  obtain ⟨h0, h1, h2, h3, h4, h5, h8, h7, w6, h6, g6⟩ := h
  exact ⟨(hq _ (by omega) (by omega)).trans h0, h1.kept (hq _ (by omega) (by omega)), h2.kept (hq _ (by omega) (by omega)), h3.kept (hq _ (by omega) (by omega)), h4.kept (hq _ (by omega) (by omega)), h5.kept (hq _ (by omega) (by omega)), h8.kept (hq _ (by omega) (by omega)), h7.kept (hq _ (by omega) (by omega)), w6, (hq _ (by omega) (by omega)).trans h6, g6⟩
theorem mA_mA (μ : zMS) (k : Nat) (f g : Nat → Int32) : mA (mA μ k f) k g = mA μ k g := by
  unfold mA
  congr 1
  funext j
  by_cases h : j = k
  · simp [h]
  · simp [h]
theorem mS_mS (μ : zMS) (k : Nat) (x y : Int32) : mS (mS μ k x) k y = mS μ k y := by
  unfold mS
  congr 1
  funext j
  by_cases h : j = k
  · simp [h]
  · simp [h]
theorem mPic.setA1 {M M' : mM} {m : Nat} {μ : zMS} (h : mPic M m μ) {f : Nat → Int32} (ha : zArr M' (m + 1) 287 f) (hq : ∀ q, q ≠ m + 1 → M' q = M q) : mPic M' m (mA μ 1 f) := by
  obtain ⟨h0, h1, h2, h3, h4, h5, h8, h7, w6, h6, g6⟩ := h
  exact ⟨((hq _ (by omega)).trans h0), (by rw [mA_s]; exact ha), (by rw [mA_n _ _ (by decide)]; exact h2.kept (hq _ (by omega))), (by rw [mA_n _ _ (by decide)]; exact h3.kept (hq _ (by omega))), (by rw [mA_n _ _ (by decide)]; exact h4.kept (hq _ (by omega))), (by rw [mA_n _ _ (by decide)]; exact h5.kept (hq _ (by omega))), (by rw [mA_n _ _ (by decide)]; exact h8.kept (hq _ (by omega))), h7.kept (hq _ (by omega)), w6, (hq _ (by omega)).trans h6, g6⟩
theorem mPic.cong1 {M : mM} {m : Nat} {μ : zMS} {f g : Nat → Int32} (h : mPic M m (mA μ 1 f)) (hg : ∀ j, j < 287 → f j = g j) : mPic M m (mA μ 1 g) := by
  have h9 := h.setA1 (f := g) ((by have h2 := h.2.1; rw [mA_s] at h2; exact h2.cong hg)) (fun _ _ => rfl)
  rwa [mA_mA] at h9
theorem mPic.setA2 {M M' : mM} {m : Nat} {μ : zMS} (h : mPic M m μ) {f : Nat → Int32} (ha : zArr M' (m + 2) 1148 f) (hq : ∀ q, q ≠ m + 2 → M' q = M q) : mPic M' m (mA μ 2 f) := by
  obtain ⟨h0, h1, h2, h3, h4, h5, h8, h7, w6, h6, g6⟩ := h
  exact ⟨((hq _ (by omega)).trans h0), (by rw [mA_n _ _ (by decide)]; exact h1.kept (hq _ (by omega))), (by rw [mA_s]; exact ha), (by rw [mA_n _ _ (by decide)]; exact h3.kept (hq _ (by omega))), (by rw [mA_n _ _ (by decide)]; exact h4.kept (hq _ (by omega))), (by rw [mA_n _ _ (by decide)]; exact h5.kept (hq _ (by omega))), (by rw [mA_n _ _ (by decide)]; exact h8.kept (hq _ (by omega))), h7.kept (hq _ (by omega)), w6, (hq _ (by omega)).trans h6, g6⟩
theorem mPic.cong2 {M : mM} {m : Nat} {μ : zMS} {f g : Nat → Int32} (h : mPic M m (mA μ 2 f)) (hg : ∀ j, j < 1148 → f j = g j) : mPic M m (mA μ 2 g) := by
  have h9 := h.setA2 (f := g) ((by have h2 := h.2.2.1; rw [mA_s] at h2; exact h2.cong hg)) (fun _ _ => rfl)
  rwa [mA_mA] at h9
theorem mPic.setA3 {M M' : mM} {m : Nat} {μ : zMS} (h : mPic M m μ) {f : Nat → Int32} (ha : zArr M' (m + 3) 287 f) (hq : ∀ q, q ≠ m + 3 → M' q = M q) : mPic M' m (mA μ 3 f) := by
  obtain ⟨h0, h1, h2, h3, h4, h5, h8, h7, w6, h6, g6⟩ := h
  exact ⟨((hq _ (by omega)).trans h0), (by rw [mA_n _ _ (by decide)]; exact h1.kept (hq _ (by omega))), (by rw [mA_n _ _ (by decide)]; exact h2.kept (hq _ (by omega))), (by rw [mA_s]; exact ha), (by rw [mA_n _ _ (by decide)]; exact h4.kept (hq _ (by omega))), (by rw [mA_n _ _ (by decide)]; exact h5.kept (hq _ (by omega))), (by rw [mA_n _ _ (by decide)]; exact h8.kept (hq _ (by omega))), h7.kept (hq _ (by omega)), w6, (hq _ (by omega)).trans h6, g6⟩
theorem mPic.cong3 {M : mM} {m : Nat} {μ : zMS} {f g : Nat → Int32} (h : mPic M m (mA μ 3 f)) (hg : ∀ j, j < 287 → f j = g j) : mPic M m (mA μ 3 g) := by
  have h9 := h.setA3 (f := g) ((by have h2 := h.2.2.2.1; rw [mA_s] at h2; exact h2.cong hg)) (fun _ _ => rfl)
  rwa [mA_mA] at h9
theorem mPic.setA4 {M M' : mM} {m : Nat} {μ : zMS} (h : mPic M m μ) {f : Nat → Int32} (ha : zArr M' (m + 4) 287 f) (hq : ∀ q, q ≠ m + 4 → M' q = M q) : mPic M' m (mA μ 4 f) := by
  obtain ⟨h0, h1, h2, h3, h4, h5, h8, h7, w6, h6, g6⟩ := h
  exact ⟨((hq _ (by omega)).trans h0), (by rw [mA_n _ _ (by decide)]; exact h1.kept (hq _ (by omega))), (by rw [mA_n _ _ (by decide)]; exact h2.kept (hq _ (by omega))), (by rw [mA_n _ _ (by decide)]; exact h3.kept (hq _ (by omega))), (by rw [mA_s]; exact ha), (by rw [mA_n _ _ (by decide)]; exact h5.kept (hq _ (by omega))), (by rw [mA_n _ _ (by decide)]; exact h8.kept (hq _ (by omega))), h7.kept (hq _ (by omega)), w6, (hq _ (by omega)).trans h6, g6⟩
theorem mPic.cong4 {M : mM} {m : Nat} {μ : zMS} {f g : Nat → Int32} (h : mPic M m (mA μ 4 f)) (hg : ∀ j, j < 287 → f j = g j) : mPic M m (mA μ 4 g) := by
  have h9 := h.setA4 (f := g) ((by have h2 := h.2.2.2.2.1; rw [mA_s] at h2; exact h2.cong hg)) (fun _ _ => rfl)
  rwa [mA_mA] at h9
theorem mPic.setA5 {M M' : mM} {m : Nat} {μ : zMS} (h : mPic M m μ) {f : Nat → Int32} (ha : zArr M' (m + 5) 80 f) (hq : ∀ q, q ≠ m + 5 → M' q = M q) : mPic M' m (mA μ 5 f) := by
  obtain ⟨h0, h1, h2, h3, h4, h5, h8, h7, w6, h6, g6⟩ := h
  exact ⟨((hq _ (by omega)).trans h0), (by rw [mA_n _ _ (by decide)]; exact h1.kept (hq _ (by omega))), (by rw [mA_n _ _ (by decide)]; exact h2.kept (hq _ (by omega))), (by rw [mA_n _ _ (by decide)]; exact h3.kept (hq _ (by omega))), (by rw [mA_n _ _ (by decide)]; exact h4.kept (hq _ (by omega))), (by rw [mA_s]; exact ha), (by rw [mA_n _ _ (by decide)]; exact h8.kept (hq _ (by omega))), h7.kept (hq _ (by omega)), w6, (hq _ (by omega)).trans h6, g6⟩
theorem mPic.cong5 {M : mM} {m : Nat} {μ : zMS} {f g : Nat → Int32} (h : mPic M m (mA μ 5 f)) (hg : ∀ j, j < 80 → f j = g j) : mPic M m (mA μ 5 g) := by
  have h9 := h.setA5 (f := g) ((by have h2 := h.2.2.2.2.2.1; rw [mA_s] at h2; exact h2.cong hg)) (fun _ _ => rfl)
  rwa [mA_mA] at h9
theorem mPic.setA8 {M M' : mM} {m : Nat} {μ : zMS} (h : mPic M m μ) {f : Nat → Int32} (ha : zArr M' (m + 8) 5 f) (hq : ∀ q, q ≠ m + 8 → M' q = M q) : mPic M' m (mA μ 8 f) := by
  obtain ⟨h0, h1, h2, h3, h4, h5, h8, h7, w6, h6, g6⟩ := h
  exact ⟨((hq _ (by omega)).trans h0), (by rw [mA_n _ _ (by decide)]; exact h1.kept (hq _ (by omega))), (by rw [mA_n _ _ (by decide)]; exact h2.kept (hq _ (by omega))), (by rw [mA_n _ _ (by decide)]; exact h3.kept (hq _ (by omega))), (by rw [mA_n _ _ (by decide)]; exact h4.kept (hq _ (by omega))), (by rw [mA_n _ _ (by decide)]; exact h5.kept (hq _ (by omega))), (by rw [mA_s]; exact ha), h7.kept (hq _ (by omega)), w6, (hq _ (by omega)).trans h6, g6⟩
theorem mPic.cong8 {M : mM} {m : Nat} {μ : zMS} {f g : Nat → Int32} (h : mPic M m (mA μ 8 f)) (hg : ∀ j, j < 5 → f j = g j) : mPic M m (mA μ 8 g) := by
  have h9 := h.setA8 (f := g) ((by have h2 := h.2.2.2.2.2.2.1; rw [mA_s] at h2; exact h2.cong hg)) (fun _ _ => rfl)
  rwa [mA_mA] at h9
theorem mPic.setS4 {M : mM} {m : Nat} {μ : zMS} (h : mPic M m μ) (x : Int32) : mPic (mU M m (.inr (7, (mFs m μ.2).set 4 (.int x)))) m (mS μ 4 x) := by
  obtain ⟨h0, h1, h2, h3, h4, h5, h8, h7, w6, h6, g6⟩ := h
  exact ⟨by rw [mU_s]; rfl, h1.kept (mU_n (by omega)), h2.kept (mU_n (by omega)), h3.kept (mU_n (by omega)), h4.kept (mU_n (by omega)), h5.kept (mU_n (by omega)), h8.kept (mU_n (by omega)), h7.kept (mU_n (by omega)), w6, (mU_n (by omega)).trans h6, g6⟩
theorem mPic.setS5 {M : mM} {m : Nat} {μ : zMS} (h : mPic M m μ) (x : Int32) : mPic (mU M m (.inr (7, (mFs m μ.2).set 5 (.int x)))) m (mS μ 5 x) := by
  obtain ⟨h0, h1, h2, h3, h4, h5, h8, h7, w6, h6, g6⟩ := h
  exact ⟨by rw [mU_s]; rfl, h1.kept (mU_n (by omega)), h2.kept (mU_n (by omega)), h3.kept (mU_n (by omega)), h4.kept (mU_n (by omega)), h5.kept (mU_n (by omega)), h8.kept (mU_n (by omega)), h7.kept (mU_n (by omega)), w6, (mU_n (by omega)).trans h6, g6⟩
theorem mPic.setS7 {M : mM} {m : Nat} {μ : zMS} (h : mPic M m μ) (x : Int32) : mPic (mU M m (.inr (7, (mFs m μ.2).set 7 (.int x)))) m (mS μ 7 x) := by
  obtain ⟨h0, h1, h2, h3, h4, h5, h8, h7, w6, h6, g6⟩ := h
  exact ⟨by rw [mU_s]; rfl, h1.kept (mU_n (by omega)), h2.kept (mU_n (by omega)), h3.kept (mU_n (by omega)), h4.kept (mU_n (by omega)), h5.kept (mU_n (by omega)), h8.kept (mU_n (by omega)), h7.kept (mU_n (by omega)), w6, (mU_n (by omega)).trans h6, g6⟩
theorem mPic.setS10 {M : mM} {m : Nat} {μ : zMS} (h : mPic M m μ) (x : Int32) : mPic (mU M m (.inr (7, (mFs m μ.2).set 10 (.int x)))) m (mS μ 10 x) := by
  obtain ⟨h0, h1, h2, h3, h4, h5, h8, h7, w6, h6, g6⟩ := h
  exact ⟨by rw [mU_s]; rfl, h1.kept (mU_n (by omega)), h2.kept (mU_n (by omega)), h3.kept (mU_n (by omega)), h4.kept (mU_n (by omega)), h5.kept (mU_n (by omega)), h8.kept (mU_n (by omega)), h7.kept (mU_n (by omega)), w6, (mU_n (by omega)).trans h6, g6⟩
theorem mPic.setS11 {M : mM} {m : Nat} {μ : zMS} (h : mPic M m μ) (x : Int32) : mPic (mU M m (.inr (7, (mFs m μ.2).set 11 (.int x)))) m (mS μ 11 x) := by
  obtain ⟨h0, h1, h2, h3, h4, h5, h8, h7, w6, h6, g6⟩ := h
  exact ⟨by rw [mU_s]; rfl, h1.kept (mU_n (by omega)), h2.kept (mU_n (by omega)), h3.kept (mU_n (by omega)), h4.kept (mU_n (by omega)), h5.kept (mU_n (by omega)), h8.kept (mU_n (by omega)), h7.kept (mU_n (by omega)), w6, (mU_n (by omega)).trans h6, g6⟩
theorem mPic.setS12 {M : mM} {m : Nat} {μ : zMS} (h : mPic M m μ) (x : Int32) : mPic (mU M m (.inr (7, (mFs m μ.2).set 12 (.int x)))) m (mS μ 12 x) := by
  obtain ⟨h0, h1, h2, h3, h4, h5, h8, h7, w6, h6, g6⟩ := h
  exact ⟨by rw [mU_s]; rfl, h1.kept (mU_n (by omega)), h2.kept (mU_n (by omega)), h3.kept (mU_n (by omega)), h4.kept (mU_n (by omega)), h5.kept (mU_n (by omega)), h8.kept (mU_n (by omega)), h7.kept (mU_n (by omega)), w6, (mU_n (by omega)).trans h6, g6⟩
theorem z_ald {K : zK} {yn : MethodName} {cc : ByteArray} {nL : Nat} {ret : Option FieldType} {d mc ms : Nat} {B : zB} {Q : State → Prop} {pc : Nat} {L : List (Option Value)} {rest : List Value} {M : mM} {k n : Nat} {a N j : Nat} {g : Nat → Int32} {i : Int32} (ok : zOk K yn cc nL ret d mc ms B) (hd : decode cc pc = .ok (.iaload, 1)) (ha : zArr M a N g) (hi : i = nI j) (hj : j < N) (hN : N < 2 ^ 31)
    (kk : zV nL B Q (pc + 1) L (.int (g j) :: rest) M k n) : zV nL B Q pc L (.int i :: .ref a :: rest) M k n := by
  subst hi
  obtain ⟨f, h1, h2⟩ := ha
  refine z_iaload ok hd h1 (vp_in_nI hj hN) ?_
  rw [nI_clamp (by omega), h2 j hj]
  exact kk
theorem z_ast {K : zK} {yn : MethodName} {cc : ByteArray} {nL : Nat} {ret : Option FieldType} {d mc ms : Nat} {B : zB} {Q : State → Prop} {pc : Nat} {L : List (Option Value)} {rest : List Value} {M : mM} {k n : Nat} {a N j : Nat} {g : Nat → Int32} {i x : Int32} (ok : zOk K yn cc nL ret d mc ms B) (hd : decode cc pc = .ok (.iastore, 1)) (ha : zArr M a N g) (hi : i = nI j) (hj : j < N) (hN : N < 2 ^ 31)
    (kk : ∀ M1 : mM, zArr M1 a N (upd g j x) → (∀ q, q ≠ a → M1 q = M q) → zV nL B Q (pc + 1) L rest M1 k n) : zV nL B Q pc L (.int x :: .int i :: .ref a :: rest) M k n := by
  subst hi
  obtain ⟨f, h1, h2⟩ := ha
  refine z_iastore ok hd h1 (vp_in_nI hj hN) ?_
  rw [nI_clamp (by omega)]
  refine kk _ ⟨_, mU_s, fun j' hj' => ?_⟩ (fun q hq => mU_n hq)
  unfold upd
  by_cases h : j' = j
  · simp [h]
  · simp [h, h2 j' hj']
theorem m_ald1 {K : zK} {yn : MethodName} {cc : ByteArray} {nL : Nat} {ret : Option FieldType} {d mc ms : Nat} {B : zB} {Q : State → Prop} {pc : Nat} {L : List (Option Value)} {rest : List Value} {M : mM} {k n : Nat} {m j : Nat} {μ : zMS} {i : Int32} (ok : zOk K yn cc nL ret d mc ms B) (hd : decode cc pc = .ok (.iaload, 1)) (hm : mPic M m μ) (hi : i = nI j) (hj : j < 287)
    (kk : zV nL B Q (pc + 1) L (.int (μ.1 1 j) :: rest) M k n) : zV nL B Q pc L (.int i :: .ref (m + 1) :: rest) M k n := z_ald ok hd hm.2.1 hi hj (by omega) kk
theorem m_ast1 {K : zK} {yn : MethodName} {cc : ByteArray} {nL : Nat} {ret : Option FieldType} {d mc ms : Nat} {B : zB} {Q : State → Prop} {pc : Nat} {L : List (Option Value)} {rest : List Value} {M : mM} {k n : Nat} {m j : Nat} {μ : zMS} {i x : Int32} (ok : zOk K yn cc nL ret d mc ms B) (hd : decode cc pc = .ok (.iastore, 1)) (hm : mPic M m μ) (hi : i = nI j) (hj : j < 287)
    (kk : ∀ M1 : mM, mPic M1 m (mA μ 1 (upd (μ.1 1) j x)) → zFr M M1 m 9 → zV nL B Q (pc + 1) L rest M1 k n) : zV nL B Q pc L (.int x :: .int i :: .ref (m + 1) :: rest) M k n := z_ast ok hd hm.2.1 hi hj (by omega) (fun M1 h1 h2 => kk M1 (hm.setA1 h1 h2) (fun q hq => h2 q (by omega)))
theorem m_ald2 {K : zK} {yn : MethodName} {cc : ByteArray} {nL : Nat} {ret : Option FieldType} {d mc ms : Nat} {B : zB} {Q : State → Prop} {pc : Nat} {L : List (Option Value)} {rest : List Value} {M : mM} {k n : Nat} {m j : Nat} {μ : zMS} {i : Int32} (ok : zOk K yn cc nL ret d mc ms B) (hd : decode cc pc = .ok (.iaload, 1)) (hm : mPic M m μ) (hi : i = nI j) (hj : j < 1148)
    (kk : zV nL B Q (pc + 1) L (.int (μ.1 2 j) :: rest) M k n) : zV nL B Q pc L (.int i :: .ref (m + 2) :: rest) M k n := z_ald ok hd hm.2.2.1 hi hj (by omega) kk
theorem m_ast2 {K : zK} {yn : MethodName} {cc : ByteArray} {nL : Nat} {ret : Option FieldType} {d mc ms : Nat} {B : zB} {Q : State → Prop} {pc : Nat} {L : List (Option Value)} {rest : List Value} {M : mM} {k n : Nat} {m j : Nat} {μ : zMS} {i x : Int32} (ok : zOk K yn cc nL ret d mc ms B) (hd : decode cc pc = .ok (.iastore, 1)) (hm : mPic M m μ) (hi : i = nI j) (hj : j < 1148)
    (kk : ∀ M1 : mM, mPic M1 m (mA μ 2 (upd (μ.1 2) j x)) → zFr M M1 m 9 → zV nL B Q (pc + 1) L rest M1 k n) : zV nL B Q pc L (.int x :: .int i :: .ref (m + 2) :: rest) M k n := z_ast ok hd hm.2.2.1 hi hj (by omega) (fun M1 h1 h2 => kk M1 (hm.setA2 h1 h2) (fun q hq => h2 q (by omega)))
theorem m_ald3 {K : zK} {yn : MethodName} {cc : ByteArray} {nL : Nat} {ret : Option FieldType} {d mc ms : Nat} {B : zB} {Q : State → Prop} {pc : Nat} {L : List (Option Value)} {rest : List Value} {M : mM} {k n : Nat} {m j : Nat} {μ : zMS} {i : Int32} (ok : zOk K yn cc nL ret d mc ms B) (hd : decode cc pc = .ok (.iaload, 1)) (hm : mPic M m μ) (hi : i = nI j) (hj : j < 287)
    (kk : zV nL B Q (pc + 1) L (.int (μ.1 3 j) :: rest) M k n) : zV nL B Q pc L (.int i :: .ref (m + 3) :: rest) M k n := z_ald ok hd hm.2.2.2.1 hi hj (by omega) kk
theorem m_ast3 {K : zK} {yn : MethodName} {cc : ByteArray} {nL : Nat} {ret : Option FieldType} {d mc ms : Nat} {B : zB} {Q : State → Prop} {pc : Nat} {L : List (Option Value)} {rest : List Value} {M : mM} {k n : Nat} {m j : Nat} {μ : zMS} {i x : Int32} (ok : zOk K yn cc nL ret d mc ms B) (hd : decode cc pc = .ok (.iastore, 1)) (hm : mPic M m μ) (hi : i = nI j) (hj : j < 287)
    (kk : ∀ M1 : mM, mPic M1 m (mA μ 3 (upd (μ.1 3) j x)) → zFr M M1 m 9 → zV nL B Q (pc + 1) L rest M1 k n) : zV nL B Q pc L (.int x :: .int i :: .ref (m + 3) :: rest) M k n := z_ast ok hd hm.2.2.2.1 hi hj (by omega) (fun M1 h1 h2 => kk M1 (hm.setA3 h1 h2) (fun q hq => h2 q (by omega)))
theorem m_ald4 {K : zK} {yn : MethodName} {cc : ByteArray} {nL : Nat} {ret : Option FieldType} {d mc ms : Nat} {B : zB} {Q : State → Prop} {pc : Nat} {L : List (Option Value)} {rest : List Value} {M : mM} {k n : Nat} {m j : Nat} {μ : zMS} {i : Int32} (ok : zOk K yn cc nL ret d mc ms B) (hd : decode cc pc = .ok (.iaload, 1)) (hm : mPic M m μ) (hi : i = nI j) (hj : j < 287)
    (kk : zV nL B Q (pc + 1) L (.int (μ.1 4 j) :: rest) M k n) : zV nL B Q pc L (.int i :: .ref (m + 4) :: rest) M k n := z_ald ok hd hm.2.2.2.2.1 hi hj (by omega) kk
theorem m_ast4 {K : zK} {yn : MethodName} {cc : ByteArray} {nL : Nat} {ret : Option FieldType} {d mc ms : Nat} {B : zB} {Q : State → Prop} {pc : Nat} {L : List (Option Value)} {rest : List Value} {M : mM} {k n : Nat} {m j : Nat} {μ : zMS} {i x : Int32} (ok : zOk K yn cc nL ret d mc ms B) (hd : decode cc pc = .ok (.iastore, 1)) (hm : mPic M m μ) (hi : i = nI j) (hj : j < 287)
    (kk : ∀ M1 : mM, mPic M1 m (mA μ 4 (upd (μ.1 4) j x)) → zFr M M1 m 9 → zV nL B Q (pc + 1) L rest M1 k n) : zV nL B Q pc L (.int x :: .int i :: .ref (m + 4) :: rest) M k n := z_ast ok hd hm.2.2.2.2.1 hi hj (by omega) (fun M1 h1 h2 => kk M1 (hm.setA4 h1 h2) (fun q hq => h2 q (by omega)))
theorem m_ald5 {K : zK} {yn : MethodName} {cc : ByteArray} {nL : Nat} {ret : Option FieldType} {d mc ms : Nat} {B : zB} {Q : State → Prop} {pc : Nat} {L : List (Option Value)} {rest : List Value} {M : mM} {k n : Nat} {m j : Nat} {μ : zMS} {i : Int32} (ok : zOk K yn cc nL ret d mc ms B) (hd : decode cc pc = .ok (.iaload, 1)) (hm : mPic M m μ) (hi : i = nI j) (hj : j < 80)
    (kk : zV nL B Q (pc + 1) L (.int (μ.1 5 j) :: rest) M k n) : zV nL B Q pc L (.int i :: .ref (m + 5) :: rest) M k n := z_ald ok hd hm.2.2.2.2.2.1 hi hj (by omega) kk
theorem m_ast5 {K : zK} {yn : MethodName} {cc : ByteArray} {nL : Nat} {ret : Option FieldType} {d mc ms : Nat} {B : zB} {Q : State → Prop} {pc : Nat} {L : List (Option Value)} {rest : List Value} {M : mM} {k n : Nat} {m j : Nat} {μ : zMS} {i x : Int32} (ok : zOk K yn cc nL ret d mc ms B) (hd : decode cc pc = .ok (.iastore, 1)) (hm : mPic M m μ) (hi : i = nI j) (hj : j < 80)
    (kk : ∀ M1 : mM, mPic M1 m (mA μ 5 (upd (μ.1 5) j x)) → zFr M M1 m 9 → zV nL B Q (pc + 1) L rest M1 k n) : zV nL B Q pc L (.int x :: .int i :: .ref (m + 5) :: rest) M k n := z_ast ok hd hm.2.2.2.2.2.1 hi hj (by omega) (fun M1 h1 h2 => kk M1 (hm.setA5 h1 h2) (fun q hq => h2 q (by omega)))
theorem m_ald8 {K : zK} {yn : MethodName} {cc : ByteArray} {nL : Nat} {ret : Option FieldType} {d mc ms : Nat} {B : zB} {Q : State → Prop} {pc : Nat} {L : List (Option Value)} {rest : List Value} {M : mM} {k n : Nat} {m j : Nat} {μ : zMS} {i : Int32} (ok : zOk K yn cc nL ret d mc ms B) (hd : decode cc pc = .ok (.iaload, 1)) (hm : mPic M m μ) (hi : i = nI j) (hj : j < 5)
    (kk : zV nL B Q (pc + 1) L (.int (μ.1 8 j) :: rest) M k n) : zV nL B Q pc L (.int i :: .ref (m + 8) :: rest) M k n := z_ald ok hd hm.2.2.2.2.2.2.1 hi hj (by omega) kk
theorem m_ast8 {K : zK} {yn : MethodName} {cc : ByteArray} {nL : Nat} {ret : Option FieldType} {d mc ms : Nat} {B : zB} {Q : State → Prop} {pc : Nat} {L : List (Option Value)} {rest : List Value} {M : mM} {k n : Nat} {m j : Nat} {μ : zMS} {i x : Int32} (ok : zOk K yn cc nL ret d mc ms B) (hd : decode cc pc = .ok (.iastore, 1)) (hm : mPic M m μ) (hi : i = nI j) (hj : j < 5)
    (kk : ∀ M1 : mM, mPic M1 m (mA μ 8 (upd (μ.1 8) j x)) → zFr M M1 m 9 → zV nL B Q (pc + 1) L rest M1 k n) : zV nL B Q pc L (.int x :: .int i :: .ref (m + 8) :: rest) M k n := z_ast ok hd hm.2.2.2.2.2.2.1 hi hj (by omega) (fun M1 h1 h2 => kk M1 (hm.setA8 h1 h2) (fun q hq => h2 q (by omega)))
theorem m_ald7 {K : zK} {yn : MethodName} {cc : ByteArray} {nL : Nat} {ret : Option FieldType} {d mc ms : Nat} {B : zB} {Q : State → Prop} {pc : Nat} {L : List (Option Value)} {rest : List Value} {M : mM} {k n : Nat} {m j : Nat} {μ : zMS} {i : Int32} (ok : zOk K yn cc nL ret d mc ms B) (hd : decode cc pc = .ok (.iaload, 1)) (hm : mPic M m μ) (hi : i = nI j) (hj : j < 7)
    (kk : zV nL B Q (pc + 1) L (.int (zNu j) :: rest) M k n) : zV nL B Q pc L (.int i :: .ref (m + 7) :: rest) M k n := z_ald ok hd hm.2.2.2.2.2.2.2.1 hi hj (by omega) kk
theorem m_ald6 {K : zK} {yn : MethodName} {cc : ByteArray} {nL : Nat} {ret : Option FieldType} {d mc ms : Nat} {B : zB} {Q : State → Prop} {pc : Nat} {L : List (Option Value)} {rest : List Value} {M : mM} {k n : Nat} {m j : Nat} {μ : zMS} {i : Int32} (ok : zOk K yn cc nL ret d mc ms B) (hd : decode cc pc = .ok (.laload, 1)) (hm : mPic M m μ) (hi : i = nI j) (hj : j < 7)
    (kk : zV nL B Q (pc + 1) L (.long (zWd j) :: rest) M k n) : zV nL B Q pc L (.int i :: .ref (m + 6) :: rest) M k n := by
  subst hi
  obtain ⟨h0, h1, h2, h3, h4, h5, h8, h7, w6, h6, g6⟩ := hm
  refine z_laload ok hd h6 (vp_in_nI hj (by omega)) ?_
  rw [nI_clamp (by omega), g6 j hj]
  exact kk
theorem m_put4 {K : zK} {yn : MethodName} {cc : ByteArray} {nL : Nat} {ret : Option FieldType} {d mc ms : Nat} {B : zB} {Q : State → Prop} {pc : Nat} {L : List (Option Value)} {rest : List Value} {M : mM} {k n : Nat} {ix m : Nat} {μ : zMS} {x : Int32} (ok : zOk K yn cc nL ret d mc ms B) (hd : decode cc pc = .ok (.putfield ix, 3)) (hw : Cond.fieldLink yn.cls ix "FreightSplitsModel" "pasts" "I" ∈ zgw) (hm : mPic M m μ)
    (kk : ∀ M1 : mM, mPic M1 m (mS μ 4 x) → zFr M M1 m 9 → zV nL B Q (pc + 3) L rest M1 k n) : zV nL B Q pc L (.int x :: .ref m :: rest) M k n := by
  refine z_putf (T := TX7) (N := 14) (ty := .int) ok hd zin_X7 tyX7 tyX7_ok nmX7 rfl 4 (by decide) hw rfl hm.1 (by decide +kernel) rfl rfl (Nat.le_of_ble_eq_true rfl) ?_
  exact kk _ (hm.setS4 x) (zFr.up (by omega) (by omega))
theorem m_put5 {K : zK} {yn : MethodName} {cc : ByteArray} {nL : Nat} {ret : Option FieldType} {d mc ms : Nat} {B : zB} {Q : State → Prop} {pc : Nat} {L : List (Option Value)} {rest : List Value} {M : mM} {k n : Nat} {ix m : Nat} {μ : zMS} {x : Int32} (ok : zOk K yn cc nL ret d mc ms B) (hd : decode cc pc = .ok (.putfield ix, 3)) (hw : Cond.fieldLink yn.cls ix "FreightSplitsModel" "runs" "Z" ∈ zgw) (hm : mPic M m μ) (hx : x = 0 ∨ x = 1)
    (kk : ∀ M1 : mM, mPic M1 m (mS μ 5 x) → zFr M M1 m 9 → zV nL B Q (pc + 3) L rest M1 k n) : zV nL B Q pc L (.int x :: .ref m :: rest) M k n := by
  refine z_putf (T := TX7) (N := 14) (ty := .boolean) ok hd zin_X7 tyX7 tyX7_ok nmX7 rfl 5 (by decide) hw rfl hm.1 (by decide +kernel) (by rcases hx with rfl | rfl <;> rfl) (by rcases hx with rfl | rfl <;> rfl) (Nat.le_of_ble_eq_true rfl) ?_
  exact kk _ (hm.setS5 x) (zFr.up (by omega) (by omega))
theorem m_put7 {K : zK} {yn : MethodName} {cc : ByteArray} {nL : Nat} {ret : Option FieldType} {d mc ms : Nat} {B : zB} {Q : State → Prop} {pc : Nat} {L : List (Option Value)} {rest : List Value} {M : mM} {k n : Nat} {ix m : Nat} {μ : zMS} {x : Int32} (ok : zOk K yn cc nL ret d mc ms B) (hd : decode cc pc = .ok (.putfield ix, 3)) (hw : Cond.fieldLink yn.cls ix "FreightSplitsModel" "typed" "I" ∈ zgw) (hm : mPic M m μ)
    (kk : ∀ M1 : mM, mPic M1 m (mS μ 7 x) → zFr M M1 m 9 → zV nL B Q (pc + 3) L rest M1 k n) : zV nL B Q pc L (.int x :: .ref m :: rest) M k n := by
  refine z_putf (T := TX7) (N := 14) (ty := .int) ok hd zin_X7 tyX7 tyX7_ok nmX7 rfl 7 (by decide) hw rfl hm.1 (by decide +kernel) rfl rfl (Nat.le_of_ble_eq_true rfl) ?_
  exact kk _ (hm.setS7 x) (zFr.up (by omega) (by omega))
theorem m_put10 {K : zK} {yn : MethodName} {cc : ByteArray} {nL : Nat} {ret : Option FieldType} {d mc ms : Nat} {B : zB} {Q : State → Prop} {pc : Nat} {L : List (Option Value)} {rest : List Value} {M : mM} {k n : Nat} {ix m : Nat} {μ : zMS} {x : Int32} (ok : zOk K yn cc nL ret d mc ms B) (hd : decode cc pc = .ok (.putfield ix, 3)) (hw : Cond.fieldLink yn.cls ix "FreightSplitsModel" "spot" "I" ∈ zgw) (hm : mPic M m μ)
    (kk : ∀ M1 : mM, mPic M1 m (mS μ 10 x) → zFr M M1 m 9 → zV nL B Q (pc + 3) L rest M1 k n) : zV nL B Q pc L (.int x :: .ref m :: rest) M k n := by
  refine z_putf (T := TX7) (N := 14) (ty := .int) ok hd zin_X7 tyX7 tyX7_ok nmX7 rfl 10 (by decide) hw rfl hm.1 (by decide +kernel) rfl rfl (Nat.le_of_ble_eq_true rfl) ?_
  exact kk _ (hm.setS10 x) (zFr.up (by omega) (by omega))
theorem m_put11 {K : zK} {yn : MethodName} {cc : ByteArray} {nL : Nat} {ret : Option FieldType} {d mc ms : Nat} {B : zB} {Q : State → Prop} {pc : Nat} {L : List (Option Value)} {rest : List Value} {M : mM} {k n : Nat} {ix m : Nat} {μ : zMS} {x : Int32} (ok : zOk K yn cc nL ret d mc ms B) (hd : decode cc pc = .ok (.putfield ix, 3)) (hw : Cond.fieldLink yn.cls ix "FreightSplitsModel" "cause" "I" ∈ zgw) (hm : mPic M m μ)
    (kk : ∀ M1 : mM, mPic M1 m (mS μ 11 x) → zFr M M1 m 9 → zV nL B Q (pc + 3) L rest M1 k n) : zV nL B Q pc L (.int x :: .ref m :: rest) M k n := by
  refine z_putf (T := TX7) (N := 14) (ty := .int) ok hd zin_X7 tyX7 tyX7_ok nmX7 rfl 11 (by decide) hw rfl hm.1 (by decide +kernel) rfl rfl (Nat.le_of_ble_eq_true rfl) ?_
  exact kk _ (hm.setS11 x) (zFr.up (by omega) (by omega))
theorem m_put12 {K : zK} {yn : MethodName} {cc : ByteArray} {nL : Nat} {ret : Option FieldType} {d mc ms : Nat} {B : zB} {Q : State → Prop} {pc : Nat} {L : List (Option Value)} {rest : List Value} {M : mM} {k n : Nat} {ix m : Nat} {μ : zMS} {x : Int32} (ok : zOk K yn cc nL ret d mc ms B) (hd : decode cc pc = .ok (.putfield ix, 3)) (hw : Cond.fieldLink yn.cls ix "FreightSplitsModel" "commands" "I" ∈ zgw) (hm : mPic M m μ)
    (kk : ∀ M1 : mM, mPic M1 m (mS μ 12 x) → zFr M M1 m 9 → zV nL B Q (pc + 3) L rest M1 k n) : zV nL B Q pc L (.int x :: .ref m :: rest) M k n := by
  refine z_putf (T := TX7) (N := 14) (ty := .int) ok hd zin_X7 tyX7 tyX7_ok nmX7 rfl 12 (by decide) hw rfl hm.1 (by decide +kernel) rfl rfl (Nat.le_of_ble_eq_true rfl) ?_
  exact kk _ (hm.setS12 x) (zFr.up (by omega) (by omega))
