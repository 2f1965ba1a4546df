/-! the reference's memory: its object at m, its arrays behind it (1 s, 2 past, 3 held, 4 tried, 5 text, 6 words, 7 numbers, 8 told); what they hold: arrays by these numbers, whole numbers by the fields' slots (4 pasts, 5 runs, 7 typed, 10 spot, 11 cause, 12 commands) -/
abbrev zMS : Type := (Nat → Nat → Int32) × (Nat → Int32)
def mA (μ : zMS) (k : Nat) (f : Nat → Int32) : zMS := (fun j => if j = k then f else μ.1 j, μ.2)
def mS (μ : zMS) (k : Nat) (x : Int32) : zMS := (μ.1, fun j => if j = k then x else μ.2 j)
theorem mA_n (μ : zMS) {k j : Nat} (f : Nat → Int32) (h : j ≠ k) : (mA μ k f).1 j = μ.1 j := if_neg h
theorem mA_2 (μ : zMS) (k : Nat) (f : Nat → Int32) : (mA μ k f).2 = μ.2 := rfl
theorem mS_n (μ : zMS) {k j : Nat} (x : Int32) (h : j ≠ k) : (mS μ k x).2 j = μ.2 j := if_neg h
theorem mS_1 (μ : zMS) (k : Nat) (x : Int32) : (mS μ k x).1 = μ.1 := rfl
def zWd (i : Nat) : Int64 := match i with | 0 => 1819238756 | 1 => 1718185068 | 2 => 26479 | 3 => 495807392116 | 4 => 1785686382 | 5 => 478459356530 | _ => 1885434739
def zNu (i : Nat) : Int32 := match i with | 0 => 2 | 1 => 3 | 2 => 1 | 3 => 3 | 4 => 2 | 5 => 5 | _ => 1
def mFs (m : Nat) (g : Nat → Int32) : List Value := [.ref (m + 1), .ref (m + 2), .ref (m + 3), .ref (m + 4), .int (g 4), .int (g 5), .ref (m + 5), .int (g 7), .ref (m + 6), .ref (m + 7), .int (g 10), .int (g 11), .int (g 12), .ref (m + 8)]
/-- a row of N whole numbers lies at a -/
def zArr (M : mM) (a N : Nat) (g : Nat → Int32) : Prop := ∃ f : Nat → Int32, M a = some (.inl (0, N, .inl f)) ∧ ∀ j, j < N → f j = g j
theorem zArr.kept {M M' : mM} {a N : Nat} {g : Nat → Int32} (h : zArr M a N g) (hq : M' a = M a) : zArr M' a N g := by
  obtain ⟨f, h1, h2⟩ := h
  exact ⟨f, hq.trans h1, h2⟩
theorem zArr.cong {M : mM} {a N : Nat} {g g' : Nat → Int32} (h : zArr M a N g) (hg : ∀ j, j < N → g j = g' j) : zArr M a N g' := by
  obtain ⟨f, h1, h2⟩ := h
  exact ⟨f, h1, fun j hj => (h2 j hj).trans (hg j hj)⟩
def mPic (M : mM) (m : Nat) (μ : zMS) : Prop := M m = some (.inr (7, mFs m μ.2)) ∧ zArr M (m + 1) 287 (μ.1 1) ∧ zArr M (m + 2) 1148 (μ.1 2) ∧ zArr M (m + 3) 287 (μ.1 3) ∧ zArr M (m + 4) 287 (μ.1 4) ∧ zArr M (m + 5) 80 (μ.1 5) ∧ zArr M (m + 8) 5 (μ.1 8) ∧ zArr M (m + 7) 7 zNu ∧ ∃ w : Nat → Int64, M (m + 6) = some (.inl (1, 7, .inr (.inl w))) ∧ ∀ i, i < 7 → w i = zWd i
/-- outside the w cells from m on nothing has changed -/
def zFr (M M' : mM) (m w : Nat) : Prop := ∀ q, (q < m ∨ m + w ≤ q) → M' q = M q
theorem zFr.rf {M : mM} {m w : Nat} : zFr M M m w := fun _ _ => rfl
theorem zFr.tr {M M1 M2 : mM} {m w : Nat} (h1 : zFr M M1 m w) (h2 : zFr M1 M2 m w) : zFr M M2 m w := fun q hq => (h2 q hq).trans (h1 q hq)
theorem zFr.up {M : mM} {m w a : Nat} {e : mE} (h1 : m ≤ a) (h2 : a < m + w) : zFr M (mU M a e) m w := fun q hq => mU_n (by omega)
theorem mPic.kept {M M' : mM} {m : Nat} {μ : zMS} (h : mPic M m μ) (hq : ∀ q, m ≤ q → q < m + 9 → M' q = M q) : mPic M' m μ := by
  obtain ⟨h0, h1, h2, h3, h4, h5, h8, h7, w6, h6, g6⟩ := h
  exact ⟨(hq _ (by omega) (by omega)).trans h0, h1.kept (hq _ (by omega) (by omega)), h2.kept (hq _ (by omega) (by omega)), h3.kept (hq _ (by omega) (by omega)), h4.kept (hq _ (by omega) (by omega)), h5.kept (hq _ (by omega) (by omega)), h8.kept (hq _ (by omega) (by omega)), h7.kept (hq _ (by omega) (by omega)), w6, (hq _ (by omega) (by omega)).trans h6, g6⟩
theorem z_ald {K : zK} {yn : MethodName} {cc : ByteArray} {nL : Nat} {ret : Option FieldType} {d mc ms : Nat} {B : zB} {Q : State → Prop} {pc : Nat} {L : List (Option Value)} {rest : List Value} {M : mM} {k n : Nat} {a N j : Nat} {g : Nat → Int32} {i : Int32} (ok : zOk K yn cc nL ret d mc ms B) (hd : decode cc pc = .ok (.iaload, 1)) (ha : zArr M a N g) (hi : i = nI j) (hj : j < N) (hN : N < 2 ^ 31)
    (kk : zV nL B Q (pc + 1) L (.int (g j) :: rest) M k n) : zV nL B Q pc L (.int i :: .ref a :: rest) M k n := by
  subst hi
  obtain ⟨f, h1, h2⟩ := ha
  refine z_iaload ok hd h1 (vp_in_nI hj hN) ?_
  rw [nI_clamp (by omega), h2 j hj]
  exact kk
theorem z_ast {K : zK} {yn : MethodName} {cc : ByteArray} {nL : Nat} {ret : Option FieldType} {d mc ms : Nat} {B : zB} {Q : State → Prop} {pc : Nat} {L : List (Option Value)} {rest : List Value} {M : mM} {k n : Nat} {a N j : Nat} {g : Nat → Int32} {i x : Int32} (ok : zOk K yn cc nL ret d mc ms B) (hd : decode cc pc = .ok (.iastore, 1)) (ha : zArr M a N g) (hi : i = nI j) (hj : j < N) (hN : N < 2 ^ 31)
    (kk : ∀ M1 : mM, zArr M1 a N (upd g j x) → (∀ q, q ≠ a → M1 q = M q) → zV nL B Q (pc + 1) L rest M1 k n) : zV nL B Q pc L (.int x :: .int i :: .ref a :: rest) M k n := by
  subst hi
  obtain ⟨f, h1, h2⟩ := ha
  refine z_iastore ok hd h1 (vp_in_nI hj hN) ?_
  rw [nI_clamp (by omega)]
  refine kk _ ⟨_, mU_s, fun j' hj' => ?_⟩ (fun q hq => mU_n hq)
  unfold upd
  by_cases h : j' = j
  · simp [h]
  · simp [h, h2 j' hj']
