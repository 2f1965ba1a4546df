/-! the reference's memory: its object at m, its arrays behind it (1 s, 2 past, 3 held, 4 tried, 5 text, 6 words, 7 numbers, 8 told); what they hold: arrays by these numbers, whole numbers by the fields' slots (4 pasts, 5 runs, 7 typed, 10 spot, 11 cause, 12 commands) -/
abbrev zMS : Type := (Nat → Nat → Int32) × (Nat → Int32)
def mA (μ : zMS) (k : Nat) (f : Nat → Int32) : zMS := (fun j => if j = k then f else μ.1 j, μ.2)
def mS (μ : zMS) (k : Nat) (x : Int32) : zMS := (μ.1, fun j => if j = k then x else μ.2 j)
theorem mA_s (μ : zMS) (k : Nat) (f : Nat → Int32) : (mA μ k f).1 k = f := if_pos rfl
theorem mA_n (μ : zMS) {k j : Nat} (f : Nat → Int32) (h : j ≠ k) : (mA μ k f).1 j = μ.1 j := if_neg h
theorem mA_2 (μ : zMS) (k : Nat) (f : Nat → Int32) : (mA μ k f).2 = μ.2 := rfl
theorem mS_s (μ : zMS) (k : Nat) (x : Int32) : (mS μ k x).2 k = x := if_pos rfl
theorem mS_n (μ : zMS) {k j : Nat} (x : Int32) (h : j ≠ k) : (mS μ k x).2 j = μ.2 j := if_neg h
theorem mS_1 (μ : zMS) (k : Nat) (x : Int32) : (mS μ k x).1 = μ.1 := rfl
def zWd (i : Nat) : Int64 := match i with | 0 => 1819238756 | 1 => 1718185068 | 2 => 26479 | 3 => 495807392116 | 4 => 1785686382 | 5 => 478459356530 | _ => 1885434739
def zNu (i : Nat) : Int32 := match i with | 0 => 2 | 1 => 3 | 2 => 1 | 3 => 3 | 4 => 2 | 5 => 5 | _ => 1
def mFs (m : Nat) (g : Nat → Int32) : List Value := [.ref (m + 1), .ref (m + 2), .ref (m + 3), .ref (m + 4), .int (g 4), .int (g 5), .ref (m + 5), .int (g 7), .ref (m + 6), .ref (m + 7), .int (g 10), .int (g 11), .int (g 12), .ref (m + 8)]
def mPic (M : mM) (m : Nat) (μ : zMS) : Prop := M m = some (.inr (7, mFs m μ.2)) ∧ M (m + 1) = some (.inl (0, 287, .inl (μ.1 1))) ∧ M (m + 2) = some (.inl (0, 1148, .inl (μ.1 2))) ∧ M (m + 3) = some (.inl (0, 287, .inl (μ.1 3))) ∧ M (m + 4) = some (.inl (0, 287, .inl (μ.1 4))) ∧ M (m + 5) = some (.inl (0, 80, .inl (μ.1 5))) ∧ M (m + 8) = some (.inl (0, 5, .inl (μ.1 8))) ∧ (∃ w : Nat → Int64, M (m + 6) = some (.inl (1, 7, .inr (.inl w))) ∧ ∀ i, i < 7 → w i = zWd i) ∧ ∃ w : Nat → Int32, M (m + 7) = some (.inl (0, 7, .inl w)) ∧ ∀ i, i < 7 → w i = zNu i
/-- outside the w cells from m on nothing has changed -/
def zFr (M M' : mM) (m w : Nat) : Prop := ∀ q, (q < m ∨ m + w ≤ q) → M' q = M q
theorem zFr.rf {M : mM} {m w : Nat} : zFr M M m w := fun _ _ => rfl
theorem zFr.tr {M M1 M2 : mM} {m w : Nat} (h1 : zFr M M1 m w) (h2 : zFr M1 M2 m w) : zFr M M2 m w := fun q hq => (h2 q hq).trans (h1 q hq)
theorem zFr.up {M : mM} {m w a : Nat} {e : mE} (h1 : m ≤ a) (h2 : a < m + w) : zFr M (mU M a e) m w := fun q hq => mU_n (by omega)
theorem mPic.kept {M M' : mM} {m : Nat} {μ : zMS} (h : mPic M m μ) (hq : ∀ q, m ≤ q → q < m + 9 → M' q = M q) : mPic M' m μ := by
  obtain ⟨h0, h1, h2, h3, h4, h5, h8, ⟨w6, h6, g6⟩, w7, h7, g7⟩ := h
  refine ⟨?_, ?_, ?_, ?_, ?_, ?_, ?_, ⟨w6, ?_, g6⟩, w7, ?_, g7⟩ <;> (rw [hq _ (by omega) (by omega)]; assumption)
theorem mPic.setA1 {M : mM} {m : Nat} {μ : zMS} (h : mPic M m μ) (f : Nat → Int32) : mPic (mU M (m + 1) (.inl (0, 287, .inl f))) m (mA μ 1 f) := by
  obtain ⟨h0, h1, h2, h3, h4, h5, h8, ⟨w6, h6, g6⟩, w7, h7, g7⟩ := h
  exact ⟨(by rw [mU_n (by omega), mA_2]; exact h0), (by rw [mU_s, mA_s]), (by rw [mU_n (by omega), mA_n _ _ (by decide)]; exact h2), (by rw [mU_n (by omega), mA_n _ _ (by decide)]; exact h3), (by rw [mU_n (by omega), mA_n _ _ (by decide)]; exact h4), (by rw [mU_n (by omega), mA_n _ _ (by decide)]; exact h5), (by rw [mU_n (by omega), mA_n _ _ (by decide)]; exact h8), ⟨w6, by rw [mU_n (by omega)]; exact h6, g6⟩, w7, by rw [mU_n (by omega)]; exact h7, g7⟩
theorem mPic.setA2 {M : mM} {m : Nat} {μ : zMS} (h : mPic M m μ) (f : Nat → Int32) : mPic (mU M (m + 2) (.inl (0, 1148, .inl f))) m (mA μ 2 f) := by
  obtain ⟨h0, h1, h2, h3, h4, h5, h8, ⟨w6, h6, g6⟩, w7, h7, g7⟩ := h
  exact ⟨(by rw [mU_n (by omega), mA_2]; exact h0), (by rw [mU_n (by omega), mA_n _ _ (by decide)]; exact h1), (by rw [mU_s, mA_s]), (by rw [mU_n (by omega), mA_n _ _ (by decide)]; exact h3), (by rw [mU_n (by omega), mA_n _ _ (by decide)]; exact h4), (by rw [mU_n (by omega), mA_n _ _ (by decide)]; exact h5), (by rw [mU_n (by omega), mA_n _ _ (by decide)]; exact h8), ⟨w6, by rw [mU_n (by omega)]; exact h6, g6⟩, w7, by rw [mU_n (by omega)]; exact h7, g7⟩
theorem mPic.setA3 {M : mM} {m : Nat} {μ : zMS} (h : mPic M m μ) (f : Nat → Int32) : mPic (mU M (m + 3) (.inl (0, 287, .inl f))) m (mA μ 3 f) := by
  obtain ⟨h0, h1, h2, h3, h4, h5, h8, ⟨w6, h6, g6⟩, w7, h7, g7⟩ := h
  exact ⟨(by rw [mU_n (by omega), mA_2]; exact h0), (by rw [mU_n (by omega), mA_n _ _ (by decide)]; exact h1), (by rw [mU_n (by omega), mA_n _ _ (by decide)]; exact h2), (by rw [mU_s, mA_s]), (by rw [mU_n (by omega), mA_n _ _ (by decide)]; exact h4), (by rw [mU_n (by omega), mA_n _ _ (by decide)]; exact h5), (by rw [mU_n (by omega), mA_n _ _ (by decide)]; exact h8), ⟨w6, by rw [mU_n (by omega)]; exact h6, g6⟩, w7, by rw [mU_n (by omega)]; exact h7, g7⟩
theorem mPic.setA4 {M : mM} {m : Nat} {μ : zMS} (h : mPic M m μ) (f : Nat → Int32) : mPic (mU M (m + 4) (.inl (0, 287, .inl f))) m (mA μ 4 f) := by
  obtain ⟨h0, h1, h2, h3, h4, h5, h8, ⟨w6, h6, g6⟩, w7, h7, g7⟩ := h
  exact ⟨(by rw [mU_n (by omega), mA_2]; exact h0), (by rw [mU_n (by omega), mA_n _ _ (by decide)]; exact h1), (by rw [mU_n (by omega), mA_n _ _ (by decide)]; exact h2), (by rw [mU_n (by omega), mA_n _ _ (by decide)]; exact h3), (by rw [mU_s, mA_s]), (by rw [mU_n (by omega), mA_n _ _ (by decide)]; exact h5), (by rw [mU_n (by omega), mA_n _ _ (by decide)]; exact h8), ⟨w6, by rw [mU_n (by omega)]; exact h6, g6⟩, w7, by rw [mU_n (by omega)]; exact h7, g7⟩
theorem mPic.setA5 {M : mM} {m : Nat} {μ : zMS} (h : mPic M m μ) (f : Nat → Int32) : mPic (mU M (m + 5) (.inl (0, 80, .inl f))) m (mA μ 5 f) := by
  obtain ⟨h0, h1, h2, h3, h4, h5, h8, ⟨w6, h6, g6⟩, w7, h7, g7⟩ := h
  exact ⟨(by rw [mU_n (by omega), mA_2]; exact h0), (by rw [mU_n (by omega), mA_n _ _ (by decide)]; exact h1), (by rw [mU_n (by omega), mA_n _ _ (by decide)]; exact h2), (by rw [mU_n (by omega), mA_n _ _ (by decide)]; exact h3), (by rw [mU_n (by omega), mA_n _ _ (by decide)]; exact h4), (by rw [mU_s, mA_s]), (by rw [mU_n (by omega), mA_n _ _ (by decide)]; exact h8), ⟨w6, by rw [mU_n (by omega)]; exact h6, g6⟩, w7, by rw [mU_n (by omega)]; exact h7, g7⟩
theorem mPic.setA8 {M : mM} {m : Nat} {μ : zMS} (h : mPic M m μ) (f : Nat → Int32) : mPic (mU M (m + 8) (.inl (0, 5, .inl f))) m (mA μ 8 f) := by
  obtain ⟨h0, h1, h2, h3, h4, h5, h8, ⟨w6, h6, g6⟩, w7, h7, g7⟩ := h
  exact ⟨(by rw [mU_n (by omega), mA_2]; exact h0), (by rw [mU_n (by omega), mA_n _ _ (by decide)]; exact h1), (by rw [mU_n (by omega), mA_n _ _ (by decide)]; exact h2), (by rw [mU_n (by omega), mA_n _ _ (by decide)]; exact h3), (by rw [mU_n (by omega), mA_n _ _ (by decide)]; exact h4), (by rw [mU_n (by omega), mA_n _ _ (by decide)]; exact h5), (by rw [mU_s, mA_s]), ⟨w6, by rw [mU_n (by omega)]; exact h6, g6⟩, w7, by rw [mU_n (by omega)]; exact h7, g7⟩
theorem mPic.setS4 {M : mM} {m : Nat} {μ : zMS} (h : mPic M m μ) (x : Int32) : mPic (mU M m (.inr (7, (mFs m μ.2).set 4 (.int x)))) m (mS μ 4 x) := by
  obtain ⟨h0, h1, h2, h3, h4, h5, h8, ⟨w6, h6, g6⟩, w7, h7, g7⟩ := h
  exact ⟨by rw [mU_s]; rfl, by rw [mU_n (by omega)]; exact h1, by rw [mU_n (by omega)]; exact h2, by rw [mU_n (by omega)]; exact h3, by rw [mU_n (by omega)]; exact h4, by rw [mU_n (by omega)]; exact h5, by rw [mU_n (by omega)]; exact h8, ⟨w6, by rw [mU_n (by omega)]; exact h6, g6⟩, w7, by rw [mU_n (by omega)]; exact h7, g7⟩
theorem mPic.setS5 {M : mM} {m : Nat} {μ : zMS} (h : mPic M m μ) (x : Int32) : mPic (mU M m (.inr (7, (mFs m μ.2).set 5 (.int x)))) m (mS μ 5 x) := by
  obtain ⟨h0, h1, h2, h3, h4, h5, h8, ⟨w6, h6, g6⟩, w7, h7, g7⟩ := h
  exact ⟨by rw [mU_s]; rfl, by rw [mU_n (by omega)]; exact h1, by rw [mU_n (by omega)]; exact h2, by rw [mU_n (by omega)]; exact h3, by rw [mU_n (by omega)]; exact h4, by rw [mU_n (by omega)]; exact h5, by rw [mU_n (by omega)]; exact h8, ⟨w6, by rw [mU_n (by omega)]; exact h6, g6⟩, w7, by rw [mU_n (by omega)]; exact h7, g7⟩
theorem mPic.setS7 {M : mM} {m : Nat} {μ : zMS} (h : mPic M m μ) (x : Int32) : mPic (mU M m (.inr (7, (mFs m μ.2).set 7 (.int x)))) m (mS μ 7 x) := by
  obtain ⟨h0, h1, h2, h3, h4, h5, h8, ⟨w6, h6, g6⟩, w7, h7, g7⟩ := h
  exact ⟨by rw [mU_s]; rfl, by rw [mU_n (by omega)]; exact h1, by rw [mU_n (by omega)]; exact h2, by rw [mU_n (by omega)]; exact h3, by rw [mU_n (by omega)]; exact h4, by rw [mU_n (by omega)]; exact h5, by rw [mU_n (by omega)]; exact h8, ⟨w6, by rw [mU_n (by omega)]; exact h6, g6⟩, w7, by rw [mU_n (by omega)]; exact h7, g7⟩
theorem mPic.setS10 {M : mM} {m : Nat} {μ : zMS} (h : mPic M m μ) (x : Int32) : mPic (mU M m (.inr (7, (mFs m μ.2).set 10 (.int x)))) m (mS μ 10 x) := by
  obtain ⟨h0, h1, h2, h3, h4, h5, h8, ⟨w6, h6, g6⟩, w7, h7, g7⟩ := h
  exact ⟨by rw [mU_s]; rfl, by rw [mU_n (by omega)]; exact h1, by rw [mU_n (by omega)]; exact h2, by rw [mU_n (by omega)]; exact h3, by rw [mU_n (by omega)]; exact h4, by rw [mU_n (by omega)]; exact h5, by rw [mU_n (by omega)]; exact h8, ⟨w6, by rw [mU_n (by omega)]; exact h6, g6⟩, w7, by rw [mU_n (by omega)]; exact h7, g7⟩
theorem mPic.setS11 {M : mM} {m : Nat} {μ : zMS} (h : mPic M m μ) (x : Int32) : mPic (mU M m (.inr (7, (mFs m μ.2).set 11 (.int x)))) m (mS μ 11 x) := by
  obtain ⟨h0, h1, h2, h3, h4, h5, h8, ⟨w6, h6, g6⟩, w7, h7, g7⟩ := h
  exact ⟨by rw [mU_s]; rfl, by rw [mU_n (by omega)]; exact h1, by rw [mU_n (by omega)]; exact h2, by rw [mU_n (by omega)]; exact h3, by rw [mU_n (by omega)]; exact h4, by rw [mU_n (by omega)]; exact h5, by rw [mU_n (by omega)]; exact h8, ⟨w6, by rw [mU_n (by omega)]; exact h6, g6⟩, w7, by rw [mU_n (by omega)]; exact h7, g7⟩
theorem mPic.setS12 {M : mM} {m : Nat} {μ : zMS} (h : mPic M m μ) (x : Int32) : mPic (mU M m (.inr (7, (mFs m μ.2).set 12 (.int x)))) m (mS μ 12 x) := by
  obtain ⟨h0, h1, h2, h3, h4, h5, h8, ⟨w6, h6, g6⟩, w7, h7, g7⟩ := h
  exact ⟨by rw [mU_s]; rfl, by rw [mU_n (by omega)]; exact h1, by rw [mU_n (by omega)]; exact h2, by rw [mU_n (by omega)]; exact h3, by rw [mU_n (by omega)]; exact h4, by rw [mU_n (by omega)]; exact h5, by rw [mU_n (by omega)]; exact h8, ⟨w6, by rw [mU_n (by omega)]; exact h6, g6⟩, w7, by rw [mU_n (by omega)]; exact h7, g7⟩
theorem m_ald1 {K : zK} {yn : MethodName} {cc : ByteArray} {nL : Nat} {ret : Option FieldType} {d mc ms : Nat} {B : zB} {Q : State → Prop} {pc : Nat} {L : List (Option Value)} {rest : List Value} {M : mM} {k n : Nat} {m j : Nat} {μ : zMS} {i : Int32} (ok : zOk K yn cc nL ret d mc ms B) (hd : decode cc pc = .ok (.iaload, 1)) (hm : mPic M m μ) (hi : i = nI j) (hj : j < 287)
    (kk : zV nL B Q (pc + 1) L (.int (μ.1 1 j) :: rest) M k n) : zV nL B Q pc L (.int i :: .ref (m + 1) :: rest) M k n := by
  subst hi
  refine z_iaload ok hd hm.2.1 (vp_in_nI hj (by omega)) ?_
  rw [nI_clamp (by omega)]
  exact kk
theorem m_ast1 {K : zK} {yn : MethodName} {cc : ByteArray} {nL : Nat} {ret : Option FieldType} {d mc ms : Nat} {B : zB} {Q : State → Prop} {pc : Nat} {L : List (Option Value)} {rest : List Value} {M : mM} {k n : Nat} {m j : Nat} {μ : zMS} {i x : Int32} (ok : zOk K yn cc nL ret d mc ms B) (hd : decode cc pc = .ok (.iastore, 1)) (hm : mPic M m μ) (hi : i = nI j) (hj : j < 287)
    (kk : ∀ M1 : mM, mPic M1 m (mA μ 1 (upd (μ.1 1) j x)) → zFr M M1 m 9 → zV nL B Q (pc + 1) L rest M1 k n) : zV nL B Q pc L (.int x :: .int i :: .ref (m + 1) :: rest) M k n := by
  subst hi
  refine z_iastore ok hd hm.2.1 (vp_in_nI hj (by omega)) ?_
  rw [nI_clamp (by omega)]
  exact kk _ (hm.setA1 _) (zFr.up (by omega) (by omega))
theorem m_ald2 {K : zK} {yn : MethodName} {cc : ByteArray} {nL : Nat} {ret : Option FieldType} {d mc ms : Nat} {B : zB} {Q : State → Prop} {pc : Nat} {L : List (Option Value)} {rest : List Value} {M : mM} {k n : Nat} {m j : Nat} {μ : zMS} {i : Int32} (ok : zOk K yn cc nL ret d mc ms B) (hd : decode cc pc = .ok (.iaload, 1)) (hm : mPic M m μ) (hi : i = nI j) (hj : j < 1148)
    (kk : zV nL B Q (pc + 1) L (.int (μ.1 2 j) :: rest) M k n) : zV nL B Q pc L (.int i :: .ref (m + 2) :: rest) M k n := by
  subst hi
  refine z_iaload ok hd hm.2.2.1 (vp_in_nI hj (by omega)) ?_
  rw [nI_clamp (by omega)]
  exact kk
theorem m_ast2 {K : zK} {yn : MethodName} {cc : ByteArray} {nL : Nat} {ret : Option FieldType} {d mc ms : Nat} {B : zB} {Q : State → Prop} {pc : Nat} {L : List (Option Value)} {rest : List Value} {M : mM} {k n : Nat} {m j : Nat} {μ : zMS} {i x : Int32} (ok : zOk K yn cc nL ret d mc ms B) (hd : decode cc pc = .ok (.iastore, 1)) (hm : mPic M m μ) (hi : i = nI j) (hj : j < 1148)
    (kk : ∀ M1 : mM, mPic M1 m (mA μ 2 (upd (μ.1 2) j x)) → zFr M M1 m 9 → zV nL B Q (pc + 1) L rest M1 k n) : zV nL B Q pc L (.int x :: .int i :: .ref (m + 2) :: rest) M k n := by
  subst hi
  refine z_iastore ok hd hm.2.2.1 (vp_in_nI hj (by omega)) ?_
  rw [nI_clamp (by omega)]
  exact kk _ (hm.setA2 _) (zFr.up (by omega) (by omega))
theorem m_ald3 {K : zK} {yn : MethodName} {cc : ByteArray} {nL : Nat} {ret : Option FieldType} {d mc ms : Nat} {B : zB} {Q : State → Prop} {pc : Nat} {L : List (Option Value)} {rest : List Value} {M : mM} {k n : Nat} {m j : Nat} {μ : zMS} {i : Int32} (ok : zOk K yn cc nL ret d mc ms B) (hd : decode cc pc = .ok (.iaload, 1)) (hm : mPic M m μ) (hi : i = nI j) (hj : j < 287)
    (kk : zV nL B Q (pc + 1) L (.int (μ.1 3 j) :: rest) M k n) : zV nL B Q pc L (.int i :: .ref (m + 3) :: rest) M k n := by
  subst hi
  refine z_iaload ok hd hm.2.2.2.1 (vp_in_nI hj (by omega)) ?_
  rw [nI_clamp (by omega)]
  exact kk
theorem m_ast3 {K : zK} {yn : MethodName} {cc : ByteArray} {nL : Nat} {ret : Option FieldType} {d mc ms : Nat} {B : zB} {Q : State → Prop} {pc : Nat} {L : List (Option Value)} {rest : List Value} {M : mM} {k n : Nat} {m j : Nat} {μ : zMS} {i x : Int32} (ok : zOk K yn cc nL ret d mc ms B) (hd : decode cc pc = .ok (.iastore, 1)) (hm : mPic M m μ) (hi : i = nI j) (hj : j < 287)
    (kk : ∀ M1 : mM, mPic M1 m (mA μ 3 (upd (μ.1 3) j x)) → zFr M M1 m 9 → zV nL B Q (pc + 1) L rest M1 k n) : zV nL B Q pc L (.int x :: .int i :: .ref (m + 3) :: rest) M k n := by
  subst hi
  refine z_iastore ok hd hm.2.2.2.1 (vp_in_nI hj (by omega)) ?_
  rw [nI_clamp (by omega)]
  exact kk _ (hm.setA3 _) (zFr.up (by omega) (by omega))
theorem m_ald4 {K : zK} {yn : MethodName} {cc : ByteArray} {nL : Nat} {ret : Option FieldType} {d mc ms : Nat} {B : zB} {Q : State → Prop} {pc : Nat} {L : List (Option Value)} {rest : List Value} {M : mM} {k n : Nat} {m j : Nat} {μ : zMS} {i : Int32} (ok : zOk K yn cc nL ret d mc ms B) (hd : decode cc pc = .ok (.iaload, 1)) (hm : mPic M m μ) (hi : i = nI j) (hj : j < 287)
    (kk : zV nL B Q (pc + 1) L (.int (μ.1 4 j) :: rest) M k n) : zV nL B Q pc L (.int i :: .ref (m + 4) :: rest) M k n := by
  subst hi
  refine z_iaload ok hd hm.2.2.2.2.1 (vp_in_nI hj (by omega)) ?_
  rw [nI_clamp (by omega)]
  exact kk
theorem m_ast4 {K : zK} {yn : MethodName} {cc : ByteArray} {nL : Nat} {ret : Option FieldType} {d mc ms : Nat} {B : zB} {Q : State → Prop} {pc : Nat} {L : List (Option Value)} {rest : List Value} {M : mM} {k n : Nat} {m j : Nat} {μ : zMS} {i x : Int32} (ok : zOk K yn cc nL ret d mc ms B) (hd : decode cc pc = .ok (.iastore, 1)) (hm : mPic M m μ) (hi : i = nI j) (hj : j < 287)
    (kk : ∀ M1 : mM, mPic M1 m (mA μ 4 (upd (μ.1 4) j x)) → zFr M M1 m 9 → zV nL B Q (pc + 1) L rest M1 k n) : zV nL B Q pc L (.int x :: .int i :: .ref (m + 4) :: rest) M k n := by
  subst hi
  refine z_iastore ok hd hm.2.2.2.2.1 (vp_in_nI hj (by omega)) ?_
  rw [nI_clamp (by omega)]
  exact kk _ (hm.setA4 _) (zFr.up (by omega) (by omega))
theorem m_ald5 {K : zK} {yn : MethodName} {cc : ByteArray} {nL : Nat} {ret : Option FieldType} {d mc ms : Nat} {B : zB} {Q : State → Prop} {pc : Nat} {L : List (Option Value)} {rest : List Value} {M : mM} {k n : Nat} {m j : Nat} {μ : zMS} {i : Int32} (ok : zOk K yn cc nL ret d mc ms B) (hd : decode cc pc = .ok (.iaload, 1)) (hm : mPic M m μ) (hi : i = nI j) (hj : j < 80)
    (kk : zV nL B Q (pc + 1) L (.int (μ.1 5 j) :: rest) M k n) : zV nL B Q pc L (.int i :: .ref (m + 5) :: rest) M k n := by
  subst hi
  refine z_iaload ok hd hm.2.2.2.2.2.1 (vp_in_nI hj (by omega)) ?_
  rw [nI_clamp (by omega)]
  exact kk
theorem m_ast5 {K : zK} {yn : MethodName} {cc : ByteArray} {nL : Nat} {ret : Option FieldType} {d mc ms : Nat} {B : zB} {Q : State → Prop} {pc : Nat} {L : List (Option Value)} {rest : List Value} {M : mM} {k n : Nat} {m j : Nat} {μ : zMS} {i x : Int32} (ok : zOk K yn cc nL ret d mc ms B) (hd : decode cc pc = .ok (.iastore, 1)) (hm : mPic M m μ) (hi : i = nI j) (hj : j < 80)
    (kk : ∀ M1 : mM, mPic M1 m (mA μ 5 (upd (μ.1 5) j x)) → zFr M M1 m 9 → zV nL B Q (pc + 1) L rest M1 k n) : zV nL B Q pc L (.int x :: .int i :: .ref (m + 5) :: rest) M k n := by
  subst hi
  refine z_iastore ok hd hm.2.2.2.2.2.1 (vp_in_nI hj (by omega)) ?_
  rw [nI_clamp (by omega)]
  exact kk _ (hm.setA5 _) (zFr.up (by omega) (by omega))
theorem m_ald8 {K : zK} {yn : MethodName} {cc : ByteArray} {nL : Nat} {ret : Option FieldType} {d mc ms : Nat} {B : zB} {Q : State → Prop} {pc : Nat} {L : List (Option Value)} {rest : List Value} {M : mM} {k n : Nat} {m j : Nat} {μ : zMS} {i : Int32} (ok : zOk K yn cc nL ret d mc ms B) (hd : decode cc pc = .ok (.iaload, 1)) (hm : mPic M m μ) (hi : i = nI j) (hj : j < 5)
    (kk : zV nL B Q (pc + 1) L (.int (μ.1 8 j) :: rest) M k n) : zV nL B Q pc L (.int i :: .ref (m + 8) :: rest) M k n := by
  subst hi
  refine z_iaload ok hd hm.2.2.2.2.2.2.1 (vp_in_nI hj (by omega)) ?_
  rw [nI_clamp (by omega)]
  exact kk
theorem m_ast8 {K : zK} {yn : MethodName} {cc : ByteArray} {nL : Nat} {ret : Option FieldType} {d mc ms : Nat} {B : zB} {Q : State → Prop} {pc : Nat} {L : List (Option Value)} {rest : List Value} {M : mM} {k n : Nat} {m j : Nat} {μ : zMS} {i x : Int32} (ok : zOk K yn cc nL ret d mc ms B) (hd : decode cc pc = .ok (.iastore, 1)) (hm : mPic M m μ) (hi : i = nI j) (hj : j < 5)
    (kk : ∀ M1 : mM, mPic M1 m (mA μ 8 (upd (μ.1 8) j x)) → zFr M M1 m 9 → zV nL B Q (pc + 1) L rest M1 k n) : zV nL B Q pc L (.int x :: .int i :: .ref (m + 8) :: rest) M k n := by
  subst hi
  refine z_iastore ok hd hm.2.2.2.2.2.2.1 (vp_in_nI hj (by omega)) ?_
  rw [nI_clamp (by omega)]
  exact kk _ (hm.setA8 _) (zFr.up (by omega) (by omega))
theorem m_ald7 {K : zK} {yn : MethodName} {cc : ByteArray} {nL : Nat} {ret : Option FieldType} {d mc ms : Nat} {B : zB} {Q : State → Prop} {pc : Nat} {L : List (Option Value)} {rest : List Value} {M : mM} {k n : Nat} {m j : Nat} {μ : zMS} {i : Int32} (ok : zOk K yn cc nL ret d mc ms B) (hd : decode cc pc = .ok (.iaload, 1)) (hm : mPic M m μ) (hi : i = nI j) (hj : j < 7)
    (kk : zV nL B Q (pc + 1) L (.int (zNu j) :: rest) M k n) : zV nL B Q pc L (.int i :: .ref (m + 7) :: rest) M k n := by
  subst hi
  obtain ⟨h0, h1, h2, h3, h4, h5, h8, ⟨w6, h6, g6⟩, w7, h7, g7⟩ := hm
  refine z_iaload ok hd h7 (vp_in_nI hj (by omega)) ?_
  rw [nI_clamp (by omega), g7 j hj]
  exact kk
theorem m_ald6 {K : zK} {yn : MethodName} {cc : ByteArray} {nL : Nat} {ret : Option FieldType} {d mc ms : Nat} {B : zB} {Q : State → Prop} {pc : Nat} {L : List (Option Value)} {rest : List Value} {M : mM} {k n : Nat} {m j : Nat} {μ : zMS} {i : Int32} (ok : zOk K yn cc nL ret d mc ms B) (hd : decode cc pc = .ok (.laload, 1)) (hm : mPic M m μ) (hi : i = nI j) (hj : j < 7)
    (kk : zV nL B Q (pc + 1) L (.long (zWd j) :: rest) M k n) : zV nL B Q pc L (.int i :: .ref (m + 6) :: rest) M k n := by
  subst hi
  obtain ⟨h0, h1, h2, h3, h4, h5, h8, ⟨w6, h6, g6⟩, w7, h7, g7⟩ := hm
  refine z_laload ok hd h6 (vp_in_nI hj (by omega)) ?_
  rw [nI_clamp (by omega), g6 j hj]
  exact kk
theorem m_put4 {K : zK} {yn : MethodName} {cc : ByteArray} {nL : Nat} {ret : Option FieldType} {d mc ms : Nat} {B : zB} {Q : State → Prop} {pc : Nat} {L : List (Option Value)} {rest : List Value} {M : mM} {k n : Nat} {ix m : Nat} {μ : zMS} {x : Int32} (ok : zOk K yn cc nL ret d mc ms B) (hd : decode cc pc = .ok (.putfield ix, 3)) (hw : Cond.fieldLink yn.cls ix "FreightSplitsModel" "pasts" "I" ∈ zgw) (hm : mPic M m μ)
    (kk : ∀ M1 : mM, mPic M1 m (mS μ 4 x) → zFr M M1 m 9 → zV nL B Q (pc + 3) L rest M1 k n) : zV nL B Q pc L (.int x :: .ref m :: rest) M k n := by
  refine z_putf (T := TX7) (N := 14) (ty := .int) ok hd zin_X7 tyX7 tyX7_ok nmX7 rfl 4 (by decide) hw rfl hm.1 (by decide +kernel) rfl rfl (Nat.le_of_ble_eq_true rfl) ?_
  exact kk _ (hm.setS4 x) (zFr.up (by omega) (by omega))
theorem m_put5 {K : zK} {yn : MethodName} {cc : ByteArray} {nL : Nat} {ret : Option FieldType} {d mc ms : Nat} {B : zB} {Q : State → Prop} {pc : Nat} {L : List (Option Value)} {rest : List Value} {M : mM} {k n : Nat} {ix m : Nat} {μ : zMS} {x : Int32} (ok : zOk K yn cc nL ret d mc ms B) (hd : decode cc pc = .ok (.putfield ix, 3)) (hw : Cond.fieldLink yn.cls ix "FreightSplitsModel" "runs" "Z" ∈ zgw) (hm : mPic M m μ) (hx : x = 0 ∨ x = 1)
    (kk : ∀ M1 : mM, mPic M1 m (mS μ 5 x) → zFr M M1 m 9 → zV nL B Q (pc + 3) L rest M1 k n) : zV nL B Q pc L (.int x :: .ref m :: rest) M k n := by
  refine z_putf (T := TX7) (N := 14) (ty := .boolean) ok hd zin_X7 tyX7 tyX7_ok nmX7 rfl 5 (by decide) hw rfl hm.1 (by decide +kernel) (by rcases hx with rfl | rfl <;> rfl) (by rcases hx with rfl | rfl <;> rfl) (Nat.le_of_ble_eq_true rfl) ?_
  exact kk _ (hm.setS5 x) (zFr.up (by omega) (by omega))
theorem m_put7 {K : zK} {yn : MethodName} {cc : ByteArray} {nL : Nat} {ret : Option FieldType} {d mc ms : Nat} {B : zB} {Q : State → Prop} {pc : Nat} {L : List (Option Value)} {rest : List Value} {M : mM} {k n : Nat} {ix m : Nat} {μ : zMS} {x : Int32} (ok : zOk K yn cc nL ret d mc ms B) (hd : decode cc pc = .ok (.putfield ix, 3)) (hw : Cond.fieldLink yn.cls ix "FreightSplitsModel" "typed" "I" ∈ zgw) (hm : mPic M m μ)
    (kk : ∀ M1 : mM, mPic M1 m (mS μ 7 x) → zFr M M1 m 9 → zV nL B Q (pc + 3) L rest M1 k n) : zV nL B Q pc L (.int x :: .ref m :: rest) M k n := by
  refine z_putf (T := TX7) (N := 14) (ty := .int) ok hd zin_X7 tyX7 tyX7_ok nmX7 rfl 7 (by decide) hw rfl hm.1 (by decide +kernel) rfl rfl (Nat.le_of_ble_eq_true rfl) ?_
  exact kk _ (hm.setS7 x) (zFr.up (by omega) (by omega))
theorem m_put10 {K : zK} {yn : MethodName} {cc : ByteArray} {nL : Nat} {ret : Option FieldType} {d mc ms : Nat} {B : zB} {Q : State → Prop} {pc : Nat} {L : List (Option Value)} {rest : List Value} {M : mM} {k n : Nat} {ix m : Nat} {μ : zMS} {x : Int32} (ok : zOk K yn cc nL ret d mc ms B) (hd : decode cc pc = .ok (.putfield ix, 3)) (hw : Cond.fieldLink yn.cls ix "FreightSplitsModel" "spot" "I" ∈ zgw) (hm : mPic M m μ)
    (kk : ∀ M1 : mM, mPic M1 m (mS μ 10 x) → zFr M M1 m 9 → zV nL B Q (pc + 3) L rest M1 k n) : zV nL B Q pc L (.int x :: .ref m :: rest) M k n := by
  refine z_putf (T := TX7) (N := 14) (ty := .int) ok hd zin_X7 tyX7 tyX7_ok nmX7 rfl 10 (by decide) hw rfl hm.1 (by decide +kernel) rfl rfl (Nat.le_of_ble_eq_true rfl) ?_
  exact kk _ (hm.setS10 x) (zFr.up (by omega) (by omega))
theorem m_put11 {K : zK} {yn : MethodName} {cc : ByteArray} {nL : Nat} {ret : Option FieldType} {d mc ms : Nat} {B : zB} {Q : State → Prop} {pc : Nat} {L : List (Option Value)} {rest : List Value} {M : mM} {k n : Nat} {ix m : Nat} {μ : zMS} {x : Int32} (ok : zOk K yn cc nL ret d mc ms B) (hd : decode cc pc = .ok (.putfield ix, 3)) (hw : Cond.fieldLink yn.cls ix "FreightSplitsModel" "cause" "I" ∈ zgw) (hm : mPic M m μ)
    (kk : ∀ M1 : mM, mPic M1 m (mS μ 11 x) → zFr M M1 m 9 → zV nL B Q (pc + 3) L rest M1 k n) : zV nL B Q pc L (.int x :: .ref m :: rest) M k n := by
  refine z_putf (T := TX7) (N := 14) (ty := .int) ok hd zin_X7 tyX7 tyX7_ok nmX7 rfl 11 (by decide) hw rfl hm.1 (by decide +kernel) rfl rfl (Nat.le_of_ble_eq_true rfl) ?_
  exact kk _ (hm.setS11 x) (zFr.up (by omega) (by omega))
theorem m_put12 {K : zK} {yn : MethodName} {cc : ByteArray} {nL : Nat} {ret : Option FieldType} {d mc ms : Nat} {B : zB} {Q : State → Prop} {pc : Nat} {L : List (Option Value)} {rest : List Value} {M : mM} {k n : Nat} {ix m : Nat} {μ : zMS} {x : Int32} (ok : zOk K yn cc nL ret d mc ms B) (hd : decode cc pc = .ok (.putfield ix, 3)) (hw : Cond.fieldLink yn.cls ix "FreightSplitsModel" "commands" "I" ∈ zgw) (hm : mPic M m μ)
    (kk : ∀ M1 : mM, mPic M1 m (mS μ 12 x) → zFr M M1 m 9 → zV nL B Q (pc + 3) L rest M1 k n) : zV nL B Q pc L (.int x :: .ref m :: rest) M k n := by
  refine z_putf (T := TX7) (N := 14) (ty := .int) ok hd zin_X7 tyX7 tyX7_ok nmX7 rfl 12 (by decide) hw rfl hm.1 (by decide +kernel) rfl rfl (Nat.le_of_ble_eq_true rfl) ?_
  exact kk _ (hm.setS12 x) (zFr.up (by omega) (by omega))
