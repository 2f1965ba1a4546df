/-! MEMORY LOGIC. A memory is a function from addresses to what lies there: an array (its kind, its places) or an object (its class's number, its fields). zV: the machine, at pc with these locals, this stack and a heap that holds this memory, comes to a state with Q. One rule an instruction; zCt: a method's contract from one memory. -/
abbrev mE : Type := (Nat × vp_A) ⊕ (Nat × List Value)
abbrev mM : Type := Nat → Option mE
def mU (M : mM) (a : Nat) (e : mE) : mM := fun q => if q = a then some e else M q
theorem mU_s {M : mM} {a : Nat} {e : mE} : mU M a e a = some e := if_pos rfl
theorem mU_n {M : mM} {a q : Nat} {e : mE} (h : q ≠ a) : mU M a e q = M q := if_neg h
def mTy : List FieldType := [.int, .int, .char, .object RX0, .object RX5, .object RX3, .object RX1]
def mTys (E : Nat → ClassId) : List (ClassId × FieldType) := [(E 0, .int), (E 1, .int), (E 2, .char), (E 3, .object RX0), (E 4, .object RX5), (E 5, .object RX3), (E 6, .object RX1)]
def mC (E : Nat → ClassId) (e : mE) : va_E := match e with
  | .inl (k, a) => .inl (E k, a)
  | .inr o => .inr o
def mRep (D : va_G) (E : Nat → ClassId) (A : Nat → Prop) (M : mM) (H : Heap) : Prop := ∀ (q : Nat) (e : mE), M q = some e → va_at D vwCl (q, mC E e) H ∧ A q
theorem mRep.one {D : va_G} {E : Nat → ClassId} {A : Nat → Prop} {M : mM} {H : Heap} (h : mRep D E A M H) {a : Nat} {e : mE} (ha : M a = some e) : va_P D vwCl [(a, mC E e)] H := by
  intro k q hk
  match k, hk with
  | 0, hk => cases hk; exact (h a e ha).1
  | k + 1, hk => simp at hk
theorem mRep.kept {D : va_G} {E : Nat → ClassId} {A : Nat → Prop} {M : mM} {H H1 : Heap} (h : mRep D E A M H) (hq : ∀ q, q < H.size → H1[q]? = H[q]?) : mRep D E A M H1 := fun q e he => ⟨(h q e he).1.kept (hq q (h q e he).1.lt), (h q e he).2⟩
theorem mRep.push {D : va_G} {E : Nat → ClassId} {A : Nat → Prop} {M : mM} {H H1 : Heap} (h : mRep D E A M H) {a : Nat} {e : mE} (he : va_at D vwCl (a, mC E e) H1) (hA : A a) (hq : ∀ q, q < H.size → H1[q]? = H[q]?) : mRep D E A (mU M a e) H1 := by
  intro q e' h'
  by_cases hqa : q = a
  · subst hqa
    rw [mU_s] at h'
    cases h'
    exact ⟨he, hA⟩
  · rw [mU_n hqa] at h'
    exact h.kept hq q e' h'
/-- all of a memory as one world of the kit -/
theorem mRep.world {D : va_G} {E : Nat → ClassId} {A : Nat → Prop} {M : mM} {H : Heap} (h : mRep D E A M H) :
    ∃ ws : va_W, va_P D vwCl ws H ∧ va_D A ws ∧ ∀ (q : Nat) (e : mE), M q = some e → ∃ k : Nat, ws[k]? = some (q, mC E e) := by
  have key : ∀ n, ∃ ws : va_W, va_P D vwCl ws H ∧ va_D A ws ∧ (∀ x ∈ ws, x.1 < n) ∧ ∀ (q : Nat) (e : mE), q < n → M q = some e → (q, mC E e) ∈ ws := by
    intro n
    induction n with
    | zero => exact ⟨[], fun k q h => by simp at h, ⟨fun i j p q h => by simp at h, fun k q h => by simp at h⟩, fun x hx => by simp at hx, fun q e hq => absurd hq (Nat.not_lt_zero q)⟩
    | succ n ih =>
      obtain ⟨ws, h1, h2, h3, h4⟩ := ih
      cases hn : M n with
      | none =>
        refine ⟨ws, h1, h2, fun x hx => Nat.lt_succ_of_lt (h3 x hx), fun q e hq he => ?_⟩
        by_cases hqn : q = n
        · subst hqn; rw [hn] at he; cases he
        · exact h4 q e (by omega) he
      | some e0 =>
        have hone : va_D A [(n, mC E e0)] := by
          refine ⟨fun i j p q hi hj _ => ?_, fun k q hk => ?_⟩
          · have a1 := (List.getElem?_eq_some_iff.mp hi).1
            have a2 := (List.getElem?_eq_some_iff.mp hj).1
            simp at a1 a2
            omega
          · match k, hk with
            | 0, hk => cases hk; exact (h n e0 hn).2
            | k + 1, hk => simp at hk
        refine ⟨ws ++ [(n, mC E e0)], h1.app (h.one hn), h2.app hone (fun i j p q hi hj hpq => ?_), fun x hx => ?_, fun q e hq he => ?_⟩
        · have b1 := h3 p (List.mem_of_getElem? hi)
          have b2 := List.mem_of_getElem? hj
          rw [List.mem_singleton] at b2
          rw [b2] at hpq
          simp only at hpq
          omega
        · rcases List.mem_append.mp hx with hx | hx
          · exact Nat.lt_succ_of_lt (h3 x hx)
          · rw [List.mem_singleton] at hx
            rw [hx]
            exact Nat.lt_succ_self n
        · by_cases hqn : q = n
          · subst hqn
            rw [hn] at he
            cases he
            exact List.mem_append_right _ (List.mem_singleton.mpr rfl)
          · exact List.mem_append_left _ (h4 q e (by omega) he)
  obtain ⟨ws, h1, h2, -, h4⟩ := key H.size
  exact ⟨ws, h1, h2, fun q e he => List.getElem?_of_mem (h4 q e (h q e he).1.lt he)⟩
/-- a cell of that world is changed -/
theorem mRep.back {D : va_G} {E : Nat → ClassId} {A : Nat → Prop} {M : mM} {H H1 : Heap} {ws : va_W} (h : mRep D E A M H) (hw : ∀ (q : Nat) (e : mE), M q = some e → ∃ k : Nat, ws[k]? = some (q, mC E e)) {a p : Nat} {e0 e : mE} (ha : M a = some e0) (hp : ws[p]? = some (a, mC E e0)) (h1 : va_P D vwCl (ws.set p (a, mC E e)) H1) : mRep D E A (mU M a e) H1 := by
  have hl := (List.getElem?_eq_some_iff.mp hp).1
  intro q e' h'
  by_cases hqa : q = a
  · subst hqa
    rw [mU_s] at h'
    cases h'
    exact ⟨h1 p _ (List.getElem?_set_self hl), (h q e0 ha).2⟩
  · rw [mU_n hqa] at h'
    obtain ⟨k, hk⟩ := hw q e' h'
    have hkp : k ≠ p := fun z => by
      subst z
      rw [hk] at hp
      exact hqa (congrArg Prod.fst (Option.some.inj hp))
    exact ⟨h1 k _ (by rw [List.getElem?_set_ne (Ne.symm hkp)]; exact hk), (h q e' h').2⟩
/-! locals by their places -/
def zPr : Nat → List (Option Value) → List (Nat × Value)
  | _, [] => []
  | i, none :: t => zPr (i + 1) t
  | i, some v :: t => (i, v) :: zPr (i + 1) t
theorem zPr_mem {q : Nat × Value} : ∀ (L : List (Option Value)) (i : Nat), q ∈ zPr i L ↔ ∃ k, q.1 = i + k ∧ L[k]? = some (some q.2)
  | [], i => by simp [zPr]
  | none :: t, i => by
    rw [zPr, zPr_mem t (i + 1)]
    constructor
    · rintro ⟨k, h1, h2⟩
      exact ⟨k + 1, by omega, by simpa using h2⟩
    · rintro ⟨k, h1, h2⟩
      cases k with
      | zero => simp at h2
      | succ k => exact ⟨k, by omega, by simpa using h2⟩
  | some v :: t, i => by
    rw [zPr, List.mem_cons, zPr_mem t (i + 1)]
    constructor
    · rintro (h | ⟨k, h1, h2⟩)
      · exact ⟨0, by rw [h]; rfl, by rw [h]; rfl⟩
      · exact ⟨k + 1, by omega, by simpa using h2⟩
    · rintro ⟨k, h1, h2⟩
      cases k with
      | zero =>
        left
        simp at h2
        obtain ⟨a, b⟩ := q
        simp at h1 h2
        rw [h1, h2]
      | succ k => exact Or.inr ⟨k, by omega, by simpa using h2⟩
abbrev zHas (ls : Array Slot) (nL : Nat) (L : List (Option Value)) : Prop := lv_has ls nL (zPr 0 L)
theorem zHas.at {ls : Array Slot} {nL : Nat} {L : List (Option Value)} (h : zHas ls nL L) {i : Nat} {v : Value} (hv : L[i]? = some (some v)) : ls[i]? = some (.val v) := h.2.2 (i, v) ((zPr_mem L 0).mpr ⟨i, (Nat.zero_add i).symm, hv⟩)
def zk1 (L : List (Option Value)) (i : Nat) : Bool := match i with
  | 0 => true
  | j + 1 => match L[j]? with
    | some (some v) => v.category == 1
    | _ => true
theorem zk1_spec {L : List (Option Value)} {i j : Nat} {v : Value} (h : zk1 L i = true) (hj : j + 1 = i) (hv : L[j]? = some (some v)) : v.category = 1 := by
  subst hj
  simp only [zk1, hv] at h
  exact of_decide_eq_true (by simpa using h)
theorem zHas.set1 {ls : Array Slot} {nL : Nat} {L : List (Option Value)} {i : Nat} {v : Value} (hk : zk1 L i = true) (h : lv_has ls nL ((i, v) :: (zPr 0 L).filter (fun q => !(q.1 == i) && !(q.1 + 1 == i && q.2.category == 2)))) : zHas ls nL (L.set i (some v)) := by
  refine ⟨h.1, h.2.1, fun q hq => h.2.2 q ?_⟩
  obtain ⟨k, h1, h2⟩ := (zPr_mem _ 0).mp hq
  rw [Nat.zero_add] at h1
  by_cases hki : k = i
  · subst hki
    have hl : k < L.length := by
      have := (List.getElem?_eq_some_iff.mp h2).1
      simpa using this
    rw [List.getElem?_set_self hl] at h2
    have : q = (k, v) := by
      obtain ⟨a, b⟩ := q
      simp at h1 h2
      rw [h1, h2]
    rw [this]
    exact List.mem_cons_self
  · rw [List.getElem?_set_ne (Ne.symm hki)] at h2
    refine List.mem_cons_of_mem _ (List.mem_filter.mpr ⟨(zPr_mem L 0).mpr ⟨k, by omega, h2⟩, ?_⟩)
    have e1 : (q.1 == i) = false := by simp; omega
    have e2 : (q.1 + 1 == i && q.2.category == 2) = false := by
      by_cases hz : q.1 + 1 = i
      · have hc := zk1_spec hk (j := k) (by omega) h2
        simp [hc]
      · simp [hz]
    simp [e1, e2]
theorem zHas.set2 {ls : Array Slot} {nL : Nat} {L : List (Option Value)} {i : Nat} {v : Value} (hk : zk1 L i = true) (h : lv_has ls nL ((i, v) :: (zPr 0 L).filter (fun q => !(q.1 == i) && (!(q.1 == i + 1) && !(q.1 + 1 == i && q.2.category == 2))))) : zHas ls nL ((L.set (i + 1) none).set i (some v)) := by
  refine ⟨h.1, h.2.1, fun q hq => h.2.2 q ?_⟩
  obtain ⟨k, h1, h2⟩ := (zPr_mem _ 0).mp hq
  rw [Nat.zero_add] at h1
  by_cases hki : k = i
  · subst hki
    have hl : k < (L.set (k + 1) none).length := by
      have := (List.getElem?_eq_some_iff.mp h2).1
      simpa using this
    rw [List.getElem?_set_self hl] at h2
    have : q = (k, v) := by
      obtain ⟨a, b⟩ := q
      simp at h1 h2
      rw [h1, h2]
    rw [this]
    exact List.mem_cons_self
  · rw [List.getElem?_set_ne (Ne.symm hki)] at h2
    have hk1 : k ≠ i + 1 := fun z => by
      subst z
      have hl : i + 1 < L.length := by
        have := (List.getElem?_eq_some_iff.mp h2).1
        simpa using this
      rw [List.getElem?_set_self hl] at h2
      simp at h2
    rw [List.getElem?_set_ne (Ne.symm hk1)] at h2
    refine List.mem_cons_of_mem _ (List.mem_filter.mpr ⟨(zPr_mem L 0).mpr ⟨k, by omega, h2⟩, ?_⟩)
    have e1 : (q.1 == i) = false := by simp; omega
    have e3 : (q.1 == i + 1) = false := by simp; omega
    have e2 : (q.1 + 1 == i && q.2.category == 2) = false := by
      by_cases hz : q.1 + 1 = i
      · have hc := zk1_spec hk (j := k) (by omega) h2
        simp [hc]
      · simp [hz]
    simp [e1, e2, e3]
/-- fewer locals -/
def zle : List (Option Value) → List (Option Value) → Prop
  | [], _ => True
  | none :: t, [] => zle t []
  | none :: t, _ :: t' => zle t t'
  | some _ :: _, [] => False
  | some v :: t, x :: t' => some v = x ∧ zle t t'
theorem zle_at : ∀ (L' L : List (Option Value)), zle L' L → ∀ (k : Nat) (v : Value), L'[k]? = some (some v) → L[k]? = some (some v)
  | [], _, _, k, v, h => by simp at h
  | none :: t, [], hz, k, v, h => by
    cases k with
    | zero => simp at h
    | succ k => have := zle_at t [] hz k v (by simpa using h); simp at this
  | none :: t, _ :: t', hz, k, v, h => by
    cases k with
    | zero => simp at h
    | succ k => simpa using zle_at t t' hz k v (by simpa using h)
  | some _ :: _, [], hz, _, _, _ => hz.elim
  | some w :: t, x :: t', hz, k, v, h => by
    cases k with
    | zero =>
      simp at h
      rw [← hz.1, h]
      rfl
    | succ k => simpa using zle_at t t' hz.2 k v (by simpa using h)
theorem zHas.le {ls : Array Slot} {nL : Nat} {L L' : List (Option Value)} (h : zHas ls nL L) (hz : zle L' L) : zHas ls nL L' := ⟨h.1, h.2.1, fun q hq => by
  obtain ⟨k, h1, h2⟩ := (zPr_mem _ 0).mp hq
  exact h.2.2 q ((zPr_mem L 0).mpr ⟨k, h1, zle_at L' L hz k _ h2⟩)⟩
def zFx (U : State) : Prop := va_AO RX0 U ∧ va_AO RX5 U ∧ va_AO RX3 U ∧ va_AO RX1 U ∧ va_Nw (.methodLinkNest RX1 37 yX3_init RX6) U ∧ va_Nw (.methodLinkNest RX6 28 yX4_init RX6) U ∧ va_Nw (.methodLinkNest RX1 117 yX6_isWithin RX6) U ∧ va_Nw (.methodLinkNest RX1 117 yX6_isWithin RX6) U
theorem zFx.warm {s U : State} (hW : s.WarmedH U.vm) (h : zFx s) : zFx U := ⟨h.1.moved hW.alike, h.2.1.moved hW.alike, h.2.2.1.moved hW.alike, h.2.2.2.1.moved hW.alike, va_Nw.warmM hW h.2.2.2.2.1, va_Nw.warmM hW h.2.2.2.2.2.1, va_Nw.warmM hW h.2.2.2.2.2.2.1, va_Nw.warmM hW h.2.2.2.2.2.2.2⟩
theorem zFx.same {s U : State} (hv : s.vm = U.vm) (h : zFx s) : zFx U := ⟨h.1.moved (hv ▸ Vm.Alike.refl _), h.2.1.moved (hv ▸ Vm.Alike.refl _), h.2.2.1.moved (hv ▸ Vm.Alike.refl _), h.2.2.2.1.moved (hv ▸ Vm.Alike.refl _), va_Nw.same rfl hv h.2.2.2.2.1, va_Nw.same rfl hv h.2.2.2.2.2.1, va_Nw.same rfl hv h.2.2.2.2.2.2.1, va_Nw.same rfl hv h.2.2.2.2.2.2.2⟩
abbrev zK : Type := (Nat → Nat) × (Nat → Int32)
/-- the law's own script: at K.1 0, K.1 1 ints, K.2 -/
def zStr (K : zK) (A : Nat → Prop) (U : State) (H : Heap) : Prop := va_X (K.1 0) (K.1 1) K.2 U H ∧ K.1 0 < H.size ∧ ¬ A (K.1 0) ∧ K.1 1 ≤ 260
theorem zStr.warm {K : zK} {A : Nat → Prop} {s U : State} {H : Heap} (hW : s.WarmedH U.vm) (h : zStr K A s H) : zStr K A U H := ⟨h.1.moved hW.alike, h.2⟩
theorem zStr.same {K : zK} {A : Nat → Prop} {s U : State} {H : Heap} (hv : s.vm = U.vm) (h : zStr K A s H) : zStr K A U H := ⟨h.1.moved (hv ▸ Vm.Alike.refl _), h.2⟩
theorem zStr.kept {K : zK} {A : Nat → Prop} {s : State} {H H1 : Heap} (h : zStr K A s H) (hq : ∀ a : Nat, a < H.size → ¬ A a → H1[a]? = H[a]?) : zStr K A s H1 := by
  have h9 := h.1.kept (hq _ h.2.1 h.2.2.1)
  obtain ⟨scrω, h1ω, h2ω⟩ := h9
  exact ⟨⟨scrω, h1ω, h2ω⟩, (Array.getElem?_eq_some_iff.mp h1ω).1, h.2.2⟩
/-! where a method stands -/
abbrev zB : Type := Program × Launch × Env × Room × State × MethodId × Array Value × List Frame × Method × Code × va_G × (Nat → ClassId) × (Nat → Prop)
def zOk (K : zK) (yn : MethodName) (cc : ByteArray) (nL : Nat) (ret : Option FieldType) (d mc ms : Nat) (B : zB) : Prop := match B with
  | (p, _, _, R, s, m, args, _, meth, c, D, E, A) => (p.tables.exec = Jvm.exec ∧ c.code = cc ∧ c.maxLocals = nL ∧ meth.sig.returnType = ret ∧ s.vm.findClass yn.cls = some m.cls) ∧ (∀ w ∈ zgw, w.before args s = true) ∧ meth.locks = false ∧ va_K D vwCl (mTys E) s ∧ (∀ q, s.heap.size ≤ q → A q) ∧ meth.name = yn.name ∧ (d ≤ R.frames ∧ 40 * d ≤ R.locals ∧ mc ≤ R.cells ∧ ms ≤ R.slots) ∧ zFx s ∧ zStr K A s s.heap
def zV (nL : Nat) (B : zB) (Q : State → Prop) (pc : Nat) (L : List (Option Value)) (stk : List Value) (M : mM) (k n : Nat) : Prop := match B with
  | (p, l, e, R, s, m, args, below, meth, c, D, E, A) => ∀ (H : Heap) (ls : Array Slot) (locs : List Loc), zHas ls nL L → mRep D E A M H → H.size = s.heap.size + k → va_S A s.heap H locs → W p l e R s m args below meth c H locs k n Q (F0 m pc ls stk)
/-- the size of the heap with which the method began -/
def zSz (B : zB) : Nat := match B with
  | (_, _, _, _, s, _, _, _, _, _, _, _, _) => s.heap.size
def zQ (D : va_G) (E : Nat → ClassId) (A : Nat → Prop) (Q : Option Value → mM → Prop) (nx mc : Nat) : Array Value → State → Outcome → State → Prop := fun _ st oc t => (∃ (r : Option Value) (M' : mM), oc = .returned r ∧ Q r M' ∧ t.heap.size = nx + mc ∧ mRep D E A M' t.heap ∧ va_K D vwCl (mTys E) t) ∧ va_F A st t
def zP (K : zK) (D : va_G) (E : Nat → ClassId) (A : Nat → Prop) (av : List Value) (M : mM) (nx : Nat) : Array Value → State → Prop := va_Pc av (fun U => U.heap.size = nx ∧ mRep D E A M U.heap ∧ va_K D vwCl (mTys E) U ∧ (∀ q, nx ≤ q → A q) ∧ zFx U ∧ zStr K A U U.heap)
def zRm (d mc ms : Nat) : Room := { frames := d, cells := mc, slots := ms, locals := 40 * d }
def zCt (K : zK) (yn : MethodName) (cc : ByteArray) (nL : Nat) (ret : Option FieldType) (d : Nat) (av : List Value) (M : mM) (nx mc ms : Nat) (Q : Option Value → mM → Prop) : Prop :=
  ∀ (l : Launch) (D : va_G) (E : Nat → ClassId) (A : Nat → Prop), Met l yn (Cond.code yn cc nL ret :: zgw) (zRm d mc ms) (zP K D E A av M nx) (zQ D E A Q nx mc) mc ms A
def zE (B : zB) (Q : Option Value → mM → Prop) (mc ms : Nat) : State → Prop := match B with
  | (_, _, _, _, s, _, args, below, _, _, D, E, A) => MQ below (zQ D E A Q s.heap.size mc) args s mc ms A
theorem zP_blind {K : zK} {D : va_G} {E : Nat → ClassId} {A : Nat → Prop} {av : List Value} {M : mM} {nx : Nat} : FrameBlind (zP K D E A av M nx) := fun a U g mk q => by
  obtain ⟨q0, q1, q2, q3, q4, q5, q6⟩ := q
  exact ⟨q0, q1, q2, va_K.moved (u := U) (U := U.calling g mk a) (Vm.Alike.refl U.vm) q3, q4, zFx.same (s := U) (U := U.calling g mk a) rfl q5, zStr.same (s := U) (U := U.calling g mk a) rfl q6⟩
set_option maxHeartbeats 1000000 in
theorem z_enter {K : zK} {yn : MethodName} {cc : ByteArray} {nL : Nat} {ret : Option FieldType} {d : Nat} {av : List Value} {M : mM} {nx mc ms : Nat} {Q : Option Value → mM → Prop} (L : List (Option Value)) (hy : plainName yn.cls = true) (hlen : (lg_sl av).length ≤ nL) (hL : zPr 0 L = lv_args 0 av)
    (body : ∀ B : zB, zOk K yn cc nL ret d mc ms B → zSz B = nx → zV nL B (zE B Q mc ms) 0 L [] M 0 0) : zCt K yn cc nL ret d av M nx mc ms Q := by
  intro l D E A
  refine Met.ofW (cc := cc) (maxL := nL) (ret := ret) hy rfl ?_
  intro p e s m args below meth c s₁ B hml hv
  obtain ⟨rfl, hsz, hM, hK, hA, hF, hT⟩ := hv
  have hts := atoms_spec (ws := Cond.code yn cc nL ret :: zgw) B.pre
  have hown : s.vm.findClass yn.cls = some m.cls := findClass_of_methodNamed B.named
  have hnm : meth.name = yn.name := (name_of_methodNamed B.named B.method).1
  subst hsz
  have h := body (p, l, e, (headSpec (Cond.code yn cc nL ret :: zgw) (zRm d mc ms)).room, s, m, av.toArray, below, meth, c, D, E, A) ⟨⟨B.exec, B.bytes, hml, B.returns, hown⟩, fun w hw => hts w (List.mem_cons_of_mem _ hw), B.notSynchronized, hK, hA, hnm, ⟨Nat.le_refl _, Nat.le_refl _, Nat.le_refl _, Nat.le_refl _⟩, hF, hT⟩ rfl
  have hl := lv_entry av (n := nL) hlen
  rw [lg_entry_eq]
  refine h s.heap _ [] ?_ hM rfl va_S.rf
  rw [zHas, hL]
  exact hl

theorem z_iadd {K : zK} {yn : MethodName} {cc : ByteArray} {nL : Nat} {ret : Option FieldType} {d mc ms : Nat} {B : zB} {Q : State → Prop} {pc : Nat} {L : List (Option Value)} {rest : List Value} {M : mM} {k n : Nat} {x y : Int32} (ok : zOk K yn cc nL ret d mc ms B) (hd : decode cc pc = .ok (.iadd, 1)) 
    (kk : zV nL B Q (pc + 1) L (.int (x + y) :: rest) M k n) : zV nL B Q pc L (.int y :: .int x :: rest) M k n := by
  obtain ⟨p, l, e, R, s, m, args, below, meth, c, D, E, A⟩ := B
  obtain ⟨⟨hx, hb, hml, hr, hown⟩, hts, hlocks, hK, hA, hnm, hR, hF, hT⟩ := ok
  intro H ls locs hl hM hz hS
  exact lv_iadd hx hb hd (kk H ls locs hl hM hz hS)
theorem z_isub {K : zK} {yn : MethodName} {cc : ByteArray} {nL : Nat} {ret : Option FieldType} {d mc ms : Nat} {B : zB} {Q : State → Prop} {pc : Nat} {L : List (Option Value)} {rest : List Value} {M : mM} {k n : Nat} {x y : Int32} (ok : zOk K yn cc nL ret d mc ms B) (hd : decode cc pc = .ok (.isub, 1)) 
    (kk : zV nL B Q (pc + 1) L (.int (x - y) :: rest) M k n) : zV nL B Q pc L (.int y :: .int x :: rest) M k n := by
  obtain ⟨p, l, e, R, s, m, args, below, meth, c, D, E, A⟩ := B
  obtain ⟨⟨hx, hb, hml, hr, hown⟩, hts, hlocks, hK, hA, hnm, hR, hF, hT⟩ := ok
  intro H ls locs hl hM hz hS
  exact lv_isub hx hb hd (kk H ls locs hl hM hz hS)
theorem z_imul {K : zK} {yn : MethodName} {cc : ByteArray} {nL : Nat} {ret : Option FieldType} {d mc ms : Nat} {B : zB} {Q : State → Prop} {pc : Nat} {L : List (Option Value)} {rest : List Value} {M : mM} {k n : Nat} {x y : Int32} (ok : zOk K yn cc nL ret d mc ms B) (hd : decode cc pc = .ok (.imul, 1)) 
    (kk : zV nL B Q (pc + 1) L (.int (x * y) :: rest) M k n) : zV nL B Q pc L (.int y :: .int x :: rest) M k n := by
  obtain ⟨p, l, e, R, s, m, args, below, meth, c, D, E, A⟩ := B
  obtain ⟨⟨hx, hb, hml, hr, hown⟩, hts, hlocks, hK, hA, hnm, hR, hF, hT⟩ := ok
  intro H ls locs hl hM hz hS
  exact lv_imul hx hb hd (kk H ls locs hl hM hz hS)
theorem z_iand {K : zK} {yn : MethodName} {cc : ByteArray} {nL : Nat} {ret : Option FieldType} {d mc ms : Nat} {B : zB} {Q : State → Prop} {pc : Nat} {L : List (Option Value)} {rest : List Value} {M : mM} {k n : Nat} {x y : Int32} (ok : zOk K yn cc nL ret d mc ms B) (hd : decode cc pc = .ok (.iand, 1)) 
    (kk : zV nL B Q (pc + 1) L (.int (x &&& y) :: rest) M k n) : zV nL B Q pc L (.int y :: .int x :: rest) M k n := by
  obtain ⟨p, l, e, R, s, m, args, below, meth, c, D, E, A⟩ := B
  obtain ⟨⟨hx, hb, hml, hr, hown⟩, hts, hlocks, hK, hA, hnm, hR, hF, hT⟩ := ok
  intro H ls locs hl hM hz hS
  exact lv_iand hx hb hd (kk H ls locs hl hM hz hS)
theorem z_ior {K : zK} {yn : MethodName} {cc : ByteArray} {nL : Nat} {ret : Option FieldType} {d mc ms : Nat} {B : zB} {Q : State → Prop} {pc : Nat} {L : List (Option Value)} {rest : List Value} {M : mM} {k n : Nat} {x y : Int32} (ok : zOk K yn cc nL ret d mc ms B) (hd : decode cc pc = .ok (.ior, 1)) 
    (kk : zV nL B Q (pc + 1) L (.int (x ||| y) :: rest) M k n) : zV nL B Q pc L (.int y :: .int x :: rest) M k n := by
  obtain ⟨p, l, e, R, s, m, args, below, meth, c, D, E, A⟩ := B
  obtain ⟨⟨hx, hb, hml, hr, hown⟩, hts, hlocks, hK, hA, hnm, hR, hF, hT⟩ := ok
  intro H ls locs hl hM hz hS
  exact lv_ior hx hb hd (kk H ls locs hl hM hz hS)
theorem z_ishl {K : zK} {yn : MethodName} {cc : ByteArray} {nL : Nat} {ret : Option FieldType} {d mc ms : Nat} {B : zB} {Q : State → Prop} {pc : Nat} {L : List (Option Value)} {rest : List Value} {M : mM} {k n : Nat} {x y : Int32} (ok : zOk K yn cc nL ret d mc ms B) (hd : decode cc pc = .ok (.ishl, 1)) 
    (kk : zV nL B Q (pc + 1) L (.int (x <<< (y &&& 31)) :: rest) M k n) : zV nL B Q pc L (.int y :: .int x :: rest) M k n := by
  obtain ⟨p, l, e, R, s, m, args, below, meth, c, D, E, A⟩ := B
  obtain ⟨⟨hx, hb, hml, hr, hown⟩, hts, hlocks, hK, hA, hnm, hR, hF, hT⟩ := ok
  intro H ls locs hl hM hz hS
  exact lv_ishl hx hb hd (kk H ls locs hl hM hz hS)
theorem z_ishr {K : zK} {yn : MethodName} {cc : ByteArray} {nL : Nat} {ret : Option FieldType} {d mc ms : Nat} {B : zB} {Q : State → Prop} {pc : Nat} {L : List (Option Value)} {rest : List Value} {M : mM} {k n : Nat} {x y : Int32} (ok : zOk K yn cc nL ret d mc ms B) (hd : decode cc pc = .ok (.ishr, 1)) 
    (kk : zV nL B Q (pc + 1) L (.int (x >>> (y &&& 31)) :: rest) M k n) : zV nL B Q pc L (.int y :: .int x :: rest) M k n := by
  obtain ⟨p, l, e, R, s, m, args, below, meth, c, D, E, A⟩ := B
  obtain ⟨⟨hx, hb, hml, hr, hown⟩, hts, hlocks, hK, hA, hnm, hR, hF, hT⟩ := ok
  intro H ls locs hl hM hz hS
  exact lv_ishr hx hb hd (kk H ls locs hl hM hz hS)
theorem z_iushr {K : zK} {yn : MethodName} {cc : ByteArray} {nL : Nat} {ret : Option FieldType} {d mc ms : Nat} {B : zB} {Q : State → Prop} {pc : Nat} {L : List (Option Value)} {rest : List Value} {M : mM} {k n : Nat} {x y : Int32} (ok : zOk K yn cc nL ret d mc ms B) (hd : decode cc pc = .ok (.iushr, 1)) 
    (kk : zV nL B Q (pc + 1) L (.int (x.toUInt32 >>> (y.toUInt32 &&& Int32.toUInt32 31)).toInt32 :: rest) M k n) : zV nL B Q pc L (.int y :: .int x :: rest) M k n := by
  obtain ⟨p, l, e, R, s, m, args, below, meth, c, D, E, A⟩ := B
  obtain ⟨⟨hx, hb, hml, hr, hown⟩, hts, hlocks, hK, hA, hnm, hR, hF, hT⟩ := ok
  intro H ls locs hl hM hz hS
  exact lv_iushr hx hb hd rfl (kk H ls locs hl hM hz hS)
theorem z_idiv {K : zK} {yn : MethodName} {cc : ByteArray} {nL : Nat} {ret : Option FieldType} {d mc ms : Nat} {B : zB} {Q : State → Prop} {pc : Nat} {L : List (Option Value)} {rest : List Value} {M : mM} {k n : Nat} {x y : Int32} (ok : zOk K yn cc nL ret d mc ms B) (hd : decode cc pc = .ok (.idiv, 1)) (hne : ¬ y = 0)
    (kk : zV nL B Q (pc + 1) L (.int (x / y) :: rest) M k n) : zV nL B Q pc L (.int y :: .int x :: rest) M k n := by
  obtain ⟨p, l, e, R, s, m, args, below, meth, c, D, E, A⟩ := B
  obtain ⟨⟨hx, hb, hml, hr, hown⟩, hts, hlocks, hK, hA, hnm, hR, hF, hT⟩ := ok
  intro H ls locs hl hM hz hS
  exact lv_idiv hx hb hd hne (kk H ls locs hl hM hz hS)
theorem z_irem {K : zK} {yn : MethodName} {cc : ByteArray} {nL : Nat} {ret : Option FieldType} {d mc ms : Nat} {B : zB} {Q : State → Prop} {pc : Nat} {L : List (Option Value)} {rest : List Value} {M : mM} {k n : Nat} {x y : Int32} (ok : zOk K yn cc nL ret d mc ms B) (hd : decode cc pc = .ok (.irem, 1)) (hne : ¬ y = 0)
    (kk : zV nL B Q (pc + 1) L (.int (x - x / y * y) :: rest) M k n) : zV nL B Q pc L (.int y :: .int x :: rest) M k n := by
  obtain ⟨p, l, e, R, s, m, args, below, meth, c, D, E, A⟩ := B
  obtain ⟨⟨hx, hb, hml, hr, hown⟩, hts, hlocks, hK, hA, hnm, hR, hF, hT⟩ := ok
  intro H ls locs hl hM hz hS
  exact lv_irem hx hb hd hne (kk H ls locs hl hM hz hS)
theorem z_lmul {K : zK} {yn : MethodName} {cc : ByteArray} {nL : Nat} {ret : Option FieldType} {d mc ms : Nat} {B : zB} {Q : State → Prop} {pc : Nat} {L : List (Option Value)} {rest : List Value} {M : mM} {k n : Nat} {x y : Int64} (ok : zOk K yn cc nL ret d mc ms B) (hd : decode cc pc = .ok (.lmul, 1)) 
    (kk : zV nL B Q (pc + 1) L (.long (x * y) :: rest) M k n) : zV nL B Q pc L (.long y :: .long x :: rest) M k n := by
  obtain ⟨p, l, e, R, s, m, args, below, meth, c, D, E, A⟩ := B
  obtain ⟨⟨hx, hb, hml, hr, hown⟩, hts, hlocks, hK, hA, hnm, hR, hF, hT⟩ := ok
  intro H ls locs hl hM hz hS
  exact lv_lmul hx hb hd (kk H ls locs hl hM hz hS)
theorem z_ladd {K : zK} {yn : MethodName} {cc : ByteArray} {nL : Nat} {ret : Option FieldType} {d mc ms : Nat} {B : zB} {Q : State → Prop} {pc : Nat} {L : List (Option Value)} {rest : List Value} {M : mM} {k n : Nat} {x y : Int64} (ok : zOk K yn cc nL ret d mc ms B) (hd : decode cc pc = .ok (.ladd, 1)) 
    (kk : zV nL B Q (pc + 1) L (.long (x + y) :: rest) M k n) : zV nL B Q pc L (.long y :: .long x :: rest) M k n := by
  obtain ⟨p, l, e, R, s, m, args, below, meth, c, D, E, A⟩ := B
  obtain ⟨⟨hx, hb, hml, hr, hown⟩, hts, hlocks, hK, hA, hnm, hR, hF, hT⟩ := ok
  intro H ls locs hl hM hz hS
  exact lv_ladd hx hb hd (kk H ls locs hl hM hz hS)
theorem z_i2l {K : zK} {yn : MethodName} {cc : ByteArray} {nL : Nat} {ret : Option FieldType} {d mc ms : Nat} {B : zB} {Q : State → Prop} {pc : Nat} {L : List (Option Value)} {rest : List Value} {M : mM} {k n : Nat} {x : Int32} (ok : zOk K yn cc nL ret d mc ms B) (hd : decode cc pc = .ok (.i2l, 1)) 
    (kk : zV nL B Q (pc + 1) L (.long x.toInt64 :: rest) M k n) : zV nL B Q pc L (.int x :: rest) M k n := by
  obtain ⟨p, l, e, R, s, m, args, below, meth, c, D, E, A⟩ := B
  obtain ⟨⟨hx, hb, hml, hr, hown⟩, hts, hlocks, hK, hA, hnm, hR, hF, hT⟩ := ok
  intro H ls locs hl hM hz hS
  exact lv_i2l hx hb hd rfl (kk H ls locs hl hM hz hS)
theorem z_i2c {K : zK} {yn : MethodName} {cc : ByteArray} {nL : Nat} {ret : Option FieldType} {d mc ms : Nat} {B : zB} {Q : State → Prop} {pc : Nat} {L : List (Option Value)} {rest : List Value} {M : mM} {k n : Nat} {x : Int32} (ok : zOk K yn cc nL ret d mc ms B) (hd : decode cc pc = .ok (.i2c, 1)) 
    (kk : zV nL B Q (pc + 1) L (.int (x.toUInt32 % 65536).toInt32 :: rest) M k n) : zV nL B Q pc L (.int x :: rest) M k n := by
  obtain ⟨p, l, e, R, s, m, args, below, meth, c, D, E, A⟩ := B
  obtain ⟨⟨hx, hb, hml, hr, hown⟩, hts, hlocks, hK, hA, hnm, hR, hF, hT⟩ := ok
  intro H ls locs hl hM hz hS
  exact lv_i2c hx hb hd rfl (kk H ls locs hl hM hz hS)
theorem z_lcmp {K : zK} {yn : MethodName} {cc : ByteArray} {nL : Nat} {ret : Option FieldType} {d mc ms : Nat} {B : zB} {Q : State → Prop} {pc : Nat} {L : List (Option Value)} {rest : List Value} {M : mM} {k n : Nat} {x y : Int64} (ok : zOk K yn cc nL ret d mc ms B) (hd : decode cc pc = .ok (.lcmp, 1)) 
    (kk : zV nL B Q (pc + 1) L (.int (lg_cmp x y) :: rest) M k n) : zV nL B Q pc L (.long y :: .long x :: rest) M k n := by
  obtain ⟨p, l, e, R, s, m, args, below, meth, c, D, E, A⟩ := B
  obtain ⟨⟨hx, hb, hml, hr, hown⟩, hts, hlocks, hK, hA, hnm, hR, hF, hT⟩ := ok
  intro H ls locs hl hM hz hS
  exact W.lcmp hx hb hd (kk H ls locs hl hM hz hS)
theorem z_dup {K : zK} {yn : MethodName} {cc : ByteArray} {nL : Nat} {ret : Option FieldType} {d mc ms : Nat} {B : zB} {Q : State → Prop} {pc : Nat} {L : List (Option Value)} {rest : List Value} {M : mM} {k n : Nat} {v : Value} (ok : zOk K yn cc nL ret d mc ms B) (hd : decode cc pc = .ok (.dup, 1)) (hc : v.category = 1)
    (kk : zV nL B Q (pc + 1) L (v :: v :: rest) M k n) : zV nL B Q pc L (v :: rest) M k n := by
  obtain ⟨p, l, e, R, s, m, args, below, meth, c, D, E, A⟩ := B
  obtain ⟨⟨hx, hb, hml, hr, hown⟩, hts, hlocks, hK, hA, hnm, hR, hF, hT⟩ := ok
  intro H ls locs hl hM hz hS
  exact lv_dup hx hb hd hc (kk H ls locs hl hM hz hS)
theorem z_dup2 {K : zK} {yn : MethodName} {cc : ByteArray} {nL : Nat} {ret : Option FieldType} {d mc ms : Nat} {B : zB} {Q : State → Prop} {pc : Nat} {L : List (Option Value)} {rest : List Value} {M : mM} {k n : Nat} {v w : Value} (ok : zOk K yn cc nL ret d mc ms B) (hd : decode cc pc = .ok (.dup2, 1)) (hc : v.category = 1) (hc2 : w.category = 1)
    (kk : zV nL B Q (pc + 1) L (v :: w :: v :: w :: rest) M k n) : zV nL B Q pc L (v :: w :: rest) M k n := by
  obtain ⟨p, l, e, R, s, m, args, below, meth, c, D, E, A⟩ := B
  obtain ⟨⟨hx, hb, hml, hr, hown⟩, hts, hlocks, hK, hA, hnm, hR, hF, hT⟩ := ok
  intro H ls locs hl hM hz hS
  exact lv_dup2_11 hx hb hd hc hc2 (kk H ls locs hl hM hz hS)
theorem z_pop {K : zK} {yn : MethodName} {cc : ByteArray} {nL : Nat} {ret : Option FieldType} {d mc ms : Nat} {B : zB} {Q : State → Prop} {pc : Nat} {L : List (Option Value)} {rest : List Value} {M : mM} {k n : Nat} {v : Value} (ok : zOk K yn cc nL ret d mc ms B) (hd : decode cc pc = .ok (.pop, 1)) (hc : v.category = 1)
    (kk : zV nL B Q (pc + 1) L rest M k n) : zV nL B Q pc L (v :: rest) M k n := by
  obtain ⟨p, l, e, R, s, m, args, below, meth, c, D, E, A⟩ := B
  obtain ⟨⟨hx, hb, hml, hr, hown⟩, hts, hlocks, hK, hA, hnm, hR, hF, hT⟩ := ok
  intro H ls locs hl hM hz hS
  exact lv_pop hx hb hd hc (kk H ls locs hl hM hz hS)
theorem z_iconst {K : zK} {yn : MethodName} {cc : ByteArray} {nL : Nat} {ret : Option FieldType} {d mc ms : Nat} {B : zB} {Q : State → Prop} {pc : Nat} {L : List (Option Value)} {rest : List Value} {M : mM} {k n : Nat} {z : Int} {v : Int32} (ok : zOk K yn cc nL ret d mc ms B) (hd : decode cc pc = .ok (.iconst z, 1)) (hv : Int32.ofInt z = v)
    (kk : zV nL B Q (pc + 1) L (.int v :: rest) M k n) : zV nL B Q pc L rest M k n := by
  obtain ⟨p, l, e, R, s, m, args, below, meth, c, D, E, A⟩ := B
  obtain ⟨⟨hx, hb, hml, hr, hown⟩, hts, hlocks, hK, hA, hnm, hR, hF, hT⟩ := ok
  intro H ls locs hl hM hz hS
  exact lv_iconst hx hb hd hv (kk H ls locs hl hM hz hS)
theorem z_bipush {K : zK} {yn : MethodName} {cc : ByteArray} {nL : Nat} {ret : Option FieldType} {d mc ms : Nat} {B : zB} {Q : State → Prop} {pc : Nat} {L : List (Option Value)} {rest : List Value} {M : mM} {k n : Nat} {z : Int} {v : Int32} (ok : zOk K yn cc nL ret d mc ms B) (hd : decode cc pc = .ok (.bipush z, 2)) (hv : (Int8.ofInt z).toInt32 = v)
    (kk : zV nL B Q (pc + 2) L (.int v :: rest) M k n) : zV nL B Q pc L rest M k n := by
  obtain ⟨p, l, e, R, s, m, args, below, meth, c, D, E, A⟩ := B
  obtain ⟨⟨hx, hb, hml, hr, hown⟩, hts, hlocks, hK, hA, hnm, hR, hF, hT⟩ := ok
  intro H ls locs hl hM hz hS
  exact lv_bipush hx hb hd hv (kk H ls locs hl hM hz hS)
theorem z_sipush {K : zK} {yn : MethodName} {cc : ByteArray} {nL : Nat} {ret : Option FieldType} {d mc ms : Nat} {B : zB} {Q : State → Prop} {pc : Nat} {L : List (Option Value)} {rest : List Value} {M : mM} {k n : Nat} {z : Int} {v : Int32} (ok : zOk K yn cc nL ret d mc ms B) (hd : decode cc pc = .ok (.sipush z, 3)) (hv : (Int16.ofInt z).toInt32 = v)
    (kk : zV nL B Q (pc + 3) L (.int v :: rest) M k n) : zV nL B Q pc L rest M k n := by
  obtain ⟨p, l, e, R, s, m, args, below, meth, c, D, E, A⟩ := B
  obtain ⟨⟨hx, hb, hml, hr, hown⟩, hts, hlocks, hK, hA, hnm, hR, hF, hT⟩ := ok
  intro H ls locs hl hM hz hS
  exact lv_sipush hx hb hd hv (kk H ls locs hl hM hz hS)
theorem z_lconst {K : zK} {yn : MethodName} {cc : ByteArray} {nL : Nat} {ret : Option FieldType} {d mc ms : Nat} {B : zB} {Q : State → Prop} {pc : Nat} {L : List (Option Value)} {rest : List Value} {M : mM} {k n : Nat} {z : Fin 2} {v : Int64} (ok : zOk K yn cc nL ret d mc ms B) (hd : decode cc pc = .ok (.lconst z, 1)) (hv : Int64.ofNat (z : Nat) = v)
    (kk : zV nL B Q (pc + 1) L (.long v :: rest) M k n) : zV nL B Q pc L rest M k n := by
  obtain ⟨p, l, e, R, s, m, args, below, meth, c, D, E, A⟩ := B
  obtain ⟨⟨hx, hb, hml, hr, hown⟩, hts, hlocks, hK, hA, hnm, hR, hF, hT⟩ := ok
  intro H ls locs hl hM hz hS
  exact lv_lconst hx hb hd hv (kk H ls locs hl hM hz hS)
theorem z_null {K : zK} {yn : MethodName} {cc : ByteArray} {nL : Nat} {ret : Option FieldType} {d mc ms : Nat} {B : zB} {Q : State → Prop} {pc : Nat} {L : List (Option Value)} {rest : List Value} {M : mM} {k n : Nat}  (ok : zOk K yn cc nL ret d mc ms B) (hd : decode cc pc = .ok (.aconst_null, 1)) 
    (kk : zV nL B Q (pc + 1) L (.null :: rest) M k n) : zV nL B Q pc L rest M k n := by
  obtain ⟨p, l, e, R, s, m, args, below, meth, c, D, E, A⟩ := B
  obtain ⟨⟨hx, hb, hml, hr, hown⟩, hts, hlocks, hK, hA, hnm, hR, hF, hT⟩ := ok
  intro H ls locs hl hM hz hS
  exact lv_null hx hb hd (kk H ls locs hl hM hz hS)
theorem z_ldc {K : zK} {yn : MethodName} {cc : ByteArray} {nL : Nat} {ret : Option FieldType} {d mc ms : Nat} {B : zB} {Q : State → Prop} {pc : Nat} {L : List (Option Value)} {rest : List Value} {M : mM} {k n : Nat} {ix : Nat} {v : Int32} (ok : zOk K yn cc nL ret d mc ms B) (hd : decode cc pc = .ok (.ldc ix, 2)) (hw : Cond.constant yn.cls ix v ∈ zgw)
    (kk : zV nL B Q (pc + 2) L (.int v :: rest) M k n) : zV nL B Q pc L rest M k n := by
  obtain ⟨p, l, e, R, s, m, args, below, meth, c, D, E, A⟩ := B
  obtain ⟨⟨hx, hb, hml, hr, hown⟩, hts, hlocks, hK, hA, hnm, hR, hF, hT⟩ := ok
  intro H ls locs hl hM hz hS
  exact lv_ldc hx hb hown (hts _ hw) hd (kk H ls locs hl hM hz hS)
theorem z_ldcw {K : zK} {yn : MethodName} {cc : ByteArray} {nL : Nat} {ret : Option FieldType} {d mc ms : Nat} {B : zB} {Q : State → Prop} {pc : Nat} {L : List (Option Value)} {rest : List Value} {M : mM} {k n : Nat} {ix : Nat} {v : Int32} (ok : zOk K yn cc nL ret d mc ms B) (hd : decode cc pc = .ok (.ldc_w ix, 3)) (hw : Cond.constant yn.cls ix v ∈ zgw)
    (kk : zV nL B Q (pc + 3) L (.int v :: rest) M k n) : zV nL B Q pc L rest M k n := by
  obtain ⟨p, l, e, R, s, m, args, below, meth, c, D, E, A⟩ := B
  obtain ⟨⟨hx, hb, hml, hr, hown⟩, hts, hlocks, hK, hA, hnm, hR, hF, hT⟩ := ok
  intro H ls locs hl hM hz hS
  exact lv_ldcw hx hb hown (hts _ hw) hd (kk H ls locs hl hM hz hS)
theorem z_ldc2 {K : zK} {yn : MethodName} {cc : ByteArray} {nL : Nat} {ret : Option FieldType} {d mc ms : Nat} {B : zB} {Q : State → Prop} {pc : Nat} {L : List (Option Value)} {rest : List Value} {M : mM} {k n : Nat} {ix : Nat} {v : Int64} (ok : zOk K yn cc nL ret d mc ms B) (hd : decode cc pc = .ok (.ldc2_w ix, 3)) (hw : Cond.constantLong yn.cls ix v ∈ zgw)
    (kk : zV nL B Q (pc + 3) L (.long v :: rest) M k n) : zV nL B Q pc L rest M k n := by
  obtain ⟨p, l, e, R, s, m, args, below, meth, c, D, E, A⟩ := B
  obtain ⟨⟨hx, hb, hml, hr, hown⟩, hts, hlocks, hK, hA, hnm, hR, hF, hT⟩ := ok
  intro H ls locs hl hM hz hS
  exact lv_ldc2 hx hb hown (hts _ hw) hd (kk H ls locs hl hM hz hS)
theorem z_iload {K : zK} {yn : MethodName} {cc : ByteArray} {nL : Nat} {ret : Option FieldType} {d mc ms : Nat} {B : zB} {Q : State → Prop} {pc : Nat} {L : List (Option Value)} {rest : List Value} {M : mM} {k n : Nat} {i : Nat} {x : Int32} (ok : zOk K yn cc nL ret d mc ms B) (hd : decode cc pc = .ok (.iload i, 2)) (hi : L[i]? = some (some (.int x)))
    (kk : zV nL B Q (pc + 2) L (.int x :: rest) M k n) : zV nL B Q pc L rest M k n := by
  obtain ⟨p, l, e, R, s, m, args, below, meth, c, D, E, A⟩ := B
  obtain ⟨⟨hx, hb, hml, hr, hown⟩, hts, hlocks, hK, hA, hnm, hR, hF, hT⟩ := ok
  intro H ls locs hl hM hz hS
  exact lv_iload hx hb hd (hl.at hi) (kk H ls locs hl hM hz hS)
theorem z_iload_n {K : zK} {yn : MethodName} {cc : ByteArray} {nL : Nat} {ret : Option FieldType} {d mc ms : Nat} {B : zB} {Q : State → Prop} {pc : Nat} {L : List (Option Value)} {rest : List Value} {M : mM} {k n : Nat} {i : Fin 4} {x : Int32} (ok : zOk K yn cc nL ret d mc ms B) (hd : decode cc pc = .ok (.iload_n i, 1)) (hi : L[(i : Nat)]? = some (some (.int x)))
    (kk : zV nL B Q (pc + 1) L (.int x :: rest) M k n) : zV nL B Q pc L rest M k n := by
  obtain ⟨p, l, e, R, s, m, args, below, meth, c, D, E, A⟩ := B
  obtain ⟨⟨hx, hb, hml, hr, hown⟩, hts, hlocks, hK, hA, hnm, hR, hF, hT⟩ := ok
  intro H ls locs hl hM hz hS
  exact lv_iload_n hx hb hd rfl (hl.at hi) (kk H ls locs hl hM hz hS)
theorem z_aload {K : zK} {yn : MethodName} {cc : ByteArray} {nL : Nat} {ret : Option FieldType} {d mc ms : Nat} {B : zB} {Q : State → Prop} {pc : Nat} {L : List (Option Value)} {rest : List Value} {M : mM} {k n : Nat} {i : Nat} {x : Nat} (ok : zOk K yn cc nL ret d mc ms B) (hd : decode cc pc = .ok (.aload i, 2)) (hi : L[i]? = some (some (.ref x)))
    (kk : zV nL B Q (pc + 2) L (.ref x :: rest) M k n) : zV nL B Q pc L rest M k n := by
  obtain ⟨p, l, e, R, s, m, args, below, meth, c, D, E, A⟩ := B
  obtain ⟨⟨hx, hb, hml, hr, hown⟩, hts, hlocks, hK, hA, hnm, hR, hF, hT⟩ := ok
  intro H ls locs hl hM hz hS
  exact lv_aload hx hb hd (hl.at hi) (kk H ls locs hl hM hz hS)
theorem z_aload_n {K : zK} {yn : MethodName} {cc : ByteArray} {nL : Nat} {ret : Option FieldType} {d mc ms : Nat} {B : zB} {Q : State → Prop} {pc : Nat} {L : List (Option Value)} {rest : List Value} {M : mM} {k n : Nat} {i : Fin 4} {x : Nat} (ok : zOk K yn cc nL ret d mc ms B) (hd : decode cc pc = .ok (.aload_n i, 1)) (hi : L[(i : Nat)]? = some (some (.ref x)))
    (kk : zV nL B Q (pc + 1) L (.ref x :: rest) M k n) : zV nL B Q pc L rest M k n := by
  obtain ⟨p, l, e, R, s, m, args, below, meth, c, D, E, A⟩ := B
  obtain ⟨⟨hx, hb, hml, hr, hown⟩, hts, hlocks, hK, hA, hnm, hR, hF, hT⟩ := ok
  intro H ls locs hl hM hz hS
  exact lv_aload_n hx hb hd rfl (hl.at hi) (kk H ls locs hl hM hz hS)
theorem z_lload_n {K : zK} {yn : MethodName} {cc : ByteArray} {nL : Nat} {ret : Option FieldType} {d mc ms : Nat} {B : zB} {Q : State → Prop} {pc : Nat} {L : List (Option Value)} {rest : List Value} {M : mM} {k n : Nat} {i : Fin 4} {x : Int64} (ok : zOk K yn cc nL ret d mc ms B) (hd : decode cc pc = .ok (.lload_n i, 1)) (hi : L[(i : Nat)]? = some (some (.long x)))
    (kk : zV nL B Q (pc + 1) L (.long x :: rest) M k n) : zV nL B Q pc L rest M k n := by
  obtain ⟨p, l, e, R, s, m, args, below, meth, c, D, E, A⟩ := B
  obtain ⟨⟨hx, hb, hml, hr, hown⟩, hts, hlocks, hK, hA, hnm, hR, hF, hT⟩ := ok
  intro H ls locs hl hM hz hS
  exact lv_lload_n hx hb hd rfl (hl.at hi) (kk H ls locs hl hM hz hS)
theorem z_aload_nN {K : zK} {yn : MethodName} {cc : ByteArray} {nL : Nat} {ret : Option FieldType} {d mc ms : Nat} {B : zB} {Q : State → Prop} {pc : Nat} {L : List (Option Value)} {rest : List Value} {M : mM} {k n : Nat} {i : Fin 4} (ok : zOk K yn cc nL ret d mc ms B) (hd : decode cc pc = .ok (.aload_n i, 1)) (hi : L[(i : Nat)]? = some (some .null))
    (kk : zV nL B Q (pc + 1) L (.null :: rest) M k n) : zV nL B Q pc L rest M k n := by
  obtain ⟨p, l, e, R, s, m, args, below, meth, c, D, E, A⟩ := B
  obtain ⟨⟨hx, hb, hml, hr, hown⟩, hts, hlocks, hK, hA, hnm, hR, hF, hT⟩ := ok
  intro H ls locs hl hM hz hS
  exact lv_aload_nN hx hb hd rfl (hl.at hi) (kk H ls locs hl hM hz hS)
theorem z_aloadN {K : zK} {yn : MethodName} {cc : ByteArray} {nL : Nat} {ret : Option FieldType} {d mc ms : Nat} {B : zB} {Q : State → Prop} {pc : Nat} {L : List (Option Value)} {rest : List Value} {M : mM} {k n : Nat} {i : Nat} (ok : zOk K yn cc nL ret d mc ms B) (hd : decode cc pc = .ok (.aload i, 2)) (hi : L[i]? = some (some .null))
    (kk : zV nL B Q (pc + 2) L (.null :: rest) M k n) : zV nL B Q pc L rest M k n := by
  obtain ⟨p, l, e, R, s, m, args, below, meth, c, D, E, A⟩ := B
  obtain ⟨⟨hx, hb, hml, hr, hown⟩, hts, hlocks, hK, hA, hnm, hR, hF, hT⟩ := ok
  intro H ls locs hl hM hz hS
  exact lv_aloadN hx hb hd (hl.at hi) (kk H ls locs hl hM hz hS)
theorem z_istore {K : zK} {yn : MethodName} {cc : ByteArray} {nL : Nat} {ret : Option FieldType} {d mc ms : Nat} {B : zB} {Q : State → Prop} {pc : Nat} {L : List (Option Value)} {rest : List Value} {M : mM} {k n : Nat} {i : Nat} {x : Int32} (ok : zOk K yn cc nL ret d mc ms B) (hd : decode cc pc = .ok (.istore i, 2)) (hn : i < nL) (h1 : zk1 L i = true)
    (kk : zV nL B Q (pc + 2) (L.set i (some (.int x))) rest M k n) : zV nL B Q pc L (.int x :: rest) M k n := by
  obtain ⟨p, l, e, R, s, m, args, below, meth, c, D, E, A⟩ := B
  obtain ⟨⟨hx, hb, hml, hr, hown⟩, hts, hlocks, hK, hA, hnm, hR, hF, hT⟩ := ok
  intro H ls locs hl hM hz hS
  exact lv_istore hx hb hd hl hn rfl (fun ls' hl' => kk H ls' locs (zHas.set1 h1 hl') hM hz hS)
theorem z_istore_n {K : zK} {yn : MethodName} {cc : ByteArray} {nL : Nat} {ret : Option FieldType} {d mc ms : Nat} {B : zB} {Q : State → Prop} {pc : Nat} {L : List (Option Value)} {rest : List Value} {M : mM} {k n : Nat} {i : Fin 4} {x : Int32} (ok : zOk K yn cc nL ret d mc ms B) (hd : decode cc pc = .ok (.istore_n i, 1)) (hn : (i : Nat) < nL) (h1 : zk1 L (i : Nat) = true)
    (kk : zV nL B Q (pc + 1) (L.set (i : Nat) (some (.int x))) rest M k n) : zV nL B Q pc L (.int x :: rest) M k n := by
  obtain ⟨p, l, e, R, s, m, args, below, meth, c, D, E, A⟩ := B
  obtain ⟨⟨hx, hb, hml, hr, hown⟩, hts, hlocks, hK, hA, hnm, hR, hF, hT⟩ := ok
  intro H ls locs hl hM hz hS
  exact lv_istore_n hx hb hd rfl hl hn rfl (fun ls' hl' => kk H ls' locs (zHas.set1 h1 hl') hM hz hS)
theorem z_astore {K : zK} {yn : MethodName} {cc : ByteArray} {nL : Nat} {ret : Option FieldType} {d mc ms : Nat} {B : zB} {Q : State → Prop} {pc : Nat} {L : List (Option Value)} {rest : List Value} {M : mM} {k n : Nat} {i : Nat} {x : Nat} (ok : zOk K yn cc nL ret d mc ms B) (hd : decode cc pc = .ok (.astore i, 2)) (hn : i < nL) (h1 : zk1 L i = true)
    (kk : zV nL B Q (pc + 2) (L.set i (some (.ref x))) rest M k n) : zV nL B Q pc L (.ref x :: rest) M k n := by
  obtain ⟨p, l, e, R, s, m, args, below, meth, c, D, E, A⟩ := B
  obtain ⟨⟨hx, hb, hml, hr, hown⟩, hts, hlocks, hK, hA, hnm, hR, hF, hT⟩ := ok
  intro H ls locs hl hM hz hS
  exact lv_astore hx hb hd hl hn rfl (fun ls' hl' => kk H ls' locs (zHas.set1 h1 hl') hM hz hS)
theorem z_astore_n {K : zK} {yn : MethodName} {cc : ByteArray} {nL : Nat} {ret : Option FieldType} {d mc ms : Nat} {B : zB} {Q : State → Prop} {pc : Nat} {L : List (Option Value)} {rest : List Value} {M : mM} {k n : Nat} {i : Fin 4} {x : Nat} (ok : zOk K yn cc nL ret d mc ms B) (hd : decode cc pc = .ok (.astore_n i, 1)) (hn : (i : Nat) < nL) (h1 : zk1 L (i : Nat) = true)
    (kk : zV nL B Q (pc + 1) (L.set (i : Nat) (some (.ref x))) rest M k n) : zV nL B Q pc L (.ref x :: rest) M k n := by
  obtain ⟨p, l, e, R, s, m, args, below, meth, c, D, E, A⟩ := B
  obtain ⟨⟨hx, hb, hml, hr, hown⟩, hts, hlocks, hK, hA, hnm, hR, hF, hT⟩ := ok
  intro H ls locs hl hM hz hS
  exact lv_astore_n hx hb hd rfl hl hn rfl (fun ls' hl' => kk H ls' locs (zHas.set1 h1 hl') hM hz hS)
theorem z_astoreN {K : zK} {yn : MethodName} {cc : ByteArray} {nL : Nat} {ret : Option FieldType} {d mc ms : Nat} {B : zB} {Q : State → Prop} {pc : Nat} {L : List (Option Value)} {rest : List Value} {M : mM} {k n : Nat} {i : Nat} (ok : zOk K yn cc nL ret d mc ms B) (hd : decode cc pc = .ok (.astore i, 2)) (hn : i < nL) (h1 : zk1 L i = true)
    (kk : zV nL B Q (pc + 2) (L.set i (some (.null))) rest M k n) : zV nL B Q pc L (.null :: rest) M k n := by
  obtain ⟨p, l, e, R, s, m, args, below, meth, c, D, E, A⟩ := B
  obtain ⟨⟨hx, hb, hml, hr, hown⟩, hts, hlocks, hK, hA, hnm, hR, hF, hT⟩ := ok
  intro H ls locs hl hM hz hS
  exact lv_astoreN hx hb hd hl hn rfl (fun ls' hl' => kk H ls' locs (zHas.set1 h1 hl') hM hz hS)
theorem z_astore_nN {K : zK} {yn : MethodName} {cc : ByteArray} {nL : Nat} {ret : Option FieldType} {d mc ms : Nat} {B : zB} {Q : State → Prop} {pc : Nat} {L : List (Option Value)} {rest : List Value} {M : mM} {k n : Nat} {i : Fin 4} (ok : zOk K yn cc nL ret d mc ms B) (hd : decode cc pc = .ok (.astore_n i, 1)) (hn : (i : Nat) < nL) (h1 : zk1 L (i : Nat) = true)
    (kk : zV nL B Q (pc + 1) (L.set (i : Nat) (some (.null))) rest M k n) : zV nL B Q pc L (.null :: rest) M k n := by
  obtain ⟨p, l, e, R, s, m, args, below, meth, c, D, E, A⟩ := B
  obtain ⟨⟨hx, hb, hml, hr, hown⟩, hts, hlocks, hK, hA, hnm, hR, hF, hT⟩ := ok
  intro H ls locs hl hM hz hS
  exact lv_astore_nN hx hb hd rfl hl hn rfl (fun ls' hl' => kk H ls' locs (zHas.set1 h1 hl') hM hz hS)
theorem z_lstore_n {K : zK} {yn : MethodName} {cc : ByteArray} {nL : Nat} {ret : Option FieldType} {d mc ms : Nat} {B : zB} {Q : State → Prop} {pc : Nat} {L : List (Option Value)} {rest : List Value} {M : mM} {k n : Nat} {i : Fin 4} {x : Int64} (ok : zOk K yn cc nL ret d mc ms B) (hd : decode cc pc = .ok (.lstore_n i, 1)) (hn : (i : Nat) + 1 < nL) (h1 : zk1 L (i : Nat) = true)
    (kk : zV nL B Q (pc + 1) ((L.set ((i : Nat) + 1) none).set (i : Nat) (some (.long x))) rest M k n) : zV nL B Q pc L (.long x :: rest) M k n := by
  obtain ⟨p, l, e, R, s, m, args, below, meth, c, D, E, A⟩ := B
  obtain ⟨⟨hx, hb, hml, hr, hown⟩, hts, hlocks, hK, hA, hnm, hR, hF, hT⟩ := ok
  intro H ls locs hl hM hz hS
  exact lv_lstore_n hx hb hd rfl hl hn rfl (fun ls' hl' => kk H ls' locs (zHas.set2 h1 hl') hM hz hS)
theorem z_iinc {K : zK} {yn : MethodName} {cc : ByteArray} {nL : Nat} {ret : Option FieldType} {d mc ms : Nat} {B : zB} {Q : State → Prop} {pc : Nat} {L : List (Option Value)} {rest : List Value} {M : mM} {k n : Nat} {i : Nat} {z : Int} {x v : Int32} (ok : zOk K yn cc nL ret d mc ms B) (hd : decode cc pc = .ok (.iinc i z, 3)) (hi : L[i]? = some (some (.int x))) (hv : x + Int32.ofInt z = v) (hn : i < nL) (h1 : zk1 L i = true)
    (kk : zV nL B Q (pc + 3) (L.set i (some (.int v))) rest M k n) : zV nL B Q pc L rest M k n := by
  obtain ⟨p, l, e, R, s, m, args, below, meth, c, D, E, A⟩ := B
  obtain ⟨⟨hx, hb, hml, hr, hown⟩, hts, hlocks, hK, hA, hnm, hR, hF, hT⟩ := ok
  intro H ls locs hl hM hz hS
  obtain ⟨j, hj⟩ := List.getElem?_of_mem ((zPr_mem (q := (i, .int x)) L 0).mpr ⟨i, (Nat.zero_add i).symm, hi⟩)
  exact lv_iinc hx hb hd hl hj hv hn rfl (fun ls' hl' => kk H ls' locs (zHas.set1 h1 hl') hM hz hS)
theorem z_if_eq {K : zK} {yn : MethodName} {cc : ByteArray} {nL : Nat} {ret : Option FieldType} {d mc ms : Nat} {B : zB} {Q : State → Prop} {pc : Nat} {L : List (Option Value)} {rest : List Value} {M : mM} {k n : Nat} {x : Int32} {off : Int} {tgt : Nat} (ok : zOk K yn cc nL ret d mc ms B) (hd : decode cc pc = .ok (.ifCond .eq off, 3)) (ht : (pc : Int) + off = (tgt : Int))
    (kt : x = 0 → zV nL B Q tgt L rest M k n) (kf : ¬ x = 0 → zV nL B Q (pc + 3) L rest M k n) : zV nL B Q pc L (.int x :: rest) M k n := by
  obtain ⟨p, l, e, R, s, m, args, below, meth, c, D, E, A⟩ := B
  obtain ⟨⟨hx, hb, hml, hr, hown⟩, hts, hlocks, hK, hA, hnm, hR, hF, hT⟩ := ok
  intro H ls locs hl hM hz hS
  exact lv_if_eq hx hb hd ht (fun q => kt q H ls locs hl hM hz hS) (fun q => kf q H ls locs hl hM hz hS)
theorem z_icmp_eq {K : zK} {yn : MethodName} {cc : ByteArray} {nL : Nat} {ret : Option FieldType} {d mc ms : Nat} {B : zB} {Q : State → Prop} {pc : Nat} {L : List (Option Value)} {rest : List Value} {M : mM} {k n : Nat} {x y : Int32} {off : Int} {tgt : Nat} (ok : zOk K yn cc nL ret d mc ms B) (hd : decode cc pc = .ok (.if_icmp .eq off, 3)) (ht : (pc : Int) + off = (tgt : Int))
    (kt : x = y → zV nL B Q tgt L rest M k n) (kf : ¬ x = y → zV nL B Q (pc + 3) L rest M k n) : zV nL B Q pc L (.int y :: .int x :: rest) M k n := by
  obtain ⟨p, l, e, R, s, m, args, below, meth, c, D, E, A⟩ := B
  obtain ⟨⟨hx, hb, hml, hr, hown⟩, hts, hlocks, hK, hA, hnm, hR, hF, hT⟩ := ok
  intro H ls locs hl hM hz hS
  exact lv_icmp_eq hx hb hd ht (fun q => kt q H ls locs hl hM hz hS) (fun q => kf q H ls locs hl hM hz hS)
theorem z_if_ne {K : zK} {yn : MethodName} {cc : ByteArray} {nL : Nat} {ret : Option FieldType} {d mc ms : Nat} {B : zB} {Q : State → Prop} {pc : Nat} {L : List (Option Value)} {rest : List Value} {M : mM} {k n : Nat} {x : Int32} {off : Int} {tgt : Nat} (ok : zOk K yn cc nL ret d mc ms B) (hd : decode cc pc = .ok (.ifCond .ne off, 3)) (ht : (pc : Int) + off = (tgt : Int))
    (kt : ¬ x = 0 → zV nL B Q tgt L rest M k n) (kf : x = 0 → zV nL B Q (pc + 3) L rest M k n) : zV nL B Q pc L (.int x :: rest) M k n := by
  obtain ⟨p, l, e, R, s, m, args, below, meth, c, D, E, A⟩ := B
  obtain ⟨⟨hx, hb, hml, hr, hown⟩, hts, hlocks, hK, hA, hnm, hR, hF, hT⟩ := ok
  intro H ls locs hl hM hz hS
  exact lv_if_ne hx hb hd ht (fun q => kt q H ls locs hl hM hz hS) (fun q => kf q H ls locs hl hM hz hS)
theorem z_icmp_ne {K : zK} {yn : MethodName} {cc : ByteArray} {nL : Nat} {ret : Option FieldType} {d mc ms : Nat} {B : zB} {Q : State → Prop} {pc : Nat} {L : List (Option Value)} {rest : List Value} {M : mM} {k n : Nat} {x y : Int32} {off : Int} {tgt : Nat} (ok : zOk K yn cc nL ret d mc ms B) (hd : decode cc pc = .ok (.if_icmp .ne off, 3)) (ht : (pc : Int) + off = (tgt : Int))
    (kt : ¬ x = y → zV nL B Q tgt L rest M k n) (kf : x = y → zV nL B Q (pc + 3) L rest M k n) : zV nL B Q pc L (.int y :: .int x :: rest) M k n := by
  obtain ⟨p, l, e, R, s, m, args, below, meth, c, D, E, A⟩ := B
  obtain ⟨⟨hx, hb, hml, hr, hown⟩, hts, hlocks, hK, hA, hnm, hR, hF, hT⟩ := ok
  intro H ls locs hl hM hz hS
  exact lv_icmp_ne hx hb hd ht (fun q => kt q H ls locs hl hM hz hS) (fun q => kf q H ls locs hl hM hz hS)
theorem z_if_lt {K : zK} {yn : MethodName} {cc : ByteArray} {nL : Nat} {ret : Option FieldType} {d mc ms : Nat} {B : zB} {Q : State → Prop} {pc : Nat} {L : List (Option Value)} {rest : List Value} {M : mM} {k n : Nat} {x : Int32} {off : Int} {tgt : Nat} (ok : zOk K yn cc nL ret d mc ms B) (hd : decode cc pc = .ok (.ifCond .lt off, 3)) (ht : (pc : Int) + off = (tgt : Int))
    (kt : x < 0 → zV nL B Q tgt L rest M k n) (kf : ¬ x < 0 → zV nL B Q (pc + 3) L rest M k n) : zV nL B Q pc L (.int x :: rest) M k n := by
  obtain ⟨p, l, e, R, s, m, args, below, meth, c, D, E, A⟩ := B
  obtain ⟨⟨hx, hb, hml, hr, hown⟩, hts, hlocks, hK, hA, hnm, hR, hF, hT⟩ := ok
  intro H ls locs hl hM hz hS
  exact lv_if_lt hx hb hd ht (fun q => kt q H ls locs hl hM hz hS) (fun q => kf q H ls locs hl hM hz hS)
theorem z_icmp_lt {K : zK} {yn : MethodName} {cc : ByteArray} {nL : Nat} {ret : Option FieldType} {d mc ms : Nat} {B : zB} {Q : State → Prop} {pc : Nat} {L : List (Option Value)} {rest : List Value} {M : mM} {k n : Nat} {x y : Int32} {off : Int} {tgt : Nat} (ok : zOk K yn cc nL ret d mc ms B) (hd : decode cc pc = .ok (.if_icmp .lt off, 3)) (ht : (pc : Int) + off = (tgt : Int))
    (kt : x < y → zV nL B Q tgt L rest M k n) (kf : ¬ x < y → zV nL B Q (pc + 3) L rest M k n) : zV nL B Q pc L (.int y :: .int x :: rest) M k n := by
  obtain ⟨p, l, e, R, s, m, args, below, meth, c, D, E, A⟩ := B
  obtain ⟨⟨hx, hb, hml, hr, hown⟩, hts, hlocks, hK, hA, hnm, hR, hF, hT⟩ := ok
  intro H ls locs hl hM hz hS
  exact lv_icmp_lt hx hb hd ht (fun q => kt q H ls locs hl hM hz hS) (fun q => kf q H ls locs hl hM hz hS)
theorem z_if_ge {K : zK} {yn : MethodName} {cc : ByteArray} {nL : Nat} {ret : Option FieldType} {d mc ms : Nat} {B : zB} {Q : State → Prop} {pc : Nat} {L : List (Option Value)} {rest : List Value} {M : mM} {k n : Nat} {x : Int32} {off : Int} {tgt : Nat} (ok : zOk K yn cc nL ret d mc ms B) (hd : decode cc pc = .ok (.ifCond .ge off, 3)) (ht : (pc : Int) + off = (tgt : Int))
    (kt : 0 ≤ x → zV nL B Q tgt L rest M k n) (kf : ¬ 0 ≤ x → zV nL B Q (pc + 3) L rest M k n) : zV nL B Q pc L (.int x :: rest) M k n := by
  obtain ⟨p, l, e, R, s, m, args, below, meth, c, D, E, A⟩ := B
  obtain ⟨⟨hx, hb, hml, hr, hown⟩, hts, hlocks, hK, hA, hnm, hR, hF, hT⟩ := ok
  intro H ls locs hl hM hz hS
  exact lv_if_ge hx hb hd ht (fun q => kt q H ls locs hl hM hz hS) (fun q => kf q H ls locs hl hM hz hS)
theorem z_icmp_ge {K : zK} {yn : MethodName} {cc : ByteArray} {nL : Nat} {ret : Option FieldType} {d mc ms : Nat} {B : zB} {Q : State → Prop} {pc : Nat} {L : List (Option Value)} {rest : List Value} {M : mM} {k n : Nat} {x y : Int32} {off : Int} {tgt : Nat} (ok : zOk K yn cc nL ret d mc ms B) (hd : decode cc pc = .ok (.if_icmp .ge off, 3)) (ht : (pc : Int) + off = (tgt : Int))
    (kt : y ≤ x → zV nL B Q tgt L rest M k n) (kf : ¬ y ≤ x → zV nL B Q (pc + 3) L rest M k n) : zV nL B Q pc L (.int y :: .int x :: rest) M k n := by
  obtain ⟨p, l, e, R, s, m, args, below, meth, c, D, E, A⟩ := B
  obtain ⟨⟨hx, hb, hml, hr, hown⟩, hts, hlocks, hK, hA, hnm, hR, hF, hT⟩ := ok
  intro H ls locs hl hM hz hS
  exact lv_icmp_ge hx hb hd ht (fun q => kt q H ls locs hl hM hz hS) (fun q => kf q H ls locs hl hM hz hS)
theorem z_if_gt {K : zK} {yn : MethodName} {cc : ByteArray} {nL : Nat} {ret : Option FieldType} {d mc ms : Nat} {B : zB} {Q : State → Prop} {pc : Nat} {L : List (Option Value)} {rest : List Value} {M : mM} {k n : Nat} {x : Int32} {off : Int} {tgt : Nat} (ok : zOk K yn cc nL ret d mc ms B) (hd : decode cc pc = .ok (.ifCond .gt off, 3)) (ht : (pc : Int) + off = (tgt : Int))
    (kt : 0 < x → zV nL B Q tgt L rest M k n) (kf : ¬ 0 < x → zV nL B Q (pc + 3) L rest M k n) : zV nL B Q pc L (.int x :: rest) M k n := by
  obtain ⟨p, l, e, R, s, m, args, below, meth, c, D, E, A⟩ := B
  obtain ⟨⟨hx, hb, hml, hr, hown⟩, hts, hlocks, hK, hA, hnm, hR, hF, hT⟩ := ok
  intro H ls locs hl hM hz hS
  exact lv_if_gt hx hb hd ht (fun q => kt q H ls locs hl hM hz hS) (fun q => kf q H ls locs hl hM hz hS)
theorem z_icmp_gt {K : zK} {yn : MethodName} {cc : ByteArray} {nL : Nat} {ret : Option FieldType} {d mc ms : Nat} {B : zB} {Q : State → Prop} {pc : Nat} {L : List (Option Value)} {rest : List Value} {M : mM} {k n : Nat} {x y : Int32} {off : Int} {tgt : Nat} (ok : zOk K yn cc nL ret d mc ms B) (hd : decode cc pc = .ok (.if_icmp .gt off, 3)) (ht : (pc : Int) + off = (tgt : Int))
    (kt : y < x → zV nL B Q tgt L rest M k n) (kf : ¬ y < x → zV nL B Q (pc + 3) L rest M k n) : zV nL B Q pc L (.int y :: .int x :: rest) M k n := by
  obtain ⟨p, l, e, R, s, m, args, below, meth, c, D, E, A⟩ := B
  obtain ⟨⟨hx, hb, hml, hr, hown⟩, hts, hlocks, hK, hA, hnm, hR, hF, hT⟩ := ok
  intro H ls locs hl hM hz hS
  exact lv_icmp_gt hx hb hd ht (fun q => kt q H ls locs hl hM hz hS) (fun q => kf q H ls locs hl hM hz hS)
theorem z_if_le {K : zK} {yn : MethodName} {cc : ByteArray} {nL : Nat} {ret : Option FieldType} {d mc ms : Nat} {B : zB} {Q : State → Prop} {pc : Nat} {L : List (Option Value)} {rest : List Value} {M : mM} {k n : Nat} {x : Int32} {off : Int} {tgt : Nat} (ok : zOk K yn cc nL ret d mc ms B) (hd : decode cc pc = .ok (.ifCond .le off, 3)) (ht : (pc : Int) + off = (tgt : Int))
    (kt : x ≤ 0 → zV nL B Q tgt L rest M k n) (kf : ¬ x ≤ 0 → zV nL B Q (pc + 3) L rest M k n) : zV nL B Q pc L (.int x :: rest) M k n := by
  obtain ⟨p, l, e, R, s, m, args, below, meth, c, D, E, A⟩ := B
  obtain ⟨⟨hx, hb, hml, hr, hown⟩, hts, hlocks, hK, hA, hnm, hR, hF, hT⟩ := ok
  intro H ls locs hl hM hz hS
  exact lv_if_le hx hb hd ht (fun q => kt q H ls locs hl hM hz hS) (fun q => kf q H ls locs hl hM hz hS)
theorem z_icmp_le {K : zK} {yn : MethodName} {cc : ByteArray} {nL : Nat} {ret : Option FieldType} {d mc ms : Nat} {B : zB} {Q : State → Prop} {pc : Nat} {L : List (Option Value)} {rest : List Value} {M : mM} {k n : Nat} {x y : Int32} {off : Int} {tgt : Nat} (ok : zOk K yn cc nL ret d mc ms B) (hd : decode cc pc = .ok (.if_icmp .le off, 3)) (ht : (pc : Int) + off = (tgt : Int))
    (kt : x ≤ y → zV nL B Q tgt L rest M k n) (kf : ¬ x ≤ y → zV nL B Q (pc + 3) L rest M k n) : zV nL B Q pc L (.int y :: .int x :: rest) M k n := by
  obtain ⟨p, l, e, R, s, m, args, below, meth, c, D, E, A⟩ := B
  obtain ⟨⟨hx, hb, hml, hr, hown⟩, hts, hlocks, hK, hA, hnm, hR, hF, hT⟩ := ok
  intro H ls locs hl hM hz hS
  exact lv_icmp_le hx hb hd ht (fun q => kt q H ls locs hl hM hz hS) (fun q => kf q H ls locs hl hM hz hS)
theorem z_goto {K : zK} {yn : MethodName} {cc : ByteArray} {nL : Nat} {ret : Option FieldType} {d mc ms : Nat} {B : zB} {Q : State → Prop} {pc : Nat} {L : List (Option Value)} {rest : List Value} {M : mM} {k n : Nat} {off : Int} {tgt : Nat} (ok : zOk K yn cc nL ret d mc ms B) (hd : decode cc pc = .ok (.goto off, 3)) (ht : (pc : Int) + off = (tgt : Int))
    (kk : zV nL B Q tgt L rest M k n) : zV nL B Q pc L rest M k n := by
  obtain ⟨p, l, e, R, s, m, args, below, meth, c, D, E, A⟩ := B
  obtain ⟨⟨hx, hb, hml, hr, hown⟩, hts, hlocks, hK, hA, hnm, hR, hF, hT⟩ := ok
  intro H ls locs hl hM hz hS
  exact lv_goto hx hb hd ht (kk H ls locs hl hM hz hS)
theorem z_ifnonnull {K : zK} {yn : MethodName} {cc : ByteArray} {nL : Nat} {ret : Option FieldType} {d mc ms : Nat} {B : zB} {Q : State → Prop} {pc : Nat} {L : List (Option Value)} {rest : List Value} {M : mM} {k n : Nat} {x : Nat} {off : Int} {tgt : Nat} (ok : zOk K yn cc nL ret d mc ms B) (hd : decode cc pc = .ok (.ifnonnull off, 3)) (ht : (pc : Int) + off = (tgt : Int))
    (kk : zV nL B Q tgt L rest M k n) : zV nL B Q pc L (.ref x :: rest) M k n := by
  obtain ⟨p, l, e, R, s, m, args, below, meth, c, D, E, A⟩ := B
  obtain ⟨⟨hx, hb, hml, hr, hown⟩, hts, hlocks, hK, hA, hnm, hR, hF, hT⟩ := ok
  intro H ls locs hl hM hz hS
  exact lv_ifnonnull hx hb hd ht (kk H ls locs hl hM hz hS)
theorem z_ifnonnullN {K : zK} {yn : MethodName} {cc : ByteArray} {nL : Nat} {ret : Option FieldType} {d mc ms : Nat} {B : zB} {Q : State → Prop} {pc : Nat} {L : List (Option Value)} {rest : List Value} {M : mM} {k n : Nat} {off : Int} (ok : zOk K yn cc nL ret d mc ms B) (hd : decode cc pc = .ok (.ifnonnull off, 3)) 
    (kk : zV nL B Q (pc + 3) L rest M k n) : zV nL B Q pc L (.null :: rest) M k n := by
  obtain ⟨p, l, e, R, s, m, args, below, meth, c, D, E, A⟩ := B
  obtain ⟨⟨hx, hb, hml, hr, hown⟩, hts, hlocks, hK, hA, hnm, hR, hF, hT⟩ := ok
  intro H ls locs hl hM hz hS
  exact lv_ifnonnullN hx hb hd (kk H ls locs hl hM hz hS)
theorem z_ifnull {K : zK} {yn : MethodName} {cc : ByteArray} {nL : Nat} {ret : Option FieldType} {d mc ms : Nat} {B : zB} {Q : State → Prop} {pc : Nat} {L : List (Option Value)} {rest : List Value} {M : mM} {k n : Nat} {x : Nat} {off : Int} (ok : zOk K yn cc nL ret d mc ms B) (hd : decode cc pc = .ok (.ifnull off, 3)) 
    (kk : zV nL B Q (pc + 3) L rest M k n) : zV nL B Q pc L (.ref x :: rest) M k n := by
  obtain ⟨p, l, e, R, s, m, args, below, meth, c, D, E, A⟩ := B
  obtain ⟨⟨hx, hb, hml, hr, hown⟩, hts, hlocks, hK, hA, hnm, hR, hF, hT⟩ := ok
  intro H ls locs hl hM hz hS
  exact lv_ifnull hx hb hd (kk H ls locs hl hM hz hS)
theorem z_ifnullN {K : zK} {yn : MethodName} {cc : ByteArray} {nL : Nat} {ret : Option FieldType} {d mc ms : Nat} {B : zB} {Q : State → Prop} {pc : Nat} {L : List (Option Value)} {rest : List Value} {M : mM} {k n : Nat} {off : Int} {tgt : Nat} (ok : zOk K yn cc nL ret d mc ms B) (hd : decode cc pc = .ok (.ifnull off, 3)) (ht : (pc : Int) + off = (tgt : Int))
    (kk : zV nL B Q tgt L rest M k n) : zV nL B Q pc L (.null :: rest) M k n := by
  obtain ⟨p, l, e, R, s, m, args, below, meth, c, D, E, A⟩ := B
  obtain ⟨⟨hx, hb, hml, hr, hown⟩, hts, hlocks, hK, hA, hnm, hR, hF, hT⟩ := ok
  intro H ls locs hl hM hz hS
  exact lv_ifnullN hx hb hd ht (kk H ls locs hl hM hz hS)
theorem z_tableOut {K : zK} {yn : MethodName} {cc : ByteArray} {nL : Nat} {ret : Option FieldType} {d mc ms : Nat} {B : zB} {Q : State → Prop} {pc : Nat} {L : List (Option Value)} {rest : List Value} {M : mM} {k n : Nat} {x : Int32} {dflt lo hi : Int} {offs : Array Int} {len tgt : Nat} (ok : zOk K yn cc nL ret d mc ms B) (hd : decode cc pc = .ok (.tableswitch dflt lo hi offs, len)) (h : x.toInt < lo ∨ hi < x.toInt) (ht : (pc : Int) + dflt = (tgt : Int))
    (kk : zV nL B Q tgt L rest M k n) : zV nL B Q pc L (.int x :: rest) M k n := by
  obtain ⟨p, l, e, R, s, m, args, below, meth, c, D, E, A⟩ := B
  obtain ⟨⟨hx, hb, hml, hr, hown⟩, hts, hlocks, hK, hA, hnm, hR, hF, hT⟩ := ok
  intro H ls locs hl hM hz hS
  exact lv_tableOut hx hb hd h ht (kk H ls locs hl hM hz hS)
theorem z_tableIn {K : zK} {yn : MethodName} {cc : ByteArray} {nL : Nat} {ret : Option FieldType} {d mc ms : Nat} {B : zB} {Q : State → Prop} {pc : Nat} {L : List (Option Value)} {rest : List Value} {M : mM} {k n : Nat} {x : Int32} {dflt lo hi off : Int} {offs : Array Int} {len tgt : Nat} (ok : zOk K yn cc nL ret d mc ms B) (hd : decode cc pc = .ok (.tableswitch dflt lo hi offs, len)) (h1 : ¬ x.toInt < lo) (h2 : ¬ hi < x.toInt) (ho : offs[(x.toInt - lo).toNat]? = some off) (ht : (pc : Int) + off = (tgt : Int))
    (kk : zV nL B Q tgt L rest M k n) : zV nL B Q pc L (.int x :: rest) M k n := by
  obtain ⟨p, l, e, R, s, m, args, below, meth, c, D, E, A⟩ := B
  obtain ⟨⟨hx, hb, hml, hr, hown⟩, hts, hlocks, hK, hA, hnm, hR, hF, hT⟩ := ok
  intro H ls locs hl hM hz hS
  exact lv_tableIn hx hb hd h1 h2 ho ht (kk H ls locs hl hM hz hS)
theorem z_lookup {K : zK} {yn : MethodName} {cc : ByteArray} {nL : Nat} {ret : Option FieldType} {d mc ms : Nat} {B : zB} {Q : State → Prop} {pc : Nat} {L : List (Option Value)} {rest : List Value} {M : mM} {k n : Nat} {x : Int32} {dflt off : Int} {ps : Array (Int × Int)} {len tgt : Nat} (ok : zOk K yn cc nL ret d mc ms B) (hd : decode cc pc = .ok (.lookupswitch dflt ps, len)) (hp : (ps.toList.zip (ps.toList.drop 1)).all (fun (a, next) => a.1 < next.1) = true) (ho : Op.lookupswitch.offset ps.toList dflt x.toInt = off) (ht : (pc : Int) + off = (tgt : Int))
    (kk : zV nL B Q tgt L rest M k n) : zV nL B Q pc L (.int x :: rest) M k n := by
  obtain ⟨p, l, e, R, s, m, args, below, meth, c, D, E, A⟩ := B
  obtain ⟨⟨hx, hb, hml, hr, hown⟩, hts, hlocks, hK, hA, hnm, hR, hF, hT⟩ := ok
  intro H ls locs hl hM hz hS
  exact lv_lookup hx hb hd hp ho ht (kk H ls locs hl hM hz hS)

